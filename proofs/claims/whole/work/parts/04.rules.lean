/-! the step rules, for simp -/
section
variable {d i nx : Nat} {ls : AL} {r : List Value} {z : AZ} {f : AH} {Q : Option Value → AZ → AH → Prop} {a b : Nat} {c : Int} {t : List Nat}
def Ld (k : Nat) (o : Option Value) (d i nx : Nat) (ls : AL) (st : List Value) (z : AZ) (f : AH) (Q : Option Value → AZ → AH → Prop) : Prop := match k, o with
  | 0, some (.int x) => Wp d i nx ls (.int x :: st) z f Q
  | 1, some (.long x) => Wp d i nx ls (.long x :: st) z f Q
  | 2, some (.ref x) => Wp d i nx ls (.ref x :: st) z f Q
  | _, _ => False
def Gv (o : Option Value) (d i nx : Nat) (ls : AL) (st : List Value) (z : AZ) (f : AH) (Q : Option Value → AZ → AH → Prop) : Prop := match o with
  | some v => Wp d i nx ls (v :: st) z f Q
  | none => False
def Gu (o : Option AE) (a d i nx : Nat) (ls : AL) (st : List Value) (z : AZ) (f : AH) (Q : Option Value → AZ → AH → Prop) : Prop := match o with
  | some e => Wp d i nx ls st z (va_up f a e) Q
  | none => False
theorem r_0 : ExP d i (0, a, b, c, t) nx ls r z f Q ↔ Wp d i nx ls (.int (Int32.ofInt c) :: r) z f Q := Iff.rfl
theorem r_1 : ExP d i (1, a, b, c, t) nx ls r z f Q ↔ Wp d i nx ls (.long (Int64.ofInt c) :: r) z f Q := Iff.rfl
theorem r_2 : ExP d i (2, a, b, c, t) nx ls r z f Q ↔ Ld 0 (lget ls a) d i nx ls r z f Q := by
  unfold ExP; simp only [sx]; cases h : lget ls a with
  | none => exact Iff.rfl
  | some v => cases v <;> exact Iff.rfl
theorem r_3 : ExP d i (3, a, b, c, t) nx ls r z f Q ↔ Ld 1 (lget ls a) d i nx ls r z f Q := by
  unfold ExP; simp only [sx]; cases h : lget ls a with
  | none => exact Iff.rfl
  | some v => cases v <;> exact Iff.rfl
theorem r_4 : ExP d i (4, a, b, c, t) nx ls r z f Q ↔ Ld 2 (lget ls a) d i nx ls r z f Q := by
  unfold ExP; simp only [sx]; cases h : lget ls a with
  | none => exact Iff.rfl
  | some v => cases v <;> exact Iff.rfl
theorem r_Li {x : Int32} : Ld 0 (some (.int x)) d i nx ls r z f Q ↔ Wp d i nx ls (.int x :: r) z f Q := Iff.rfl
theorem r_Ll {x : Int64} : Ld 1 (some (.long x)) d i nx ls r z f Q ↔ Wp d i nx ls (.long x :: r) z f Q := Iff.rfl
theorem r_La {x : Nat} : Ld 2 (some (.ref x)) d i nx ls r z f Q ↔ Wp d i nx ls (.ref x :: r) z f Q := Iff.rfl
theorem r_5 {x : Int32} : ExP d i (5, a, b, c, t) nx ls (.int x :: r) z f Q ↔ Wp d i nx (lset ls a (.int x)) r z f Q := Iff.rfl
theorem r_6 {x : Int64} : ExP d i (6, a, b, c, t) nx ls (.long x :: r) z f Q ↔ Wp d i nx (lclr (lset ls a (.long x)) (a + 1)) r z f Q := Iff.rfl
theorem r_7 {x : Nat} : ExP d i (7, a, b, c, t) nx ls (.ref x :: r) z f Q ↔ Wp d i nx (lset ls a (.ref x)) r z f Q := Iff.rfl
def Inc (o : Option Value) (a : Nat) (k : Int32) (d i nx : Nat) (ls : AL) (st : List Value) (z : AZ) (f : AH) (Q : Option Value → AZ → AH → Prop) : Prop := match o with
  | some (.int x) => Wp d i nx (lset ls a (.int (x + k))) st z f Q
  | _ => False
theorem r_8 : ExP d i (8, a, b, c, t) nx ls r z f Q ↔ Inc (lget ls a) a (Int32.ofInt c) d i nx ls r z f Q := by
  unfold ExP; simp only [sx]; cases h : lget ls a with
  | none => exact Iff.rfl
  | some v => cases v <;> exact Iff.rfl
theorem r_In {x k : Int32} : Inc (some (.int x)) a k d i nx ls r z f Q ↔ Wp d i nx (lset ls a (.int (x + k))) r z f Q := Iff.rfl
theorem r_10 {x y : Int32} : ExP d i (10, a, b, c, t) nx ls (.int y :: .int x :: r) z f Q ↔ Wp d i nx ls (.int (x + y) :: r) z f Q := Iff.rfl
theorem r_11 {x y : Int32} : ExP d i (11, a, b, c, t) nx ls (.int y :: .int x :: r) z f Q ↔ Wp d i nx ls (.int (x - y) :: r) z f Q := Iff.rfl
theorem r_12 {x y : Int32} : ExP d i (12, a, b, c, t) nx ls (.int y :: .int x :: r) z f Q ↔ Wp d i nx ls (.int (x * y) :: r) z f Q := Iff.rfl
theorem r_13 {x y : Int32} : ExP d i (13, a, b, c, t) nx ls (.int y :: .int x :: r) z f Q ↔ ¬ y = 0 ∧ Wp d i nx ls (.int (x / y) :: r) z f Q := by
  unfold ExP; simp only [sx]; by_cases h : y = 0 <;> simp [h, ExS]
theorem r_14 {x y : Int32} : ExP d i (14, a, b, c, t) nx ls (.int y :: .int x :: r) z f Q ↔ ¬ y = 0 ∧ Wp d i nx ls (.int (x - x / y * y) :: r) z f Q := by
  unfold ExP; simp only [sx]; by_cases h : y = 0 <;> simp [h, ExS]
theorem r_15 {x y : Int32} : ExP d i (15, a, b, c, t) nx ls (.int y :: .int x :: r) z f Q ↔ Wp d i nx ls (.int (x &&& y) :: r) z f Q := Iff.rfl
theorem r_16 {x y : Int32} : ExP d i (16, a, b, c, t) nx ls (.int y :: .int x :: r) z f Q ↔ Wp d i nx ls (.int (x ||| y) :: r) z f Q := Iff.rfl
theorem r_17 {x y : Int32} : ExP d i (17, a, b, c, t) nx ls (.int y :: .int x :: r) z f Q ↔ Wp d i nx ls (.int (x ^^^ y) :: r) z f Q := Iff.rfl
theorem r_18 {x y : Int32} : ExP d i (18, a, b, c, t) nx ls (.int y :: .int x :: r) z f Q ↔ Wp d i nx ls (.int (x <<< (y &&& 31)) :: r) z f Q := Iff.rfl
theorem r_19 {x y : Int32} : ExP d i (19, a, b, c, t) nx ls (.int y :: .int x :: r) z f Q ↔ Wp d i nx ls (.int (x >>> (y &&& 31)) :: r) z f Q := Iff.rfl
theorem r_20 {x y : Int32} : ExP d i (20, a, b, c, t) nx ls (.int y :: .int x :: r) z f Q ↔ Wp d i nx ls (.int ((x.toUInt32 >>> (y.toUInt32 &&& Int32.toUInt32 31)).toInt32) :: r) z f Q := Iff.rfl
theorem r_21 {x y : Int64} : ExP d i (21, a, b, c, t) nx ls (.long y :: .long x :: r) z f Q ↔ Wp d i nx ls (.long (x + y) :: r) z f Q := Iff.rfl
theorem r_22 {x y : Int64} : ExP d i (22, a, b, c, t) nx ls (.long y :: .long x :: r) z f Q ↔ Wp d i nx ls (.long (x * y) :: r) z f Q := Iff.rfl
theorem r_23 {x y : Int64} : ExP d i (23, a, b, c, t) nx ls (.long y :: .long x :: r) z f Q ↔ ¬ y = 0 ∧ Wp d i nx ls (.long (x / y) :: r) z f Q := by
  unfold ExP; simp only [sx]; by_cases h : y = 0 <;> simp [h, ExS]
theorem r_24 {x y : Int64} : ExP d i (24, a, b, c, t) nx ls (.long y :: .long x :: r) z f Q ↔ ¬ y = 0 ∧ Wp d i nx ls (.long (x - x / y * y) :: r) z f Q := by
  unfold ExP; simp only [sx]; by_cases h : y = 0 <;> simp [h, ExS]
theorem r_25 {x y : Int64} : ExP d i (25, a, b, c, t) nx ls (.long y :: .long x :: r) z f Q ↔ Wp d i nx ls (.int (if x < y then -1 else if x = y then 0 else 1) :: r) z f Q := Iff.rfl
theorem r_26 {x : Int32} : ExP d i (26, a, b, c, t) nx ls (.int x :: r) z f Q ↔ Wp d i nx ls (.long x.toInt64 :: r) z f Q := Iff.rfl
theorem r_27 {x : Int64} : ExP d i (27, a, b, c, t) nx ls (.long x :: r) z f Q ↔ Wp d i nx ls (.int x.toInt32 :: r) z f Q := Iff.rfl
theorem r_28 {x : Int32} : ExP d i (28, a, b, c, t) nx ls (.int x :: r) z f Q ↔ Wp d i nx ls (.int x.toInt8.toInt32 :: r) z f Q := Iff.rfl
theorem r_30 {x : Int32} : ExP d i (30, a, b, c, t) nx ls (.int x :: r) z f Q ↔ Wp d i nx ls (.int x :: .int x :: r) z f Q := Iff.rfl
theorem r_30r {x : Nat} : ExP d i (30, a, b, c, t) nx ls (.ref x :: r) z f Q ↔ Wp d i nx ls (.ref x :: .ref x :: r) z f Q := Iff.rfl
theorem r_31 {y : Int32} {x : Nat} : ExP d i (31, a, b, c, t) nx ls (.int y :: .ref x :: r) z f Q ↔ Wp d i nx ls (.int y :: .ref x :: .int y :: .ref x :: r) z f Q := Iff.rfl
theorem r_32 {x : Int32} : ExP d i (32, a, b, c, t) nx ls (.int x :: r) z f Q ↔ Wp d i nx ls r z f Q := Iff.rfl
theorem r_if {p : Prop} [Decidable p] {A B : Option SX} : ExS d i (if p then A else B) z f Q ↔ if p then ExS d i A z f Q else ExS d i B z f Q := by by_cases h : p <;> simp [h]
theorem r_40 {x : Int32} : ExP d i (40, a, b, c, t) nx ls (.int x :: r) z f Q ↔ if x = 0 then Wp d i a ls r z f Q else Wp d i nx ls r z f Q := r_if
theorem r_41 {x : Int32} : ExP d i (41, a, b, c, t) nx ls (.int x :: r) z f Q ↔ if x = 0 then Wp d i nx ls r z f Q else Wp d i a ls r z f Q := r_if
theorem r_42 {x : Int32} : ExP d i (42, a, b, c, t) nx ls (.int x :: r) z f Q ↔ if x < 0 then Wp d i a ls r z f Q else Wp d i nx ls r z f Q := r_if
theorem r_43 {x : Int32} : ExP d i (43, a, b, c, t) nx ls (.int x :: r) z f Q ↔ if x < 0 then Wp d i nx ls r z f Q else Wp d i a ls r z f Q := r_if
theorem r_44 {x : Int32} : ExP d i (44, a, b, c, t) nx ls (.int x :: r) z f Q ↔ if 0 < x then Wp d i a ls r z f Q else Wp d i nx ls r z f Q := r_if
theorem r_45 {x : Int32} : ExP d i (45, a, b, c, t) nx ls (.int x :: r) z f Q ↔ if 0 < x then Wp d i nx ls r z f Q else Wp d i a ls r z f Q := r_if
theorem r_46 {x y : Int32} : ExP d i (46, a, b, c, t) nx ls (.int y :: .int x :: r) z f Q ↔ if x = y then Wp d i a ls r z f Q else Wp d i nx ls r z f Q := r_if
theorem r_47 {x y : Int32} : ExP d i (47, a, b, c, t) nx ls (.int y :: .int x :: r) z f Q ↔ if x = y then Wp d i nx ls r z f Q else Wp d i a ls r z f Q := r_if
theorem r_48 {x y : Int32} : ExP d i (48, a, b, c, t) nx ls (.int y :: .int x :: r) z f Q ↔ if x < y then Wp d i a ls r z f Q else Wp d i nx ls r z f Q := r_if
theorem r_49 {x y : Int32} : ExP d i (49, a, b, c, t) nx ls (.int y :: .int x :: r) z f Q ↔ if x < y then Wp d i nx ls r z f Q else Wp d i a ls r z f Q := r_if
theorem r_50 {x y : Int32} : ExP d i (50, a, b, c, t) nx ls (.int y :: .int x :: r) z f Q ↔ if y < x then Wp d i a ls r z f Q else Wp d i nx ls r z f Q := r_if
theorem r_51 {x y : Int32} : ExP d i (51, a, b, c, t) nx ls (.int y :: .int x :: r) z f Q ↔ if y < x then Wp d i nx ls r z f Q else Wp d i a ls r z f Q := r_if
theorem r_52 : ExP d i (52, a, b, c, t) nx ls r z f Q ↔ Wp d i a (ls.take b) r z f Q := Iff.rfl
theorem r_53 {x : Nat} : ExP d i (53, a, b, c, t) nx ls (.ref x :: r) z f Q ↔ Wp d i a ls r z f Q := Iff.rfl
theorem r_53n : ExP d i (53, a, b, c, t) nx ls (.null :: r) z f Q ↔ Wp d i nx ls r z f Q := Iff.rfl
theorem r_54 {x : Int32} : ExP d i (54, a, b, c, t) nx ls (.int x :: r) z f Q ↔ Wp d i (sw c t a x) ls r z f Q := Iff.rfl
theorem r_gv {o : Option Value} : ExS d i (gv o nx ls r z f) z f Q ↔ Gv o d i nx ls r z f Q := by cases o <;> exact Iff.rfl
theorem r_gu {o : Option AE} : ExS d i (gu o a nx ls r z f) z f Q ↔ Gu o a d i nx ls r z f Q := by cases o <;> exact Iff.rfl
theorem r_Gv {v : Value} : Gv (some v) d i nx ls r z f Q ↔ Wp d i nx ls (v :: r) z f Q := Iff.rfl
theorem r_Gu {e : AE} : Gu (some e) a d i nx ls r z f Q ↔ Wp d i nx ls r z (va_up f a e) Q := Iff.rfl
theorem r_60 {x : Nat} : ExP d i (60, a, b, c, t) nx ls (.ref x :: r) z f Q ↔ Gv (gf (f x) a b) d i nx ls r z f Q := r_gv
theorem r_61 {x : Nat} {v : Value} : ExP d i (61, a, b, c, t) nx ls (v :: .ref x :: r) z f Q ↔ Gu (pf (f x) a b v) x d i nx ls r z f Q := by cases v <;> exact r_gu
theorem r_62 : ExP d i (62, a, b, c, t) nx ls r z f Q ↔ Wp d i nx ls (.ref 1000001 :: r) z f Q := Iff.rfl
theorem r_63 {x : Nat} : ExP d i (63, a, b, c, t) nx ls (.ref x :: r) z f Q ↔ Gv (al (f x)) d i nx ls r z f Q := r_gv
theorem r_64 {x : Nat} {j : Int32} : ExP d i (64, a, b, c, t) nx ls (.int j :: .ref x :: r) z f Q ↔ Gv (ia (f x) j) d i nx ls r z f Q := r_gv
theorem r_65 {x : Nat} {j y : Int32} : ExP d i (65, a, b, c, t) nx ls (.int y :: .int j :: .ref x :: r) z f Q ↔ Gu (is (f x) j y) x d i nx ls r z f Q := r_gu
theorem r_66 {x : Nat} {j : Int32} : ExP d i (66, a, b, c, t) nx ls (.int j :: .ref x :: r) z f Q ↔ Gv (la (f x) j) d i nx ls r z f Q := r_gv
theorem r_67 {x : Nat} {j : Int32} {y : Int64} : ExP d i (67, a, b, c, t) nx ls (.long y :: .int j :: .ref x :: r) z f Q ↔ Gu (lst (f x) j y) x d i nx ls r z f Q := r_gu
theorem r_68 {x : Nat} {j : Int32} : ExP d i (68, a, b, c, t) nx ls (.int j :: .ref x :: r) z f Q ↔ Gv (qa (f x) j) d i nx ls r z f Q := r_gv
theorem r_69 {x y : Nat} {j : Int32} : ExP d i (69, a, b, c, t) nx ls (.ref y :: .int j :: .ref x :: r) z f Q ↔ Gu (qs (f x) (f y) j y) x d i nx ls r z f Q := r_gu
theorem r_70 {x : Nat} {j : Int32} : ExP d i (70, a, b, c, t) nx ls (.int j :: .ref x :: r) z f Q ↔ Gv (za (f x) j) d i nx ls r z f Q := r_gv
theorem r_71 {x : Nat} {j y : Int32} : ExP d i (71, a, b, c, t) nx ls (.int y :: .int j :: .ref x :: r) z f Q ↔ Gu (zs (f x) j y) x d i nx ls r z f Q := r_gu
theorem r_72 {n : Nat} (h : n ≤ 65536) : ExP d i (72, a, b, c, t) nx ls (.int (nI n) :: r) z f Q ↔ Wp d i nx ls (.ref z.1 :: r) (z.1 + 1, z.2 + n) (va_up f z.1 (.inl (a, n, if a = 1 then .inr (.inl fun _ => 0) else .inl fun _ => 0))) Q := by
  have h1 : (nI n).toNatClampNeg = n := nI_clamp (by omega)
  unfold ExP
  simp only [sx, h1, nI_pos (n := n) (by omega), false_or, if_neg (Nat.not_lt.mpr h)]
  exact Iff.rfl
theorem r_73 {n : Nat} (h : n ≤ 65536) : ExP d i (73, a, b, c, t) nx ls (.int (nI n) :: r) z f Q ↔ Wp d i nx ls (.ref z.1 :: r) (z.1 + 1, z.2 + n) (va_up f z.1 (.inl (a, n, .inr (.inr (.inr (.inr fun _ => none)))))) Q := by
  have h1 : (nI n).toNatClampNeg = n := nI_clamp (by omega)
  unfold ExP
  simp only [sx, h1, nI_pos (n := n) (by omega), false_or, if_neg (Nat.not_lt.mpr h)]
  exact Iff.rfl
theorem r_74 : ExP d i (74, a, b, c, t) nx ls r z f Q ↔ Wp d i nx ls (.ref z.1 :: r) (z.1 + 1, z.2 + (kds a).length) (va_up f z.1 (.inr (a, (kds a).map dfv))) Q := Iff.rfl
def Ca (as : List Value) (m : Int) (st : List Value) (j d i nx : Nat) (ls : AL) (z : AZ) (f : AH) (Q : Option Value → AZ → AH → Prop) : Prop :=
  ((en as).length ≤ m.toNat ∧ st.length < 5) ∧ Cw d j as z f (fun v z f => Wp d i nx ls (ps v st) z f Q)
theorem r_80' {n : Nat} {as st st' : List Value} (h : popn n [] st = some (as, st')) : ExP d i (80, a, n, c, t) nx ls st z f Q ↔ Ca as c st' a d i nx ls z f Q := by
  unfold ExP Ca
  simp only [sx, h]
  by_cases q : (en as).length ≤ c.toNat ∧ st'.length < 5
  · rw [if_pos q]
    exact (and_iff_right q).symm
  · rw [if_neg q]
    exact ⟨fun h => h.elim, fun h => (q h.1).elim⟩
theorem r_80_0 {st : List Value} : ExP d i (80, a, 0, c, t) nx ls st z f Q ↔ Ca [] c st a d i nx ls z f Q := r_80' rfl
theorem r_80_1 {v1 : Value} {st : List Value} : ExP d i (80, a, 1, c, t) nx ls (v1 :: st) z f Q ↔ Ca [v1] c st a d i nx ls z f Q := r_80' rfl
theorem r_80_2 {v1 v2 : Value} {st : List Value} : ExP d i (80, a, 2, c, t) nx ls (v2 :: v1 :: st) z f Q ↔ Ca [v1, v2] c st a d i nx ls z f Q := r_80' rfl
theorem r_80_3 {v1 v2 v3 : Value} {st : List Value} : ExP d i (80, a, 3, c, t) nx ls (v3 :: v2 :: v1 :: st) z f Q ↔ Ca [v1, v2, v3] c st a d i nx ls z f Q := r_80' rfl
theorem r_80_4 {v1 v2 v3 v4 : Value} {st : List Value} : ExP d i (80, a, 4, c, t) nx ls (v4 :: v3 :: v2 :: v1 :: st) z f Q ↔ Ca [v1, v2, v3, v4] c st a d i nx ls z f Q := r_80' rfl
theorem r_80_5 {v1 v2 v3 v4 v5 : Value} {st : List Value} : ExP d i (80, a, 5, c, t) nx ls (v5 :: v4 :: v3 :: v2 :: v1 :: st) z f Q ↔ Ca [v1, v2, v3, v4, v5] c st a d i nx ls z f Q := r_80' rfl
theorem r_80_6 {v1 v2 v3 v4 v5 v6 : Value} {st : List Value} : ExP d i (80, a, 6, c, t) nx ls (v6 :: v5 :: v4 :: v3 :: v2 :: v1 :: st) z f Q ↔ Ca [v1, v2, v3, v4, v5, v6] c st a d i nx ls z f Q := r_80' rfl
theorem r_81 {n dp sp : Int32} {x y : Nat} {st : List Value} (h : st.length < 5) : ExP d i (81, a, b, c, t) nx ls (.int n :: .int dp :: .ref y :: .int sp :: .ref x :: st) z f Q ↔ Gu (cpy (f x) (f y) sp dp n) y d i nx ls st z f Q := by
  unfold ExP
  simp only [sx, if_pos h]
  exact r_gu
theorem r_82 {x : Nat} {st : List Value} (h : st.length < 5) : ExP d i (82, a, b, c, t) nx ls (.ref x :: st) z f Q ↔ Wp d i nx ls st z f Q := by
  unfold ExP
  simp only [sx, if_pos h]
  exact Iff.rfl
theorem r_83 {x y : Int32} {st : List Value} (h : st.length < 5) : ExP d i (83, a, b, c, t) nx ls (.int y :: .int x :: st) z f Q ↔ Wp d i nx ls (.int (if x < y then y else x) :: st) z f Q := by
  unfold ExP
  simp only [sx, if_pos h]
  exact Iff.rfl
theorem r_84 {x y : Int32} {st : List Value} (h : st.length < 5) : ExP d i (84, a, b, c, t) nx ls (.int y :: .int x :: st) z f Q ↔ Wp d i nx ls (.int (if y < x then y else x) :: st) z f Q := by
  unfold ExP
  simp only [sx, if_pos h]
  exact Iff.rfl
theorem r_90 {x : Int32} : ExP d i (90, a, b, c, t) nx ls [.int x] z f Q ↔ Q (some (.int x)) z f := Iff.rfl
theorem r_91 {x : Int64} : ExP d i (91, a, b, c, t) nx ls [.long x] z f Q ↔ Q (some (.long x)) z f := Iff.rfl
theorem r_92 {x : Nat} : ExP d i (92, a, b, c, t) nx ls [.ref x] z f Q ↔ Q (some (.ref x)) z f := Iff.rfl
theorem r_93 : ExP d i (93, a, b, c, t) nx ls [] z f Q ↔ Q none z f := Iff.rfl
def Zr (x : Int32) (z : AZ) (f : AH) (Q : Option Value → AZ → AH → Prop) : Prop := (x = 0 ∨ x = 1) ∧ Q (some (.int x)) z f
theorem r_94 {x : Int32} : ExP d i (94, a, b, c, t) nx ls [.int x] z f Q ↔ Zr x z f Q := by
  unfold ExP Zr
  simp only [sx]
  by_cases q : x = 0 ∨ x = 1
  · rw [if_pos q]
    exact (and_iff_right q).symm
  · rw [if_neg q]
    exact ⟨fun h => h.elim, fun h => (q h.1).elim⟩
theorem r_Z0 : Zr 0 z f Q ↔ Q (some (.int 0)) z f := and_iff_right (Or.inl rfl)
theorem r_Z1 : Zr 1 z f Q ↔ Q (some (.int 1)) z f := and_iff_right (Or.inr rfl)
end

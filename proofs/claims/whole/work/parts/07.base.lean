/-! constants and numbers in the form nI, lN -/
def cI (c : Int) : Int32 := Int32.ofInt c
def cL (c : Int) : Int64 := Int64.ofInt c
section
variable {d i nx : Nat} {ls : AL} {r : List Value} {z : AZ} {f : AH} {Q : Option Value → AZ → AH → Prop} {a b : Nat} {c : Int} {t : List Nat}
theorem s_0 : ExP d i (0, a, b, c, t) nx ls r z f Q ↔ Wp d i nx ls (.int (cI c) :: r) z f Q := r_0
theorem s_1 : ExP d i (1, a, b, c, t) nx ls r z f Q ↔ Wp d i nx ls (.long (cL c) :: r) z f Q := r_1
theorem s_8 : ExP d i (8, a, b, c, t) nx ls r z f Q ↔ Inc (lget ls a) a (cI c) d i nx ls r z f Q := r_8
theorem s_13 {x y : Int32} : ExP d i (13, a, b, c, t) nx ls (.int y :: .int x :: r) z f Q ↔ ¬ y = nI 0 ∧ Wp d i nx ls (.int (x / y) :: r) z f Q := by rw [nI_0]; exact r_13
theorem s_14 {x y : Int32} : ExP d i (14, a, b, c, t) nx ls (.int y :: .int x :: r) z f Q ↔ ¬ y = nI 0 ∧ Wp d i nx ls (.int (x - x / y * y) :: r) z f Q := by rw [nI_0]; exact r_14
theorem s_40 {x : Int32} : ExP d i (40, a, b, c, t) nx ls (.int x :: r) z f Q ↔ if x = nI 0 then Wp d i a ls r z f Q else Wp d i nx ls r z f Q := by rw [nI_0]; exact r_40
theorem s_41 {x : Int32} : ExP d i (41, a, b, c, t) nx ls (.int x :: r) z f Q ↔ if x = nI 0 then Wp d i nx ls r z f Q else Wp d i a ls r z f Q := by rw [nI_0]; exact r_41
theorem s_42 {x : Int32} : ExP d i (42, a, b, c, t) nx ls (.int x :: r) z f Q ↔ if x < nI 0 then Wp d i a ls r z f Q else Wp d i nx ls r z f Q := by rw [nI_0]; exact r_42
theorem s_43 {x : Int32} : ExP d i (43, a, b, c, t) nx ls (.int x :: r) z f Q ↔ if x < nI 0 then Wp d i nx ls r z f Q else Wp d i a ls r z f Q := by rw [nI_0]; exact r_43
theorem s_44 {x : Int32} : ExP d i (44, a, b, c, t) nx ls (.int x :: r) z f Q ↔ if nI 0 < x then Wp d i a ls r z f Q else Wp d i nx ls r z f Q := by rw [nI_0]; exact r_44
theorem s_45 {x : Int32} : ExP d i (45, a, b, c, t) nx ls (.int x :: r) z f Q ↔ if nI 0 < x then Wp d i nx ls r z f Q else Wp d i a ls r z f Q := by rw [nI_0]; exact r_45
theorem s_Z0 : Zr (nI 0) z f Q ↔ Q (some (.int (nI 0))) z f := and_iff_right (Or.inl nI_0)
theorem s_Z1 : Zr (nI 1) z f Q ↔ Q (some (.int (nI 1))) z f := and_iff_right (Or.inr (by decide))
theorem s_Ca {as st : List Value} {m : Int} {j : Nat} : Ca as m st j d i nx ls z f Q ↔ ((en as).length ≤ m.toNat ∧ st.length < 5) ∧ Cw d j as z f (fun v z f => Wp d i nx ls (ps v st) z f Q) := Iff.rfl
theorem s_81 {n dp sp : Int32} {x y : Nat} : ExP d i (81, a, b, c, t) nx ls [.int n, .int dp, .ref y, .int sp, .ref x] z f Q ↔ Gu (cpy (f x) (f y) sp dp n) y d i nx ls [] z f Q := r_81 (by decide)
theorem s_82 {x : Nat} : ExP d i (82, a, b, c, t) nx ls [.ref x] z f Q ↔ Wp d i nx ls [] z f Q := r_82 (by decide)
theorem s_83 {x y : Int32} : (ExP d i (83, a, b, c, t) nx ls [.int y, .int x] z f Q ↔ Wp d i nx ls [.int (if x < y then y else x)] z f Q) ∧ (∀ v1 : Value, ExP d i (83, a, b, c, t) nx ls [.int y, .int x, v1] z f Q ↔ Wp d i nx ls [.int (if x < y then y else x), v1] z f Q) ∧ (∀ v1 v2 : Value, ExP d i (83, a, b, c, t) nx ls [.int y, .int x, v1, v2] z f Q ↔ Wp d i nx ls [.int (if x < y then y else x), v1, v2] z f Q) ∧ (∀ v1 v2 v3 : Value, ExP d i (83, a, b, c, t) nx ls [.int y, .int x, v1, v2, v3] z f Q ↔ Wp d i nx ls [.int (if x < y then y else x), v1, v2, v3] z f Q) := ⟨r_83 (by decide), fun _ => r_83 (Nat.le_of_ble_eq_true rfl), fun _ _ => r_83 (Nat.le_of_ble_eq_true rfl), fun _ _ _ => r_83 (Nat.le_of_ble_eq_true rfl)⟩
theorem s_84 {x y : Int32} : (ExP d i (84, a, b, c, t) nx ls [.int y, .int x] z f Q ↔ Wp d i nx ls [.int (if y < x then y else x)] z f Q) ∧ (∀ v1 : Value, ExP d i (84, a, b, c, t) nx ls [.int y, .int x, v1] z f Q ↔ Wp d i nx ls [.int (if y < x then y else x), v1] z f Q) ∧ (∀ v1 v2 : Value, ExP d i (84, a, b, c, t) nx ls [.int y, .int x, v1, v2] z f Q ↔ Wp d i nx ls [.int (if y < x then y else x), v1, v2] z f Q) ∧ (∀ v1 v2 v3 : Value, ExP d i (84, a, b, c, t) nx ls [.int y, .int x, v1, v2, v3] z f Q ↔ Wp d i nx ls [.int (if y < x then y else x), v1, v2, v3] z f Q) := ⟨r_84 (by decide), fun _ => r_84 (Nat.le_of_ble_eq_true rfl), fun _ _ => r_84 (Nat.le_of_ble_eq_true rfl), fun _ _ _ => r_84 (Nat.le_of_ble_eq_true rfl)⟩
end
theorem enL : (en []).length = 0 ∧ (∀ (x : Int32) (r : List Value), (en (.int x :: r)).length = (en r).length + 1) ∧ (∀ (x : Nat) (r : List Value), (en (.ref x :: r)).length = (en r).length + 1) ∧ (∀ (x : Int64) (r : List Value), (en (.long x :: r)).length = (en r).length + 2) := ⟨rfl, fun _ _ => rfl, fun _ _ => rfl, fun _ _ => rfl⟩
theorem rce_o {c j : Nat} {fs : List Value} : (rce (.inr (c, fs)) j = true) = (c = j / 100) := by simp [rce]
/-- cells -/
theorem gf_o {c j : Nat} {fs : List Value} : gf (.inr (c, fs)) c j = fs[j]? := if_pos rfl
theorem pf_o {c j : Nat} {fs : List Value} {v : Value} : pf (.inr (c, fs)) c j v = if okf (kdf c j) v = true ∧ j < fs.length then some (.inr (c, fs.set j v)) else none := by
  simp [pf]
theorem okR : (∀ x, okf 0 (.int x) = true) ∧ (∀ x, okf 2 (.long x) = true) ∧ (∀ x, okf 3 (.ref x) = true) ∧ okf 1 (.int (nI 0)) = true ∧ okf 1 (.int (nI 1)) = true := ⟨fun _ => rfl, fun _ => rfl, fun _ => rfl, by decide, by decide⟩
theorem inb_n {k n : Nat} (h : k < n) (hn : n ≤ 65536) : inb (nI k) n := nI_in h (by omega)
theorem ia_n {k n : Nat} {g : Nat → Int32} (h : k < n) (hn : n ≤ 65536) : ia (.inl (0, n, .inl g)) (nI k) = some (.int (g k)) := by
  simp only [ia, true_or, true_and, nI_clamp (show k < 2 ^ 31 by omega)]
  exact if_pos (inb_n h hn)
theorem ia_9 {k n : Nat} {g : Nat → Int32} (h : k < n) (hn : n ≤ 65536) : ia (.inl (9, n, .inl g)) (nI k) = some (.int (g k)) := by
  simp only [ia, or_true, true_and, nI_clamp (show k < 2 ^ 31 by omega)]
  exact if_pos (inb_n h hn)
theorem is_n {k n : Nat} {g : Nat → Int32} {x : Int32} (h : k < n) (hn : n ≤ 65536) : is (.inl (0, n, .inl g)) (nI k) x = some (.inl (0, n, .inl (upd g k x))) := by
  simp only [is, true_and, nI_clamp (show k < 2 ^ 31 by omega)]
  exact if_pos (inb_n h hn)
theorem la_n {k n : Nat} {g : Nat → Int64} (h : k < n) (hn : n ≤ 65536) : la (.inl (1, n, .inr (.inl g))) (nI k) = some (.long (g k)) := by
  simp only [la, true_and, nI_clamp (show k < 2 ^ 31 by omega)]
  exact if_pos (inb_n h hn)
theorem lst_n {k n : Nat} {g : Nat → Int64} {x : Int64} (h : k < n) (hn : n ≤ 65536) : lst (.inl (1, n, .inr (.inl g))) (nI k) x = some (.inl (1, n, .inr (.inl (vp_updL g k x)))) := by
  simp only [lst, true_and, nI_clamp (show k < 2 ^ 31 by omega)]
  exact if_pos (inb_n h hn)
theorem qa_n {k n t : Nat} {g : Nat → Option Nat} (ht : t = 3 ∨ t = 4) (h : k < n) (hn : n ≤ 65536) : qa (.inl (t, n, .inr (.inr (.inr (.inr g))))) (nI k) = (g k).map .ref := by
  simp only [qa, ht, true_and, nI_clamp (show k < 2 ^ 31 by omega)]
  exact if_pos (inb_n h hn)
theorem qs_3 {k n y : Nat} {g : Nat → Option Nat} {fs : List Value} (h : k < n) (hn : n ≤ 65536) : qs (.inl (3, n, .inr (.inr (.inr (.inr g))))) (.inr (0, fs)) (nI k) y = some (.inl (3, n, .inr (.inr (.inr (.inr (va_up g k (some y))))))) := by
  simp only [qs, and_self, true_or, true_and, nI_clamp (show k < 2 ^ 31 by omega)]
  exact if_pos (inb_n h hn)
theorem qs_4 {k n y : Nat} {g : Nat → Option Nat} {fs : List Value} (h : k < n) (hn : n ≤ 65536) : qs (.inl (4, n, .inr (.inr (.inr (.inr g))))) (.inr (2, fs)) (nI k) y = some (.inl (4, n, .inr (.inr (.inr (.inr (va_up g k (some y))))))) := by
  simp only [qs, and_self, or_true, true_and, nI_clamp (show k < 2 ^ 31 by omega)]
  exact if_pos (inb_n h hn)
theorem za_n {k n : Nat} {g : Nat → Int32} (h : k < n) (hn : n ≤ 65536) : za (.inl (2, n, .inl g)) (nI k) = some (.int (g k)) := by
  simp only [za, true_and, nI_clamp (show k < 2 ^ 31 by omega)]
  exact if_pos (inb_n h hn)
theorem zs_n {k n : Nat} {g : Nat → Int32} {x : Int32} (hx : x = nI 0 ∨ x = nI 1) (h : k < n) (hn : n ≤ 65536) : zs (.inl (2, n, .inl g)) (nI k) x = some (.inl (2, n, .inl (upd g k x))) := by
  have hx' : x = 0 ∨ x = 1 := hx.imp (fun h => h.trans (by decide)) (fun h => h.trans (by decide))
  simp only [zs, hx', true_and, nI_clamp (show k < 2 ^ 31 by omega)]
  exact if_pos (inb_n h hn)
theorem al_i {t n : Nat} {w : (Nat → Int32) ⊕ (Nat → Int64) ⊕ (Nat → UInt32) ⊕ (Nat → UInt64) ⊕ (Nat → Option Nat)} : al (.inl (t, n, w)) = some (.int (nI n)) := rfl
theorem cpy_n {n0 n1 sp dp n : Nat} {g0 g1 : Nat → Int32} (h : n0 ≤ 65536) (h1 : n1 ≤ 65536) (h2 : sp + n ≤ n0) (h3 : dp + n ≤ n1) : cpy (.inl (0, n0, .inl g0)) (.inl (0, n1, .inl g1)) (nI sp) (nI dp) (nI n) = some (.inl (0, n1, .inl (va_cpy g0 g1 sp dp n))) := by
  simp only [cpy, nI_clamp (show sp < 2 ^ 31 by omega), nI_clamp (show dp < 2 ^ 31 by omega), nI_clamp (show n < 2 ^ 31 by omega), nI_pos (show sp < 2 ^ 31 by omega), nI_pos (show dp < 2 ^ 31 by omega), nI_pos (show n < 2 ^ 31 by omega), h2, h3, not_false_iff, and_self, if_true]
theorem up_s {α : Type} (f : Nat → α) (k : Nat) (v : α) : va_up f k v k = v := if_pos rfl
theorem up_n {α : Type} (f : Nat → α) {k j : Nat} (v : α) (h : j ≠ k) : va_up f k v j = f j := if_neg h
theorem up_u {α : Type} (f : Nat → α) (k : Nat) (v w : α) : va_up (va_up f k v) k w = va_up f k w := bx_uu f k v w
theorem up_c {α : Type} (f : Nat → α) {k j : Nat} (v w : α) (h : j < k) : va_up (va_up f k v) j w = va_up (va_up f j w) k v := by
  funext q
  by_cases h1 : q = j
  · subst h1
    simp [va_up, Nat.ne_of_lt h]
  · by_cases h2 : q = k
    · subst h2
      simp [va_up, h1]
    · simp [va_up, h1, h2]
/-- a loop that counts up -/
theorem lt_nI {a b : Nat} (ha : a < 2147483648) (hb : b < 2147483648) : nI a < nI b ↔ a < b := nI_ltI ha hb
theorem le_nI {a b : Nat} (ha : a < 2147483648) (hb : b < 2147483648) : nI a ≤ nI b ↔ a ≤ b := nI_leI ha hb
theorem eq_nI {a b : Nat} (ha : a < 2147483648) (hb : b < 2147483648) : nI a = nI b ↔ a = b := nI_eq ha hb
theorem CI : cI (-9) = (-9) ∧ cI (-4) = (-4) ∧ cI (-3) = (-3) ∧ cI (-2) = (-2) ∧ cI (-1) = (-1) ∧ cI 0 = nI 0 ∧ cI 1 = nI 1 ∧ cI 2 = nI 2 ∧ cI 3 = nI 3 ∧ cI 4 = nI 4 ∧ cI 5 = nI 5 ∧ cI 6 = nI 6 ∧ cI 7 = nI 7 ∧ cI 8 = nI 8 ∧ cI 9 = nI 9 ∧ cI 10 = nI 10 ∧ cI 14 = nI 14 ∧ cI 15 = nI 15 ∧ cI 16 = nI 16 ∧ cI 32 = nI 32 ∧ cI 40 = nI 40 ∧ cI 41 = nI 41 ∧ cI 42 = nI 42 ∧ cI 47 = nI 47 ∧ cI 48 = nI 48 ∧ cI 49 = nI 49 ∧ cI 55 = nI 55 ∧ cI 57 = nI 57 ∧ cI 63 = nI 63 ∧ cI 64 = nI 64 ∧ cI 70 = nI 70 ∧ cI 80 = nI 80 ∧ cI 82 = nI 82 ∧ cI 100 = nI 100 ∧ cI 102 = nI 102 ∧ cI 110 = nI 110 ∧ cI 112 = nI 112 ∧ cI 114 = nI 114 ∧ cI 115 = nI 115 ∧ cI 116 = nI 116 ∧ cI 118 = nI 118 ∧ cI 127 = nI 127 ∧ cI 128 = nI 128 ∧ cI 240 = nI 240 ∧ cI 246 = nI 246 ∧ cI 320 = nI 320 ∧ cI 1000 = nI 1000 ∧ cI 1023 = nI 1023 ∧ cI 1024 = nI 1024 ∧ cI 1280 = nI 1280 ∧ cI 7168 = nI 7168 ∧ cI 16384 = nI 16384 ∧ cI 1000000 = nI 1000000 ∧ cI 1048576 = nI 1048576 ∧ cI 252645135 = nI 252645135 ∧ cI 858993459 = nI 858993459 ∧ cI 1431655765 = nI 1431655765 ∧ cI 2147483646 = nI 2147483646 := ⟨by decide +kernel, by decide +kernel, by decide +kernel, by decide +kernel, by decide +kernel, by decide +kernel, by decide +kernel, by decide +kernel, by decide +kernel, by decide +kernel, by decide +kernel, by decide +kernel, by decide +kernel, by decide +kernel, by decide +kernel, by decide +kernel, by decide +kernel, by decide +kernel, by decide +kernel, by decide +kernel, by decide +kernel, by decide +kernel, by decide +kernel, by decide +kernel, by decide +kernel, by decide +kernel, by decide +kernel, by decide +kernel, by decide +kernel, by decide +kernel, by decide +kernel, by decide +kernel, by decide +kernel, by decide +kernel, by decide +kernel, by decide +kernel, by decide +kernel, by decide +kernel, by decide +kernel, by decide +kernel, by decide +kernel, by decide +kernel, by decide +kernel, by decide +kernel, by decide +kernel, by decide +kernel, by decide +kernel, by decide +kernel, by decide +kernel, by decide +kernel, by decide +kernel, by decide +kernel, by decide +kernel, by decide +kernel, by decide +kernel, by decide +kernel, by decide +kernel, by decide +kernel⟩
theorem CLL : cL (-1) = (-1) ∧ cL 0 = lN 0 ∧ cL 1 = lN 1 ∧ cL 17 = lN 17 ∧ cL 31 = lN 31 ∧ cL 48271 = lN 48271 ∧ cL 2147483647 = lN 2147483647 := ⟨by decide +kernel, by decide +kernel, by decide +kernel, by decide +kernel, by decide +kernel, by decide +kernel, by decide +kernel⟩
theorem KD : kdf 0 0 = 3 ∧ kdf 0 1 = 1 ∧ kdf 0 2 = 0 ∧ kdf 1 0 = 3 ∧ kdf 1 1 = 3 ∧ kdf 2 0 = 3 ∧ kdf 2 1 = 3 ∧ kdf 2 2 = 1 ∧ kdf 2 3 = 0 ∧ kdf 2 4 = 0 ∧ kdf 2 5 = 0 ∧ kdf 3 0 = 3 ∧ kdf 3 1 = 3 ∧ kdf 3 2 = 3 ∧ kdf 3 3 = 3 ∧ kdf 3 4 = 0 ∧ kdf 3 5 = 0 ∧ kdf 4 0 = 3 ∧ kdf 4 1 = 3 ∧ kdf 4 2 = 1 ∧ kdf 4 3 = 3 ∧ kdf 4 4 = 3 ∧ kdf 4 5 = 3 ∧ kdf 4 6 = 0 ∧ kdf 5 0 = 3 ∧ kdf 5 1 = 3 ∧ kdf 5 2 = 0 ∧ kdf 6 0 = 3 ∧ kdf 6 1 = 3 ∧ kdf 7 0 = 3 ∧ kdf 7 1 = 3 ∧ kdf 8 0 = 0 ∧ kdf 8 1 = 3 ∧ kdf 8 2 = 3 ∧ kdf 8 3 = 3 ∧ kdf 9 0 = 3 ∧ kdf 9 1 = 3 ∧ kdf 9 2 = 3 ∧ kdf 9 3 = 3 ∧ kdf 9 4 = 3 ∧ kdf 9 5 = 3 ∧ kdf 9 6 = 3 ∧ kdf 9 7 = 3 ∧ kdf 9 8 = 3 ∧ kdf 9 9 = 3 ∧ kdf 9 10 = 3 ∧ kdf 9 11 = 3 ∧ kdf 9 12 = 3 ∧ kdf 9 13 = 3 ∧ kdf 9 14 = 0 ∧ kdf 9 15 = 0 ∧ kdf 9 16 = 2 ∧ kdf 9 17 = 2 ∧ kdf 9 18 = 0 ∧ kdf 10 0 = 0 ∧ kdf 10 1 = 3 ∧ kdf 10 2 = 0 ∧ kdf 10 3 = 2 ∧ kdf 10 4 = 2 ∧ kdf 10 5 = 3 ∧ kdf 10 6 = 3 ∧ kdf 10 7 = 3 ∧ kdf 10 8 = 3 ∧ kdf 10 9 = 3 ∧ kdf 10 10 = 0 ∧ kdf 10 11 = 0 ∧ kdf 10 12 = 0 ∧ kdf 10 13 = 3 ∧ kdf 10 14 = 0 ∧ kdf 10 15 = 0 ∧ kdf 10 16 = 0 ∧ kdf 10 17 = 0 ∧ kdf 10 18 = 0 ∧ kdf 10 19 = 3 ∧ kdf 10 20 = 3 ∧ kdf 10 21 = 3 ∧ kdf 10 22 = 3 ∧ kdf 10 23 = 3 ∧ kdf 10 24 = 3 ∧ kdf 10 25 = 3 ∧ kdf 10 26 = 3 ∧ kdf 10 27 = 3 ∧ kdf 10 28 = 3 ∧ kdf 10 29 = 3 ∧ kdf 10 30 = 0 ∧ kdf 10 31 = 0 ∧ kdf 10 32 = 0 ∧ kdf 10 33 = 0 ∧ kdf 10 34 = 3 ∧ kdf 10 35 = 3 ∧ kdf 10 36 = 3 ∧ kdf 10 37 = 2 := ⟨rfl, rfl, rfl, rfl, rfl, rfl, rfl, rfl, rfl, rfl, rfl, rfl, rfl, rfl, rfl, rfl, rfl, rfl, rfl, rfl, rfl, rfl, rfl, rfl, rfl, rfl, rfl, rfl, rfl, rfl, rfl, rfl, rfl, rfl, rfl, rfl, rfl, rfl, rfl, rfl, rfl, rfl, rfl, rfl, rfl, rfl, rfl, rfl, rfl, rfl, rfl, rfl, rfl, rfl, rfl, rfl, rfl, rfl, rfl, rfl, rfl, rfl, rfl, rfl, rfl, rfl, rfl, rfl, rfl, rfl, rfl, rfl, rfl, rfl, rfl, rfl, rfl, rfl, rfl, rfl, rfl, rfl, rfl, rfl, rfl, rfl, rfl, rfl, rfl, rfl, rfl, rfl⟩

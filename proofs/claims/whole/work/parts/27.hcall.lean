/-! printed by wip/gen27.py: constants one by one; call rules over the canonical heap -/
theorem ci_m9 : cI (-9) = (-9) := by decide +kernel
theorem ci_m4 : cI (-4) = (-4) := by decide +kernel
theorem ci_m3 : cI (-3) = (-3) := by decide +kernel
theorem ci_m2 : cI (-2) = (-2) := by decide +kernel
theorem ci_m1 : cI (-1) = (-1) := by decide +kernel
theorem ci_0 : cI 0 = nI 0 := by decide +kernel
theorem ci_1 : cI 1 = nI 1 := by decide +kernel
theorem ci_2 : cI 2 = nI 2 := by decide +kernel
theorem ci_3 : cI 3 = nI 3 := by decide +kernel
theorem ci_4 : cI 4 = nI 4 := by decide +kernel
theorem ci_5 : cI 5 = nI 5 := by decide +kernel
theorem ci_6 : cI 6 = nI 6 := by decide +kernel
theorem ci_7 : cI 7 = nI 7 := by decide +kernel
theorem ci_8 : cI 8 = nI 8 := by decide +kernel
theorem ci_9 : cI 9 = nI 9 := by decide +kernel
theorem ci_10 : cI 10 = nI 10 := by decide +kernel
theorem ci_14 : cI 14 = nI 14 := by decide +kernel
theorem ci_15 : cI 15 = nI 15 := by decide +kernel
theorem ci_16 : cI 16 = nI 16 := by decide +kernel
theorem ci_32 : cI 32 = nI 32 := by decide +kernel
theorem ci_40 : cI 40 = nI 40 := by decide +kernel
theorem ci_41 : cI 41 = nI 41 := by decide +kernel
theorem ci_42 : cI 42 = nI 42 := by decide +kernel
theorem ci_47 : cI 47 = nI 47 := by decide +kernel
theorem ci_48 : cI 48 = nI 48 := by decide +kernel
theorem ci_49 : cI 49 = nI 49 := by decide +kernel
theorem ci_55 : cI 55 = nI 55 := by decide +kernel
theorem ci_57 : cI 57 = nI 57 := by decide +kernel
theorem ci_63 : cI 63 = nI 63 := by decide +kernel
theorem ci_64 : cI 64 = nI 64 := by decide +kernel
theorem ci_70 : cI 70 = nI 70 := by decide +kernel
theorem ci_80 : cI 80 = nI 80 := by decide +kernel
theorem ci_82 : cI 82 = nI 82 := by decide +kernel
theorem ci_100 : cI 100 = nI 100 := by decide +kernel
theorem ci_102 : cI 102 = nI 102 := by decide +kernel
theorem ci_110 : cI 110 = nI 110 := by decide +kernel
theorem ci_112 : cI 112 = nI 112 := by decide +kernel
theorem ci_114 : cI 114 = nI 114 := by decide +kernel
theorem ci_115 : cI 115 = nI 115 := by decide +kernel
theorem ci_116 : cI 116 = nI 116 := by decide +kernel
theorem ci_118 : cI 118 = nI 118 := by decide +kernel
theorem ci_127 : cI 127 = nI 127 := by decide +kernel
theorem ci_128 : cI 128 = nI 128 := by decide +kernel
theorem ci_240 : cI 240 = nI 240 := by decide +kernel
theorem ci_246 : cI 246 = nI 246 := by decide +kernel
theorem ci_320 : cI 320 = nI 320 := by decide +kernel
theorem ci_1000 : cI 1000 = nI 1000 := by decide +kernel
theorem ci_1023 : cI 1023 = nI 1023 := by decide +kernel
theorem ci_1024 : cI 1024 = nI 1024 := by decide +kernel
theorem ci_1280 : cI 1280 = nI 1280 := by decide +kernel
theorem ci_7168 : cI 7168 = nI 7168 := by decide +kernel
theorem ci_16384 : cI 16384 = nI 16384 := by decide +kernel
theorem ci_1000000 : cI 1000000 = nI 1000000 := by decide +kernel
theorem ci_1048576 : cI 1048576 = nI 1048576 := by decide +kernel
theorem ci_252645135 : cI 252645135 = nI 252645135 := by decide +kernel
theorem ci_858993459 : cI 858993459 = nI 858993459 := by decide +kernel
theorem ci_1431655765 : cI 1431655765 = nI 1431655765 := by decide +kernel
theorem ci_2147483646 : cI 2147483646 = nI 2147483646 := by decide +kernel
theorem cl_m1 : cL (-1) = (-1) := by decide +kernel
theorem cl_0 : cL 0 = lN 0 := by decide +kernel
theorem cl_1 : cL 1 = lN 1 := by decide +kernel
theorem cl_17 : cL 17 = lN 17 := by decide +kernel
theorem cl_31 : cL 31 = lN 31 := by decide +kernel
theorem cl_48271 : cL 48271 = lN 48271 := by decide +kernel
theorem cl_2147483647 : cL 2147483647 = lN 2147483647 := by decide +kernel
section
variable {d i nx : Nat} {ls : AL} {st : List Value} {z : AZ} {f : AH} {Q : Option Value → AZ → AH → Prop} {X : Nat × (Nat → Int32)} {C : CT} {M : MT} {t0 : List Nat} {ml : Int}
theorem rce_1 {c : Nat} (h : c < 10) : rce (Hp X C M (co c)) 1 = true := match c, h with
  | 0, _ => rfl
  | 1, _ => rfl
  | 2, _ => rfl
  | 3, _ => rfl
  | 4, _ => rfl
  | 5, _ => rfl
  | 6, _ => rfl
  | 7, _ => rfl
  | 8, _ => rfl
  | 9, _ => rfl
  | c + 10, h => absurd h (by omega)
theorem h79_1 {c : Nat} (h : c < 10) {x0 : Int32} {x1 : Int32} : ExP d i (79, 1, 3, 3, t0) nx ls (.int x1 :: .int x0 :: .ref (co c) :: st) z (Hp X C M) Q ↔ st.length < 5 ∧ Cw d 1 [.ref (co c), .int x0, .int x1] z (Hp X C M) (fun v z f => Wp d i nx ls (ps v st) z f Q) := by
  rw [r_79' (as := [.ref (co c), .int x0, .int x1]) (st' := st) rfl]
  unfold Ca rcv
  rw [and_iff_right (rce_1 h), show ((en [.ref (co c), .int x0, .int x1]).length ≤ (3 : Int).toNat ∧ st.length < 5) ↔ st.length < 5 from and_iff_right (by simp only [enL]; decide)]
theorem rce_2 {c : Nat} (h : c < 10) : rce (Hp X C M (co c)) 2 = true := match c, h with
  | 0, _ => rfl
  | 1, _ => rfl
  | 2, _ => rfl
  | 3, _ => rfl
  | 4, _ => rfl
  | 5, _ => rfl
  | 6, _ => rfl
  | 7, _ => rfl
  | 8, _ => rfl
  | 9, _ => rfl
  | c + 10, h => absurd h (by omega)
theorem h79_2 {c : Nat} (h : c < 10) {x0 : Nat} {x1 : Int32} : ExP d i (79, 2, 3, 3, t0) nx ls (.int x1 :: .ref x0 :: .ref (co c) :: st) z (Hp X C M) Q ↔ st.length < 5 ∧ Cw d 2 [.ref (co c), .ref x0, .int x1] z (Hp X C M) (fun v z f => Wp d i nx ls (ps v st) z f Q) := by
  rw [r_79' (as := [.ref (co c), .ref x0, .int x1]) (st' := st) rfl]
  unfold Ca rcv
  rw [and_iff_right (rce_2 h), show ((en [.ref (co c), .ref x0, .int x1]).length ≤ (3 : Int).toNat ∧ st.length < 5) ↔ st.length < 5 from and_iff_right (by simp only [enL]; decide)]
theorem rce_3 {c : Nat} (h : c < 10) : rce (Hp X C M (co c)) 3 = true := match c, h with
  | 0, _ => rfl
  | 1, _ => rfl
  | 2, _ => rfl
  | 3, _ => rfl
  | 4, _ => rfl
  | 5, _ => rfl
  | 6, _ => rfl
  | 7, _ => rfl
  | 8, _ => rfl
  | 9, _ => rfl
  | c + 10, h => absurd h (by omega)
theorem h79_3 {c : Nat} (h : c < 10)  : ExP d i (79, 3, 1, 1, t0) nx ls (.ref (co c) :: st) z (Hp X C M) Q ↔ st.length < 5 ∧ Cw d 3 [.ref (co c)] z (Hp X C M) (fun v z f => Wp d i nx ls (ps v st) z f Q) := by
  rw [r_79' (as := [.ref (co c)]) (st' := st) rfl]
  unfold Ca rcv
  rw [and_iff_right (rce_3 h), show ((en [.ref (co c)]).length ≤ (1 : Int).toNat ∧ st.length < 5) ↔ st.length < 5 from and_iff_right (by simp only [enL]; decide)]
theorem rce_4 {c : Nat} (h : c < 10) : rce (Hp X C M (co c)) 4 = true := match c, h with
  | 0, _ => rfl
  | 1, _ => rfl
  | 2, _ => rfl
  | 3, _ => rfl
  | 4, _ => rfl
  | 5, _ => rfl
  | 6, _ => rfl
  | 7, _ => rfl
  | 8, _ => rfl
  | 9, _ => rfl
  | c + 10, h => absurd h (by omega)
theorem h79_4 {c : Nat} (h : c < 10) {x0 : Int32} : ExP d i (79, 4, 2, 2, t0) nx ls (.int x0 :: .ref (co c) :: st) z (Hp X C M) Q ↔ st.length < 5 ∧ Cw d 4 [.ref (co c), .int x0] z (Hp X C M) (fun v z f => Wp d i nx ls (ps v st) z f Q) := by
  rw [r_79' (as := [.ref (co c), .int x0]) (st' := st) rfl]
  unfold Ca rcv
  rw [and_iff_right (rce_4 h), show ((en [.ref (co c), .int x0]).length ≤ (2 : Int).toNat ∧ st.length < 5) ↔ st.length < 5 from and_iff_right (by simp only [enL]; decide)]
theorem rce_5 {c : Nat} (h : c < 10) : rce (Hp X C M (co c)) 5 = true := match c, h with
  | 0, _ => rfl
  | 1, _ => rfl
  | 2, _ => rfl
  | 3, _ => rfl
  | 4, _ => rfl
  | 5, _ => rfl
  | 6, _ => rfl
  | 7, _ => rfl
  | 8, _ => rfl
  | 9, _ => rfl
  | c + 10, h => absurd h (by omega)
theorem h79_5 {c : Nat} (h : c < 10) {x0 : Int32} : ExP d i (79, 5, 2, 2, t0) nx ls (.int x0 :: .ref (co c) :: st) z (Hp X C M) Q ↔ st.length < 5 ∧ Cw d 5 [.ref (co c), .int x0] z (Hp X C M) (fun v z f => Wp d i nx ls (ps v st) z f Q) := by
  rw [r_79' (as := [.ref (co c), .int x0]) (st' := st) rfl]
  unfold Ca rcv
  rw [and_iff_right (rce_5 h), show ((en [.ref (co c), .int x0]).length ≤ (2 : Int).toNat ∧ st.length < 5) ↔ st.length < 5 from and_iff_right (by simp only [enL]; decide)]
theorem rce_6 {c : Nat} (h : c < 10) : rce (Hp X C M (co c)) 6 = true := match c, h with
  | 0, _ => rfl
  | 1, _ => rfl
  | 2, _ => rfl
  | 3, _ => rfl
  | 4, _ => rfl
  | 5, _ => rfl
  | 6, _ => rfl
  | 7, _ => rfl
  | 8, _ => rfl
  | 9, _ => rfl
  | c + 10, h => absurd h (by omega)
theorem h79_6 {c : Nat} (h : c < 10) {x0 : Int32} {x1 : Int32} : ExP d i (79, 6, 3, 3, t0) nx ls (.int x1 :: .int x0 :: .ref (co c) :: st) z (Hp X C M) Q ↔ st.length < 5 ∧ Cw d 6 [.ref (co c), .int x0, .int x1] z (Hp X C M) (fun v z f => Wp d i nx ls (ps v st) z f Q) := by
  rw [r_79' (as := [.ref (co c), .int x0, .int x1]) (st' := st) rfl]
  unfold Ca rcv
  rw [and_iff_right (rce_6 h), show ((en [.ref (co c), .int x0, .int x1]).length ≤ (3 : Int).toNat ∧ st.length < 5) ↔ st.length < 5 from and_iff_right (by simp only [enL]; decide)]
theorem rce_7 {c : Nat} (h : c < 10) : rce (Hp X C M (co c)) 7 = true := match c, h with
  | 0, _ => rfl
  | 1, _ => rfl
  | 2, _ => rfl
  | 3, _ => rfl
  | 4, _ => rfl
  | 5, _ => rfl
  | 6, _ => rfl
  | 7, _ => rfl
  | 8, _ => rfl
  | 9, _ => rfl
  | c + 10, h => absurd h (by omega)
theorem h79_7 {c : Nat} (h : c < 10) {x0 : Int32} {x1 : Int32} : ExP d i (79, 7, 3, 3, t0) nx ls (.int x1 :: .int x0 :: .ref (co c) :: st) z (Hp X C M) Q ↔ st.length < 5 ∧ Cw d 7 [.ref (co c), .int x0, .int x1] z (Hp X C M) (fun v z f => Wp d i nx ls (ps v st) z f Q) := by
  rw [r_79' (as := [.ref (co c), .int x0, .int x1]) (st' := st) rfl]
  unfold Ca rcv
  rw [and_iff_right (rce_7 h), show ((en [.ref (co c), .int x0, .int x1]).length ≤ (3 : Int).toNat ∧ st.length < 5) ↔ st.length < 5 from and_iff_right (by simp only [enL]; decide)]
theorem rce_8 {c : Nat} (h : c < 10) : rce (Hp X C M (co c)) 8 = true := match c, h with
  | 0, _ => rfl
  | 1, _ => rfl
  | 2, _ => rfl
  | 3, _ => rfl
  | 4, _ => rfl
  | 5, _ => rfl
  | 6, _ => rfl
  | 7, _ => rfl
  | 8, _ => rfl
  | 9, _ => rfl
  | c + 10, h => absurd h (by omega)
theorem h79_8 {c : Nat} (h : c < 10) {x0 : Int32} {x1 : Int32} : ExP d i (79, 8, 3, 4, t0) nx ls (.int x1 :: .int x0 :: .ref (co c) :: st) z (Hp X C M) Q ↔ st.length < 5 ∧ Cw d 8 [.ref (co c), .int x0, .int x1] z (Hp X C M) (fun v z f => Wp d i nx ls (ps v st) z f Q) := by
  rw [r_79' (as := [.ref (co c), .int x0, .int x1]) (st' := st) rfl]
  unfold Ca rcv
  rw [and_iff_right (rce_8 h), show ((en [.ref (co c), .int x0, .int x1]).length ≤ (4 : Int).toNat ∧ st.length < 5) ↔ st.length < 5 from and_iff_right (by simp only [enL]; decide)]
theorem rce_9 {c : Nat} (h : c < 10) : rce (Hp X C M (co c)) 9 = true := match c, h with
  | 0, _ => rfl
  | 1, _ => rfl
  | 2, _ => rfl
  | 3, _ => rfl
  | 4, _ => rfl
  | 5, _ => rfl
  | 6, _ => rfl
  | 7, _ => rfl
  | 8, _ => rfl
  | 9, _ => rfl
  | c + 10, h => absurd h (by omega)
theorem h79_9 {c : Nat} (h : c < 10) {x0 : Int32} : ExP d i (79, 9, 2, 4, t0) nx ls (.int x0 :: .ref (co c) :: st) z (Hp X C M) Q ↔ st.length < 5 ∧ Cw d 9 [.ref (co c), .int x0] z (Hp X C M) (fun v z f => Wp d i nx ls (ps v st) z f Q) := by
  rw [r_79' (as := [.ref (co c), .int x0]) (st' := st) rfl]
  unfold Ca rcv
  rw [and_iff_right (rce_9 h), show ((en [.ref (co c), .int x0]).length ≤ (4 : Int).toNat ∧ st.length < 5) ↔ st.length < 5 from and_iff_right (by simp only [enL]; decide)]
theorem rce_10 {c : Nat} (h : c < 10) : rce (Hp X C M (co c)) 10 = true := match c, h with
  | 0, _ => rfl
  | 1, _ => rfl
  | 2, _ => rfl
  | 3, _ => rfl
  | 4, _ => rfl
  | 5, _ => rfl
  | 6, _ => rfl
  | 7, _ => rfl
  | 8, _ => rfl
  | 9, _ => rfl
  | c + 10, h => absurd h (by omega)
theorem h79_10 {c : Nat} (h : c < 10)  : ExP d i (79, 10, 1, 4, t0) nx ls (.ref (co c) :: st) z (Hp X C M) Q ↔ st.length < 5 ∧ Cw d 10 [.ref (co c)] z (Hp X C M) (fun v z f => Wp d i nx ls (ps v st) z f Q) := by
  rw [r_79' (as := [.ref (co c)]) (st' := st) rfl]
  unfold Ca rcv
  rw [and_iff_right (rce_10 h), show ((en [.ref (co c)]).length ≤ (4 : Int).toNat ∧ st.length < 5) ↔ st.length < 5 from and_iff_right (by simp only [enL]; decide)]
theorem rce_11 {c : Nat} (h : c < 10) : rce (Hp X C M (co c)) 11 = true := match c, h with
  | 0, _ => rfl
  | 1, _ => rfl
  | 2, _ => rfl
  | 3, _ => rfl
  | 4, _ => rfl
  | 5, _ => rfl
  | 6, _ => rfl
  | 7, _ => rfl
  | 8, _ => rfl
  | 9, _ => rfl
  | c + 10, h => absurd h (by omega)
theorem h79_11 {c : Nat} (h : c < 10) {x0 : Int64} : ExP d i (79, 11, 2, 6, t0) nx ls (.long x0 :: .ref (co c) :: st) z (Hp X C M) Q ↔ st.length < 5 ∧ Cw d 11 [.ref (co c), .long x0] z (Hp X C M) (fun v z f => Wp d i nx ls (ps v st) z f Q) := by
  rw [r_79' (as := [.ref (co c), .long x0]) (st' := st) rfl]
  unfold Ca rcv
  rw [and_iff_right (rce_11 h), show ((en [.ref (co c), .long x0]).length ≤ (6 : Int).toNat ∧ st.length < 5) ↔ st.length < 5 from and_iff_right (by simp only [enL]; decide)]
theorem h79_101 {x0 : Int32} : ExP d i (79, 101, 2, 2, t0) nx ls (.int x0 :: .ref 22 :: st) z (Hp X C M) Q ↔ st.length < 5 ∧ Cw d 101 [.ref 22, .int x0] z (Hp X C M) (fun v z f => Wp d i nx ls (ps v st) z f Q) := by
  rw [r_79' (as := [.ref 22, .int x0]) (st' := st) rfl]
  unfold Ca rcv
  rw [and_iff_right (show rce (Hp X C M 22) 101 = true from rfl), show ((en [.ref 22, .int x0]).length ≤ (2 : Int).toNat ∧ st.length < 5) ↔ st.length < 5 from and_iff_right (by simp only [enL]; decide)]
theorem h79_102 {x0 : Nat} {x1 : Nat} {x2 : Int32} : ExP d i (79, 102, 4, 6, t0) nx ls (.int x2 :: .ref x1 :: .ref x0 :: .ref 22 :: st) z (Hp X C M) Q ↔ st.length < 5 ∧ Cw d 102 [.ref 22, .ref x0, .ref x1, .int x2] z (Hp X C M) (fun v z f => Wp d i nx ls (ps v st) z f Q) := by
  rw [r_79' (as := [.ref 22, .ref x0, .ref x1, .int x2]) (st' := st) rfl]
  unfold Ca rcv
  rw [and_iff_right (show rce (Hp X C M 22) 102 = true from rfl), show ((en [.ref 22, .ref x0, .ref x1, .int x2]).length ≤ (6 : Int).toNat ∧ st.length < 5) ↔ st.length < 5 from and_iff_right (by simp only [enL]; decide)]
theorem h79_103 {x0 : Nat} {x1 : Nat} : ExP d i (79, 103, 3, 5, t0) nx ls (.ref x1 :: .ref x0 :: .ref 22 :: st) z (Hp X C M) Q ↔ st.length < 5 ∧ Cw d 103 [.ref 22, .ref x0, .ref x1] z (Hp X C M) (fun v z f => Wp d i nx ls (ps v st) z f Q) := by
  rw [r_79' (as := [.ref 22, .ref x0, .ref x1]) (st' := st) rfl]
  unfold Ca rcv
  rw [and_iff_right (show rce (Hp X C M 22) 103 = true from rfl), show ((en [.ref 22, .ref x0, .ref x1]).length ≤ (5 : Int).toNat ∧ st.length < 5) ↔ st.length < 5 from and_iff_right (by simp only [enL]; decide)]
theorem h79_104 {x0 : Nat} {x1 : Int32} {x2 : Int32} {x3 : Nat} : ExP d i (79, 104, 5, 7, t0) nx ls (.ref x3 :: .int x2 :: .int x1 :: .ref x0 :: .ref 22 :: st) z (Hp X C M) Q ↔ st.length < 5 ∧ Cw d 104 [.ref 22, .ref x0, .int x1, .int x2, .ref x3] z (Hp X C M) (fun v z f => Wp d i nx ls (ps v st) z f Q) := by
  rw [r_79' (as := [.ref 22, .ref x0, .int x1, .int x2, .ref x3]) (st' := st) rfl]
  unfold Ca rcv
  rw [and_iff_right (show rce (Hp X C M 22) 104 = true from rfl), show ((en [.ref 22, .ref x0, .int x1, .int x2, .ref x3]).length ≤ (7 : Int).toNat ∧ st.length < 5) ↔ st.length < 5 from and_iff_right (by simp only [enL]; decide)]
theorem h79_105  : ExP d i (79, 105, 1, 4, t0) nx ls (.ref 22 :: st) z (Hp X C M) Q ↔ st.length < 5 ∧ Cw d 105 [.ref 22] z (Hp X C M) (fun v z f => Wp d i nx ls (ps v st) z f Q) := by
  rw [r_79' (as := [.ref 22]) (st' := st) rfl]
  unfold Ca rcv
  rw [and_iff_right (show rce (Hp X C M 22) 105 = true from rfl), show ((en [.ref 22]).length ≤ (4 : Int).toNat ∧ st.length < 5) ↔ st.length < 5 from and_iff_right (by simp only [enL]; decide)]
theorem rce_201 {c : Nat} (h : c < 4) : rce (Hp X C M (dob c)) 201 = true := match c, h with
  | 0, _ => rfl
  | 1, _ => rfl
  | 2, _ => rfl
  | 3, _ => rfl
  | c + 4, h => absurd h (by omega)
theorem h79_201 {c : Nat} (h : c < 4) {x0 : Int32} : ExP d i (79, 201, 2, 2, t0) nx ls (.int x0 :: .ref (dob c) :: st) z (Hp X C M) Q ↔ st.length < 5 ∧ Cw d 201 [.ref (dob c), .int x0] z (Hp X C M) (fun v z f => Wp d i nx ls (ps v st) z f Q) := by
  rw [r_79' (as := [.ref (dob c), .int x0]) (st' := st) rfl]
  unfold Ca rcv
  rw [and_iff_right (rce_201 h), show ((en [.ref (dob c), .int x0]).length ≤ (2 : Int).toNat ∧ st.length < 5) ↔ st.length < 5 from and_iff_right (by simp only [enL]; decide)]
theorem rce_202 {c : Nat} (h : c < 4) : rce (Hp X C M (dob c)) 202 = true := match c, h with
  | 0, _ => rfl
  | 1, _ => rfl
  | 2, _ => rfl
  | 3, _ => rfl
  | c + 4, h => absurd h (by omega)
theorem h79_202 {c : Nat} (h : c < 4)  : ExP d i (79, 202, 1, 1, t0) nx ls (.ref (dob c) :: st) z (Hp X C M) Q ↔ st.length < 5 ∧ Cw d 202 [.ref (dob c)] z (Hp X C M) (fun v z f => Wp d i nx ls (ps v st) z f Q) := by
  rw [r_79' (as := [.ref (dob c)]) (st' := st) rfl]
  unfold Ca rcv
  rw [and_iff_right (rce_202 h), show ((en [.ref (dob c)]).length ≤ (1 : Int).toNat ∧ st.length < 5) ↔ st.length < 5 from and_iff_right (by simp only [enL]; decide)]
theorem rce_203 {c : Nat} (h : c < 4) : rce (Hp X C M (dob c)) 203 = true := match c, h with
  | 0, _ => rfl
  | 1, _ => rfl
  | 2, _ => rfl
  | 3, _ => rfl
  | c + 4, h => absurd h (by omega)
theorem h79_203 {c : Nat} (h : c < 4) {x0 : Int32} : ExP d i (79, 203, 2, 2, t0) nx ls (.int x0 :: .ref (dob c) :: st) z (Hp X C M) Q ↔ st.length < 5 ∧ Cw d 203 [.ref (dob c), .int x0] z (Hp X C M) (fun v z f => Wp d i nx ls (ps v st) z f Q) := by
  rw [r_79' (as := [.ref (dob c), .int x0]) (st' := st) rfl]
  unfold Ca rcv
  rw [and_iff_right (rce_203 h), show ((en [.ref (dob c), .int x0]).length ≤ (2 : Int).toNat ∧ st.length < 5) ↔ st.length < 5 from and_iff_right (by simp only [enL]; decide)]
theorem rce_204 {c : Nat} (h : c < 4) : rce (Hp X C M (dob c)) 204 = true := match c, h with
  | 0, _ => rfl
  | 1, _ => rfl
  | 2, _ => rfl
  | 3, _ => rfl
  | c + 4, h => absurd h (by omega)
theorem h79_204 {c : Nat} (h : c < 4) {x0 : Int32} {x1 : Int32} {x2 : Int32} : ExP d i (79, 204, 4, 4, t0) nx ls (.int x2 :: .int x1 :: .int x0 :: .ref (dob c) :: st) z (Hp X C M) Q ↔ st.length < 5 ∧ Cw d 204 [.ref (dob c), .int x0, .int x1, .int x2] z (Hp X C M) (fun v z f => Wp d i nx ls (ps v st) z f Q) := by
  rw [r_79' (as := [.ref (dob c), .int x0, .int x1, .int x2]) (st' := st) rfl]
  unfold Ca rcv
  rw [and_iff_right (rce_204 h), show ((en [.ref (dob c), .int x0, .int x1, .int x2]).length ≤ (4 : Int).toNat ∧ st.length < 5) ↔ st.length < 5 from and_iff_right (by simp only [enL]; decide)]
theorem rce_205 {c : Nat} (h : c < 4) : rce (Hp X C M (dob c)) 205 = true := match c, h with
  | 0, _ => rfl
  | 1, _ => rfl
  | 2, _ => rfl
  | 3, _ => rfl
  | c + 4, h => absurd h (by omega)
theorem h79_205 {c : Nat} (h : c < 4) {x0 : Int32} {x1 : Nat} : ExP d i (79, 205, 3, 4, t0) nx ls (.ref x1 :: .int x0 :: .ref (dob c) :: st) z (Hp X C M) Q ↔ st.length < 5 ∧ Cw d 205 [.ref (dob c), .int x0, .ref x1] z (Hp X C M) (fun v z f => Wp d i nx ls (ps v st) z f Q) := by
  rw [r_79' (as := [.ref (dob c), .int x0, .ref x1]) (st' := st) rfl]
  unfold Ca rcv
  rw [and_iff_right (rce_205 h), show ((en [.ref (dob c), .int x0, .ref x1]).length ≤ (4 : Int).toNat ∧ st.length < 5) ↔ st.length < 5 from and_iff_right (by simp only [enL]; decide)]
theorem rce_206 {c : Nat} (h : c < 4) : rce (Hp X C M (dob c)) 206 = true := match c, h with
  | 0, _ => rfl
  | 1, _ => rfl
  | 2, _ => rfl
  | 3, _ => rfl
  | c + 4, h => absurd h (by omega)
theorem h79_206 {c : Nat} (h : c < 4) {x0 : Nat} : ExP d i (79, 206, 2, 2, t0) nx ls (.ref x0 :: .ref (dob c) :: st) z (Hp X C M) Q ↔ st.length < 5 ∧ Cw d 206 [.ref (dob c), .ref x0] z (Hp X C M) (fun v z f => Wp d i nx ls (ps v st) z f Q) := by
  rw [r_79' (as := [.ref (dob c), .ref x0]) (st' := st) rfl]
  unfold Ca rcv
  rw [and_iff_right (rce_206 h), show ((en [.ref (dob c), .ref x0]).length ≤ (2 : Int).toNat ∧ st.length < 5) ↔ st.length < 5 from and_iff_right (by simp only [enL]; decide)]
theorem rce_207 {c : Nat} (h : c < 4) : rce (Hp X C M (dob c)) 207 = true := match c, h with
  | 0, _ => rfl
  | 1, _ => rfl
  | 2, _ => rfl
  | 3, _ => rfl
  | c + 4, h => absurd h (by omega)
theorem h79_207 {c : Nat} (h : c < 4) {x0 : Int64} : ExP d i (79, 207, 2, 6, t0) nx ls (.long x0 :: .ref (dob c) :: st) z (Hp X C M) Q ↔ st.length < 5 ∧ Cw d 207 [.ref (dob c), .long x0] z (Hp X C M) (fun v z f => Wp d i nx ls (ps v st) z f Q) := by
  rw [r_79' (as := [.ref (dob c), .long x0]) (st' := st) rfl]
  unfold Ca rcv
  rw [and_iff_right (rce_207 h), show ((en [.ref (dob c), .long x0]).length ≤ (6 : Int).toNat ∧ st.length < 5) ↔ st.length < 5 from and_iff_right (by simp only [enL]; decide)]
theorem rce_301 {c : Nat} (h : c < 2) : rce (Hp X C M (lo c)) 301 = true := match c, h with
  | 0, _ => rfl
  | 1, _ => rfl
  | c + 2, h => absurd h (by omega)
theorem h79_301 {c : Nat} (h : c < 2)  : ExP d i (79, 301, 1, 1, t0) nx ls (.ref (lo c) :: st) z (Hp X C M) Q ↔ st.length < 5 ∧ Cw d 301 [.ref (lo c)] z (Hp X C M) (fun v z f => Wp d i nx ls (ps v st) z f Q) := by
  rw [r_79' (as := [.ref (lo c)]) (st' := st) rfl]
  unfold Ca rcv
  rw [and_iff_right (rce_301 h), show ((en [.ref (lo c)]).length ≤ (1 : Int).toNat ∧ st.length < 5) ↔ st.length < 5 from and_iff_right (by simp only [enL]; decide)]
theorem rce_302 {c : Nat} (h : c < 2) : rce (Hp X C M (lo c)) 302 = true := match c, h with
  | 0, _ => rfl
  | 1, _ => rfl
  | c + 2, h => absurd h (by omega)
theorem h79_302 {c : Nat} (h : c < 2) {x0 : Int32} {x1 : Int32} {x2 : Int32} {x3 : Int32} : ExP d i (79, 302, 5, 5, t0) nx ls (.int x3 :: .int x2 :: .int x1 :: .int x0 :: .ref (lo c) :: st) z (Hp X C M) Q ↔ st.length < 5 ∧ Cw d 302 [.ref (lo c), .int x0, .int x1, .int x2, .int x3] z (Hp X C M) (fun v z f => Wp d i nx ls (ps v st) z f Q) := by
  rw [r_79' (as := [.ref (lo c), .int x0, .int x1, .int x2, .int x3]) (st' := st) rfl]
  unfold Ca rcv
  rw [and_iff_right (rce_302 h), show ((en [.ref (lo c), .int x0, .int x1, .int x2, .int x3]).length ≤ (5 : Int).toNat ∧ st.length < 5) ↔ st.length < 5 from and_iff_right (by simp only [enL]; decide)]
theorem rce_303 {c : Nat} (h : c < 2) : rce (Hp X C M (lo c)) 303 = true := match c, h with
  | 0, _ => rfl
  | 1, _ => rfl
  | c + 2, h => absurd h (by omega)
theorem h79_303 {c : Nat} (h : c < 2) {x0 : Int32} : ExP d i (79, 303, 2, 2, t0) nx ls (.int x0 :: .ref (lo c) :: st) z (Hp X C M) Q ↔ st.length < 5 ∧ Cw d 303 [.ref (lo c), .int x0] z (Hp X C M) (fun v z f => Wp d i nx ls (ps v st) z f Q) := by
  rw [r_79' (as := [.ref (lo c), .int x0]) (st' := st) rfl]
  unfold Ca rcv
  rw [and_iff_right (rce_303 h), show ((en [.ref (lo c), .int x0]).length ≤ (2 : Int).toNat ∧ st.length < 5) ↔ st.length < 5 from and_iff_right (by simp only [enL]; decide)]
theorem rce_304 {c : Nat} (h : c < 2) : rce (Hp X C M (lo c)) 304 = true := match c, h with
  | 0, _ => rfl
  | 1, _ => rfl
  | c + 2, h => absurd h (by omega)
theorem h79_304 {c : Nat} (h : c < 2) {x0 : Int32} : ExP d i (79, 304, 2, 2, t0) nx ls (.int x0 :: .ref (lo c) :: st) z (Hp X C M) Q ↔ st.length < 5 ∧ Cw d 304 [.ref (lo c), .int x0] z (Hp X C M) (fun v z f => Wp d i nx ls (ps v st) z f Q) := by
  rw [r_79' (as := [.ref (lo c), .int x0]) (st' := st) rfl]
  unfold Ca rcv
  rw [and_iff_right (rce_304 h), show ((en [.ref (lo c), .int x0]).length ≤ (2 : Int).toNat ∧ st.length < 5) ↔ st.length < 5 from and_iff_right (by simp only [enL]; decide)]
theorem rce_305 {c : Nat} (h : c < 2) : rce (Hp X C M (lo c)) 305 = true := match c, h with
  | 0, _ => rfl
  | 1, _ => rfl
  | c + 2, h => absurd h (by omega)
theorem h79_305 {c : Nat} (h : c < 2)  : ExP d i (79, 305, 1, 1, t0) nx ls (.ref (lo c) :: st) z (Hp X C M) Q ↔ st.length < 5 ∧ Cw d 305 [.ref (lo c)] z (Hp X C M) (fun v z f => Wp d i nx ls (ps v st) z f Q) := by
  rw [r_79' (as := [.ref (lo c)]) (st' := st) rfl]
  unfold Ca rcv
  rw [and_iff_right (rce_305 h), show ((en [.ref (lo c)]).length ≤ (1 : Int).toNat ∧ st.length < 5) ↔ st.length < 5 from and_iff_right (by simp only [enL]; decide)]
theorem rce_306 {c : Nat} (h : c < 2) : rce (Hp X C M (lo c)) 306 = true := match c, h with
  | 0, _ => rfl
  | 1, _ => rfl
  | c + 2, h => absurd h (by omega)
theorem h79_306 {c : Nat} (h : c < 2) {x0 : Int32} {x1 : Int32} : ExP d i (79, 306, 3, 3, t0) nx ls (.int x1 :: .int x0 :: .ref (lo c) :: st) z (Hp X C M) Q ↔ st.length < 5 ∧ Cw d 306 [.ref (lo c), .int x0, .int x1] z (Hp X C M) (fun v z f => Wp d i nx ls (ps v st) z f Q) := by
  rw [r_79' (as := [.ref (lo c), .int x0, .int x1]) (st' := st) rfl]
  unfold Ca rcv
  rw [and_iff_right (rce_306 h), show ((en [.ref (lo c), .int x0, .int x1]).length ≤ (3 : Int).toNat ∧ st.length < 5) ↔ st.length < 5 from and_iff_right (by simp only [enL]; decide)]
theorem rce_307 {c : Nat} (h : c < 2) : rce (Hp X C M (lo c)) 307 = true := match c, h with
  | 0, _ => rfl
  | 1, _ => rfl
  | c + 2, h => absurd h (by omega)
theorem h79_307 {c : Nat} (h : c < 2) {x0 : Int32} {x1 : Int32} : ExP d i (79, 307, 3, 4, t0) nx ls (.int x1 :: .int x0 :: .ref (lo c) :: st) z (Hp X C M) Q ↔ st.length < 5 ∧ Cw d 307 [.ref (lo c), .int x0, .int x1] z (Hp X C M) (fun v z f => Wp d i nx ls (ps v st) z f Q) := by
  rw [r_79' (as := [.ref (lo c), .int x0, .int x1]) (st' := st) rfl]
  unfold Ca rcv
  rw [and_iff_right (rce_307 h), show ((en [.ref (lo c), .int x0, .int x1]).length ≤ (4 : Int).toNat ∧ st.length < 5) ↔ st.length < 5 from and_iff_right (by simp only [enL]; decide)]
theorem rce_308 {c : Nat} (h : c < 2) : rce (Hp X C M (lo c)) 308 = true := match c, h with
  | 0, _ => rfl
  | 1, _ => rfl
  | c + 2, h => absurd h (by omega)
theorem h79_308 {c : Nat} (h : c < 2) {x0 : Int32} : ExP d i (79, 308, 2, 4, t0) nx ls (.int x0 :: .ref (lo c) :: st) z (Hp X C M) Q ↔ st.length < 5 ∧ Cw d 308 [.ref (lo c), .int x0] z (Hp X C M) (fun v z f => Wp d i nx ls (ps v st) z f Q) := by
  rw [r_79' (as := [.ref (lo c), .int x0]) (st' := st) rfl]
  unfold Ca rcv
  rw [and_iff_right (rce_308 h), show ((en [.ref (lo c), .int x0]).length ≤ (4 : Int).toNat ∧ st.length < 5) ↔ st.length < 5 from and_iff_right (by simp only [enL]; decide)]
theorem rce_309 {c : Nat} (h : c < 2) : rce (Hp X C M (lo c)) 309 = true := match c, h with
  | 0, _ => rfl
  | 1, _ => rfl
  | c + 2, h => absurd h (by omega)
theorem h79_309 {c : Nat} (h : c < 2) {x0 : Int32} : ExP d i (79, 309, 2, 5, t0) nx ls (.int x0 :: .ref (lo c) :: st) z (Hp X C M) Q ↔ st.length < 5 ∧ Cw d 309 [.ref (lo c), .int x0] z (Hp X C M) (fun v z f => Wp d i nx ls (ps v st) z f Q) := by
  rw [r_79' (as := [.ref (lo c), .int x0]) (st' := st) rfl]
  unfold Ca rcv
  rw [and_iff_right (rce_309 h), show ((en [.ref (lo c), .int x0]).length ≤ (5 : Int).toNat ∧ st.length < 5) ↔ st.length < 5 from and_iff_right (by simp only [enL]; decide)]
theorem rce_310 {c : Nat} (h : c < 2) : rce (Hp X C M (lo c)) 310 = true := match c, h with
  | 0, _ => rfl
  | 1, _ => rfl
  | c + 2, h => absurd h (by omega)
theorem h79_310 {c : Nat} (h : c < 2) {x0 : Int32} {x1 : Int32} : ExP d i (79, 310, 3, 4, t0) nx ls (.int x1 :: .int x0 :: .ref (lo c) :: st) z (Hp X C M) Q ↔ st.length < 5 ∧ Cw d 310 [.ref (lo c), .int x0, .int x1] z (Hp X C M) (fun v z f => Wp d i nx ls (ps v st) z f Q) := by
  rw [r_79' (as := [.ref (lo c), .int x0, .int x1]) (st' := st) rfl]
  unfold Ca rcv
  rw [and_iff_right (rce_310 h), show ((en [.ref (lo c), .int x0, .int x1]).length ≤ (4 : Int).toNat ∧ st.length < 5) ↔ st.length < 5 from and_iff_right (by simp only [enL]; decide)]
theorem rce_311 {c : Nat} (h : c < 2) : rce (Hp X C M (lo c)) 311 = true := match c, h with
  | 0, _ => rfl
  | 1, _ => rfl
  | c + 2, h => absurd h (by omega)
theorem h79_311 {c : Nat} (h : c < 2) {x0 : Int32} : ExP d i (79, 311, 2, 4, t0) nx ls (.int x0 :: .ref (lo c) :: st) z (Hp X C M) Q ↔ st.length < 5 ∧ Cw d 311 [.ref (lo c), .int x0] z (Hp X C M) (fun v z f => Wp d i nx ls (ps v st) z f Q) := by
  rw [r_79' (as := [.ref (lo c), .int x0]) (st' := st) rfl]
  unfold Ca rcv
  rw [and_iff_right (rce_311 h), show ((en [.ref (lo c), .int x0]).length ≤ (4 : Int).toNat ∧ st.length < 5) ↔ st.length < 5 from and_iff_right (by simp only [enL]; decide)]
theorem rce_312 {c : Nat} (h : c < 2) : rce (Hp X C M (lo c)) 312 = true := match c, h with
  | 0, _ => rfl
  | 1, _ => rfl
  | c + 2, h => absurd h (by omega)
theorem h79_312 {c : Nat} (h : c < 2) {x0 : Int32} : ExP d i (79, 312, 2, 4, t0) nx ls (.int x0 :: .ref (lo c) :: st) z (Hp X C M) Q ↔ st.length < 5 ∧ Cw d 312 [.ref (lo c), .int x0] z (Hp X C M) (fun v z f => Wp d i nx ls (ps v st) z f Q) := by
  rw [r_79' (as := [.ref (lo c), .int x0]) (st' := st) rfl]
  unfold Ca rcv
  rw [and_iff_right (rce_312 h), show ((en [.ref (lo c), .int x0]).length ≤ (4 : Int).toNat ∧ st.length < 5) ↔ st.length < 5 from and_iff_right (by simp only [enL]; decide)]
theorem rce_313 {c : Nat} (h : c < 2) : rce (Hp X C M (lo c)) 313 = true := match c, h with
  | 0, _ => rfl
  | 1, _ => rfl
  | c + 2, h => absurd h (by omega)
theorem h79_313 {c : Nat} (h : c < 2) {x0 : Int32} {x1 : Int32} : ExP d i (79, 313, 3, 3, t0) nx ls (.int x1 :: .int x0 :: .ref (lo c) :: st) z (Hp X C M) Q ↔ st.length < 5 ∧ Cw d 313 [.ref (lo c), .int x0, .int x1] z (Hp X C M) (fun v z f => Wp d i nx ls (ps v st) z f Q) := by
  rw [r_79' (as := [.ref (lo c), .int x0, .int x1]) (st' := st) rfl]
  unfold Ca rcv
  rw [and_iff_right (rce_313 h), show ((en [.ref (lo c), .int x0, .int x1]).length ≤ (3 : Int).toNat ∧ st.length < 5) ↔ st.length < 5 from and_iff_right (by simp only [enL]; decide)]
theorem rce_314 {c : Nat} (h : c < 2) : rce (Hp X C M (lo c)) 314 = true := match c, h with
  | 0, _ => rfl
  | 1, _ => rfl
  | c + 2, h => absurd h (by omega)
theorem h79_314 {c : Nat} (h : c < 2) {x0 : Int32} : ExP d i (79, 314, 2, 2, t0) nx ls (.int x0 :: .ref (lo c) :: st) z (Hp X C M) Q ↔ st.length < 5 ∧ Cw d 314 [.ref (lo c), .int x0] z (Hp X C M) (fun v z f => Wp d i nx ls (ps v st) z f Q) := by
  rw [r_79' (as := [.ref (lo c), .int x0]) (st' := st) rfl]
  unfold Ca rcv
  rw [and_iff_right (rce_314 h), show ((en [.ref (lo c), .int x0]).length ≤ (2 : Int).toNat ∧ st.length < 5) ↔ st.length < 5 from and_iff_right (by simp only [enL]; decide)]
theorem rce_315 {c : Nat} (h : c < 2) : rce (Hp X C M (lo c)) 315 = true := match c, h with
  | 0, _ => rfl
  | 1, _ => rfl
  | c + 2, h => absurd h (by omega)
theorem h79_315 {c : Nat} (h : c < 2) {x0 : Int32} {x1 : Int32} : ExP d i (79, 315, 3, 3, t0) nx ls (.int x1 :: .int x0 :: .ref (lo c) :: st) z (Hp X C M) Q ↔ st.length < 5 ∧ Cw d 315 [.ref (lo c), .int x0, .int x1] z (Hp X C M) (fun v z f => Wp d i nx ls (ps v st) z f Q) := by
  rw [r_79' (as := [.ref (lo c), .int x0, .int x1]) (st' := st) rfl]
  unfold Ca rcv
  rw [and_iff_right (rce_315 h), show ((en [.ref (lo c), .int x0, .int x1]).length ≤ (3 : Int).toNat ∧ st.length < 5) ↔ st.length < 5 from and_iff_right (by simp only [enL]; decide)]
theorem h79_401 {x0 : Nat} {x1 : Int32} {x2 : Int32} : ExP d i (79, 401, 4, 7, t0) nx ls (.int x2 :: .int x1 :: .ref x0 :: .ref 25 :: st) z (Hp X C M) Q ↔ st.length < 5 ∧ Cw d 401 [.ref 25, .ref x0, .int x1, .int x2] z (Hp X C M) (fun v z f => Wp d i nx ls (ps v st) z f Q) := by
  rw [r_79' (as := [.ref 25, .ref x0, .int x1, .int x2]) (st' := st) rfl]
  unfold Ca rcv
  rw [and_iff_right (show rce (Hp X C M 25) 401 = true from rfl), show ((en [.ref 25, .ref x0, .int x1, .int x2]).length ≤ (7 : Int).toNat ∧ st.length < 5) ↔ st.length < 5 from and_iff_right (by simp only [enL]; decide)]
theorem h79_402 {x0 : Nat} {x1 : Int32} {x2 : Nat} : ExP d i (79, 402, 4, 6, t0) nx ls (.ref x2 :: .int x1 :: .ref x0 :: .ref 25 :: st) z (Hp X C M) Q ↔ st.length < 5 ∧ Cw d 402 [.ref 25, .ref x0, .int x1, .ref x2] z (Hp X C M) (fun v z f => Wp d i nx ls (ps v st) z f Q) := by
  rw [r_79' (as := [.ref 25, .ref x0, .int x1, .ref x2]) (st' := st) rfl]
  unfold Ca rcv
  rw [and_iff_right (show rce (Hp X C M 25) 402 = true from rfl), show ((en [.ref 25, .ref x0, .int x1, .ref x2]).length ≤ (6 : Int).toNat ∧ st.length < 5) ↔ st.length < 5 from and_iff_right (by simp only [enL]; decide)]
theorem h79_403 {x0 : Nat} {x1 : Int32} : ExP d i (79, 403, 3, 6, t0) nx ls (.int x1 :: .ref x0 :: .ref 25 :: st) z (Hp X C M) Q ↔ st.length < 5 ∧ Cw d 403 [.ref 25, .ref x0, .int x1] z (Hp X C M) (fun v z f => Wp d i nx ls (ps v st) z f Q) := by
  rw [r_79' (as := [.ref 25, .ref x0, .int x1]) (st' := st) rfl]
  unfold Ca rcv
  rw [and_iff_right (show rce (Hp X C M 25) 403 = true from rfl), show ((en [.ref 25, .ref x0, .int x1]).length ≤ (6 : Int).toNat ∧ st.length < 5) ↔ st.length < 5 from and_iff_right (by simp only [enL]; decide)]
theorem h79_404  : ExP d i (79, 404, 1, 2, t0) nx ls (.ref 25 :: st) z (Hp X C M) Q ↔ st.length < 5 ∧ Cw d 404 [.ref 25] z (Hp X C M) (fun v z f => Wp d i nx ls (ps v st) z f Q) := by
  rw [r_79' (as := [.ref 25]) (st' := st) rfl]
  unfold Ca rcv
  rw [and_iff_right (show rce (Hp X C M 25) 404 = true from rfl), show ((en [.ref 25]).length ≤ (2 : Int).toNat ∧ st.length < 5) ↔ st.length < 5 from and_iff_right (by simp only [enL]; decide)]
theorem h79_405 {x0 : Int32} {x1 : Int32} : ExP d i (79, 405, 3, 5, t0) nx ls (.int x1 :: .int x0 :: .ref 25 :: st) z (Hp X C M) Q ↔ st.length < 5 ∧ Cw d 405 [.ref 25, .int x0, .int x1] z (Hp X C M) (fun v z f => Wp d i nx ls (ps v st) z f Q) := by
  rw [r_79' (as := [.ref 25, .int x0, .int x1]) (st' := st) rfl]
  unfold Ca rcv
  rw [and_iff_right (show rce (Hp X C M 25) 405 = true from rfl), show ((en [.ref 25, .int x0, .int x1]).length ≤ (5 : Int).toNat ∧ st.length < 5) ↔ st.length < 5 from and_iff_right (by simp only [enL]; decide)]
theorem h79_406 {x0 : Int32} : ExP d i (79, 406, 2, 4, t0) nx ls (.int x0 :: .ref 25 :: st) z (Hp X C M) Q ↔ st.length < 5 ∧ Cw d 406 [.ref 25, .int x0] z (Hp X C M) (fun v z f => Wp d i nx ls (ps v st) z f Q) := by
  rw [r_79' (as := [.ref 25, .int x0]) (st' := st) rfl]
  unfold Ca rcv
  rw [and_iff_right (show rce (Hp X C M 25) 406 = true from rfl), show ((en [.ref 25, .int x0]).length ≤ (4 : Int).toNat ∧ st.length < 5) ↔ st.length < 5 from and_iff_right (by simp only [enL]; decide)]
theorem h79_501 {x0 : Nat} : ExP d i (79, 501, 2, 3, t0) nx ls (.ref x0 :: .ref 3 :: st) z (Hp X C M) Q ↔ st.length < 5 ∧ Cw d 501 [.ref 3, .ref x0] z (Hp X C M) (fun v z f => Wp d i nx ls (ps v st) z f Q) := by
  rw [r_79' (as := [.ref 3, .ref x0]) (st' := st) rfl]
  unfold Ca rcv
  rw [and_iff_right (show rce (Hp X C M 3) 501 = true from rfl), show ((en [.ref 3, .ref x0]).length ≤ (3 : Int).toNat ∧ st.length < 5) ↔ st.length < 5 from and_iff_right (by simp only [enL]; decide)]
theorem h79_502 {x0 : Nat} : ExP d i (79, 502, 2, 3, t0) nx ls (.ref x0 :: .ref 3 :: st) z (Hp X C M) Q ↔ st.length < 5 ∧ Cw d 502 [.ref 3, .ref x0] z (Hp X C M) (fun v z f => Wp d i nx ls (ps v st) z f Q) := by
  rw [r_79' (as := [.ref 3, .ref x0]) (st' := st) rfl]
  unfold Ca rcv
  rw [and_iff_right (show rce (Hp X C M 3) 502 = true from rfl), show ((en [.ref 3, .ref x0]).length ≤ (3 : Int).toNat ∧ st.length < 5) ↔ st.length < 5 from and_iff_right (by simp only [enL]; decide)]
theorem h79_503  : ExP d i (79, 503, 1, 1, t0) nx ls (.ref 3 :: st) z (Hp X C M) Q ↔ st.length < 5 ∧ Cw d 503 [.ref 3] z (Hp X C M) (fun v z f => Wp d i nx ls (ps v st) z f Q) := by
  rw [r_79' (as := [.ref 3]) (st' := st) rfl]
  unfold Ca rcv
  rw [and_iff_right (show rce (Hp X C M 3) 503 = true from rfl), show ((en [.ref 3]).length ≤ (1 : Int).toNat ∧ st.length < 5) ↔ st.length < 5 from and_iff_right (by simp only [enL]; decide)]
theorem h79_504  : ExP d i (79, 504, 1, 2, t0) nx ls (.ref 3 :: st) z (Hp X C M) Q ↔ st.length < 5 ∧ Cw d 504 [.ref 3] z (Hp X C M) (fun v z f => Wp d i nx ls (ps v st) z f Q) := by
  rw [r_79' (as := [.ref 3]) (st' := st) rfl]
  unfold Ca rcv
  rw [and_iff_right (show rce (Hp X C M 3) 504 = true from rfl), show ((en [.ref 3]).length ≤ (2 : Int).toNat ∧ st.length < 5) ↔ st.length < 5 from and_iff_right (by simp only [enL]; decide)]
theorem h79_505  : ExP d i (79, 505, 1, 5, t0) nx ls (.ref 3 :: st) z (Hp X C M) Q ↔ st.length < 5 ∧ Cw d 505 [.ref 3] z (Hp X C M) (fun v z f => Wp d i nx ls (ps v st) z f Q) := by
  rw [r_79' (as := [.ref 3]) (st' := st) rfl]
  unfold Ca rcv
  rw [and_iff_right (show rce (Hp X C M 3) 505 = true from rfl), show ((en [.ref 3]).length ≤ (5 : Int).toNat ∧ st.length < 5) ↔ st.length < 5 from and_iff_right (by simp only [enL]; decide)]
theorem h79_506  : ExP d i (79, 506, 1, 2, t0) nx ls (.ref 3 :: st) z (Hp X C M) Q ↔ st.length < 5 ∧ Cw d 506 [.ref 3] z (Hp X C M) (fun v z f => Wp d i nx ls (ps v st) z f Q) := by
  rw [r_79' (as := [.ref 3]) (st' := st) rfl]
  unfold Ca rcv
  rw [and_iff_right (show rce (Hp X C M 3) 506 = true from rfl), show ((en [.ref 3]).length ≤ (2 : Int).toNat ∧ st.length < 5) ↔ st.length < 5 from and_iff_right (by simp only [enL]; decide)]
theorem h79_507 {x0 : Int32} {x1 : Int32} : ExP d i (79, 507, 3, 4, t0) nx ls (.int x1 :: .int x0 :: .ref 3 :: st) z (Hp X C M) Q ↔ st.length < 5 ∧ Cw d 507 [.ref 3, .int x0, .int x1] z (Hp X C M) (fun v z f => Wp d i nx ls (ps v st) z f Q) := by
  rw [r_79' (as := [.ref 3, .int x0, .int x1]) (st' := st) rfl]
  unfold Ca rcv
  rw [and_iff_right (show rce (Hp X C M 3) 507 = true from rfl), show ((en [.ref 3, .int x0, .int x1]).length ≤ (4 : Int).toNat ∧ st.length < 5) ↔ st.length < 5 from and_iff_right (by simp only [enL]; decide)]
theorem rce_601 {c : Nat} (h : c < 2) : rce (Hp X C M (so c)) 601 = true := match c, h with
  | 0, _ => rfl
  | 1, _ => rfl
  | c + 2, h => absurd h (by omega)
theorem h79_601 {c : Nat} (h : c < 2) {x0 : Nat} {x1 : Int32} {x2 : Int32} : ExP d i (79, 601, 4, 7, t0) nx ls (.int x2 :: .int x1 :: .ref x0 :: .ref (so c) :: st) z (Hp X C M) Q ↔ st.length < 5 ∧ Cw d 601 [.ref (so c), .ref x0, .int x1, .int x2] z (Hp X C M) (fun v z f => Wp d i nx ls (ps v st) z f Q) := by
  rw [r_79' (as := [.ref (so c), .ref x0, .int x1, .int x2]) (st' := st) rfl]
  unfold Ca rcv
  rw [and_iff_right (rce_601 h), show ((en [.ref (so c), .ref x0, .int x1, .int x2]).length ≤ (7 : Int).toNat ∧ st.length < 5) ↔ st.length < 5 from and_iff_right (by simp only [enL]; decide)]
theorem rce_602 {c : Nat} (h : c < 2) : rce (Hp X C M (so c)) 602 = true := match c, h with
  | 0, _ => rfl
  | 1, _ => rfl
  | c + 2, h => absurd h (by omega)
theorem h79_602 {c : Nat} (h : c < 2) {x0 : Int32} {x1 : Int32} {x2 : Int32} : ExP d i (79, 602, 4, 4, t0) nx ls (.int x2 :: .int x1 :: .int x0 :: .ref (so c) :: st) z (Hp X C M) Q ↔ st.length < 5 ∧ Cw d 602 [.ref (so c), .int x0, .int x1, .int x2] z (Hp X C M) (fun v z f => Wp d i nx ls (ps v st) z f Q) := by
  rw [r_79' (as := [.ref (so c), .int x0, .int x1, .int x2]) (st' := st) rfl]
  unfold Ca rcv
  rw [and_iff_right (rce_602 h), show ((en [.ref (so c), .int x0, .int x1, .int x2]).length ≤ (4 : Int).toNat ∧ st.length < 5) ↔ st.length < 5 from and_iff_right (by simp only [enL]; decide)]
theorem rce_603 {c : Nat} (h : c < 2) : rce (Hp X C M (so c)) 603 = true := match c, h with
  | 0, _ => rfl
  | 1, _ => rfl
  | c + 2, h => absurd h (by omega)
theorem h79_603 {c : Nat} (h : c < 2) {x0 : Int32} {x1 : Int32} : ExP d i (79, 603, 3, 3, t0) nx ls (.int x1 :: .int x0 :: .ref (so c) :: st) z (Hp X C M) Q ↔ st.length < 5 ∧ Cw d 603 [.ref (so c), .int x0, .int x1] z (Hp X C M) (fun v z f => Wp d i nx ls (ps v st) z f Q) := by
  rw [r_79' (as := [.ref (so c), .int x0, .int x1]) (st' := st) rfl]
  unfold Ca rcv
  rw [and_iff_right (rce_603 h), show ((en [.ref (so c), .int x0, .int x1]).length ≤ (3 : Int).toNat ∧ st.length < 5) ↔ st.length < 5 from and_iff_right (by simp only [enL]; decide)]
theorem rce_604 {c : Nat} (h : c < 2) : rce (Hp X C M (so c)) 604 = true := match c, h with
  | 0, _ => rfl
  | 1, _ => rfl
  | c + 2, h => absurd h (by omega)
theorem h79_604 {c : Nat} (h : c < 2) {x0 : Int32} {x1 : Int32} : ExP d i (79, 604, 3, 5, t0) nx ls (.int x1 :: .int x0 :: .ref (so c) :: st) z (Hp X C M) Q ↔ st.length < 5 ∧ Cw d 604 [.ref (so c), .int x0, .int x1] z (Hp X C M) (fun v z f => Wp d i nx ls (ps v st) z f Q) := by
  rw [r_79' (as := [.ref (so c), .int x0, .int x1]) (st' := st) rfl]
  unfold Ca rcv
  rw [and_iff_right (rce_604 h), show ((en [.ref (so c), .int x0, .int x1]).length ≤ (5 : Int).toNat ∧ st.length < 5) ↔ st.length < 5 from and_iff_right (by simp only [enL]; decide)]
theorem rce_605 {c : Nat} (h : c < 2) : rce (Hp X C M (so c)) 605 = true := match c, h with
  | 0, _ => rfl
  | 1, _ => rfl
  | c + 2, h => absurd h (by omega)
theorem h79_605 {c : Nat} (h : c < 2) {x0 : Nat} {x1 : Int32} : ExP d i (79, 605, 3, 5, t0) nx ls (.int x1 :: .ref x0 :: .ref (so c) :: st) z (Hp X C M) Q ↔ st.length < 5 ∧ Cw d 605 [.ref (so c), .ref x0, .int x1] z (Hp X C M) (fun v z f => Wp d i nx ls (ps v st) z f Q) := by
  rw [r_79' (as := [.ref (so c), .ref x0, .int x1]) (st' := st) rfl]
  unfold Ca rcv
  rw [and_iff_right (rce_605 h), show ((en [.ref (so c), .ref x0, .int x1]).length ≤ (5 : Int).toNat ∧ st.length < 5) ↔ st.length < 5 from and_iff_right (by simp only [enL]; decide)]
theorem rce_606 {c : Nat} (h : c < 2) : rce (Hp X C M (so c)) 606 = true := match c, h with
  | 0, _ => rfl
  | 1, _ => rfl
  | c + 2, h => absurd h (by omega)
theorem h79_606 {c : Nat} (h : c < 2) {x0 : Nat} {x1 : Int32} {x2 : Int32} : ExP d i (79, 606, 4, 8, t0) nx ls (.int x2 :: .int x1 :: .ref x0 :: .ref (so c) :: st) z (Hp X C M) Q ↔ st.length < 5 ∧ Cw d 606 [.ref (so c), .ref x0, .int x1, .int x2] z (Hp X C M) (fun v z f => Wp d i nx ls (ps v st) z f Q) := by
  rw [r_79' (as := [.ref (so c), .ref x0, .int x1, .int x2]) (st' := st) rfl]
  unfold Ca rcv
  rw [and_iff_right (rce_606 h), show ((en [.ref (so c), .ref x0, .int x1, .int x2]).length ≤ (8 : Int).toNat ∧ st.length < 5) ↔ st.length < 5 from and_iff_right (by simp only [enL]; decide)]
theorem rce_607 {c : Nat} (h : c < 2) : rce (Hp X C M (so c)) 607 = true := match c, h with
  | 0, _ => rfl
  | 1, _ => rfl
  | c + 2, h => absurd h (by omega)
theorem h79_607 {c : Nat} (h : c < 2) {x0 : Int32} : ExP d i (79, 607, 2, 4, t0) nx ls (.int x0 :: .ref (so c) :: st) z (Hp X C M) Q ↔ st.length < 5 ∧ Cw d 607 [.ref (so c), .int x0] z (Hp X C M) (fun v z f => Wp d i nx ls (ps v st) z f Q) := by
  rw [r_79' (as := [.ref (so c), .int x0]) (st' := st) rfl]
  unfold Ca rcv
  rw [and_iff_right (rce_607 h), show ((en [.ref (so c), .int x0]).length ≤ (4 : Int).toNat ∧ st.length < 5) ↔ st.length < 5 from and_iff_right (by simp only [enL]; decide)]
theorem rce_608 {c : Nat} (h : c < 2) : rce (Hp X C M (so c)) 608 = true := match c, h with
  | 0, _ => rfl
  | 1, _ => rfl
  | c + 2, h => absurd h (by omega)
theorem h79_608 {c : Nat} (h : c < 2) {x0 : Int32} : ExP d i (79, 608, 2, 4, t0) nx ls (.int x0 :: .ref (so c) :: st) z (Hp X C M) Q ↔ st.length < 5 ∧ Cw d 608 [.ref (so c), .int x0] z (Hp X C M) (fun v z f => Wp d i nx ls (ps v st) z f Q) := by
  rw [r_79' (as := [.ref (so c), .int x0]) (st' := st) rfl]
  unfold Ca rcv
  rw [and_iff_right (rce_608 h), show ((en [.ref (so c), .int x0]).length ≤ (4 : Int).toNat ∧ st.length < 5) ↔ st.length < 5 from and_iff_right (by simp only [enL]; decide)]
theorem rce_609 {c : Nat} (h : c < 2) : rce (Hp X C M (so c)) 609 = true := match c, h with
  | 0, _ => rfl
  | 1, _ => rfl
  | c + 2, h => absurd h (by omega)
theorem h79_609 {c : Nat} (h : c < 2) {x0 : Int32} {x1 : Int32} : ExP d i (79, 609, 3, 5, t0) nx ls (.int x1 :: .int x0 :: .ref (so c) :: st) z (Hp X C M) Q ↔ st.length < 5 ∧ Cw d 609 [.ref (so c), .int x0, .int x1] z (Hp X C M) (fun v z f => Wp d i nx ls (ps v st) z f Q) := by
  rw [r_79' (as := [.ref (so c), .int x0, .int x1]) (st' := st) rfl]
  unfold Ca rcv
  rw [and_iff_right (rce_609 h), show ((en [.ref (so c), .int x0, .int x1]).length ≤ (5 : Int).toNat ∧ st.length < 5) ↔ st.length < 5 from and_iff_right (by simp only [enL]; decide)]
theorem rce_610 {c : Nat} (h : c < 2) : rce (Hp X C M (so c)) 610 = true := match c, h with
  | 0, _ => rfl
  | 1, _ => rfl
  | c + 2, h => absurd h (by omega)
theorem h79_610 {c : Nat} (h : c < 2) {x0 : Int32} {x1 : Int32} : ExP d i (79, 610, 3, 3, t0) nx ls (.int x1 :: .int x0 :: .ref (so c) :: st) z (Hp X C M) Q ↔ st.length < 5 ∧ Cw d 610 [.ref (so c), .int x0, .int x1] z (Hp X C M) (fun v z f => Wp d i nx ls (ps v st) z f Q) := by
  rw [r_79' (as := [.ref (so c), .int x0, .int x1]) (st' := st) rfl]
  unfold Ca rcv
  rw [and_iff_right (rce_610 h), show ((en [.ref (so c), .int x0, .int x1]).length ≤ (3 : Int).toNat ∧ st.length < 5) ↔ st.length < 5 from and_iff_right (by simp only [enL]; decide)]
theorem h79_701 {x0 : Int32} : ExP d i (79, 701, 2, 2, t0) nx ls (.int x0 :: .ref 19 :: st) z (Hp X C M) Q ↔ st.length < 5 ∧ Cw d 701 [.ref 19, .int x0] z (Hp X C M) (fun v z f => Wp d i nx ls (ps v st) z f Q) := by
  rw [r_79' (as := [.ref 19, .int x0]) (st' := st) rfl]
  unfold Ca rcv
  rw [and_iff_right (show rce (Hp X C M 19) 701 = true from rfl), show ((en [.ref 19, .int x0]).length ≤ (2 : Int).toNat ∧ st.length < 5) ↔ st.length < 5 from and_iff_right (by simp only [enL]; decide)]
theorem h79_702 {x0 : Nat} {x1 : Nat} {x2 : Int32} : ExP d i (79, 702, 4, 5, t0) nx ls (.int x2 :: .ref x1 :: .ref x0 :: .ref 19 :: st) z (Hp X C M) Q ↔ st.length < 5 ∧ Cw d 702 [.ref 19, .ref x0, .ref x1, .int x2] z (Hp X C M) (fun v z f => Wp d i nx ls (ps v st) z f Q) := by
  rw [r_79' (as := [.ref 19, .ref x0, .ref x1, .int x2]) (st' := st) rfl]
  unfold Ca rcv
  rw [and_iff_right (show rce (Hp X C M 19) 702 = true from rfl), show ((en [.ref 19, .ref x0, .ref x1, .int x2]).length ≤ (5 : Int).toNat ∧ st.length < 5) ↔ st.length < 5 from and_iff_right (by simp only [enL]; decide)]
theorem h79_703 {x0 : Nat} {x1 : Int32} : ExP d i (79, 703, 3, 5, t0) nx ls (.int x1 :: .ref x0 :: .ref 19 :: st) z (Hp X C M) Q ↔ st.length < 5 ∧ Cw d 703 [.ref 19, .ref x0, .int x1] z (Hp X C M) (fun v z f => Wp d i nx ls (ps v st) z f Q) := by
  rw [r_79' (as := [.ref 19, .ref x0, .int x1]) (st' := st) rfl]
  unfold Ca rcv
  rw [and_iff_right (show rce (Hp X C M 19) 703 = true from rfl), show ((en [.ref 19, .ref x0, .int x1]).length ≤ (5 : Int).toNat ∧ st.length < 5) ↔ st.length < 5 from and_iff_right (by simp only [enL]; decide)]
theorem h79_704  : ExP d i (79, 704, 1, 4, t0) nx ls (.ref 19 :: st) z (Hp X C M) Q ↔ st.length < 5 ∧ Cw d 704 [.ref 19] z (Hp X C M) (fun v z f => Wp d i nx ls (ps v st) z f Q) := by
  rw [r_79' (as := [.ref 19]) (st' := st) rfl]
  unfold Ca rcv
  rw [and_iff_right (show rce (Hp X C M 19) 704 = true from rfl), show ((en [.ref 19]).length ≤ (4 : Int).toNat ∧ st.length < 5) ↔ st.length < 5 from and_iff_right (by simp only [enL]; decide)]
theorem rce_801 (hq : C.2.2.2.2.1 10 ≠ 0) : rce (Hp X C M 89) 801 = true := by
  have h1 : Hp X C M 89 = oB 8 [.int (C.1 23), .ref 90, .ref (tor (C.2.2.2.2.1 8)), .ref (tor (C.2.2.2.2.1 9))] := if_neg hq
  rw [h1]; rfl
theorem h79_801 (hq : C.2.2.2.2.1 10 ≠ 0) {x0 : Nat} {x1 : Int32} : ExP d i (79, 801, 3, 6, t0) nx ls (.int x1 :: .ref x0 :: .ref 89 :: st) z (Hp X C M) Q ↔ st.length < 5 ∧ Cw d 801 [.ref 89, .ref x0, .int x1] z (Hp X C M) (fun v z f => Wp d i nx ls (ps v st) z f Q) := by
  rw [r_79' (as := [.ref 89, .ref x0, .int x1]) (st' := st) rfl]
  unfold Ca rcv
  rw [and_iff_right (rce_801 hq), show ((en [.ref 89, .ref x0, .int x1]).length ≤ (6 : Int).toNat ∧ st.length < 5) ↔ st.length < 5 from and_iff_right (by simp only [enL]; decide)]
theorem rce_802 (hq : C.2.2.2.2.1 10 ≠ 0) : rce (Hp X C M 89) 802 = true := by
  have h1 : Hp X C M 89 = oB 8 [.int (C.1 23), .ref 90, .ref (tor (C.2.2.2.2.1 8)), .ref (tor (C.2.2.2.2.1 9))] := if_neg hq
  rw [h1]; rfl
theorem h79_802 (hq : C.2.2.2.2.1 10 ≠ 0) {x0 : Nat} {x1 : Int32} : ExP d i (79, 802, 3, 5, t0) nx ls (.int x1 :: .ref x0 :: .ref 89 :: st) z (Hp X C M) Q ↔ st.length < 5 ∧ Cw d 802 [.ref 89, .ref x0, .int x1] z (Hp X C M) (fun v z f => Wp d i nx ls (ps v st) z f Q) := by
  rw [r_79' (as := [.ref 89, .ref x0, .int x1]) (st' := st) rfl]
  unfold Ca rcv
  rw [and_iff_right (rce_802 hq), show ((en [.ref 89, .ref x0, .int x1]).length ≤ (5 : Int).toNat ∧ st.length < 5) ↔ st.length < 5 from and_iff_right (by simp only [enL]; decide)]
theorem rce_803 (hq : C.2.2.2.2.1 10 ≠ 0) : rce (Hp X C M 89) 803 = true := by
  have h1 : Hp X C M 89 = oB 8 [.int (C.1 23), .ref 90, .ref (tor (C.2.2.2.2.1 8)), .ref (tor (C.2.2.2.2.1 9))] := if_neg hq
  rw [h1]; rfl
theorem h79_803 (hq : C.2.2.2.2.1 10 ≠ 0) {x0 : Nat} {x1 : Int32} : ExP d i (79, 803, 3, 7, t0) nx ls (.int x1 :: .ref x0 :: .ref 89 :: st) z (Hp X C M) Q ↔ st.length < 5 ∧ Cw d 803 [.ref 89, .ref x0, .int x1] z (Hp X C M) (fun v z f => Wp d i nx ls (ps v st) z f Q) := by
  rw [r_79' (as := [.ref 89, .ref x0, .int x1]) (st' := st) rfl]
  unfold Ca rcv
  rw [and_iff_right (rce_803 hq), show ((en [.ref 89, .ref x0, .int x1]).length ≤ (7 : Int).toNat ∧ st.length < 5) ↔ st.length < 5 from and_iff_right (by simp only [enL]; decide)]
theorem h79_901 {x0 : Int32} {x1 : Int32} : ExP d i (79, 901, 3, 3, t0) nx ls (.int x1 :: .int x0 :: .ref 0 :: st) z (Hp X C M) Q ↔ st.length < 5 ∧ Cw d 901 [.ref 0, .int x0, .int x1] z (Hp X C M) (fun v z f => Wp d i nx ls (ps v st) z f Q) := by
  rw [r_79' (as := [.ref 0, .int x0, .int x1]) (st' := st) rfl]
  unfold Ca rcv
  rw [and_iff_right (show rce (Hp X C M 0) 901 = true from rfl), show ((en [.ref 0, .int x0, .int x1]).length ≤ (3 : Int).toNat ∧ st.length < 5) ↔ st.length < 5 from and_iff_right (by simp only [enL]; decide)]
theorem h79_902 {x0 : Int32} {x1 : Int32} {x2 : Int32} : ExP d i (79, 902, 4, 6, t0) nx ls (.int x2 :: .int x1 :: .int x0 :: .ref 0 :: st) z (Hp X C M) Q ↔ st.length < 5 ∧ Cw d 902 [.ref 0, .int x0, .int x1, .int x2] z (Hp X C M) (fun v z f => Wp d i nx ls (ps v st) z f Q) := by
  rw [r_79' (as := [.ref 0, .int x0, .int x1, .int x2]) (st' := st) rfl]
  unfold Ca rcv
  rw [and_iff_right (show rce (Hp X C M 0) 902 = true from rfl), show ((en [.ref 0, .int x0, .int x1, .int x2]).length ≤ (6 : Int).toNat ∧ st.length < 5) ↔ st.length < 5 from and_iff_right (by simp only [enL]; decide)]
theorem h79_903 {x0 : Int32} {x1 : Int32} : ExP d i (79, 903, 3, 4, t0) nx ls (.int x1 :: .int x0 :: .ref 0 :: st) z (Hp X C M) Q ↔ st.length < 5 ∧ Cw d 903 [.ref 0, .int x0, .int x1] z (Hp X C M) (fun v z f => Wp d i nx ls (ps v st) z f Q) := by
  rw [r_79' (as := [.ref 0, .int x0, .int x1]) (st' := st) rfl]
  unfold Ca rcv
  rw [and_iff_right (show rce (Hp X C M 0) 903 = true from rfl), show ((en [.ref 0, .int x0, .int x1]).length ≤ (4 : Int).toNat ∧ st.length < 5) ↔ st.length < 5 from and_iff_right (by simp only [enL]; decide)]
theorem h79_904 {x0 : Int32} : ExP d i (79, 904, 2, 2, t0) nx ls (.int x0 :: .ref 0 :: st) z (Hp X C M) Q ↔ st.length < 5 ∧ Cw d 904 [.ref 0, .int x0] z (Hp X C M) (fun v z f => Wp d i nx ls (ps v st) z f Q) := by
  rw [r_79' (as := [.ref 0, .int x0]) (st' := st) rfl]
  unfold Ca rcv
  rw [and_iff_right (show rce (Hp X C M 0) 904 = true from rfl), show ((en [.ref 0, .int x0]).length ≤ (2 : Int).toNat ∧ st.length < 5) ↔ st.length < 5 from and_iff_right (by simp only [enL]; decide)]
theorem h79_905 {x0 : Int32} {x1 : Int32} {x2 : Int32} {x3 : Int32} {x4 : Int32} : ExP d i (79, 905, 6, 6, t0) nx ls (.int x4 :: .int x3 :: .int x2 :: .int x1 :: .int x0 :: .ref 0 :: st) z (Hp X C M) Q ↔ st.length < 5 ∧ Cw d 905 [.ref 0, .int x0, .int x1, .int x2, .int x3, .int x4] z (Hp X C M) (fun v z f => Wp d i nx ls (ps v st) z f Q) := by
  rw [r_79' (as := [.ref 0, .int x0, .int x1, .int x2, .int x3, .int x4]) (st' := st) rfl]
  unfold Ca rcv
  rw [and_iff_right (show rce (Hp X C M 0) 905 = true from rfl), show ((en [.ref 0, .int x0, .int x1, .int x2, .int x3, .int x4]).length ≤ (6 : Int).toNat ∧ st.length < 5) ↔ st.length < 5 from and_iff_right (by simp only [enL]; decide)]
theorem h79_906 {x0 : Int32} : ExP d i (79, 906, 2, 3, t0) nx ls (.int x0 :: .ref 0 :: st) z (Hp X C M) Q ↔ st.length < 5 ∧ Cw d 906 [.ref 0, .int x0] z (Hp X C M) (fun v z f => Wp d i nx ls (ps v st) z f Q) := by
  rw [r_79' (as := [.ref 0, .int x0]) (st' := st) rfl]
  unfold Ca rcv
  rw [and_iff_right (show rce (Hp X C M 0) 906 = true from rfl), show ((en [.ref 0, .int x0]).length ≤ (3 : Int).toNat ∧ st.length < 5) ↔ st.length < 5 from and_iff_right (by simp only [enL]; decide)]
theorem h79_907 {x0 : Int32} {x1 : Int32} : ExP d i (79, 907, 3, 3, t0) nx ls (.int x1 :: .int x0 :: .ref 0 :: st) z (Hp X C M) Q ↔ st.length < 5 ∧ Cw d 907 [.ref 0, .int x0, .int x1] z (Hp X C M) (fun v z f => Wp d i nx ls (ps v st) z f Q) := by
  rw [r_79' (as := [.ref 0, .int x0, .int x1]) (st' := st) rfl]
  unfold Ca rcv
  rw [and_iff_right (show rce (Hp X C M 0) 907 = true from rfl), show ((en [.ref 0, .int x0, .int x1]).length ≤ (3 : Int).toNat ∧ st.length < 5) ↔ st.length < 5 from and_iff_right (by simp only [enL]; decide)]
theorem h79_908 {x0 : Int32} {x1 : Int32} {x2 : Int32} : ExP d i (79, 908, 4, 6, t0) nx ls (.int x2 :: .int x1 :: .int x0 :: .ref 0 :: st) z (Hp X C M) Q ↔ st.length < 5 ∧ Cw d 908 [.ref 0, .int x0, .int x1, .int x2] z (Hp X C M) (fun v z f => Wp d i nx ls (ps v st) z f Q) := by
  rw [r_79' (as := [.ref 0, .int x0, .int x1, .int x2]) (st' := st) rfl]
  unfold Ca rcv
  rw [and_iff_right (show rce (Hp X C M 0) 908 = true from rfl), show ((en [.ref 0, .int x0, .int x1, .int x2]).length ≤ (6 : Int).toNat ∧ st.length < 5) ↔ st.length < 5 from and_iff_right (by simp only [enL]; decide)]
theorem h79_909 {x0 : Int32} : ExP d i (79, 909, 2, 2, t0) nx ls (.int x0 :: .ref 0 :: st) z (Hp X C M) Q ↔ st.length < 5 ∧ Cw d 909 [.ref 0, .int x0] z (Hp X C M) (fun v z f => Wp d i nx ls (ps v st) z f Q) := by
  rw [r_79' (as := [.ref 0, .int x0]) (st' := st) rfl]
  unfold Ca rcv
  rw [and_iff_right (show rce (Hp X C M 0) 909 = true from rfl), show ((en [.ref 0, .int x0]).length ≤ (2 : Int).toNat ∧ st.length < 5) ↔ st.length < 5 from and_iff_right (by simp only [enL]; decide)]
theorem h79_910 {x0 : Int32} : ExP d i (79, 910, 2, 3, t0) nx ls (.int x0 :: .ref 0 :: st) z (Hp X C M) Q ↔ st.length < 5 ∧ Cw d 910 [.ref 0, .int x0] z (Hp X C M) (fun v z f => Wp d i nx ls (ps v st) z f Q) := by
  rw [r_79' (as := [.ref 0, .int x0]) (st' := st) rfl]
  unfold Ca rcv
  rw [and_iff_right (show rce (Hp X C M 0) 910 = true from rfl), show ((en [.ref 0, .int x0]).length ≤ (3 : Int).toNat ∧ st.length < 5) ↔ st.length < 5 from and_iff_right (by simp only [enL]; decide)]
theorem h79_911 {x0 : Int32} {x1 : Int32} : ExP d i (79, 911, 3, 3, t0) nx ls (.int x1 :: .int x0 :: .ref 0 :: st) z (Hp X C M) Q ↔ st.length < 5 ∧ Cw d 911 [.ref 0, .int x0, .int x1] z (Hp X C M) (fun v z f => Wp d i nx ls (ps v st) z f Q) := by
  rw [r_79' (as := [.ref 0, .int x0, .int x1]) (st' := st) rfl]
  unfold Ca rcv
  rw [and_iff_right (show rce (Hp X C M 0) 911 = true from rfl), show ((en [.ref 0, .int x0, .int x1]).length ≤ (3 : Int).toNat ∧ st.length < 5) ↔ st.length < 5 from and_iff_right (by simp only [enL]; decide)]
theorem h79_912 {x0 : Int32} {x1 : Int32} : ExP d i (79, 912, 3, 3, t0) nx ls (.int x1 :: .int x0 :: .ref 0 :: st) z (Hp X C M) Q ↔ st.length < 5 ∧ Cw d 912 [.ref 0, .int x0, .int x1] z (Hp X C M) (fun v z f => Wp d i nx ls (ps v st) z f Q) := by
  rw [r_79' (as := [.ref 0, .int x0, .int x1]) (st' := st) rfl]
  unfold Ca rcv
  rw [and_iff_right (show rce (Hp X C M 0) 912 = true from rfl), show ((en [.ref 0, .int x0, .int x1]).length ≤ (3 : Int).toNat ∧ st.length < 5) ↔ st.length < 5 from and_iff_right (by simp only [enL]; decide)]
theorem h79_913 {x0 : Int32} : ExP d i (79, 913, 2, 3, t0) nx ls (.int x0 :: .ref 0 :: st) z (Hp X C M) Q ↔ st.length < 5 ∧ Cw d 913 [.ref 0, .int x0] z (Hp X C M) (fun v z f => Wp d i nx ls (ps v st) z f Q) := by
  rw [r_79' (as := [.ref 0, .int x0]) (st' := st) rfl]
  unfold Ca rcv
  rw [and_iff_right (show rce (Hp X C M 0) 913 = true from rfl), show ((en [.ref 0, .int x0]).length ≤ (3 : Int).toNat ∧ st.length < 5) ↔ st.length < 5 from and_iff_right (by simp only [enL]; decide)]
theorem h79_914 {x0 : Int32} : ExP d i (79, 914, 2, 2, t0) nx ls (.int x0 :: .ref 0 :: st) z (Hp X C M) Q ↔ st.length < 5 ∧ Cw d 914 [.ref 0, .int x0] z (Hp X C M) (fun v z f => Wp d i nx ls (ps v st) z f Q) := by
  rw [r_79' (as := [.ref 0, .int x0]) (st' := st) rfl]
  unfold Ca rcv
  rw [and_iff_right (show rce (Hp X C M 0) 914 = true from rfl), show ((en [.ref 0, .int x0]).length ≤ (2 : Int).toNat ∧ st.length < 5) ↔ st.length < 5 from and_iff_right (by simp only [enL]; decide)]
theorem h79_915 {x0 : Int32} : ExP d i (79, 915, 2, 2, t0) nx ls (.int x0 :: .ref 0 :: st) z (Hp X C M) Q ↔ st.length < 5 ∧ Cw d 915 [.ref 0, .int x0] z (Hp X C M) (fun v z f => Wp d i nx ls (ps v st) z f Q) := by
  rw [r_79' (as := [.ref 0, .int x0]) (st' := st) rfl]
  unfold Ca rcv
  rw [and_iff_right (show rce (Hp X C M 0) 915 = true from rfl), show ((en [.ref 0, .int x0]).length ≤ (2 : Int).toNat ∧ st.length < 5) ↔ st.length < 5 from and_iff_right (by simp only [enL]; decide)]
theorem h79_916 {x0 : Int32} : ExP d i (79, 916, 2, 3, t0) nx ls (.int x0 :: .ref 0 :: st) z (Hp X C M) Q ↔ st.length < 5 ∧ Cw d 916 [.ref 0, .int x0] z (Hp X C M) (fun v z f => Wp d i nx ls (ps v st) z f Q) := by
  rw [r_79' (as := [.ref 0, .int x0]) (st' := st) rfl]
  unfold Ca rcv
  rw [and_iff_right (show rce (Hp X C M 0) 916 = true from rfl), show ((en [.ref 0, .int x0]).length ≤ (3 : Int).toNat ∧ st.length < 5) ↔ st.length < 5 from and_iff_right (by simp only [enL]; decide)]
theorem h79_917  : ExP d i (79, 917, 1, 1, t0) nx ls (.ref 0 :: st) z (Hp X C M) Q ↔ st.length < 5 ∧ Cw d 917 [.ref 0] z (Hp X C M) (fun v z f => Wp d i nx ls (ps v st) z f Q) := by
  rw [r_79' (as := [.ref 0]) (st' := st) rfl]
  unfold Ca rcv
  rw [and_iff_right (show rce (Hp X C M 0) 917 = true from rfl), show ((en [.ref 0]).length ≤ (1 : Int).toNat ∧ st.length < 5) ↔ st.length < 5 from and_iff_right (by simp only [enL]; decide)]
theorem h79_918 {x0 : Int32} : ExP d i (79, 918, 2, 2, t0) nx ls (.int x0 :: .ref 0 :: st) z (Hp X C M) Q ↔ st.length < 5 ∧ Cw d 918 [.ref 0, .int x0] z (Hp X C M) (fun v z f => Wp d i nx ls (ps v st) z f Q) := by
  rw [r_79' (as := [.ref 0, .int x0]) (st' := st) rfl]
  unfold Ca rcv
  rw [and_iff_right (show rce (Hp X C M 0) 918 = true from rfl), show ((en [.ref 0, .int x0]).length ≤ (2 : Int).toNat ∧ st.length < 5) ↔ st.length < 5 from and_iff_right (by simp only [enL]; decide)]
theorem h79_919 {x0 : Int32} : ExP d i (79, 919, 2, 3, t0) nx ls (.int x0 :: .ref 0 :: st) z (Hp X C M) Q ↔ st.length < 5 ∧ Cw d 919 [.ref 0, .int x0] z (Hp X C M) (fun v z f => Wp d i nx ls (ps v st) z f Q) := by
  rw [r_79' (as := [.ref 0, .int x0]) (st' := st) rfl]
  unfold Ca rcv
  rw [and_iff_right (show rce (Hp X C M 0) 919 = true from rfl), show ((en [.ref 0, .int x0]).length ≤ (3 : Int).toNat ∧ st.length < 5) ↔ st.length < 5 from and_iff_right (by simp only [enL]; decide)]
theorem h79_920 {x0 : Int32} : ExP d i (79, 920, 2, 2, t0) nx ls (.int x0 :: .ref 0 :: st) z (Hp X C M) Q ↔ st.length < 5 ∧ Cw d 920 [.ref 0, .int x0] z (Hp X C M) (fun v z f => Wp d i nx ls (ps v st) z f Q) := by
  rw [r_79' (as := [.ref 0, .int x0]) (st' := st) rfl]
  unfold Ca rcv
  rw [and_iff_right (show rce (Hp X C M 0) 920 = true from rfl), show ((en [.ref 0, .int x0]).length ≤ (2 : Int).toNat ∧ st.length < 5) ↔ st.length < 5 from and_iff_right (by simp only [enL]; decide)]
theorem h79_921 {x0 : Int32} : ExP d i (79, 921, 2, 2, t0) nx ls (.int x0 :: .ref 0 :: st) z (Hp X C M) Q ↔ st.length < 5 ∧ Cw d 921 [.ref 0, .int x0] z (Hp X C M) (fun v z f => Wp d i nx ls (ps v st) z f Q) := by
  rw [r_79' (as := [.ref 0, .int x0]) (st' := st) rfl]
  unfold Ca rcv
  rw [and_iff_right (show rce (Hp X C M 0) 921 = true from rfl), show ((en [.ref 0, .int x0]).length ≤ (2 : Int).toNat ∧ st.length < 5) ↔ st.length < 5 from and_iff_right (by simp only [enL]; decide)]
theorem h79_922 {x0 : Int32} : ExP d i (79, 922, 2, 2, t0) nx ls (.int x0 :: .ref 0 :: st) z (Hp X C M) Q ↔ st.length < 5 ∧ Cw d 922 [.ref 0, .int x0] z (Hp X C M) (fun v z f => Wp d i nx ls (ps v st) z f Q) := by
  rw [r_79' (as := [.ref 0, .int x0]) (st' := st) rfl]
  unfold Ca rcv
  rw [and_iff_right (show rce (Hp X C M 0) 922 = true from rfl), show ((en [.ref 0, .int x0]).length ≤ (2 : Int).toNat ∧ st.length < 5) ↔ st.length < 5 from and_iff_right (by simp only [enL]; decide)]
theorem h79_923 {x0 : Int32} {x1 : Int32} {x2 : Int32} : ExP d i (79, 923, 4, 9, t0) nx ls (.int x2 :: .int x1 :: .int x0 :: .ref 0 :: st) z (Hp X C M) Q ↔ st.length < 5 ∧ Cw d 923 [.ref 0, .int x0, .int x1, .int x2] z (Hp X C M) (fun v z f => Wp d i nx ls (ps v st) z f Q) := by
  rw [r_79' (as := [.ref 0, .int x0, .int x1, .int x2]) (st' := st) rfl]
  unfold Ca rcv
  rw [and_iff_right (show rce (Hp X C M 0) 923 = true from rfl), show ((en [.ref 0, .int x0, .int x1, .int x2]).length ≤ (9 : Int).toNat ∧ st.length < 5) ↔ st.length < 5 from and_iff_right (by simp only [enL]; decide)]
theorem h79_924 {x0 : Int32} {x1 : Int32} : ExP d i (79, 924, 3, 5, t0) nx ls (.int x1 :: .int x0 :: .ref 0 :: st) z (Hp X C M) Q ↔ st.length < 5 ∧ Cw d 924 [.ref 0, .int x0, .int x1] z (Hp X C M) (fun v z f => Wp d i nx ls (ps v st) z f Q) := by
  rw [r_79' (as := [.ref 0, .int x0, .int x1]) (st' := st) rfl]
  unfold Ca rcv
  rw [and_iff_right (show rce (Hp X C M 0) 924 = true from rfl), show ((en [.ref 0, .int x0, .int x1]).length ≤ (5 : Int).toNat ∧ st.length < 5) ↔ st.length < 5 from and_iff_right (by simp only [enL]; decide)]
theorem h79_925 {x0 : Int32} {x1 : Int32} : ExP d i (79, 925, 3, 4, t0) nx ls (.int x1 :: .int x0 :: .ref 0 :: st) z (Hp X C M) Q ↔ st.length < 5 ∧ Cw d 925 [.ref 0, .int x0, .int x1] z (Hp X C M) (fun v z f => Wp d i nx ls (ps v st) z f Q) := by
  rw [r_79' (as := [.ref 0, .int x0, .int x1]) (st' := st) rfl]
  unfold Ca rcv
  rw [and_iff_right (show rce (Hp X C M 0) 925 = true from rfl), show ((en [.ref 0, .int x0, .int x1]).length ≤ (4 : Int).toNat ∧ st.length < 5) ↔ st.length < 5 from and_iff_right (by simp only [enL]; decide)]
theorem h79_926 {x0 : Int32} {x1 : Int32} {x2 : Int32} : ExP d i (79, 926, 4, 9, t0) nx ls (.int x2 :: .int x1 :: .int x0 :: .ref 0 :: st) z (Hp X C M) Q ↔ st.length < 5 ∧ Cw d 926 [.ref 0, .int x0, .int x1, .int x2] z (Hp X C M) (fun v z f => Wp d i nx ls (ps v st) z f Q) := by
  rw [r_79' (as := [.ref 0, .int x0, .int x1, .int x2]) (st' := st) rfl]
  unfold Ca rcv
  rw [and_iff_right (show rce (Hp X C M 0) 926 = true from rfl), show ((en [.ref 0, .int x0, .int x1, .int x2]).length ≤ (9 : Int).toNat ∧ st.length < 5) ↔ st.length < 5 from and_iff_right (by simp only [enL]; decide)]
theorem h79_927 {x0 : Int32} : ExP d i (79, 927, 2, 3, t0) nx ls (.int x0 :: .ref 0 :: st) z (Hp X C M) Q ↔ st.length < 5 ∧ Cw d 927 [.ref 0, .int x0] z (Hp X C M) (fun v z f => Wp d i nx ls (ps v st) z f Q) := by
  rw [r_79' (as := [.ref 0, .int x0]) (st' := st) rfl]
  unfold Ca rcv
  rw [and_iff_right (show rce (Hp X C M 0) 927 = true from rfl), show ((en [.ref 0, .int x0]).length ≤ (3 : Int).toNat ∧ st.length < 5) ↔ st.length < 5 from and_iff_right (by simp only [enL]; decide)]
theorem h79_928 {x0 : Int32} {x1 : Int32} : ExP d i (79, 928, 3, 5, t0) nx ls (.int x1 :: .int x0 :: .ref 0 :: st) z (Hp X C M) Q ↔ st.length < 5 ∧ Cw d 928 [.ref 0, .int x0, .int x1] z (Hp X C M) (fun v z f => Wp d i nx ls (ps v st) z f Q) := by
  rw [r_79' (as := [.ref 0, .int x0, .int x1]) (st' := st) rfl]
  unfold Ca rcv
  rw [and_iff_right (show rce (Hp X C M 0) 928 = true from rfl), show ((en [.ref 0, .int x0, .int x1]).length ≤ (5 : Int).toNat ∧ st.length < 5) ↔ st.length < 5 from and_iff_right (by simp only [enL]; decide)]
theorem h79_929 {x0 : Int32} : ExP d i (79, 929, 2, 8, t0) nx ls (.int x0 :: .ref 0 :: st) z (Hp X C M) Q ↔ st.length < 5 ∧ Cw d 929 [.ref 0, .int x0] z (Hp X C M) (fun v z f => Wp d i nx ls (ps v st) z f Q) := by
  rw [r_79' (as := [.ref 0, .int x0]) (st' := st) rfl]
  unfold Ca rcv
  rw [and_iff_right (show rce (Hp X C M 0) 929 = true from rfl), show ((en [.ref 0, .int x0]).length ≤ (8 : Int).toNat ∧ st.length < 5) ↔ st.length < 5 from and_iff_right (by simp only [enL]; decide)]
theorem h79_930 {x0 : Int32} {x1 : Int32} : ExP d i (79, 930, 3, 4, t0) nx ls (.int x1 :: .int x0 :: .ref 0 :: st) z (Hp X C M) Q ↔ st.length < 5 ∧ Cw d 930 [.ref 0, .int x0, .int x1] z (Hp X C M) (fun v z f => Wp d i nx ls (ps v st) z f Q) := by
  rw [r_79' (as := [.ref 0, .int x0, .int x1]) (st' := st) rfl]
  unfold Ca rcv
  rw [and_iff_right (show rce (Hp X C M 0) 930 = true from rfl), show ((en [.ref 0, .int x0, .int x1]).length ≤ (4 : Int).toNat ∧ st.length < 5) ↔ st.length < 5 from and_iff_right (by simp only [enL]; decide)]
theorem h79_931  : ExP d i (79, 931, 1, 4, t0) nx ls (.ref 0 :: st) z (Hp X C M) Q ↔ st.length < 5 ∧ Cw d 931 [.ref 0] z (Hp X C M) (fun v z f => Wp d i nx ls (ps v st) z f Q) := by
  rw [r_79' (as := [.ref 0]) (st' := st) rfl]
  unfold Ca rcv
  rw [and_iff_right (show rce (Hp X C M 0) 931 = true from rfl), show ((en [.ref 0]).length ≤ (4 : Int).toNat ∧ st.length < 5) ↔ st.length < 5 from and_iff_right (by simp only [enL]; decide)]
theorem h79_932 {x0 : Int32} : ExP d i (79, 932, 2, 7, t0) nx ls (.int x0 :: .ref 0 :: st) z (Hp X C M) Q ↔ st.length < 5 ∧ Cw d 932 [.ref 0, .int x0] z (Hp X C M) (fun v z f => Wp d i nx ls (ps v st) z f Q) := by
  rw [r_79' (as := [.ref 0, .int x0]) (st' := st) rfl]
  unfold Ca rcv
  rw [and_iff_right (show rce (Hp X C M 0) 932 = true from rfl), show ((en [.ref 0, .int x0]).length ≤ (7 : Int).toNat ∧ st.length < 5) ↔ st.length < 5 from and_iff_right (by simp only [enL]; decide)]
theorem h79_933 {x0 : Int32} : ExP d i (79, 933, 2, 9, t0) nx ls (.int x0 :: .ref 0 :: st) z (Hp X C M) Q ↔ st.length < 5 ∧ Cw d 933 [.ref 0, .int x0] z (Hp X C M) (fun v z f => Wp d i nx ls (ps v st) z f Q) := by
  rw [r_79' (as := [.ref 0, .int x0]) (st' := st) rfl]
  unfold Ca rcv
  rw [and_iff_right (show rce (Hp X C M 0) 933 = true from rfl), show ((en [.ref 0, .int x0]).length ≤ (9 : Int).toNat ∧ st.length < 5) ↔ st.length < 5 from and_iff_right (by simp only [enL]; decide)]
theorem h79_934 {x0 : Int32} {x1 : Int32} : ExP d i (79, 934, 3, 3, t0) nx ls (.int x1 :: .int x0 :: .ref 0 :: st) z (Hp X C M) Q ↔ st.length < 5 ∧ Cw d 934 [.ref 0, .int x0, .int x1] z (Hp X C M) (fun v z f => Wp d i nx ls (ps v st) z f Q) := by
  rw [r_79' (as := [.ref 0, .int x0, .int x1]) (st' := st) rfl]
  unfold Ca rcv
  rw [and_iff_right (show rce (Hp X C M 0) 934 = true from rfl), show ((en [.ref 0, .int x0, .int x1]).length ≤ (3 : Int).toNat ∧ st.length < 5) ↔ st.length < 5 from and_iff_right (by simp only [enL]; decide)]
theorem h79_935 {x0 : Int32} {x1 : Int32} : ExP d i (79, 935, 3, 4, t0) nx ls (.int x1 :: .int x0 :: .ref 0 :: st) z (Hp X C M) Q ↔ st.length < 5 ∧ Cw d 935 [.ref 0, .int x0, .int x1] z (Hp X C M) (fun v z f => Wp d i nx ls (ps v st) z f Q) := by
  rw [r_79' (as := [.ref 0, .int x0, .int x1]) (st' := st) rfl]
  unfold Ca rcv
  rw [and_iff_right (show rce (Hp X C M 0) 935 = true from rfl), show ((en [.ref 0, .int x0, .int x1]).length ≤ (4 : Int).toNat ∧ st.length < 5) ↔ st.length < 5 from and_iff_right (by simp only [enL]; decide)]
theorem h79_936 {x0 : Int32} : ExP d i (79, 936, 2, 3, t0) nx ls (.int x0 :: .ref 0 :: st) z (Hp X C M) Q ↔ st.length < 5 ∧ Cw d 936 [.ref 0, .int x0] z (Hp X C M) (fun v z f => Wp d i nx ls (ps v st) z f Q) := by
  rw [r_79' (as := [.ref 0, .int x0]) (st' := st) rfl]
  unfold Ca rcv
  rw [and_iff_right (show rce (Hp X C M 0) 936 = true from rfl), show ((en [.ref 0, .int x0]).length ≤ (3 : Int).toNat ∧ st.length < 5) ↔ st.length < 5 from and_iff_right (by simp only [enL]; decide)]
theorem h79_937 {x0 : Int32} : ExP d i (79, 937, 2, 3, t0) nx ls (.int x0 :: .ref 0 :: st) z (Hp X C M) Q ↔ st.length < 5 ∧ Cw d 937 [.ref 0, .int x0] z (Hp X C M) (fun v z f => Wp d i nx ls (ps v st) z f Q) := by
  rw [r_79' (as := [.ref 0, .int x0]) (st' := st) rfl]
  unfold Ca rcv
  rw [and_iff_right (show rce (Hp X C M 0) 937 = true from rfl), show ((en [.ref 0, .int x0]).length ≤ (3 : Int).toNat ∧ st.length < 5) ↔ st.length < 5 from and_iff_right (by simp only [enL]; decide)]
theorem h79_938 {x0 : Int32} : ExP d i (79, 938, 2, 2, t0) nx ls (.int x0 :: .ref 0 :: st) z (Hp X C M) Q ↔ st.length < 5 ∧ Cw d 938 [.ref 0, .int x0] z (Hp X C M) (fun v z f => Wp d i nx ls (ps v st) z f Q) := by
  rw [r_79' (as := [.ref 0, .int x0]) (st' := st) rfl]
  unfold Ca rcv
  rw [and_iff_right (show rce (Hp X C M 0) 938 = true from rfl), show ((en [.ref 0, .int x0]).length ≤ (2 : Int).toNat ∧ st.length < 5) ↔ st.length < 5 from and_iff_right (by simp only [enL]; decide)]
theorem h79_939  : ExP d i (79, 939, 1, 5, t0) nx ls (.ref 0 :: st) z (Hp X C M) Q ↔ st.length < 5 ∧ Cw d 939 [.ref 0] z (Hp X C M) (fun v z f => Wp d i nx ls (ps v st) z f Q) := by
  rw [r_79' (as := [.ref 0]) (st' := st) rfl]
  unfold Ca rcv
  rw [and_iff_right (show rce (Hp X C M 0) 939 = true from rfl), show ((en [.ref 0]).length ≤ (5 : Int).toNat ∧ st.length < 5) ↔ st.length < 5 from and_iff_right (by simp only [enL]; decide)]
theorem h79_940 {x0 : Int32} {x1 : Int32} : ExP d i (79, 940, 3, 10, t0) nx ls (.int x1 :: .int x0 :: .ref 0 :: st) z (Hp X C M) Q ↔ st.length < 5 ∧ Cw d 940 [.ref 0, .int x0, .int x1] z (Hp X C M) (fun v z f => Wp d i nx ls (ps v st) z f Q) := by
  rw [r_79' (as := [.ref 0, .int x0, .int x1]) (st' := st) rfl]
  unfold Ca rcv
  rw [and_iff_right (show rce (Hp X C M 0) 940 = true from rfl), show ((en [.ref 0, .int x0, .int x1]).length ≤ (10 : Int).toNat ∧ st.length < 5) ↔ st.length < 5 from and_iff_right (by simp only [enL]; decide)]
theorem h79_941  : ExP d i (79, 941, 1, 1, t0) nx ls (.ref 0 :: st) z (Hp X C M) Q ↔ st.length < 5 ∧ Cw d 941 [.ref 0] z (Hp X C M) (fun v z f => Wp d i nx ls (ps v st) z f Q) := by
  rw [r_79' (as := [.ref 0]) (st' := st) rfl]
  unfold Ca rcv
  rw [and_iff_right (show rce (Hp X C M 0) 941 = true from rfl), show ((en [.ref 0]).length ≤ (1 : Int).toNat ∧ st.length < 5) ↔ st.length < 5 from and_iff_right (by simp only [enL]; decide)]
theorem h79_942  : ExP d i (79, 942, 1, 1, t0) nx ls (.ref 0 :: st) z (Hp X C M) Q ↔ st.length < 5 ∧ Cw d 942 [.ref 0] z (Hp X C M) (fun v z f => Wp d i nx ls (ps v st) z f Q) := by
  rw [r_79' (as := [.ref 0]) (st' := st) rfl]
  unfold Ca rcv
  rw [and_iff_right (show rce (Hp X C M 0) 942 = true from rfl), show ((en [.ref 0]).length ≤ (1 : Int).toNat ∧ st.length < 5) ↔ st.length < 5 from and_iff_right (by simp only [enL]; decide)]
theorem h79_943  : ExP d i (79, 943, 1, 1, t0) nx ls (.ref 0 :: st) z (Hp X C M) Q ↔ st.length < 5 ∧ Cw d 943 [.ref 0] z (Hp X C M) (fun v z f => Wp d i nx ls (ps v st) z f Q) := by
  rw [r_79' (as := [.ref 0]) (st' := st) rfl]
  unfold Ca rcv
  rw [and_iff_right (show rce (Hp X C M 0) 943 = true from rfl), show ((en [.ref 0]).length ≤ (1 : Int).toNat ∧ st.length < 5) ↔ st.length < 5 from and_iff_right (by simp only [enL]; decide)]
theorem h79_944 {x0 : Int32} : ExP d i (79, 944, 2, 2, t0) nx ls (.int x0 :: .ref 0 :: st) z (Hp X C M) Q ↔ st.length < 5 ∧ Cw d 944 [.ref 0, .int x0] z (Hp X C M) (fun v z f => Wp d i nx ls (ps v st) z f Q) := by
  rw [r_79' (as := [.ref 0, .int x0]) (st' := st) rfl]
  unfold Ca rcv
  rw [and_iff_right (show rce (Hp X C M 0) 944 = true from rfl), show ((en [.ref 0, .int x0]).length ≤ (2 : Int).toNat ∧ st.length < 5) ↔ st.length < 5 from and_iff_right (by simp only [enL]; decide)]
theorem h79_945  : ExP d i (79, 945, 1, 1, t0) nx ls (.ref 0 :: st) z (Hp X C M) Q ↔ st.length < 5 ∧ Cw d 945 [.ref 0] z (Hp X C M) (fun v z f => Wp d i nx ls (ps v st) z f Q) := by
  rw [r_79' (as := [.ref 0]) (st' := st) rfl]
  unfold Ca rcv
  rw [and_iff_right (show rce (Hp X C M 0) 945 = true from rfl), show ((en [.ref 0]).length ≤ (1 : Int).toNat ∧ st.length < 5) ↔ st.length < 5 from and_iff_right (by simp only [enL]; decide)]
theorem h79_946 {x0 : Int32} : ExP d i (79, 946, 2, 2, t0) nx ls (.int x0 :: .ref 0 :: st) z (Hp X C M) Q ↔ st.length < 5 ∧ Cw d 946 [.ref 0, .int x0] z (Hp X C M) (fun v z f => Wp d i nx ls (ps v st) z f Q) := by
  rw [r_79' (as := [.ref 0, .int x0]) (st' := st) rfl]
  unfold Ca rcv
  rw [and_iff_right (show rce (Hp X C M 0) 946 = true from rfl), show ((en [.ref 0, .int x0]).length ≤ (2 : Int).toNat ∧ st.length < 5) ↔ st.length < 5 from and_iff_right (by simp only [enL]; decide)]
theorem h79_947  : ExP d i (79, 947, 1, 5, t0) nx ls (.ref 0 :: st) z (Hp X C M) Q ↔ st.length < 5 ∧ Cw d 947 [.ref 0] z (Hp X C M) (fun v z f => Wp d i nx ls (ps v st) z f Q) := by
  rw [r_79' (as := [.ref 0]) (st' := st) rfl]
  unfold Ca rcv
  rw [and_iff_right (show rce (Hp X C M 0) 947 = true from rfl), show ((en [.ref 0]).length ≤ (5 : Int).toNat ∧ st.length < 5) ↔ st.length < 5 from and_iff_right (by simp only [enL]; decide)]
theorem h79_951 {x0 : Int32} : ExP d i (79, 951, 2, 2, t0) nx ls (.int x0 :: .ref 0 :: st) z (Hp X C M) Q ↔ st.length < 5 ∧ Cw d 951 [.ref 0, .int x0] z (Hp X C M) (fun v z f => Wp d i nx ls (ps v st) z f Q) := by
  rw [r_79' (as := [.ref 0, .int x0]) (st' := st) rfl]
  unfold Ca rcv
  rw [and_iff_right (show rce (Hp X C M 0) 951 = true from rfl), show ((en [.ref 0, .int x0]).length ≤ (2 : Int).toNat ∧ st.length < 5) ↔ st.length < 5 from and_iff_right (by simp only [enL]; decide)]
theorem h79_952 {x0 : Int32} : ExP d i (79, 952, 2, 2, t0) nx ls (.int x0 :: .ref 0 :: st) z (Hp X C M) Q ↔ st.length < 5 ∧ Cw d 952 [.ref 0, .int x0] z (Hp X C M) (fun v z f => Wp d i nx ls (ps v st) z f Q) := by
  rw [r_79' (as := [.ref 0, .int x0]) (st' := st) rfl]
  unfold Ca rcv
  rw [and_iff_right (show rce (Hp X C M 0) 952 = true from rfl), show ((en [.ref 0, .int x0]).length ≤ (2 : Int).toNat ∧ st.length < 5) ↔ st.length < 5 from and_iff_right (by simp only [enL]; decide)]
theorem h79_953 {x0 : Int64} : ExP d i (79, 953, 2, 3, t0) nx ls (.long x0 :: .ref 0 :: st) z (Hp X C M) Q ↔ st.length < 5 ∧ Cw d 953 [.ref 0, .long x0] z (Hp X C M) (fun v z f => Wp d i nx ls (ps v st) z f Q) := by
  rw [r_79' (as := [.ref 0, .long x0]) (st' := st) rfl]
  unfold Ca rcv
  rw [and_iff_right (show rce (Hp X C M 0) 953 = true from rfl), show ((en [.ref 0, .long x0]).length ≤ (3 : Int).toNat ∧ st.length < 5) ↔ st.length < 5 from and_iff_right (by simp only [enL]; decide)]
theorem h79_954 {x0 : Nat} {x1 : Int32} : ExP d i (79, 954, 3, 3, t0) nx ls (.int x1 :: .ref x0 :: .ref 0 :: st) z (Hp X C M) Q ↔ st.length < 5 ∧ Cw d 954 [.ref 0, .ref x0, .int x1] z (Hp X C M) (fun v z f => Wp d i nx ls (ps v st) z f Q) := by
  rw [r_79' (as := [.ref 0, .ref x0, .int x1]) (st' := st) rfl]
  unfold Ca rcv
  rw [and_iff_right (show rce (Hp X C M 0) 954 = true from rfl), show ((en [.ref 0, .ref x0, .int x1]).length ≤ (3 : Int).toNat ∧ st.length < 5) ↔ st.length < 5 from and_iff_right (by simp only [enL]; decide)]
theorem h79_955 {x0 : Nat} {x1 : Int32} : ExP d i (79, 955, 3, 3, t0) nx ls (.int x1 :: .ref x0 :: .ref 0 :: st) z (Hp X C M) Q ↔ st.length < 5 ∧ Cw d 955 [.ref 0, .ref x0, .int x1] z (Hp X C M) (fun v z f => Wp d i nx ls (ps v st) z f Q) := by
  rw [r_79' (as := [.ref 0, .ref x0, .int x1]) (st' := st) rfl]
  unfold Ca rcv
  rw [and_iff_right (show rce (Hp X C M 0) 955 = true from rfl), show ((en [.ref 0, .ref x0, .int x1]).length ≤ (3 : Int).toNat ∧ st.length < 5) ↔ st.length < 5 from and_iff_right (by simp only [enL]; decide)]
theorem h79_956  : ExP d i (79, 956, 1, 1, t0) nx ls (.ref 0 :: st) z (Hp X C M) Q ↔ st.length < 5 ∧ Cw d 956 [.ref 0] z (Hp X C M) (fun v z f => Wp d i nx ls (ps v st) z f Q) := by
  rw [r_79' (as := [.ref 0]) (st' := st) rfl]
  unfold Ca rcv
  rw [and_iff_right (show rce (Hp X C M 0) 956 = true from rfl), show ((en [.ref 0]).length ≤ (1 : Int).toNat ∧ st.length < 5) ↔ st.length < 5 from and_iff_right (by simp only [enL]; decide)]
theorem h79_957 {x0 : Int32} {x1 : Int32} : ExP d i (79, 957, 3, 3, t0) nx ls (.int x1 :: .int x0 :: .ref 0 :: st) z (Hp X C M) Q ↔ st.length < 5 ∧ Cw d 957 [.ref 0, .int x0, .int x1] z (Hp X C M) (fun v z f => Wp d i nx ls (ps v st) z f Q) := by
  rw [r_79' (as := [.ref 0, .int x0, .int x1]) (st' := st) rfl]
  unfold Ca rcv
  rw [and_iff_right (show rce (Hp X C M 0) 957 = true from rfl), show ((en [.ref 0, .int x0, .int x1]).length ≤ (3 : Int).toNat ∧ st.length < 5) ↔ st.length < 5 from and_iff_right (by simp only [enL]; decide)]
theorem h79_958 {x0 : Nat} {x1 : Int32} {x2 : Int32} : ExP d i (79, 958, 4, 7, t0) nx ls (.int x2 :: .int x1 :: .ref x0 :: .ref 0 :: st) z (Hp X C M) Q ↔ st.length < 5 ∧ Cw d 958 [.ref 0, .ref x0, .int x1, .int x2] z (Hp X C M) (fun v z f => Wp d i nx ls (ps v st) z f Q) := by
  rw [r_79' (as := [.ref 0, .ref x0, .int x1, .int x2]) (st' := st) rfl]
  unfold Ca rcv
  rw [and_iff_right (show rce (Hp X C M 0) 958 = true from rfl), show ((en [.ref 0, .ref x0, .int x1, .int x2]).length ≤ (7 : Int).toNat ∧ st.length < 5) ↔ st.length < 5 from and_iff_right (by simp only [enL]; decide)]
theorem h79_959 {x0 : Int32} : ExP d i (79, 959, 2, 5, t0) nx ls (.int x0 :: .ref 0 :: st) z (Hp X C M) Q ↔ st.length < 5 ∧ Cw d 959 [.ref 0, .int x0] z (Hp X C M) (fun v z f => Wp d i nx ls (ps v st) z f Q) := by
  rw [r_79' (as := [.ref 0, .int x0]) (st' := st) rfl]
  unfold Ca rcv
  rw [and_iff_right (show rce (Hp X C M 0) 959 = true from rfl), show ((en [.ref 0, .int x0]).length ≤ (5 : Int).toNat ∧ st.length < 5) ↔ st.length < 5 from and_iff_right (by simp only [enL]; decide)]
theorem h79_960  : ExP d i (79, 960, 1, 3, t0) nx ls (.ref 0 :: st) z (Hp X C M) Q ↔ st.length < 5 ∧ Cw d 960 [.ref 0] z (Hp X C M) (fun v z f => Wp d i nx ls (ps v st) z f Q) := by
  rw [r_79' (as := [.ref 0]) (st' := st) rfl]
  unfold Ca rcv
  rw [and_iff_right (show rce (Hp X C M 0) 960 = true from rfl), show ((en [.ref 0]).length ≤ (3 : Int).toNat ∧ st.length < 5) ↔ st.length < 5 from and_iff_right (by simp only [enL]; decide)]
theorem h79_1002 {x0 : Int32} : ExP d i (79, 1002, 2, 2, t0) nx ls (.int x0 :: .ref 67 :: st) z (Hp X C M) Q ↔ st.length < 5 ∧ Cw d 1002 [.ref 67, .int x0] z (Hp X C M) (fun v z f => Wp d i nx ls (ps v st) z f Q) := by
  rw [r_79' (as := [.ref 67, .int x0]) (st' := st) rfl]
  unfold Ca rcv
  rw [and_iff_right (show rce (Hp X C M 67) 1002 = true from rfl), show ((en [.ref 67, .int x0]).length ≤ (2 : Int).toNat ∧ st.length < 5) ↔ st.length < 5 from and_iff_right (by simp only [enL]; decide)]
theorem h79_1003 {x0 : Int32} {x1 : Int32} : ExP d i (79, 1003, 3, 3, t0) nx ls (.int x1 :: .int x0 :: .ref 67 :: st) z (Hp X C M) Q ↔ st.length < 5 ∧ Cw d 1003 [.ref 67, .int x0, .int x1] z (Hp X C M) (fun v z f => Wp d i nx ls (ps v st) z f Q) := by
  rw [r_79' (as := [.ref 67, .int x0, .int x1]) (st' := st) rfl]
  unfold Ca rcv
  rw [and_iff_right (show rce (Hp X C M 67) 1003 = true from rfl), show ((en [.ref 67, .int x0, .int x1]).length ≤ (3 : Int).toNat ∧ st.length < 5) ↔ st.length < 5 from and_iff_right (by simp only [enL]; decide)]
theorem h79_1004 {x0 : Int64} {x1 : Int32} : ExP d i (79, 1004, 3, 4, t0) nx ls (.int x1 :: .long x0 :: .ref 67 :: st) z (Hp X C M) Q ↔ st.length < 5 ∧ Cw d 1004 [.ref 67, .long x0, .int x1] z (Hp X C M) (fun v z f => Wp d i nx ls (ps v st) z f Q) := by
  rw [r_79' (as := [.ref 67, .long x0, .int x1]) (st' := st) rfl]
  unfold Ca rcv
  rw [and_iff_right (show rce (Hp X C M 67) 1004 = true from rfl), show ((en [.ref 67, .long x0, .int x1]).length ≤ (4 : Int).toNat ∧ st.length < 5) ↔ st.length < 5 from and_iff_right (by simp only [enL]; decide)]
theorem h79_1009 {x0 : Int32} : ExP d i (79, 1009, 2, 2, t0) nx ls (.int x0 :: .ref 67 :: st) z (Hp X C M) Q ↔ st.length < 5 ∧ Cw d 1009 [.ref 67, .int x0] z (Hp X C M) (fun v z f => Wp d i nx ls (ps v st) z f Q) := by
  rw [r_79' (as := [.ref 67, .int x0]) (st' := st) rfl]
  unfold Ca rcv
  rw [and_iff_right (show rce (Hp X C M 67) 1009 = true from rfl), show ((en [.ref 67, .int x0]).length ≤ (2 : Int).toNat ∧ st.length < 5) ↔ st.length < 5 from and_iff_right (by simp only [enL]; decide)]
theorem h79_1010 {x0 : Int32} : ExP d i (79, 1010, 2, 2, t0) nx ls (.int x0 :: .ref 67 :: st) z (Hp X C M) Q ↔ st.length < 5 ∧ Cw d 1010 [.ref 67, .int x0] z (Hp X C M) (fun v z f => Wp d i nx ls (ps v st) z f Q) := by
  rw [r_79' (as := [.ref 67, .int x0]) (st' := st) rfl]
  unfold Ca rcv
  rw [and_iff_right (show rce (Hp X C M 67) 1010 = true from rfl), show ((en [.ref 67, .int x0]).length ≤ (2 : Int).toNat ∧ st.length < 5) ↔ st.length < 5 from and_iff_right (by simp only [enL]; decide)]
theorem h79_1011 {x0 : Int32} {x1 : Int32} : ExP d i (79, 1011, 3, 3, t0) nx ls (.int x1 :: .int x0 :: .ref 67 :: st) z (Hp X C M) Q ↔ st.length < 5 ∧ Cw d 1011 [.ref 67, .int x0, .int x1] z (Hp X C M) (fun v z f => Wp d i nx ls (ps v st) z f Q) := by
  rw [r_79' (as := [.ref 67, .int x0, .int x1]) (st' := st) rfl]
  unfold Ca rcv
  rw [and_iff_right (show rce (Hp X C M 67) 1011 = true from rfl), show ((en [.ref 67, .int x0, .int x1]).length ≤ (3 : Int).toNat ∧ st.length < 5) ↔ st.length < 5 from and_iff_right (by simp only [enL]; decide)]
theorem h79_1012 {x0 : Int32} {x1 : Int32} {x2 : Int32} : ExP d i (79, 1012, 4, 4, t0) nx ls (.int x2 :: .int x1 :: .int x0 :: .ref 67 :: st) z (Hp X C M) Q ↔ st.length < 5 ∧ Cw d 1012 [.ref 67, .int x0, .int x1, .int x2] z (Hp X C M) (fun v z f => Wp d i nx ls (ps v st) z f Q) := by
  rw [r_79' (as := [.ref 67, .int x0, .int x1, .int x2]) (st' := st) rfl]
  unfold Ca rcv
  rw [and_iff_right (show rce (Hp X C M 67) 1012 = true from rfl), show ((en [.ref 67, .int x0, .int x1, .int x2]).length ≤ (4 : Int).toNat ∧ st.length < 5) ↔ st.length < 5 from and_iff_right (by simp only [enL]; decide)]
theorem h79_1013 {x0 : Int32} {x1 : Int32} : ExP d i (79, 1013, 3, 4, t0) nx ls (.int x1 :: .int x0 :: .ref 67 :: st) z (Hp X C M) Q ↔ st.length < 5 ∧ Cw d 1013 [.ref 67, .int x0, .int x1] z (Hp X C M) (fun v z f => Wp d i nx ls (ps v st) z f Q) := by
  rw [r_79' (as := [.ref 67, .int x0, .int x1]) (st' := st) rfl]
  unfold Ca rcv
  rw [and_iff_right (show rce (Hp X C M 67) 1013 = true from rfl), show ((en [.ref 67, .int x0, .int x1]).length ≤ (4 : Int).toNat ∧ st.length < 5) ↔ st.length < 5 from and_iff_right (by simp only [enL]; decide)]
theorem h79_1014 {x0 : Int32} {x1 : Int32} : ExP d i (79, 1014, 3, 4, t0) nx ls (.int x1 :: .int x0 :: .ref 67 :: st) z (Hp X C M) Q ↔ st.length < 5 ∧ Cw d 1014 [.ref 67, .int x0, .int x1] z (Hp X C M) (fun v z f => Wp d i nx ls (ps v st) z f Q) := by
  rw [r_79' (as := [.ref 67, .int x0, .int x1]) (st' := st) rfl]
  unfold Ca rcv
  rw [and_iff_right (show rce (Hp X C M 67) 1014 = true from rfl), show ((en [.ref 67, .int x0, .int x1]).length ≤ (4 : Int).toNat ∧ st.length < 5) ↔ st.length < 5 from and_iff_right (by simp only [enL]; decide)]
theorem h79_1015 {x0 : Int32} {x1 : Int32} {x2 : Int32} : ExP d i (79, 1015, 4, 5, t0) nx ls (.int x2 :: .int x1 :: .int x0 :: .ref 67 :: st) z (Hp X C M) Q ↔ st.length < 5 ∧ Cw d 1015 [.ref 67, .int x0, .int x1, .int x2] z (Hp X C M) (fun v z f => Wp d i nx ls (ps v st) z f Q) := by
  rw [r_79' (as := [.ref 67, .int x0, .int x1, .int x2]) (st' := st) rfl]
  unfold Ca rcv
  rw [and_iff_right (show rce (Hp X C M 67) 1015 = true from rfl), show ((en [.ref 67, .int x0, .int x1, .int x2]).length ≤ (5 : Int).toNat ∧ st.length < 5) ↔ st.length < 5 from and_iff_right (by simp only [enL]; decide)]
theorem h79_1016 {x0 : Int32} : ExP d i (79, 1016, 2, 3, t0) nx ls (.int x0 :: .ref 67 :: st) z (Hp X C M) Q ↔ st.length < 5 ∧ Cw d 1016 [.ref 67, .int x0] z (Hp X C M) (fun v z f => Wp d i nx ls (ps v st) z f Q) := by
  rw [r_79' (as := [.ref 67, .int x0]) (st' := st) rfl]
  unfold Ca rcv
  rw [and_iff_right (show rce (Hp X C M 67) 1016 = true from rfl), show ((en [.ref 67, .int x0]).length ≤ (3 : Int).toNat ∧ st.length < 5) ↔ st.length < 5 from and_iff_right (by simp only [enL]; decide)]
theorem h79_1017 {x0 : Int32} {x1 : Int32} {x2 : Int32} {x3 : Int32} {x4 : Int32} : ExP d i (79, 1017, 6, 7, t0) nx ls (.int x4 :: .int x3 :: .int x2 :: .int x1 :: .int x0 :: .ref 67 :: st) z (Hp X C M) Q ↔ st.length < 5 ∧ Cw d 1017 [.ref 67, .int x0, .int x1, .int x2, .int x3, .int x4] z (Hp X C M) (fun v z f => Wp d i nx ls (ps v st) z f Q) := by
  rw [r_79' (as := [.ref 67, .int x0, .int x1, .int x2, .int x3, .int x4]) (st' := st) rfl]
  unfold Ca rcv
  rw [and_iff_right (show rce (Hp X C M 67) 1017 = true from rfl), show ((en [.ref 67, .int x0, .int x1, .int x2, .int x3, .int x4]).length ≤ (7 : Int).toNat ∧ st.length < 5) ↔ st.length < 5 from and_iff_right (by simp only [enL]; decide)]
theorem h79_1018 {x0 : Int32} : ExP d i (79, 1018, 2, 6, t0) nx ls (.int x0 :: .ref 67 :: st) z (Hp X C M) Q ↔ st.length < 5 ∧ Cw d 1018 [.ref 67, .int x0] z (Hp X C M) (fun v z f => Wp d i nx ls (ps v st) z f Q) := by
  rw [r_79' (as := [.ref 67, .int x0]) (st' := st) rfl]
  unfold Ca rcv
  rw [and_iff_right (show rce (Hp X C M 67) 1018 = true from rfl), show ((en [.ref 67, .int x0]).length ≤ (6 : Int).toNat ∧ st.length < 5) ↔ st.length < 5 from and_iff_right (by simp only [enL]; decide)]
theorem h79_1019 {x0 : Int32} {x1 : Int32} : ExP d i (79, 1019, 3, 4, t0) nx ls (.int x1 :: .int x0 :: .ref 67 :: st) z (Hp X C M) Q ↔ st.length < 5 ∧ Cw d 1019 [.ref 67, .int x0, .int x1] z (Hp X C M) (fun v z f => Wp d i nx ls (ps v st) z f Q) := by
  rw [r_79' (as := [.ref 67, .int x0, .int x1]) (st' := st) rfl]
  unfold Ca rcv
  rw [and_iff_right (show rce (Hp X C M 67) 1019 = true from rfl), show ((en [.ref 67, .int x0, .int x1]).length ≤ (4 : Int).toNat ∧ st.length < 5) ↔ st.length < 5 from and_iff_right (by simp only [enL]; decide)]
theorem h79_1020 {x0 : Int32} {x1 : Int32} {x2 : Int32} : ExP d i (79, 1020, 4, 6, t0) nx ls (.int x2 :: .int x1 :: .int x0 :: .ref 67 :: st) z (Hp X C M) Q ↔ st.length < 5 ∧ Cw d 1020 [.ref 67, .int x0, .int x1, .int x2] z (Hp X C M) (fun v z f => Wp d i nx ls (ps v st) z f Q) := by
  rw [r_79' (as := [.ref 67, .int x0, .int x1, .int x2]) (st' := st) rfl]
  unfold Ca rcv
  rw [and_iff_right (show rce (Hp X C M 67) 1020 = true from rfl), show ((en [.ref 67, .int x0, .int x1, .int x2]).length ≤ (6 : Int).toNat ∧ st.length < 5) ↔ st.length < 5 from and_iff_right (by simp only [enL]; decide)]
theorem h79_1021 {x0 : Int32} {x1 : Int32} : ExP d i (79, 1021, 3, 3, t0) nx ls (.int x1 :: .int x0 :: .ref 67 :: st) z (Hp X C M) Q ↔ st.length < 5 ∧ Cw d 1021 [.ref 67, .int x0, .int x1] z (Hp X C M) (fun v z f => Wp d i nx ls (ps v st) z f Q) := by
  rw [r_79' (as := [.ref 67, .int x0, .int x1]) (st' := st) rfl]
  unfold Ca rcv
  rw [and_iff_right (show rce (Hp X C M 67) 1021 = true from rfl), show ((en [.ref 67, .int x0, .int x1]).length ≤ (3 : Int).toNat ∧ st.length < 5) ↔ st.length < 5 from and_iff_right (by simp only [enL]; decide)]
theorem h79_1022 {x0 : Int32} : ExP d i (79, 1022, 2, 2, t0) nx ls (.int x0 :: .ref 67 :: st) z (Hp X C M) Q ↔ st.length < 5 ∧ Cw d 1022 [.ref 67, .int x0] z (Hp X C M) (fun v z f => Wp d i nx ls (ps v st) z f Q) := by
  rw [r_79' (as := [.ref 67, .int x0]) (st' := st) rfl]
  unfold Ca rcv
  rw [and_iff_right (show rce (Hp X C M 67) 1022 = true from rfl), show ((en [.ref 67, .int x0]).length ≤ (2 : Int).toNat ∧ st.length < 5) ↔ st.length < 5 from and_iff_right (by simp only [enL]; decide)]
theorem h79_1024 {x0 : Int32} : ExP d i (79, 1024, 2, 2, t0) nx ls (.int x0 :: .ref 67 :: st) z (Hp X C M) Q ↔ st.length < 5 ∧ Cw d 1024 [.ref 67, .int x0] z (Hp X C M) (fun v z f => Wp d i nx ls (ps v st) z f Q) := by
  rw [r_79' (as := [.ref 67, .int x0]) (st' := st) rfl]
  unfold Ca rcv
  rw [and_iff_right (show rce (Hp X C M 67) 1024 = true from rfl), show ((en [.ref 67, .int x0]).length ≤ (2 : Int).toNat ∧ st.length < 5) ↔ st.length < 5 from and_iff_right (by simp only [enL]; decide)]
theorem h79_1025 {x0 : Int32} : ExP d i (79, 1025, 2, 5, t0) nx ls (.int x0 :: .ref 67 :: st) z (Hp X C M) Q ↔ st.length < 5 ∧ Cw d 1025 [.ref 67, .int x0] z (Hp X C M) (fun v z f => Wp d i nx ls (ps v st) z f Q) := by
  rw [r_79' (as := [.ref 67, .int x0]) (st' := st) rfl]
  unfold Ca rcv
  rw [and_iff_right (show rce (Hp X C M 67) 1025 = true from rfl), show ((en [.ref 67, .int x0]).length ≤ (5 : Int).toNat ∧ st.length < 5) ↔ st.length < 5 from and_iff_right (by simp only [enL]; decide)]
theorem h79_1026 {x0 : Int32} : ExP d i (79, 1026, 2, 2, t0) nx ls (.int x0 :: .ref 67 :: st) z (Hp X C M) Q ↔ st.length < 5 ∧ Cw d 1026 [.ref 67, .int x0] z (Hp X C M) (fun v z f => Wp d i nx ls (ps v st) z f Q) := by
  rw [r_79' (as := [.ref 67, .int x0]) (st' := st) rfl]
  unfold Ca rcv
  rw [and_iff_right (show rce (Hp X C M 67) 1026 = true from rfl), show ((en [.ref 67, .int x0]).length ≤ (2 : Int).toNat ∧ st.length < 5) ↔ st.length < 5 from and_iff_right (by simp only [enL]; decide)]
theorem h79_1027 {x0 : Int32} : ExP d i (79, 1027, 2, 3, t0) nx ls (.int x0 :: .ref 67 :: st) z (Hp X C M) Q ↔ st.length < 5 ∧ Cw d 1027 [.ref 67, .int x0] z (Hp X C M) (fun v z f => Wp d i nx ls (ps v st) z f Q) := by
  rw [r_79' (as := [.ref 67, .int x0]) (st' := st) rfl]
  unfold Ca rcv
  rw [and_iff_right (show rce (Hp X C M 67) 1027 = true from rfl), show ((en [.ref 67, .int x0]).length ≤ (3 : Int).toNat ∧ st.length < 5) ↔ st.length < 5 from and_iff_right (by simp only [enL]; decide)]
theorem h79_1028 {x0 : Int32} : ExP d i (79, 1028, 2, 4, t0) nx ls (.int x0 :: .ref 67 :: st) z (Hp X C M) Q ↔ st.length < 5 ∧ Cw d 1028 [.ref 67, .int x0] z (Hp X C M) (fun v z f => Wp d i nx ls (ps v st) z f Q) := by
  rw [r_79' (as := [.ref 67, .int x0]) (st' := st) rfl]
  unfold Ca rcv
  rw [and_iff_right (show rce (Hp X C M 67) 1028 = true from rfl), show ((en [.ref 67, .int x0]).length ≤ (4 : Int).toNat ∧ st.length < 5) ↔ st.length < 5 from and_iff_right (by simp only [enL]; decide)]
theorem h79_1029 {x0 : Int32} : ExP d i (79, 1029, 2, 2, t0) nx ls (.int x0 :: .ref 67 :: st) z (Hp X C M) Q ↔ st.length < 5 ∧ Cw d 1029 [.ref 67, .int x0] z (Hp X C M) (fun v z f => Wp d i nx ls (ps v st) z f Q) := by
  rw [r_79' (as := [.ref 67, .int x0]) (st' := st) rfl]
  unfold Ca rcv
  rw [and_iff_right (show rce (Hp X C M 67) 1029 = true from rfl), show ((en [.ref 67, .int x0]).length ≤ (2 : Int).toNat ∧ st.length < 5) ↔ st.length < 5 from and_iff_right (by simp only [enL]; decide)]
theorem h79_1030 {x0 : Int32} : ExP d i (79, 1030, 2, 2, t0) nx ls (.int x0 :: .ref 67 :: st) z (Hp X C M) Q ↔ st.length < 5 ∧ Cw d 1030 [.ref 67, .int x0] z (Hp X C M) (fun v z f => Wp d i nx ls (ps v st) z f Q) := by
  rw [r_79' (as := [.ref 67, .int x0]) (st' := st) rfl]
  unfold Ca rcv
  rw [and_iff_right (show rce (Hp X C M 67) 1030 = true from rfl), show ((en [.ref 67, .int x0]).length ≤ (2 : Int).toNat ∧ st.length < 5) ↔ st.length < 5 from and_iff_right (by simp only [enL]; decide)]
theorem h79_1031 {x0 : Int32} {x1 : Int32} : ExP d i (79, 1031, 3, 3, t0) nx ls (.int x1 :: .int x0 :: .ref 67 :: st) z (Hp X C M) Q ↔ st.length < 5 ∧ Cw d 1031 [.ref 67, .int x0, .int x1] z (Hp X C M) (fun v z f => Wp d i nx ls (ps v st) z f Q) := by
  rw [r_79' (as := [.ref 67, .int x0, .int x1]) (st' := st) rfl]
  unfold Ca rcv
  rw [and_iff_right (show rce (Hp X C M 67) 1031 = true from rfl), show ((en [.ref 67, .int x0, .int x1]).length ≤ (3 : Int).toNat ∧ st.length < 5) ↔ st.length < 5 from and_iff_right (by simp only [enL]; decide)]
theorem h79_1032 {x0 : Int32} : ExP d i (79, 1032, 2, 3, t0) nx ls (.int x0 :: .ref 67 :: st) z (Hp X C M) Q ↔ st.length < 5 ∧ Cw d 1032 [.ref 67, .int x0] z (Hp X C M) (fun v z f => Wp d i nx ls (ps v st) z f Q) := by
  rw [r_79' (as := [.ref 67, .int x0]) (st' := st) rfl]
  unfold Ca rcv
  rw [and_iff_right (show rce (Hp X C M 67) 1032 = true from rfl), show ((en [.ref 67, .int x0]).length ≤ (3 : Int).toNat ∧ st.length < 5) ↔ st.length < 5 from and_iff_right (by simp only [enL]; decide)]
theorem h79_1033 {x0 : Int32} {x1 : Int32} : ExP d i (79, 1033, 3, 3, t0) nx ls (.int x1 :: .int x0 :: .ref 67 :: st) z (Hp X C M) Q ↔ st.length < 5 ∧ Cw d 1033 [.ref 67, .int x0, .int x1] z (Hp X C M) (fun v z f => Wp d i nx ls (ps v st) z f Q) := by
  rw [r_79' (as := [.ref 67, .int x0, .int x1]) (st' := st) rfl]
  unfold Ca rcv
  rw [and_iff_right (show rce (Hp X C M 67) 1033 = true from rfl), show ((en [.ref 67, .int x0, .int x1]).length ≤ (3 : Int).toNat ∧ st.length < 5) ↔ st.length < 5 from and_iff_right (by simp only [enL]; decide)]
theorem h79_1034 {x0 : Int32} {x1 : Int32} : ExP d i (79, 1034, 3, 3, t0) nx ls (.int x1 :: .int x0 :: .ref 67 :: st) z (Hp X C M) Q ↔ st.length < 5 ∧ Cw d 1034 [.ref 67, .int x0, .int x1] z (Hp X C M) (fun v z f => Wp d i nx ls (ps v st) z f Q) := by
  rw [r_79' (as := [.ref 67, .int x0, .int x1]) (st' := st) rfl]
  unfold Ca rcv
  rw [and_iff_right (show rce (Hp X C M 67) 1034 = true from rfl), show ((en [.ref 67, .int x0, .int x1]).length ≤ (3 : Int).toNat ∧ st.length < 5) ↔ st.length < 5 from and_iff_right (by simp only [enL]; decide)]
theorem h79_1035 {x0 : Int32} {x1 : Int32} : ExP d i (79, 1035, 3, 3, t0) nx ls (.int x1 :: .int x0 :: .ref 67 :: st) z (Hp X C M) Q ↔ st.length < 5 ∧ Cw d 1035 [.ref 67, .int x0, .int x1] z (Hp X C M) (fun v z f => Wp d i nx ls (ps v st) z f Q) := by
  rw [r_79' (as := [.ref 67, .int x0, .int x1]) (st' := st) rfl]
  unfold Ca rcv
  rw [and_iff_right (show rce (Hp X C M 67) 1035 = true from rfl), show ((en [.ref 67, .int x0, .int x1]).length ≤ (3 : Int).toNat ∧ st.length < 5) ↔ st.length < 5 from and_iff_right (by simp only [enL]; decide)]
theorem h79_1036 {x0 : Int32} {x1 : Int32} : ExP d i (79, 1036, 3, 5, t0) nx ls (.int x1 :: .int x0 :: .ref 67 :: st) z (Hp X C M) Q ↔ st.length < 5 ∧ Cw d 1036 [.ref 67, .int x0, .int x1] z (Hp X C M) (fun v z f => Wp d i nx ls (ps v st) z f Q) := by
  rw [r_79' (as := [.ref 67, .int x0, .int x1]) (st' := st) rfl]
  unfold Ca rcv
  rw [and_iff_right (show rce (Hp X C M 67) 1036 = true from rfl), show ((en [.ref 67, .int x0, .int x1]).length ≤ (5 : Int).toNat ∧ st.length < 5) ↔ st.length < 5 from and_iff_right (by simp only [enL]; decide)]
theorem h79_1037 {x0 : Int32} : ExP d i (79, 1037, 2, 3, t0) nx ls (.int x0 :: .ref 67 :: st) z (Hp X C M) Q ↔ st.length < 5 ∧ Cw d 1037 [.ref 67, .int x0] z (Hp X C M) (fun v z f => Wp d i nx ls (ps v st) z f Q) := by
  rw [r_79' (as := [.ref 67, .int x0]) (st' := st) rfl]
  unfold Ca rcv
  rw [and_iff_right (show rce (Hp X C M 67) 1037 = true from rfl), show ((en [.ref 67, .int x0]).length ≤ (3 : Int).toNat ∧ st.length < 5) ↔ st.length < 5 from and_iff_right (by simp only [enL]; decide)]
theorem h79_1038 {x0 : Int32} {x1 : Int32} : ExP d i (79, 1038, 3, 3, t0) nx ls (.int x1 :: .int x0 :: .ref 67 :: st) z (Hp X C M) Q ↔ st.length < 5 ∧ Cw d 1038 [.ref 67, .int x0, .int x1] z (Hp X C M) (fun v z f => Wp d i nx ls (ps v st) z f Q) := by
  rw [r_79' (as := [.ref 67, .int x0, .int x1]) (st' := st) rfl]
  unfold Ca rcv
  rw [and_iff_right (show rce (Hp X C M 67) 1038 = true from rfl), show ((en [.ref 67, .int x0, .int x1]).length ≤ (3 : Int).toNat ∧ st.length < 5) ↔ st.length < 5 from and_iff_right (by simp only [enL]; decide)]
theorem h79_1039 {x0 : Int32} : ExP d i (79, 1039, 2, 6, t0) nx ls (.int x0 :: .ref 67 :: st) z (Hp X C M) Q ↔ st.length < 5 ∧ Cw d 1039 [.ref 67, .int x0] z (Hp X C M) (fun v z f => Wp d i nx ls (ps v st) z f Q) := by
  rw [r_79' (as := [.ref 67, .int x0]) (st' := st) rfl]
  unfold Ca rcv
  rw [and_iff_right (show rce (Hp X C M 67) 1039 = true from rfl), show ((en [.ref 67, .int x0]).length ≤ (6 : Int).toNat ∧ st.length < 5) ↔ st.length < 5 from and_iff_right (by simp only [enL]; decide)]
theorem h79_1040  : ExP d i (79, 1040, 1, 1, t0) nx ls (.ref 67 :: st) z (Hp X C M) Q ↔ st.length < 5 ∧ Cw d 1040 [.ref 67] z (Hp X C M) (fun v z f => Wp d i nx ls (ps v st) z f Q) := by
  rw [r_79' (as := [.ref 67]) (st' := st) rfl]
  unfold Ca rcv
  rw [and_iff_right (show rce (Hp X C M 67) 1040 = true from rfl), show ((en [.ref 67]).length ≤ (1 : Int).toNat ∧ st.length < 5) ↔ st.length < 5 from and_iff_right (by simp only [enL]; decide)]
theorem h79_1041 {x0 : Int32} : ExP d i (79, 1041, 2, 4, t0) nx ls (.int x0 :: .ref 67 :: st) z (Hp X C M) Q ↔ st.length < 5 ∧ Cw d 1041 [.ref 67, .int x0] z (Hp X C M) (fun v z f => Wp d i nx ls (ps v st) z f Q) := by
  rw [r_79' (as := [.ref 67, .int x0]) (st' := st) rfl]
  unfold Ca rcv
  rw [and_iff_right (show rce (Hp X C M 67) 1041 = true from rfl), show ((en [.ref 67, .int x0]).length ≤ (4 : Int).toNat ∧ st.length < 5) ↔ st.length < 5 from and_iff_right (by simp only [enL]; decide)]
theorem h79_1042 {x0 : Int32} : ExP d i (79, 1042, 2, 2, t0) nx ls (.int x0 :: .ref 67 :: st) z (Hp X C M) Q ↔ st.length < 5 ∧ Cw d 1042 [.ref 67, .int x0] z (Hp X C M) (fun v z f => Wp d i nx ls (ps v st) z f Q) := by
  rw [r_79' (as := [.ref 67, .int x0]) (st' := st) rfl]
  unfold Ca rcv
  rw [and_iff_right (show rce (Hp X C M 67) 1042 = true from rfl), show ((en [.ref 67, .int x0]).length ≤ (2 : Int).toNat ∧ st.length < 5) ↔ st.length < 5 from and_iff_right (by simp only [enL]; decide)]
theorem h79_1043 {x0 : Int32} : ExP d i (79, 1043, 2, 3, t0) nx ls (.int x0 :: .ref 67 :: st) z (Hp X C M) Q ↔ st.length < 5 ∧ Cw d 1043 [.ref 67, .int x0] z (Hp X C M) (fun v z f => Wp d i nx ls (ps v st) z f Q) := by
  rw [r_79' (as := [.ref 67, .int x0]) (st' := st) rfl]
  unfold Ca rcv
  rw [and_iff_right (show rce (Hp X C M 67) 1043 = true from rfl), show ((en [.ref 67, .int x0]).length ≤ (3 : Int).toNat ∧ st.length < 5) ↔ st.length < 5 from and_iff_right (by simp only [enL]; decide)]
theorem h79_1044 {x0 : Int32} : ExP d i (79, 1044, 2, 2, t0) nx ls (.int x0 :: .ref 67 :: st) z (Hp X C M) Q ↔ st.length < 5 ∧ Cw d 1044 [.ref 67, .int x0] z (Hp X C M) (fun v z f => Wp d i nx ls (ps v st) z f Q) := by
  rw [r_79' (as := [.ref 67, .int x0]) (st' := st) rfl]
  unfold Ca rcv
  rw [and_iff_right (show rce (Hp X C M 67) 1044 = true from rfl), show ((en [.ref 67, .int x0]).length ≤ (2 : Int).toNat ∧ st.length < 5) ↔ st.length < 5 from and_iff_right (by simp only [enL]; decide)]
theorem h79_1045  : ExP d i (79, 1045, 1, 1, t0) nx ls (.ref 67 :: st) z (Hp X C M) Q ↔ st.length < 5 ∧ Cw d 1045 [.ref 67] z (Hp X C M) (fun v z f => Wp d i nx ls (ps v st) z f Q) := by
  rw [r_79' (as := [.ref 67]) (st' := st) rfl]
  unfold Ca rcv
  rw [and_iff_right (show rce (Hp X C M 67) 1045 = true from rfl), show ((en [.ref 67]).length ≤ (1 : Int).toNat ∧ st.length < 5) ↔ st.length < 5 from and_iff_right (by simp only [enL]; decide)]
theorem h79_1046 {x0 : Int32} : ExP d i (79, 1046, 2, 2, t0) nx ls (.int x0 :: .ref 67 :: st) z (Hp X C M) Q ↔ st.length < 5 ∧ Cw d 1046 [.ref 67, .int x0] z (Hp X C M) (fun v z f => Wp d i nx ls (ps v st) z f Q) := by
  rw [r_79' (as := [.ref 67, .int x0]) (st' := st) rfl]
  unfold Ca rcv
  rw [and_iff_right (show rce (Hp X C M 67) 1046 = true from rfl), show ((en [.ref 67, .int x0]).length ≤ (2 : Int).toNat ∧ st.length < 5) ↔ st.length < 5 from and_iff_right (by simp only [enL]; decide)]
theorem h79_1047 {x0 : Int32} : ExP d i (79, 1047, 2, 3, t0) nx ls (.int x0 :: .ref 67 :: st) z (Hp X C M) Q ↔ st.length < 5 ∧ Cw d 1047 [.ref 67, .int x0] z (Hp X C M) (fun v z f => Wp d i nx ls (ps v st) z f Q) := by
  rw [r_79' (as := [.ref 67, .int x0]) (st' := st) rfl]
  unfold Ca rcv
  rw [and_iff_right (show rce (Hp X C M 67) 1047 = true from rfl), show ((en [.ref 67, .int x0]).length ≤ (3 : Int).toNat ∧ st.length < 5) ↔ st.length < 5 from and_iff_right (by simp only [enL]; decide)]
theorem h79_1048 {x0 : Int32} : ExP d i (79, 1048, 2, 3, t0) nx ls (.int x0 :: .ref 67 :: st) z (Hp X C M) Q ↔ st.length < 5 ∧ Cw d 1048 [.ref 67, .int x0] z (Hp X C M) (fun v z f => Wp d i nx ls (ps v st) z f Q) := by
  rw [r_79' (as := [.ref 67, .int x0]) (st' := st) rfl]
  unfold Ca rcv
  rw [and_iff_right (show rce (Hp X C M 67) 1048 = true from rfl), show ((en [.ref 67, .int x0]).length ≤ (3 : Int).toNat ∧ st.length < 5) ↔ st.length < 5 from and_iff_right (by simp only [enL]; decide)]
theorem h79_1049 {x0 : Int32} : ExP d i (79, 1049, 2, 4, t0) nx ls (.int x0 :: .ref 67 :: st) z (Hp X C M) Q ↔ st.length < 5 ∧ Cw d 1049 [.ref 67, .int x0] z (Hp X C M) (fun v z f => Wp d i nx ls (ps v st) z f Q) := by
  rw [r_79' (as := [.ref 67, .int x0]) (st' := st) rfl]
  unfold Ca rcv
  rw [and_iff_right (show rce (Hp X C M 67) 1049 = true from rfl), show ((en [.ref 67, .int x0]).length ≤ (4 : Int).toNat ∧ st.length < 5) ↔ st.length < 5 from and_iff_right (by simp only [enL]; decide)]
theorem h79_1050 {x0 : Int32} : ExP d i (79, 1050, 2, 4, t0) nx ls (.int x0 :: .ref 67 :: st) z (Hp X C M) Q ↔ st.length < 5 ∧ Cw d 1050 [.ref 67, .int x0] z (Hp X C M) (fun v z f => Wp d i nx ls (ps v st) z f Q) := by
  rw [r_79' (as := [.ref 67, .int x0]) (st' := st) rfl]
  unfold Ca rcv
  rw [and_iff_right (show rce (Hp X C M 67) 1050 = true from rfl), show ((en [.ref 67, .int x0]).length ≤ (4 : Int).toNat ∧ st.length < 5) ↔ st.length < 5 from and_iff_right (by simp only [enL]; decide)]
theorem h79_1051 {x0 : Int32} {x1 : Int32} {x2 : Int32} : ExP d i (79, 1051, 4, 8, t0) nx ls (.int x2 :: .int x1 :: .int x0 :: .ref 67 :: st) z (Hp X C M) Q ↔ st.length < 5 ∧ Cw d 1051 [.ref 67, .int x0, .int x1, .int x2] z (Hp X C M) (fun v z f => Wp d i nx ls (ps v st) z f Q) := by
  rw [r_79' (as := [.ref 67, .int x0, .int x1, .int x2]) (st' := st) rfl]
  unfold Ca rcv
  rw [and_iff_right (show rce (Hp X C M 67) 1051 = true from rfl), show ((en [.ref 67, .int x0, .int x1, .int x2]).length ≤ (8 : Int).toNat ∧ st.length < 5) ↔ st.length < 5 from and_iff_right (by simp only [enL]; decide)]
theorem h79_1052 {x0 : Int32} {x1 : Int32} : ExP d i (79, 1052, 3, 5, t0) nx ls (.int x1 :: .int x0 :: .ref 67 :: st) z (Hp X C M) Q ↔ st.length < 5 ∧ Cw d 1052 [.ref 67, .int x0, .int x1] z (Hp X C M) (fun v z f => Wp d i nx ls (ps v st) z f Q) := by
  rw [r_79' (as := [.ref 67, .int x0, .int x1]) (st' := st) rfl]
  unfold Ca rcv
  rw [and_iff_right (show rce (Hp X C M 67) 1052 = true from rfl), show ((en [.ref 67, .int x0, .int x1]).length ≤ (5 : Int).toNat ∧ st.length < 5) ↔ st.length < 5 from and_iff_right (by simp only [enL]; decide)]
theorem h79_1053 {x0 : Int32} {x1 : Int32} : ExP d i (79, 1053, 3, 3, t0) nx ls (.int x1 :: .int x0 :: .ref 67 :: st) z (Hp X C M) Q ↔ st.length < 5 ∧ Cw d 1053 [.ref 67, .int x0, .int x1] z (Hp X C M) (fun v z f => Wp d i nx ls (ps v st) z f Q) := by
  rw [r_79' (as := [.ref 67, .int x0, .int x1]) (st' := st) rfl]
  unfold Ca rcv
  rw [and_iff_right (show rce (Hp X C M 67) 1053 = true from rfl), show ((en [.ref 67, .int x0, .int x1]).length ≤ (3 : Int).toNat ∧ st.length < 5) ↔ st.length < 5 from and_iff_right (by simp only [enL]; decide)]
theorem h79_1054 {x0 : Int32} {x1 : Int32} : ExP d i (79, 1054, 3, 7, t0) nx ls (.int x1 :: .int x0 :: .ref 67 :: st) z (Hp X C M) Q ↔ st.length < 5 ∧ Cw d 1054 [.ref 67, .int x0, .int x1] z (Hp X C M) (fun v z f => Wp d i nx ls (ps v st) z f Q) := by
  rw [r_79' (as := [.ref 67, .int x0, .int x1]) (st' := st) rfl]
  unfold Ca rcv
  rw [and_iff_right (show rce (Hp X C M 67) 1054 = true from rfl), show ((en [.ref 67, .int x0, .int x1]).length ≤ (7 : Int).toNat ∧ st.length < 5) ↔ st.length < 5 from and_iff_right (by simp only [enL]; decide)]
theorem h79_1055 {x0 : Int32} : ExP d i (79, 1055, 2, 5, t0) nx ls (.int x0 :: .ref 67 :: st) z (Hp X C M) Q ↔ st.length < 5 ∧ Cw d 1055 [.ref 67, .int x0] z (Hp X C M) (fun v z f => Wp d i nx ls (ps v st) z f Q) := by
  rw [r_79' (as := [.ref 67, .int x0]) (st' := st) rfl]
  unfold Ca rcv
  rw [and_iff_right (show rce (Hp X C M 67) 1055 = true from rfl), show ((en [.ref 67, .int x0]).length ≤ (5 : Int).toNat ∧ st.length < 5) ↔ st.length < 5 from and_iff_right (by simp only [enL]; decide)]
theorem h79_1056 {x0 : Int32} {x1 : Int32} : ExP d i (79, 1056, 3, 6, t0) nx ls (.int x1 :: .int x0 :: .ref 67 :: st) z (Hp X C M) Q ↔ st.length < 5 ∧ Cw d 1056 [.ref 67, .int x0, .int x1] z (Hp X C M) (fun v z f => Wp d i nx ls (ps v st) z f Q) := by
  rw [r_79' (as := [.ref 67, .int x0, .int x1]) (st' := st) rfl]
  unfold Ca rcv
  rw [and_iff_right (show rce (Hp X C M 67) 1056 = true from rfl), show ((en [.ref 67, .int x0, .int x1]).length ≤ (6 : Int).toNat ∧ st.length < 5) ↔ st.length < 5 from and_iff_right (by simp only [enL]; decide)]
theorem h79_1057 {x0 : Int32} {x1 : Int32} {x2 : Int32} : ExP d i (79, 1057, 4, 6, t0) nx ls (.int x2 :: .int x1 :: .int x0 :: .ref 67 :: st) z (Hp X C M) Q ↔ st.length < 5 ∧ Cw d 1057 [.ref 67, .int x0, .int x1, .int x2] z (Hp X C M) (fun v z f => Wp d i nx ls (ps v st) z f Q) := by
  rw [r_79' (as := [.ref 67, .int x0, .int x1, .int x2]) (st' := st) rfl]
  unfold Ca rcv
  rw [and_iff_right (show rce (Hp X C M 67) 1057 = true from rfl), show ((en [.ref 67, .int x0, .int x1, .int x2]).length ≤ (6 : Int).toNat ∧ st.length < 5) ↔ st.length < 5 from and_iff_right (by simp only [enL]; decide)]
theorem h79_1058 {x0 : Int32} {x1 : Int32} : ExP d i (79, 1058, 3, 4, t0) nx ls (.int x1 :: .int x0 :: .ref 67 :: st) z (Hp X C M) Q ↔ st.length < 5 ∧ Cw d 1058 [.ref 67, .int x0, .int x1] z (Hp X C M) (fun v z f => Wp d i nx ls (ps v st) z f Q) := by
  rw [r_79' (as := [.ref 67, .int x0, .int x1]) (st' := st) rfl]
  unfold Ca rcv
  rw [and_iff_right (show rce (Hp X C M 67) 1058 = true from rfl), show ((en [.ref 67, .int x0, .int x1]).length ≤ (4 : Int).toNat ∧ st.length < 5) ↔ st.length < 5 from and_iff_right (by simp only [enL]; decide)]
theorem h79_1059 {x0 : Int32} {x1 : Int32} {x2 : Int32} : ExP d i (79, 1059, 4, 9, t0) nx ls (.int x2 :: .int x1 :: .int x0 :: .ref 67 :: st) z (Hp X C M) Q ↔ st.length < 5 ∧ Cw d 1059 [.ref 67, .int x0, .int x1, .int x2] z (Hp X C M) (fun v z f => Wp d i nx ls (ps v st) z f Q) := by
  rw [r_79' (as := [.ref 67, .int x0, .int x1, .int x2]) (st' := st) rfl]
  unfold Ca rcv
  rw [and_iff_right (show rce (Hp X C M 67) 1059 = true from rfl), show ((en [.ref 67, .int x0, .int x1, .int x2]).length ≤ (9 : Int).toNat ∧ st.length < 5) ↔ st.length < 5 from and_iff_right (by simp only [enL]; decide)]
theorem h79_1060  : ExP d i (79, 1060, 1, 1, t0) nx ls (.ref 67 :: st) z (Hp X C M) Q ↔ st.length < 5 ∧ Cw d 1060 [.ref 67] z (Hp X C M) (fun v z f => Wp d i nx ls (ps v st) z f Q) := by
  rw [r_79' (as := [.ref 67]) (st' := st) rfl]
  unfold Ca rcv
  rw [and_iff_right (show rce (Hp X C M 67) 1060 = true from rfl), show ((en [.ref 67]).length ≤ (1 : Int).toNat ∧ st.length < 5) ↔ st.length < 5 from and_iff_right (by simp only [enL]; decide)]
theorem h79_1061 {x0 : Int32} : ExP d i (79, 1061, 2, 5, t0) nx ls (.int x0 :: .ref 67 :: st) z (Hp X C M) Q ↔ st.length < 5 ∧ Cw d 1061 [.ref 67, .int x0] z (Hp X C M) (fun v z f => Wp d i nx ls (ps v st) z f Q) := by
  rw [r_79' (as := [.ref 67, .int x0]) (st' := st) rfl]
  unfold Ca rcv
  rw [and_iff_right (show rce (Hp X C M 67) 1061 = true from rfl), show ((en [.ref 67, .int x0]).length ≤ (5 : Int).toNat ∧ st.length < 5) ↔ st.length < 5 from and_iff_right (by simp only [enL]; decide)]
theorem h79_1062 {x0 : Int32} {x1 : Int32} : ExP d i (79, 1062, 3, 9, t0) nx ls (.int x1 :: .int x0 :: .ref 67 :: st) z (Hp X C M) Q ↔ st.length < 5 ∧ Cw d 1062 [.ref 67, .int x0, .int x1] z (Hp X C M) (fun v z f => Wp d i nx ls (ps v st) z f Q) := by
  rw [r_79' (as := [.ref 67, .int x0, .int x1]) (st' := st) rfl]
  unfold Ca rcv
  rw [and_iff_right (show rce (Hp X C M 67) 1062 = true from rfl), show ((en [.ref 67, .int x0, .int x1]).length ≤ (9 : Int).toNat ∧ st.length < 5) ↔ st.length < 5 from and_iff_right (by simp only [enL]; decide)]
theorem h79_1063 {x0 : Int32} : ExP d i (79, 1063, 2, 8, t0) nx ls (.int x0 :: .ref 67 :: st) z (Hp X C M) Q ↔ st.length < 5 ∧ Cw d 1063 [.ref 67, .int x0] z (Hp X C M) (fun v z f => Wp d i nx ls (ps v st) z f Q) := by
  rw [r_79' (as := [.ref 67, .int x0]) (st' := st) rfl]
  unfold Ca rcv
  rw [and_iff_right (show rce (Hp X C M 67) 1063 = true from rfl), show ((en [.ref 67, .int x0]).length ≤ (8 : Int).toNat ∧ st.length < 5) ↔ st.length < 5 from and_iff_right (by simp only [enL]; decide)]
theorem h79_1064  : ExP d i (79, 1064, 1, 3, t0) nx ls (.ref 67 :: st) z (Hp X C M) Q ↔ st.length < 5 ∧ Cw d 1064 [.ref 67] z (Hp X C M) (fun v z f => Wp d i nx ls (ps v st) z f Q) := by
  rw [r_79' (as := [.ref 67]) (st' := st) rfl]
  unfold Ca rcv
  rw [and_iff_right (show rce (Hp X C M 67) 1064 = true from rfl), show ((en [.ref 67]).length ≤ (3 : Int).toNat ∧ st.length < 5) ↔ st.length < 5 from and_iff_right (by simp only [enL]; decide)]
theorem h79_1065 {x0 : Int32} {x1 : Int32} : ExP d i (79, 1065, 3, 12, t0) nx ls (.int x1 :: .int x0 :: .ref 67 :: st) z (Hp X C M) Q ↔ st.length < 5 ∧ Cw d 1065 [.ref 67, .int x0, .int x1] z (Hp X C M) (fun v z f => Wp d i nx ls (ps v st) z f Q) := by
  rw [r_79' (as := [.ref 67, .int x0, .int x1]) (st' := st) rfl]
  unfold Ca rcv
  rw [and_iff_right (show rce (Hp X C M 67) 1065 = true from rfl), show ((en [.ref 67, .int x0, .int x1]).length ≤ (12 : Int).toNat ∧ st.length < 5) ↔ st.length < 5 from and_iff_right (by simp only [enL]; decide)]
theorem h79_1066 {x0 : Int32} {x1 : Int32} : ExP d i (79, 1066, 3, 4, t0) nx ls (.int x1 :: .int x0 :: .ref 67 :: st) z (Hp X C M) Q ↔ st.length < 5 ∧ Cw d 1066 [.ref 67, .int x0, .int x1] z (Hp X C M) (fun v z f => Wp d i nx ls (ps v st) z f Q) := by
  rw [r_79' (as := [.ref 67, .int x0, .int x1]) (st' := st) rfl]
  unfold Ca rcv
  rw [and_iff_right (show rce (Hp X C M 67) 1066 = true from rfl), show ((en [.ref 67, .int x0, .int x1]).length ≤ (4 : Int).toNat ∧ st.length < 5) ↔ st.length < 5 from and_iff_right (by simp only [enL]; decide)]
theorem h79_1067  : ExP d i (79, 1067, 1, 6, t0) nx ls (.ref 67 :: st) z (Hp X C M) Q ↔ st.length < 5 ∧ Cw d 1067 [.ref 67] z (Hp X C M) (fun v z f => Wp d i nx ls (ps v st) z f Q) := by
  rw [r_79' (as := [.ref 67]) (st' := st) rfl]
  unfold Ca rcv
  rw [and_iff_right (show rce (Hp X C M 67) 1067 = true from rfl), show ((en [.ref 67]).length ≤ (6 : Int).toNat ∧ st.length < 5) ↔ st.length < 5 from and_iff_right (by simp only [enL]; decide)]
theorem h79_1068 {x0 : Int32} : ExP d i (79, 1068, 2, 4, t0) nx ls (.int x0 :: .ref 67 :: st) z (Hp X C M) Q ↔ st.length < 5 ∧ Cw d 1068 [.ref 67, .int x0] z (Hp X C M) (fun v z f => Wp d i nx ls (ps v st) z f Q) := by
  rw [r_79' (as := [.ref 67, .int x0]) (st' := st) rfl]
  unfold Ca rcv
  rw [and_iff_right (show rce (Hp X C M 67) 1068 = true from rfl), show ((en [.ref 67, .int x0]).length ≤ (4 : Int).toNat ∧ st.length < 5) ↔ st.length < 5 from and_iff_right (by simp only [enL]; decide)]
theorem h79_1069 {x0 : Int32} : ExP d i (79, 1069, 2, 9, t0) nx ls (.int x0 :: .ref 67 :: st) z (Hp X C M) Q ↔ st.length < 5 ∧ Cw d 1069 [.ref 67, .int x0] z (Hp X C M) (fun v z f => Wp d i nx ls (ps v st) z f Q) := by
  rw [r_79' (as := [.ref 67, .int x0]) (st' := st) rfl]
  unfold Ca rcv
  rw [and_iff_right (show rce (Hp X C M 67) 1069 = true from rfl), show ((en [.ref 67, .int x0]).length ≤ (9 : Int).toNat ∧ st.length < 5) ↔ st.length < 5 from and_iff_right (by simp only [enL]; decide)]
theorem h79_1070 {x0 : Int32} {x1 : Int32} {x2 : Int32} : ExP d i (79, 1070, 4, 5, t0) nx ls (.int x2 :: .int x1 :: .int x0 :: .ref 67 :: st) z (Hp X C M) Q ↔ st.length < 5 ∧ Cw d 1070 [.ref 67, .int x0, .int x1, .int x2] z (Hp X C M) (fun v z f => Wp d i nx ls (ps v st) z f Q) := by
  rw [r_79' (as := [.ref 67, .int x0, .int x1, .int x2]) (st' := st) rfl]
  unfold Ca rcv
  rw [and_iff_right (show rce (Hp X C M 67) 1070 = true from rfl), show ((en [.ref 67, .int x0, .int x1, .int x2]).length ≤ (5 : Int).toNat ∧ st.length < 5) ↔ st.length < 5 from and_iff_right (by simp only [enL]; decide)]
theorem h79_1071 {x0 : Int32} : ExP d i (79, 1071, 2, 3, t0) nx ls (.int x0 :: .ref 67 :: st) z (Hp X C M) Q ↔ st.length < 5 ∧ Cw d 1071 [.ref 67, .int x0] z (Hp X C M) (fun v z f => Wp d i nx ls (ps v st) z f Q) := by
  rw [r_79' (as := [.ref 67, .int x0]) (st' := st) rfl]
  unfold Ca rcv
  rw [and_iff_right (show rce (Hp X C M 67) 1071 = true from rfl), show ((en [.ref 67, .int x0]).length ≤ (3 : Int).toNat ∧ st.length < 5) ↔ st.length < 5 from and_iff_right (by simp only [enL]; decide)]
theorem h79_1072 {x0 : Int32} {x1 : Int32} : ExP d i (79, 1072, 3, 8, t0) nx ls (.int x1 :: .int x0 :: .ref 67 :: st) z (Hp X C M) Q ↔ st.length < 5 ∧ Cw d 1072 [.ref 67, .int x0, .int x1] z (Hp X C M) (fun v z f => Wp d i nx ls (ps v st) z f Q) := by
  rw [r_79' (as := [.ref 67, .int x0, .int x1]) (st' := st) rfl]
  unfold Ca rcv
  rw [and_iff_right (show rce (Hp X C M 67) 1072 = true from rfl), show ((en [.ref 67, .int x0, .int x1]).length ≤ (8 : Int).toNat ∧ st.length < 5) ↔ st.length < 5 from and_iff_right (by simp only [enL]; decide)]
theorem h79_1073 {x0 : Int32} {x1 : Int32} : ExP d i (79, 1073, 3, 4, t0) nx ls (.int x1 :: .int x0 :: .ref 67 :: st) z (Hp X C M) Q ↔ st.length < 5 ∧ Cw d 1073 [.ref 67, .int x0, .int x1] z (Hp X C M) (fun v z f => Wp d i nx ls (ps v st) z f Q) := by
  rw [r_79' (as := [.ref 67, .int x0, .int x1]) (st' := st) rfl]
  unfold Ca rcv
  rw [and_iff_right (show rce (Hp X C M 67) 1073 = true from rfl), show ((en [.ref 67, .int x0, .int x1]).length ≤ (4 : Int).toNat ∧ st.length < 5) ↔ st.length < 5 from and_iff_right (by simp only [enL]; decide)]
theorem h79_1074 {x0 : Int32} : ExP d i (79, 1074, 2, 13, t0) nx ls (.int x0 :: .ref 67 :: st) z (Hp X C M) Q ↔ st.length < 5 ∧ Cw d 1074 [.ref 67, .int x0] z (Hp X C M) (fun v z f => Wp d i nx ls (ps v st) z f Q) := by
  rw [r_79' (as := [.ref 67, .int x0]) (st' := st) rfl]
  unfold Ca rcv
  rw [and_iff_right (show rce (Hp X C M 67) 1074 = true from rfl), show ((en [.ref 67, .int x0]).length ≤ (13 : Int).toNat ∧ st.length < 5) ↔ st.length < 5 from and_iff_right (by simp only [enL]; decide)]
theorem h79_1075 {x0 : Int32} : ExP d i (79, 1075, 2, 2, t0) nx ls (.int x0 :: .ref 67 :: st) z (Hp X C M) Q ↔ st.length < 5 ∧ Cw d 1075 [.ref 67, .int x0] z (Hp X C M) (fun v z f => Wp d i nx ls (ps v st) z f Q) := by
  rw [r_79' (as := [.ref 67, .int x0]) (st' := st) rfl]
  unfold Ca rcv
  rw [and_iff_right (show rce (Hp X C M 67) 1075 = true from rfl), show ((en [.ref 67, .int x0]).length ≤ (2 : Int).toNat ∧ st.length < 5) ↔ st.length < 5 from and_iff_right (by simp only [enL]; decide)]
theorem h79_1076 {x0 : Int32} : ExP d i (79, 1076, 2, 3, t0) nx ls (.int x0 :: .ref 67 :: st) z (Hp X C M) Q ↔ st.length < 5 ∧ Cw d 1076 [.ref 67, .int x0] z (Hp X C M) (fun v z f => Wp d i nx ls (ps v st) z f Q) := by
  rw [r_79' (as := [.ref 67, .int x0]) (st' := st) rfl]
  unfold Ca rcv
  rw [and_iff_right (show rce (Hp X C M 67) 1076 = true from rfl), show ((en [.ref 67, .int x0]).length ≤ (3 : Int).toNat ∧ st.length < 5) ↔ st.length < 5 from and_iff_right (by simp only [enL]; decide)]
theorem h79_1077 {x0 : Int32} : ExP d i (79, 1077, 2, 6, t0) nx ls (.int x0 :: .ref 67 :: st) z (Hp X C M) Q ↔ st.length < 5 ∧ Cw d 1077 [.ref 67, .int x0] z (Hp X C M) (fun v z f => Wp d i nx ls (ps v st) z f Q) := by
  rw [r_79' (as := [.ref 67, .int x0]) (st' := st) rfl]
  unfold Ca rcv
  rw [and_iff_right (show rce (Hp X C M 67) 1077 = true from rfl), show ((en [.ref 67, .int x0]).length ≤ (6 : Int).toNat ∧ st.length < 5) ↔ st.length < 5 from and_iff_right (by simp only [enL]; decide)]
theorem h79_1078 {x0 : Int32} : ExP d i (79, 1078, 2, 2, t0) nx ls (.int x0 :: .ref 67 :: st) z (Hp X C M) Q ↔ st.length < 5 ∧ Cw d 1078 [.ref 67, .int x0] z (Hp X C M) (fun v z f => Wp d i nx ls (ps v st) z f Q) := by
  rw [r_79' (as := [.ref 67, .int x0]) (st' := st) rfl]
  unfold Ca rcv
  rw [and_iff_right (show rce (Hp X C M 67) 1078 = true from rfl), show ((en [.ref 67, .int x0]).length ≤ (2 : Int).toNat ∧ st.length < 5) ↔ st.length < 5 from and_iff_right (by simp only [enL]; decide)]
theorem h79_1079  : ExP d i (79, 1079, 1, 5, t0) nx ls (.ref 67 :: st) z (Hp X C M) Q ↔ st.length < 5 ∧ Cw d 1079 [.ref 67] z (Hp X C M) (fun v z f => Wp d i nx ls (ps v st) z f Q) := by
  rw [r_79' (as := [.ref 67]) (st' := st) rfl]
  unfold Ca rcv
  rw [and_iff_right (show rce (Hp X C M 67) 1079 = true from rfl), show ((en [.ref 67]).length ≤ (5 : Int).toNat ∧ st.length < 5) ↔ st.length < 5 from and_iff_right (by simp only [enL]; decide)]
theorem h79_1080 {x0 : Int32} {x1 : Int32} : ExP d i (79, 1080, 3, 9, t0) nx ls (.int x1 :: .int x0 :: .ref 67 :: st) z (Hp X C M) Q ↔ st.length < 5 ∧ Cw d 1080 [.ref 67, .int x0, .int x1] z (Hp X C M) (fun v z f => Wp d i nx ls (ps v st) z f Q) := by
  rw [r_79' (as := [.ref 67, .int x0, .int x1]) (st' := st) rfl]
  unfold Ca rcv
  rw [and_iff_right (show rce (Hp X C M 67) 1080 = true from rfl), show ((en [.ref 67, .int x0, .int x1]).length ≤ (9 : Int).toNat ∧ st.length < 5) ↔ st.length < 5 from and_iff_right (by simp only [enL]; decide)]
theorem h79_1081  : ExP d i (79, 1081, 1, 1, t0) nx ls (.ref 67 :: st) z (Hp X C M) Q ↔ st.length < 5 ∧ Cw d 1081 [.ref 67] z (Hp X C M) (fun v z f => Wp d i nx ls (ps v st) z f Q) := by
  rw [r_79' (as := [.ref 67]) (st' := st) rfl]
  unfold Ca rcv
  rw [and_iff_right (show rce (Hp X C M 67) 1081 = true from rfl), show ((en [.ref 67]).length ≤ (1 : Int).toNat ∧ st.length < 5) ↔ st.length < 5 from and_iff_right (by simp only [enL]; decide)]
theorem h79_1082  : ExP d i (79, 1082, 1, 1, t0) nx ls (.ref 67 :: st) z (Hp X C M) Q ↔ st.length < 5 ∧ Cw d 1082 [.ref 67] z (Hp X C M) (fun v z f => Wp d i nx ls (ps v st) z f Q) := by
  rw [r_79' (as := [.ref 67]) (st' := st) rfl]
  unfold Ca rcv
  rw [and_iff_right (show rce (Hp X C M 67) 1082 = true from rfl), show ((en [.ref 67]).length ≤ (1 : Int).toNat ∧ st.length < 5) ↔ st.length < 5 from and_iff_right (by simp only [enL]; decide)]
theorem h79_1083  : ExP d i (79, 1083, 1, 1, t0) nx ls (.ref 67 :: st) z (Hp X C M) Q ↔ st.length < 5 ∧ Cw d 1083 [.ref 67] z (Hp X C M) (fun v z f => Wp d i nx ls (ps v st) z f Q) := by
  rw [r_79' (as := [.ref 67]) (st' := st) rfl]
  unfold Ca rcv
  rw [and_iff_right (show rce (Hp X C M 67) 1083 = true from rfl), show ((en [.ref 67]).length ≤ (1 : Int).toNat ∧ st.length < 5) ↔ st.length < 5 from and_iff_right (by simp only [enL]; decide)]
theorem h79_1084 {x0 : Int32} : ExP d i (79, 1084, 2, 4, t0) nx ls (.int x0 :: .ref 67 :: st) z (Hp X C M) Q ↔ st.length < 5 ∧ Cw d 1084 [.ref 67, .int x0] z (Hp X C M) (fun v z f => Wp d i nx ls (ps v st) z f Q) := by
  rw [r_79' (as := [.ref 67, .int x0]) (st' := st) rfl]
  unfold Ca rcv
  rw [and_iff_right (show rce (Hp X C M 67) 1084 = true from rfl), show ((en [.ref 67, .int x0]).length ≤ (4 : Int).toNat ∧ st.length < 5) ↔ st.length < 5 from and_iff_right (by simp only [enL]; decide)]
theorem h79_1085 {x0 : Int32} : ExP d i (79, 1085, 2, 2, t0) nx ls (.int x0 :: .ref 67 :: st) z (Hp X C M) Q ↔ st.length < 5 ∧ Cw d 1085 [.ref 67, .int x0] z (Hp X C M) (fun v z f => Wp d i nx ls (ps v st) z f Q) := by
  rw [r_79' (as := [.ref 67, .int x0]) (st' := st) rfl]
  unfold Ca rcv
  rw [and_iff_right (show rce (Hp X C M 67) 1085 = true from rfl), show ((en [.ref 67, .int x0]).length ≤ (2 : Int).toNat ∧ st.length < 5) ↔ st.length < 5 from and_iff_right (by simp only [enL]; decide)]
theorem h79_1086  : ExP d i (79, 1086, 1, 1, t0) nx ls (.ref 67 :: st) z (Hp X C M) Q ↔ st.length < 5 ∧ Cw d 1086 [.ref 67] z (Hp X C M) (fun v z f => Wp d i nx ls (ps v st) z f Q) := by
  rw [r_79' (as := [.ref 67]) (st' := st) rfl]
  unfold Ca rcv
  rw [and_iff_right (show rce (Hp X C M 67) 1086 = true from rfl), show ((en [.ref 67]).length ≤ (1 : Int).toNat ∧ st.length < 5) ↔ st.length < 5 from and_iff_right (by simp only [enL]; decide)]
theorem h79_1087 {x0 : Int32} : ExP d i (79, 1087, 2, 2, t0) nx ls (.int x0 :: .ref 67 :: st) z (Hp X C M) Q ↔ st.length < 5 ∧ Cw d 1087 [.ref 67, .int x0] z (Hp X C M) (fun v z f => Wp d i nx ls (ps v st) z f Q) := by
  rw [r_79' (as := [.ref 67, .int x0]) (st' := st) rfl]
  unfold Ca rcv
  rw [and_iff_right (show rce (Hp X C M 67) 1087 = true from rfl), show ((en [.ref 67, .int x0]).length ≤ (2 : Int).toNat ∧ st.length < 5) ↔ st.length < 5 from and_iff_right (by simp only [enL]; decide)]
theorem h79_1088 {x0 : Int32} : ExP d i (79, 1088, 2, 2, t0) nx ls (.int x0 :: .ref 67 :: st) z (Hp X C M) Q ↔ st.length < 5 ∧ Cw d 1088 [.ref 67, .int x0] z (Hp X C M) (fun v z f => Wp d i nx ls (ps v st) z f Q) := by
  rw [r_79' (as := [.ref 67, .int x0]) (st' := st) rfl]
  unfold Ca rcv
  rw [and_iff_right (show rce (Hp X C M 67) 1088 = true from rfl), show ((en [.ref 67, .int x0]).length ≤ (2 : Int).toNat ∧ st.length < 5) ↔ st.length < 5 from and_iff_right (by simp only [enL]; decide)]
theorem h79_1089  : ExP d i (79, 1089, 1, 3, t0) nx ls (.ref 67 :: st) z (Hp X C M) Q ↔ st.length < 5 ∧ Cw d 1089 [.ref 67] z (Hp X C M) (fun v z f => Wp d i nx ls (ps v st) z f Q) := by
  rw [r_79' (as := [.ref 67]) (st' := st) rfl]
  unfold Ca rcv
  rw [and_iff_right (show rce (Hp X C M 67) 1089 = true from rfl), show ((en [.ref 67]).length ≤ (3 : Int).toNat ∧ st.length < 5) ↔ st.length < 5 from and_iff_right (by simp only [enL]; decide)]
theorem h79_1090  : ExP d i (79, 1090, 1, 3, t0) nx ls (.ref 67 :: st) z (Hp X C M) Q ↔ st.length < 5 ∧ Cw d 1090 [.ref 67] z (Hp X C M) (fun v z f => Wp d i nx ls (ps v st) z f Q) := by
  rw [r_79' (as := [.ref 67]) (st' := st) rfl]
  unfold Ca rcv
  rw [and_iff_right (show rce (Hp X C M 67) 1090 = true from rfl), show ((en [.ref 67]).length ≤ (3 : Int).toNat ∧ st.length < 5) ↔ st.length < 5 from and_iff_right (by simp only [enL]; decide)]
theorem h80_948 {x0 : Int32} : ExP d i (80, 948, 1, 1, t0) nx ls (.int x0 :: st) z f Q ↔ st.length < 5 ∧ Cw d 948 [.int x0] z f (fun v z f => Wp d i nx ls (ps v st) z f Q) := by
  rw [r_80' (as := [.int x0]) (st' := st) rfl]
  unfold Ca
  rw [show ((en [.int x0]).length ≤ (1 : Int).toNat ∧ st.length < 5) ↔ st.length < 5 from and_iff_right (by simp only [enL]; decide)]
theorem h80_949 {x0 : Int32} : ExP d i (80, 949, 1, 1, t0) nx ls (.int x0 :: st) z f Q ↔ st.length < 5 ∧ Cw d 949 [.int x0] z f (fun v z f => Wp d i nx ls (ps v st) z f Q) := by
  rw [r_80' (as := [.int x0]) (st' := st) rfl]
  unfold Ca
  rw [show ((en [.int x0]).length ≤ (1 : Int).toNat ∧ st.length < 5) ↔ st.length < 5 from and_iff_right (by simp only [enL]; decide)]
theorem h80_950 {x0 : Int32} : ExP d i (80, 950, 1, 1, t0) nx ls (.int x0 :: st) z f Q ↔ st.length < 5 ∧ Cw d 950 [.int x0] z f (fun v z f => Wp d i nx ls (ps v st) z f Q) := by
  rw [r_80' (as := [.int x0]) (st' := st) rfl]
  unfold Ca
  rw [show ((en [.int x0]).length ≤ (1 : Int).toNat ∧ st.length < 5) ↔ st.length < 5 from and_iff_right (by simp only [enL]; decide)]
theorem h80_961 {x0 : Nat} : ExP d i (80, 961, 1, 3, t0) nx ls (.ref x0 :: st) z f Q ↔ st.length < 5 ∧ Cw d 961 [.ref x0] z f (fun v z f => Wp d i nx ls (ps v st) z f Q) := by
  rw [r_80' (as := [.ref x0]) (st' := st) rfl]
  unfold Ca
  rw [show ((en [.ref x0]).length ≤ (3 : Int).toNat ∧ st.length < 5) ↔ st.length < 5 from and_iff_right (by simp only [enL]; decide)]
theorem h80_962 {x0 : Int64} {x1 : Int64} : ExP d i (80, 962, 2, 4, t0) nx ls (.long x1 :: .long x0 :: st) z f Q ↔ st.length < 5 ∧ Cw d 962 [.long x0, .long x1] z f (fun v z f => Wp d i nx ls (ps v st) z f Q) := by
  rw [r_80' (as := [.long x0, .long x1]) (st' := st) rfl]
  unfold Ca
  rw [show ((en [.long x0, .long x1]).length ≤ (4 : Int).toNat ∧ st.length < 5) ↔ st.length < 5 from and_iff_right (by simp only [enL]; decide)]
theorem h80_963 {x0 : Int32} {x1 : Int32} : ExP d i (80, 963, 2, 2, t0) nx ls (.int x1 :: .int x0 :: st) z f Q ↔ st.length < 5 ∧ Cw d 963 [.int x0, .int x1] z f (fun v z f => Wp d i nx ls (ps v st) z f Q) := by
  rw [r_80' (as := [.int x0, .int x1]) (st' := st) rfl]
  unfold Ca
  rw [show ((en [.int x0, .int x1]).length ≤ (2 : Int).toNat ∧ st.length < 5) ↔ st.length < 5 from and_iff_right (by simp only [enL]; decide)]
theorem h80_964 {x0 : Int32} {x1 : Int32} : ExP d i (80, 964, 2, 4, t0) nx ls (.int x1 :: .int x0 :: st) z f Q ↔ st.length < 5 ∧ Cw d 964 [.int x0, .int x1] z f (fun v z f => Wp d i nx ls (ps v st) z f Q) := by
  rw [r_80' (as := [.int x0, .int x1]) (st' := st) rfl]
  unfold Ca
  rw [show ((en [.int x0, .int x1]).length ≤ (4 : Int).toNat ∧ st.length < 5) ↔ st.length < 5 from and_iff_right (by simp only [enL]; decide)]
theorem h80_1001 {x0 : Int32} {x1 : Int32} {x2 : Int32} : ExP d i (80, 1001, 3, 3, t0) nx ls (.int x2 :: .int x1 :: .int x0 :: st) z f Q ↔ st.length < 5 ∧ Cw d 1001 [.int x0, .int x1, .int x2] z f (fun v z f => Wp d i nx ls (ps v st) z f Q) := by
  rw [r_80' (as := [.int x0, .int x1, .int x2]) (st' := st) rfl]
  unfold Ca
  rw [show ((en [.int x0, .int x1, .int x2]).length ≤ (3 : Int).toNat ∧ st.length < 5) ↔ st.length < 5 from and_iff_right (by simp only [enL]; decide)]
theorem h80_1005 {x0 : Int32} {x1 : Int32} : ExP d i (80, 1005, 2, 2, t0) nx ls (.int x1 :: .int x0 :: st) z f Q ↔ st.length < 5 ∧ Cw d 1005 [.int x0, .int x1] z f (fun v z f => Wp d i nx ls (ps v st) z f Q) := by
  rw [r_80' (as := [.int x0, .int x1]) (st' := st) rfl]
  unfold Ca
  rw [show ((en [.int x0, .int x1]).length ≤ (2 : Int).toNat ∧ st.length < 5) ↔ st.length < 5 from and_iff_right (by simp only [enL]; decide)]
theorem h80_1006 {x0 : Int32} : ExP d i (80, 1006, 1, 3, t0) nx ls (.int x0 :: st) z f Q ↔ st.length < 5 ∧ Cw d 1006 [.int x0] z f (fun v z f => Wp d i nx ls (ps v st) z f Q) := by
  rw [r_80' (as := [.int x0]) (st' := st) rfl]
  unfold Ca
  rw [show ((en [.int x0]).length ≤ (3 : Int).toNat ∧ st.length < 5) ↔ st.length < 5 from and_iff_right (by simp only [enL]; decide)]
theorem h80_1007 {x0 : Int32} : ExP d i (80, 1007, 1, 1, t0) nx ls (.int x0 :: st) z f Q ↔ st.length < 5 ∧ Cw d 1007 [.int x0] z f (fun v z f => Wp d i nx ls (ps v st) z f Q) := by
  rw [r_80' (as := [.int x0]) (st' := st) rfl]
  unfold Ca
  rw [show ((en [.int x0]).length ≤ (1 : Int).toNat ∧ st.length < 5) ↔ st.length < 5 from and_iff_right (by simp only [enL]; decide)]
theorem h80_1008 {x0 : Int32} : ExP d i (80, 1008, 1, 1, t0) nx ls (.int x0 :: st) z f Q ↔ st.length < 5 ∧ Cw d 1008 [.int x0] z f (fun v z f => Wp d i nx ls (ps v st) z f Q) := by
  rw [r_80' (as := [.int x0]) (st' := st) rfl]
  unfold Ca
  rw [show ((en [.int x0]).length ≤ (1 : Int).toNat ∧ st.length < 5) ↔ st.length < 5 from and_iff_right (by simp only [enL]; decide)]
theorem h80_1023 {x0 : Int32} : ExP d i (80, 1023, 1, 1, t0) nx ls (.int x0 :: st) z f Q ↔ st.length < 5 ∧ Cw d 1023 [.int x0] z f (fun v z f => Wp d i nx ls (ps v st) z f Q) := by
  rw [r_80' (as := [.int x0]) (st' := st) rfl]
  unfold Ca
  rw [show ((en [.int x0]).length ≤ (1 : Int).toNat ∧ st.length < 5) ↔ st.length < 5 from and_iff_right (by simp only [enL]; decide)]
theorem h80_1200 {x0 : Int32} : ExP d i (80, 1200, 1, 1, t0) nx ls (.int x0 :: st) z f Q ↔ st.length < 5 ∧ Cw d 1200 [.int x0] z f (fun v z f => Wp d i nx ls (ps v st) z f Q) := by
  rw [r_80' (as := [.int x0]) (st' := st) rfl]
  unfold Ca
  rw [show ((en [.int x0]).length ≤ (1 : Int).toNat ∧ st.length < 5) ↔ st.length < 5 from and_iff_right (by simp only [enL]; decide)]
theorem h80_1300 {x0 : Nat} {x1 : Int32} : ExP d i (80, 1300, 2, 4, t0) nx ls (.int x1 :: .ref x0 :: st) z f Q ↔ st.length < 5 ∧ Cw d 1300 [.ref x0, .int x1] z f (fun v z f => Wp d i nx ls (ps v st) z f Q) := by
  rw [r_80' (as := [.ref x0, .int x1]) (st' := st) rfl]
  unfold Ca
  rw [show ((en [.ref x0, .int x1]).length ≤ (4 : Int).toNat ∧ st.length < 5) ↔ st.length < 5 from and_iff_right (by simp only [enL]; decide)]
theorem h80_1301 {x0 : Nat} {x1 : Int64} : ExP d i (80, 1301, 2, 5, t0) nx ls (.long x1 :: .ref x0 :: st) z f Q ↔ st.length < 5 ∧ Cw d 1301 [.ref x0, .long x1] z f (fun v z f => Wp d i nx ls (ps v st) z f Q) := by
  rw [r_80' (as := [.ref x0, .long x1]) (st' := st) rfl]
  unfold Ca
  rw [show ((en [.ref x0, .long x1]).length ≤ (5 : Int).toNat ∧ st.length < 5) ↔ st.length < 5 from and_iff_right (by simp only [enL]; decide)]
end

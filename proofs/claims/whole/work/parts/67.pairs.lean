/-! telling places apart: the class -/
def itr (π : Nat → Nat) : Nat → Nat → Nat
  | 0, x => x
  | k + 1, x => itr π k (π x)
theorem itr_fix {π : Nat → Nat} {x : Nat} (h : π x = x) : ∀ k, itr π k x = x := by
  intro k
  induction k with
  | zero => rfl
  | succ k ih => show itr π k (π x) = x; rw [h]; exact ih
theorem itr_more {π : Nat → Nat} : ∀ (k j x : Nat), π (itr π k x) = itr π k x → itr π (k + j) x = itr π k x := by
  intro k
  induction k with
  | zero => intro j x h; rw [Nat.zero_add]; exact itr_fix h j
  | succ k ih =>
    intro j x h
    rw [show k + 1 + j = (k + j) + 1 by omega]
    exact ih j (π x) h
theorem itr_lt {π : Nat → Nat} (h : ∀ x, x < 128 → π x < 128) : ∀ (k x : Nat), x < 128 → itr π k x < 128 := by
  intro k
  induction k with
  | zero => intro x hx; exact hx
  | succ k ih => intro x hx; exact ih (π x) (h x hx)
/-- n meetings made this forest -/
def UF (π : Nat → Nat) (n : Nat) : Prop := (∀ x, x < 128 → π x < 128) ∧ (∀ x, x < 128 → π (itr π n x) = itr π n x) ∧ cnt (fun x => decide (π x ≠ x)) 128 = n
theorem cnt_all {p : Nat → Bool} : ∀ n, cnt p n = n → ∀ i, i < n → p i = true := by
  intro n
  induction n with
  | zero => intro _ i hi; omega
  | succ n ih =>
    intro h i hi
    rw [cnt_succ] at h
    have := cnt_le p n
    by_cases hp : p n = true
    · rw [if_pos hp] at h
      by_cases hin : i = n
      · subst hin; exact hp
      · exact ih (by omega) i (by omega)
    · rw [if_neg hp] at h; omega
theorem uf_lt {π : Nat → Nat} {n : Nat} (h : UF π n) : n < 128 := by
  obtain ⟨h1, h2, h3⟩ := h
  have hle := cnt_le (fun x => decide (π x ≠ x)) 128
  refine Nat.lt_of_not_le (fun hn => ?_)
  have he : n = 128 := by omega
  have h4 := cnt_all 128 (h3.trans he) (itr π n 0) (itr_lt h1 n 0 (by decide))
  rw [decide_eq_true_eq] at h4
  exact h4 (h2 0 (by decide))
theorem uf_root {π : Nat → Nat} {n x : Nat} (h : UF π n) (hx : x < 128) : itr π 128 x < 128 ∧ π (itr π 128 x) = itr π 128 x := by
  have hn := uf_lt h
  have e : itr π 128 x = itr π n x := by
    have := itr_more n (128 - n) x (h.2.1 x hx)
    rw [show n + (128 - n) = 128 by omega] at this
    exact this
  exact ⟨itr_lt h.1 128 x hx, by rw [e]; exact h.2.1 x hx⟩
theorem uf_0 : UF (fun x => x) 0 := ⟨fun x h => h, fun x _ => rfl, by
  show cnt (fun x => decide (x ≠ x)) 128 = 0
  exact (cnt_congr (q := fun _ => false) (fun j _ => by simp)).trans (cnt_ext (p := fun _ => false) (Nat.zero_le 128) (fun _ _ => rfl))⟩
theorem uf_meet {π : Nat → Nat} {n a b : Nat} (h : UF π n) (ha : a < 128) (hb : b < 128) (ra : π a = a) (rb : π b = b) (hab : a ≠ b) : UF (va_up π a b) (n + 1) := by
  obtain ⟨h1, h2, h3⟩ := h
  have hstep : ∀ (k x r : Nat), itr π k x = r → π r = r → itr (va_up π a b) (k + 1) x = if r = a then b else r := by
    intro k
    induction k with
    | zero =>
      intro x r hx hr
      have hx : x = r := hx
      subst hx
      show va_up π a b x = _
      by_cases hxa : x = a
      · subst hxa; rw [up_s, if_pos rfl]
      · rw [up_n _ _ hxa, if_neg hxa]; exact hr
    | succ k ih =>
      intro x r hx hr
      have hx' : itr π k (π x) = r := hx
      show itr (va_up π a b) (k + 1) (va_up π a b x) = _
      by_cases hxa : x = a
      · subst hxa
        rw [ra, itr_fix ra] at hx'
        rw [up_s, if_pos hx'.symm]
        exact itr_fix (by rw [up_n _ _ (fun e => hab e.symm)]; exact rb) _
      · rw [up_n _ _ hxa]
        exact ih (π x) r hx' hr
  refine ⟨fun x hx => ?_, fun x hx => ?_, ?_⟩
  · by_cases hxa : x = a
    · subst hxa; rw [up_s]; exact hb
    · rw [up_n _ _ hxa]; exact h1 x hx
  · rw [hstep n x _ rfl (h2 x hx)]
    by_cases hr : itr π n x = a
    · rw [if_pos hr, up_n _ _ (fun e => hab e.symm)]; exact rb
    · rw [if_neg hr, up_n _ _ hr]; exact h2 x hx
  · have e : (fun x => decide (va_up π a b x ≠ x)) = va_up (fun x => decide (π x ≠ x)) a true := by
      funext x
      by_cases hxa : x = a
      · subst hxa
        rw [up_s, up_s]
        exact decide_eq_true (fun e => hab e.symm)
      · rw [up_n _ _ hxa, up_n _ _ hxa]
    rw [e, cnt_ins (by simp [ra]), if_pos ha, h3]
def UI (L : Nat → Nat → Nat) (S T n : Nat) (M Y π : Nat → Nat) : Prop := ∀ k x, (∀ j, j < n → sam L (rnw L S (M j) (Y j)) (rnw L T (M j) (Y j)) k x) → ∀ A, A < 128 → sam L A (π A) k x
theorem ui_itr {L : Nat → Nat → Nat} {S T n k x : Nat} {M Y π : Nat → Nat} (h : UI L S T n M Y π) (hπ : ∀ x, x < 128 → π x < 128) (hs : ∀ j, j < n → sam L (rnw L S (M j) (Y j)) (rnw L T (M j) (Y j)) k x) : ∀ (q A : Nat), A < 128 → sam L A (itr π q A) k x := by
  intro q
  induction q with
  | zero => intro A _; exact Iff.rfl
  | succ q ih => intro A hA; exact (h k x hs A hA).trans (ih (π A) (hπ A hA))
theorem ui_drop {L : Nat → Nat → Nat} {S T n A B k x : Nat} {M Y π : Nat → Nat} (h : UI L S T n M Y π) (hu : UF π n) (hA : A < 128) (hB : B < 128) (he : itr π 128 A = itr π 128 B) (hn : ¬ sam L A B k x) : ∃ j, j < n ∧ ¬ sam L (rnw L S (M j) (Y j)) (rnw L T (M j) (Y j)) k x := by
  refine Classical.byContradiction (fun hno => hn ?_)
  have hs : ∀ j, j < n → sam L (rnw L S (M j) (Y j)) (rnw L T (M j) (Y j)) k x := fun j hj => Classical.byContradiction (fun h2 => hno ⟨j, hj, h2⟩)
  have h1 := ui_itr h hu.1 hs 128 A hA
  have h2 := ui_itr h hu.1 hs 128 B hB
  rw [← he] at h2
  exact h1.trans h2.symm
theorem ui_meet {L : Nat → Nat → Nat} {S T n A B m y : Nat} {M Y π : Nat → Nat} (h : UI L S T n M Y π) (hu : UF π n) (hA : A < 128) (hB : B < 128) (eA : rnw L S m y = A) (eB : rnw L T m y = B) : UI L S T (n + 1) (va_up M n m) (va_up Y n y) (va_up π (itr π 128 A) (itr π 128 B)) := by
  intro k x hs X hX
  have hs0 : ∀ j, j < n → sam L (rnw L S (M j) (Y j)) (rnw L T (M j) (Y j)) k x := fun j hj => by
    have := hs j (by omega)
    rw [up_n _ _ (by omega), up_n _ _ (by omega)] at this
    exact this
  have hn := hs n (by omega)
  rw [up_s, up_s, eA, eB] at hn
  by_cases hX2 : X = itr π 128 A
  · subst hX2
    rw [up_s]
    exact ((ui_itr h hu.1 hs0 128 A hA).symm.trans hn).trans (ui_itr h hu.1 hs0 128 B hB)
  · rw [up_n _ _ hX2]; exact h k x hs0 X hX
/-- what the class holds of the line -/
def PS (L : Nat → Nat → Nat) (S T n : Nat) (M Y π : Nat → Nat) (i c : Nat) (x22 : Int32) (g28 g29 g30 : Nat → Int32) : Prop :=
  WK L S T n M Y i c ∧ UF π n ∧ UI L S T n M Y π ∧ x22 = nI n ∧ (∀ x, x < 128 → g28 x = nI (π x)) ∧ ∀ j, j < n → g29 j = nI (rnw L S (M j) (Y j)) ∧ g30 j = nI (rnw L T (M j) (Y j)) ∧ rnw L S (M j) (Y j) < 128 ∧ rnw L T (M j) (Y j) < 128
section
variable {t d : Nat} {z : AZ} {X : Nat × (Nat → Int32)} {C : CT} {M : MT} {s : Nat → Int32} {v : Nat → Int64} {g : Nat → Nat → Int32} {w : Nat → Nat → Int64} {q : Nat → Nat} {ct : Nat → Int32} {cn : Nat → Int32} {cc : Nat → Nat → Int32} {di : Nat → Nat → Int32} {dr : Nat → Nat → Int32} {df : Nat → Nat → Int32} {li : Nat → Nat → Int32} {la : Nat → Nat → Nat → Int32} {sf : Nat → Nat → Int32} {sl : Nat → Nat → Int32} {a : Nat → Int32} {b : Nat → Int64} {e : Nat → Nat → Int32} {o : Nat → Nat → Int64} {B : Nat → Bool} {n : Nat → Nat} {P N W : Nat} {K O T J : Nat → Nat} {l : Nat} {Ds : Nat → Nat} {Dr Df Dp : Nat → Nat → Nat} {KB : Nat → Bool}
variable {Q : Option Value → AZ → AH → Prop} {L : Nat → Nat → Nat} {c : Nat}
theorem lp_forget : ∀ (j k : Nat) (γ : Nat → Int32), k + j = 128 → (∀ x, x < k → γ x = nI x) → (∀ γ', (∀ x, x < 128 → γ' x = nI x) → Q none z (Hp X (s, v, va_up g 28 γ', w, q, ct, cn, cc, di, dr, df, li, la, sf, sl) M)) → Wp d 404 7 [some (.ref 25), some (.int (nI k))] [] z (Hp X (s, v, va_up g 28 γ, w, q, ct, cn, cc, di, dr, df, li, la, sf, sl) M) Q := by
  intro j
  induction j with
  | zero =>
    intro k γ hk hγ hQ
    have hk : k = 128 := by omega
    subst hk
    rw [W404_7]
    simp (disch := omega) only [W404, r_4, r_La, s_0, ci_0, h61_4_6, r_5, r_2, r_Li, ci_128, r_49, h60_4_3, s_8, r_In, ci_1, r_52, r_93, h65_28, enR, LG, LSt, LC, nlR, psR, TK, up_s, up_n, up_u, lt_nI, le_nI, eq_nI, true_and, and_true, if_true, if_false, Nat.zero_add, Nat.add_zero, nI_add, ↓reduceIte, Nat.reduceAdd, Nat.reduceMul, Nat.reduceSub, Nat.reduceLT, Nat.reduceLeDiff, Nat.reduceEqDiff, Nat.not_lt_zero, Nat.lt_irrefl, decide_true, BEq.rfl, nm1, nm2, nm3, nm4, nm9, ngc, eq_self, List.length_cons, List.length_nil]
    exact hQ γ hγ
  | succ j ih =>
    intro k γ hk hγ hQ
    have h1 : k < 128 := by omega
    rw [W404_7]
    simp (disch := omega) only [W404, r_4, r_La, s_0, ci_0, h61_4_6, r_5, r_2, r_Li, ci_128, r_49, h60_4_3, s_8, r_In, ci_1, r_52, r_93, h65_28, enR, LG, LSt, LC, nlR, psR, TK, up_s, up_n, up_u, lt_nI, le_nI, eq_nI, true_and, and_true, if_true, if_false, Nat.zero_add, Nat.add_zero, nI_add, ↓reduceIte, Nat.reduceAdd, Nat.reduceMul, Nat.reduceSub, Nat.reduceLT, Nat.reduceLeDiff, Nat.reduceEqDiff, Nat.not_lt_zero, Nat.lt_irrefl, decide_true, BEq.rfl, nm1, nm2, nm3, nm4, nm9, ngc, eq_self, List.length_cons, List.length_nil, h1]
    refine ih (k + 1) _ (by omega) (fun x hx => ?_) hQ
    by_cases hxk : x = k
    · subst hxk; rw [ud_s]
    · rw [ud_n _ _ hxk]; exact hγ x (by omega)
theorem c_forget (hQ : ∀ γ', (∀ x, x < 128 → γ' x = nI x) → Q none z (Hp X (va_up s 22 (nI 0), v, va_up g 28 γ', w, q, ct, cn, cc, di, dr, df, li, la, sf, sl) M)) : Cw (d + 1) 404 [.ref 25] z (Hp X (s, v, g, w, q, ct, cn, cc, di, dr, df, li, la, sf, sl) M) Q := by
  rw [cw_wp]
  simp (disch := omega) only [W404, r_4, r_La, s_0, ci_0, h61_4_6, r_5, r_2, r_Li, ci_128, r_49, h60_4_3, s_8, r_In, ci_1, r_52, r_93, h65_28, enR, LG, LSt, LC, nlR, psR, TK, up_s, up_n, up_u, lt_nI, le_nI, eq_nI, true_and, and_true, if_true, if_false, Nat.zero_add, Nat.add_zero, nI_add, ↓reduceIte, Nat.reduceAdd, Nat.reduceMul, Nat.reduceSub, Nat.reduceLT, Nat.reduceLeDiff, Nat.reduceEqDiff, Nat.not_lt_zero, Nat.lt_irrefl, decide_true, BEq.rfl, nm1, nm2, nm3, nm4, nm9, ngc, eq_self, List.length_cons, List.length_nil]
  have := lp_forget (d := d) (z := z) (Q := Q) (X := X) (M := M) (s := va_up s 22 (nI 0)) (v := v) (g := g) (w := w) (q := q) (ct := ct) (cn := cn) (cc := cc) (di := di) (dr := dr) (df := df) (li := li) (la := la) (sf := sf) (sl := sl) 128 0 (g 28) (by omega) (fun x hx => absurd hx (by omega)) hQ
  rw [up_id (rfl : g 28 = g 28)] at this
  exact this
theorem lp_root {π : Nat → Nat} {x1 : Int32} (hπ : ∀ x, x < 128 → π x < 128) (hg : ∀ x, x < 128 → g 28 x = nI (π x)) : ∀ (j k y : Nat), k + j = 128 → y < 128 → (Wp d 406 7 [some (.ref 25), some (.int x1), some (.int (nI y)), some (.int (nI k))] [] z (Hp X (s, v, g, w, q, ct, cn, cc, di, dr, df, li, la, sf, sl) M) Q ↔ Q (some (.int (nI (itr π j y)))) z (Hp X (s, v, g, w, q, ct, cn, cc, di, dr, df, li, la, sf, sl) M)) := by
  intro j
  induction j with
  | zero =>
    intro k y hk hy
    have hk : k = 128 := by omega
    subst hk
    rw [W406_7]
    simp (disch := omega) only [W406, r_2, r_Li, s_0, ci_127, r_15, r_5, ci_0, ci_128, r_49, r_4, r_La, h60_4_3, r_46, s_8, r_In, ci_1, r_52, r_90, h64_28, enR, LG, LSt, LC, nlR, psR, TK, up_s, up_n, up_u, lt_nI, le_nI, eq_nI, true_and, and_true, if_true, if_false, Nat.zero_add, Nat.add_zero, nI_add, ↓reduceIte, Nat.reduceAdd, Nat.reduceMul, Nat.reduceSub, Nat.reduceLT, Nat.reduceLeDiff, Nat.reduceEqDiff, Nat.not_lt_zero, Nat.lt_irrefl, decide_true, BEq.rfl, nm1, nm2, nm3, nm4, nm9, ngc, eq_self, List.length_cons, List.length_nil, itr]
  | succ j ih =>
    intro k y hk hy
    have h1 : k < 128 := by omega
    have h2 := hπ y hy
    have h3 := hg y hy
    rw [W406_7]
    by_cases h4 : π y = y
    · simp (disch := omega) only [W406, r_2, r_Li, s_0, ci_127, r_15, r_5, ci_0, ci_128, r_49, r_4, r_La, h60_4_3, r_46, s_8, r_In, ci_1, r_52, r_90, h64_28, enR, LG, LSt, LC, nlR, psR, TK, up_s, up_n, up_u, lt_nI, le_nI, eq_nI, true_and, and_true, if_true, if_false, Nat.zero_add, Nat.add_zero, nI_add, ↓reduceIte, Nat.reduceAdd, Nat.reduceMul, Nat.reduceSub, Nat.reduceLT, Nat.reduceLeDiff, Nat.reduceEqDiff, Nat.not_lt_zero, Nat.lt_irrefl, decide_true, BEq.rfl, nm1, nm2, nm3, nm4, nm9, ngc, eq_self, List.length_cons, List.length_nil, h1, hy, h3, h4]
      rw [itr_fix h4]
    · simp (disch := omega) only [W406, r_2, r_Li, s_0, ci_127, r_15, r_5, ci_0, ci_128, r_49, r_4, r_La, h60_4_3, r_46, s_8, r_In, ci_1, r_52, r_90, h64_28, enR, LG, LSt, LC, nlR, psR, TK, up_s, up_n, up_u, lt_nI, le_nI, eq_nI, true_and, and_true, if_true, if_false, Nat.zero_add, Nat.add_zero, nI_add, ↓reduceIte, Nat.reduceAdd, Nat.reduceMul, Nat.reduceSub, Nat.reduceLT, Nat.reduceLeDiff, Nat.reduceEqDiff, Nat.not_lt_zero, Nat.lt_irrefl, decide_true, BEq.rfl, nm1, nm2, nm3, nm4, nm9, ngc, eq_self, List.length_cons, List.length_nil, h1, hy, h3, h4]
      exact ih (k + 1) (π y) (by omega) h2
theorem c_root {π : Nat → Nat} {y : Nat} (hπ : ∀ x, x < 128 → π x < 128) (hg : ∀ x, x < 128 → g 28 x = nI (π x)) (hy : y < 128) : Cw (d + 1) 406 [.ref 25, .int (nI y)] z (Hp X (s, v, g, w, q, ct, cn, cc, di, dr, df, li, la, sf, sl) M) Q ↔ Q (some (.int (nI (itr π 128 y)))) z (Hp X (s, v, g, w, q, ct, cn, cc, di, dr, df, li, la, sf, sl) M) := by
  have e : y &&& 127 = y := by
    rw [show 127 = 2 ^ 7 - 1 from rfl, Nat.and_two_pow_sub_one_eq_mod]
    exact Nat.mod_eq_of_lt hy
  rw [cw_wp]
  simp (disch := omega) only [W406, r_2, r_Li, s_0, ci_127, r_15, r_5, ci_0, ci_128, r_49, r_4, r_La, h60_4_3, r_46, s_8, r_In, ci_1, r_52, r_90, h64_28, enR, LG, LSt, LC, nlR, psR, TK, up_s, up_n, up_u, lt_nI, le_nI, eq_nI, true_and, and_true, if_true, if_false, Nat.zero_add, Nat.add_zero, nI_add, ↓reduceIte, Nat.reduceAdd, Nat.reduceMul, Nat.reduceSub, Nat.reduceLT, Nat.reduceLeDiff, Nat.reduceEqDiff, Nat.not_lt_zero, Nat.lt_irrefl, decide_true, BEq.rfl, nm1, nm2, nm3, nm4, nm9, ngc, eq_self, List.length_cons, List.length_nil, nI_and, e]
  exact lp_root hπ hg 128 0 y (by omega) hy
theorem c_meet_no {π : Nat → Nat} {A B : Nat} (hπ : ∀ x, x < 128 → π x < 128) (hg : ∀ x, x < 128 → g 28 x = nI (π x)) (hA : A < 128) (hB : B < 128) (he : itr π 128 A = itr π 128 B) : Cw (d + 2) 405 [.ref 25, .int (nI A), .int (nI B)] z (Hp X (s, v, g, w, q, ct, cn, cc, di, dr, df, li, la, sf, sl) M) Q ↔ Q none z (Hp X (s, v, g, w, q, ct, cn, cc, di, dr, df, li, la, sf, sl) M) := by
  rw [cw_wp]
  simp (disch := omega) only [W405, r_4, r_La, r_2, r_Li, h79_406, r_5, r_46, h60_4_6, s_0, ci_128, r_49, h60_4_3, h60_4_4, h60_4_5, r_30, r_30r, ci_1, r_10, h61_4_6, r_93, h65_28, h65_29, h65_30, enR, LG, LSt, LC, nlR, psR, TK, up_s, up_n, up_u, lt_nI, le_nI, eq_nI, true_and, and_true, if_true, if_false, Nat.zero_add, Nat.add_zero, nI_add, ↓reduceIte, Nat.reduceAdd, Nat.reduceMul, Nat.reduceSub, Nat.reduceLT, Nat.reduceLeDiff, Nat.reduceEqDiff, Nat.not_lt_zero, Nat.lt_irrefl, decide_true, BEq.rfl, nm1, nm2, nm3, nm4, nm9, ngc, eq_self, List.length_cons, List.length_nil, c_root hπ hg hA, c_root hπ hg hB, he]
theorem c_meet_ok {π : Nat → Nat} {A B n : Nat} (hπ : ∀ x, x < 128 → π x < 128) (hg : ∀ x, x < 128 → g 28 x = nI (π x)) (hA : A < 128) (hB : B < 128) (he : ¬ itr π 128 A = itr π 128 B) (h22 : s 22 = nI n) (hn : n < 128) : Cw (d + 2) 405 [.ref 25, .int (nI A), .int (nI B)] z (Hp X (s, v, g, w, q, ct, cn, cc, di, dr, df, li, la, sf, sl) M) Q ↔ Q none z (Hp X (va_up s 22 (nI (n + 1)), v, va_up (va_up (va_up g 28 (upd (g 28) (itr π 128 A) (nI (itr π 128 B)))) 29 (upd (g 29) n (nI A))) 30 (upd (g 30) n (nI B)), w, q, ct, cn, cc, di, dr, df, li, la, sf, sl) M) := by
  have r1 := itr_lt hπ 128 A hA
  have r2 := itr_lt hπ 128 B hB
  rw [cw_wp]
  simp (disch := omega) only [W405, r_4, r_La, r_2, r_Li, h79_406, r_5, r_46, h60_4_6, s_0, ci_128, r_49, h60_4_3, h60_4_4, h60_4_5, r_30, r_30r, ci_1, r_10, h61_4_6, r_93, h65_28, h65_29, h65_30, enR, LG, LSt, LC, nlR, psR, TK, up_s, up_n, up_u, lt_nI, le_nI, eq_nI, true_and, and_true, if_true, if_false, Nat.zero_add, Nat.add_zero, nI_add, ↓reduceIte, Nat.reduceAdd, Nat.reduceMul, Nat.reduceSub, Nat.reduceLT, Nat.reduceLeDiff, Nat.reduceEqDiff, Nat.not_lt_zero, Nat.lt_irrefl, decide_true, BEq.rfl, nm1, nm2, nm3, nm4, nm9, ngc, eq_self, List.length_cons, List.length_nil, c_root hπ hg hA, c_root hπ hg hB, he, h22, hn, r1]
theorem stp_lt7 {μ : Nat → Int32} {S y : Nat} (h : SL μ L) (hy : y < 10) : stp L S y < 128 :=
  foldu_inv (F := stpF L S y) (fun _ r => r < 2 ^ 7) 7 0 0 (by decide) (fun p x h1 h2 h3 => by
    show stpF L S y p x < 2 ^ 7
    unfold stpF
    split
    · exact Nat.or_lt_two_pow h3 (h p y (by omega) hy).2
    · exact h3)
def FRs (s s' : Nat → Int32) : Prop := ∀ k, k ≠ 21 → k ≠ 22 → s' k = s k
def FRg (g g' : Nat → Nat → Int32) : Prop := ∀ k, k ≠ 28 → k ≠ 29 → k ≠ 30 → g' k = g k
theorem lp_parts {S T i lev en cs : Nat} (hcs : cs < 2) (hSL : SL (sl cs) L)
    (hP : ∀ (s' : Nat → Int32) (g' : Nat → Nat → Int32) (m y : Nat), FRs s s' → FRg g g' → Tres L S T (some (m, y)) → m = lev → m < 256 → s' 21 = (if rnw L S m y = 0 then nI 0 else nI 1) → Q (some (.int (nI 1))) z (Hp X (s', v, g', w, q, ct, cn, cc, di, dr, df, li, la, sf, sl) M))
    (hQ : ∀ (s' : Nat → Int32) (g' : Nat → Nat → Int32) (n : Nat) (M' Y π : Nat → Nat), FRs s s' → FRg g g' → PS L S T n M' Y π i 10 (s' 22) (g' 28) (g' 29) (g' 30) → LV n M' i lev en → Q (some (.int (nI 0))) z (Hp X (s', v, g', w, q, ct, cn, cc, di, dr, df, li, la, sf, sl) M)) :
    ∀ (j y : Nat) (s' : Nat → Int32) (g' : Nat → Nat → Int32) (n : Nat) (M' Y π : Nat → Nat), y + j = 10 → FRs s s' → FRg g g' → PS L S T n M' Y π i y (s' 22) (g' 28) (g' 29) (g' 30) → LV n M' i lev en → i < en → Wp (d + 2) 403 2 [some (.ref 25), some (.ref (so cs)), some (.int (nI i)), some (.int (nI y))] [] z (Hp X (s', v, g', w, q, ct, cn, cc, di, dr, df, li, la, sf, sl) M) Q := by
  intro j
  induction j with
  | zero =>
    intro y s' g' n M' Y π hy hs hg hPS hLV hen
    have hy : y = 10 := by omega
    subst hy
    rw [W403_2]
    simp (disch := omega) only [W403, s_0, ci_0, r_5, r_2, r_Li, ci_10, r_49, r_4, r_La, h60_4_4, h79_604, h60_4_5, s_41, ci_1, r_52, r_46, s_40, h61_4_2_0, h61_4_2_1, r_94, s_Z0, s_Z1, h79_405, s_8, r_In, h64_29, h64_30, enR, LG, LSt, LC, nlR, psR, TK, up_s, up_n, up_u, lt_nI, le_nI, eq_nI, true_and, and_true, if_true, if_false, Nat.zero_add, Nat.add_zero, nI_add, ↓reduceIte, Nat.reduceAdd, Nat.reduceMul, Nat.reduceSub, Nat.reduceLT, Nat.reduceLeDiff, Nat.reduceEqDiff, Nat.not_lt_zero, Nat.lt_irrefl, decide_true, BEq.rfl, nm1, nm2, nm3, nm4, nm9, ngc, eq_self, List.length_cons, List.length_nil]
    exact hQ s' g' n M' Y π hs hg hPS hLV
  | succ j ih =>
    intro y s' g' n M' Y π hy hs hg hPS hLV hen
    have hy10 : y < 10 := by omega
    obtain ⟨hW, hU, hI, h22, h28, h29⟩ := id hPS
    have hi : i < n := by have := hLV.2.1; omega
    have hn := uf_lt hU
    have hi128 : i < 128 := by omega
    obtain ⟨e29, e30, a1, a2⟩ := h29 i hi
    have b1 := stp_lt7 (S := rnw L S (M' i) (Y i)) hSL hy10
    have b2 := stp_lt7 (S := rnw L T (M' i) (Y i)) hSL hy10
    have d1 := rnw_dig L S (M' i) (Y i) y hy10
    have d2 := rnw_dig L T (M' i) (Y i) y hy10
    have hlev : M' i + 1 = lev := hLV.2.2.1 i (Nat.le_refl _) hen
    have hMi := (hW.2.1 i hi).2
    have hgo : ∀ κ : Option Value → AZ → AH → Prop, (∀ f, Wp (d + 2) 403 2 [some (.ref 25), some (.ref (so cs)), some (.int (nI i)), some (.int (nI (y + 1)))] [] z f Q → κ none z f) → (stp L (rnw L S (M' i) (Y i)) y = 0 ↔ stp L (rnw L T (M' i) (Y i)) y = 0) → Cw (d + 2) 405 [.ref 25, .int (nI (stp L (rnw L S (M' i) (Y i)) y)), .int (nI (stp L (rnw L T (M' i) (Y i)) y))] z (Hp X (s', v, g', w, q, ct, cn, cc, di, dr, df, li, la, sf, sl) M) κ := by
      intro κ hκ hiff
      have hsam : sam L S T (M' i + 1) (10 * Y i + y) := by unfold sam; rw [d1, d2]; exact hiff
      by_cases hr : itr π 128 (stp L (rnw L S (M' i) (Y i)) y) = itr π 128 (stp L (rnw L T (M' i) (Y i)) y)
      · rw [c_meet_no hU.1 h28 b1 b2 hr]
        refine hκ _ (ih (y + 1) s' g' n M' Y π (by omega) hs hg ⟨wk_skip hW hi hy10 hsam (fun k x _ hn2 => ui_drop hI hU b1 b2 hr hn2), hU, hI, h22, h28, h29⟩ hLV hen)
      · rw [c_meet_ok hU.1 h28 b1 b2 hr h22 hn]
        obtain ⟨r1, r2⟩ := uf_root hU b1
        obtain ⟨r3, r4⟩ := uf_root hU b2
        refine hκ _ (ih (y + 1) _ _ (n + 1) (va_up M' n (M' i + 1)) (va_up Y n (10 * Y i + y)) (va_up π (itr π 128 (stp L (rnw L S (M' i) (Y i)) y)) (itr π 128 (stp L (rnw L T (M' i) (Y i)) y))) (by omega) (fun k k1 k2 => ?_) (fun k k1 k2 k3 => ?_) ⟨wk_add hW hi hy10 hsam, uf_meet hU r1 r3 r2 r4 hr, ui_meet hI hU b1 b2 d1 d2, up_s _ _ _, fun x hx => ?_, fun q hq => ?_⟩ (lv_add hLV hen) hen)
        · rw [up_n _ _ k2]; exact hs k k1 k2
        · rw [up_n _ _ k3, up_n _ _ k2, up_n _ _ k1]; exact hg k k1 k2 k3
        · show upd (g' 28) (itr π 128 (stp L (rnw L S (M' i) (Y i)) y)) (nI (itr π 128 (stp L (rnw L T (M' i) (Y i)) y))) x = _
          by_cases hxr : x = itr π 128 (stp L (rnw L S (M' i) (Y i)) y)
          · rw [hxr, ud_s, up_s]
          · rw [ud_n _ _ hxr, up_n _ _ hxr]; exact h28 x hx
        · show upd (g' 29) n (nI (stp L (rnw L S (M' i) (Y i)) y)) q = _ ∧ upd (g' 30) n (nI (stp L (rnw L T (M' i) (Y i)) y)) q = _ ∧ _
          by_cases hqn : q = n
          · subst hqn
            rw [ud_s, ud_s, up_s, up_s, d1, d2]
            exact ⟨rfl, rfl, b1, b2⟩
          · rw [ud_n _ _ hqn, ud_n _ _ hqn, up_n _ _ hqn, up_n _ _ hqn]
            exact h29 q (by omega)
    rw [W403_2]
    by_cases z1 : stp L (rnw L S (M' i) (Y i)) y = 0
    · by_cases z2 : stp L (rnw L T (M' i) (Y i)) y = 0
      · simp (disch := omega) only [W403, s_0, ci_0, r_5, r_2, r_Li, ci_10, r_49, r_4, r_La, h60_4_4, h79_604, h60_4_5, s_41, ci_1, r_52, r_46, s_40, h61_4_2_0, h61_4_2_1, r_94, s_Z0, s_Z1, h79_405, s_8, r_In, h64_29, h64_30, enR, LG, LSt, LC, nlR, psR, TK, up_s, up_n, up_u, lt_nI, le_nI, eq_nI, true_and, and_true, if_true, if_false, Nat.zero_add, Nat.add_zero, nI_add, ↓reduceIte, Nat.reduceAdd, Nat.reduceMul, Nat.reduceSub, Nat.reduceLT, Nat.reduceLeDiff, Nat.reduceEqDiff, Nat.not_lt_zero, Nat.lt_irrefl, decide_true, BEq.rfl, nm1, nm2, nm3, nm4, nm9, ngc, eq_self, List.length_cons, List.length_nil, hy10, hi128, e29, e30, c_step hcs hSL hy10, z1, z2]
        rw [z1, z2] at hgo
        exact hgo _ (fun f hf => by simp (disch := omega) only [W403, s_0, ci_0, r_5, r_2, r_Li, ci_10, r_49, r_4, r_La, h60_4_4, h79_604, h60_4_5, s_41, ci_1, r_52, r_46, s_40, h61_4_2_0, h61_4_2_1, r_94, s_Z0, s_Z1, h79_405, s_8, r_In, h64_29, h64_30, enR, LG, LSt, LC, nlR, psR, TK, up_s, up_n, up_u, lt_nI, le_nI, eq_nI, true_and, and_true, if_true, if_false, Nat.zero_add, Nat.add_zero, nI_add, ↓reduceIte, Nat.reduceAdd, Nat.reduceMul, Nat.reduceSub, Nat.reduceLT, Nat.reduceLeDiff, Nat.reduceEqDiff, Nat.not_lt_zero, Nat.lt_irrefl, decide_true, BEq.rfl, nm1, nm2, nm3, nm4, nm9, ngc, eq_self, List.length_cons, List.length_nil]; exact hf) Iff.rfl
      · simp (disch := omega) only [W403, s_0, ci_0, r_5, r_2, r_Li, ci_10, r_49, r_4, r_La, h60_4_4, h79_604, h60_4_5, s_41, ci_1, r_52, r_46, s_40, h61_4_2_0, h61_4_2_1, r_94, s_Z0, s_Z1, h79_405, s_8, r_In, h64_29, h64_30, enR, LG, LSt, LC, nlR, psR, TK, up_s, up_n, up_u, lt_nI, le_nI, eq_nI, true_and, and_true, if_true, if_false, Nat.zero_add, Nat.add_zero, nI_add, ↓reduceIte, Nat.reduceAdd, Nat.reduceMul, Nat.reduceSub, Nat.reduceLT, Nat.reduceLeDiff, Nat.reduceEqDiff, Nat.not_lt_zero, Nat.lt_irrefl, decide_true, BEq.rfl, nm1, nm2, nm3, nm4, nm9, ngc, eq_self, List.length_cons, List.length_nil, hy10, hi128, e29, e30, c_step hcs hSL hy10, z1, z2]
        refine hP _ g' (M' i + 1) (10 * Y i + y) (fun k k1 k2 => ?_) hg (wk_part hW hi hy10 (fun hh => ?_)) hlev (by omega) ?_
        · rw [up_n _ _ k1]; exact hs k k1 k2
        · unfold sam at hh; rw [d1, d2] at hh; exact z2 (hh.mp z1)
        · rw [d1, if_pos z1]; exact up_s _ _ _
    · by_cases z2 : stp L (rnw L T (M' i) (Y i)) y = 0
      · simp (disch := omega) only [W403, s_0, ci_0, r_5, r_2, r_Li, ci_10, r_49, r_4, r_La, h60_4_4, h79_604, h60_4_5, s_41, ci_1, r_52, r_46, s_40, h61_4_2_0, h61_4_2_1, r_94, s_Z0, s_Z1, h79_405, s_8, r_In, h64_29, h64_30, enR, LG, LSt, LC, nlR, psR, TK, up_s, up_n, up_u, lt_nI, le_nI, eq_nI, true_and, and_true, if_true, if_false, Nat.zero_add, Nat.add_zero, nI_add, ↓reduceIte, Nat.reduceAdd, Nat.reduceMul, Nat.reduceSub, Nat.reduceLT, Nat.reduceLeDiff, Nat.reduceEqDiff, Nat.not_lt_zero, Nat.lt_irrefl, decide_true, BEq.rfl, nm1, nm2, nm3, nm4, nm9, ngc, eq_self, List.length_cons, List.length_nil, hy10, hi128, e29, e30, c_step hcs hSL hy10, z1, z2]
        refine hP _ g' (M' i + 1) (10 * Y i + y) (fun k k1 k2 => ?_) hg (wk_part hW hi hy10 (fun hh => ?_)) hlev (by omega) ?_
        · rw [up_n _ _ k1]; exact hs k k1 k2
        · unfold sam at hh; rw [d1, d2] at hh; exact z1 (hh.mpr z2)
        · rw [d1, if_neg z1]; exact up_s _ _ _
      · simp (disch := omega) only [W403, s_0, ci_0, r_5, r_2, r_Li, ci_10, r_49, r_4, r_La, h60_4_4, h79_604, h60_4_5, s_41, ci_1, r_52, r_46, s_40, h61_4_2_0, h61_4_2_1, r_94, s_Z0, s_Z1, h79_405, s_8, r_In, h64_29, h64_30, enR, LG, LSt, LC, nlR, psR, TK, up_s, up_n, up_u, lt_nI, le_nI, eq_nI, true_and, and_true, if_true, if_false, Nat.zero_add, Nat.add_zero, nI_add, ↓reduceIte, Nat.reduceAdd, Nat.reduceMul, Nat.reduceSub, Nat.reduceLT, Nat.reduceLeDiff, Nat.reduceEqDiff, Nat.not_lt_zero, Nat.lt_irrefl, decide_true, BEq.rfl, nm1, nm2, nm3, nm4, nm9, ngc, eq_self, List.length_cons, List.length_nil, hy10, hi128, e29, e30, c_step hcs hSL hy10, z1, z2]
        exact hgo _ (fun f hf => by simp (disch := omega) only [W403, s_0, ci_0, r_5, r_2, r_Li, ci_10, r_49, r_4, r_La, h60_4_4, h79_604, h60_4_5, s_41, ci_1, r_52, r_46, s_40, h61_4_2_0, h61_4_2_1, r_94, s_Z0, s_Z1, h79_405, s_8, r_In, h64_29, h64_30, enR, LG, LSt, LC, nlR, psR, TK, up_s, up_n, up_u, lt_nI, le_nI, eq_nI, true_and, and_true, if_true, if_false, Nat.zero_add, Nat.add_zero, nI_add, ↓reduceIte, Nat.reduceAdd, Nat.reduceMul, Nat.reduceSub, Nat.reduceLT, Nat.reduceLeDiff, Nat.reduceEqDiff, Nat.not_lt_zero, Nat.lt_irrefl, decide_true, BEq.rfl, nm1, nm2, nm3, nm4, nm9, ngc, eq_self, List.length_cons, List.length_nil]; exact hf) (iff_of_false z1 z2)
def tdo (x : Option (Nat × Nat)) : Int32 := match x with
  | none => -9
  | some p => nI p.1
theorem lp_tell {S T cs p0 q0 : Nat} (hcs : cs < 2) (hSL : SL (sl cs) L)
    (hQ : ∀ (s' : Nat → Int32) (g' : Nat → Nat → Int32) (out : Option (Nat × Nat)), FRs s s' → FRg g g' → Tres L S T out → (∀ m y, out = some (m, y) → m < 256 ∧ s' 21 = (if rnw L S m y = 0 then nI 0 else nI 1)) → Q (some (.int (tdo out))) z (Hp X (s', v, g', w, q, ct, cn, cc, di, dr, df, li, la, sf, sl) M)) :
    ∀ (j i lev en : Nat) (s' : Nat → Int32) (g' : Nat → Nat → Int32) (n : Nat) (M' Y π : Nat → Nat), i + j = 128 → i ≤ n → en ≤ 128 → FRs s s' → FRg g g' → PS L S T n M' Y π i 0 (s' 22) (g' 28) (g' 29) (g' 30) → LV n M' i lev en → Wp (d + 3) 401 26 [some (.ref 25), some (.ref (so cs)), some (.int (nI p0)), some (.int (nI q0)), some (.int (nI lev)), some (.int (nI en)), some (.int (nI i))] [] z (Hp X (s', v, g', w, q, ct, cn, cc, di, dr, df, li, la, sf, sl) M) Q := by
  have hend : ∀ (i lev en : Nat) (s' : Nat → Int32) (g' : Nat → Nat → Int32) (n : Nat) (M' Y π : Nat → Nat), i = n → FRs s s' → FRg g g' → PS L S T n M' Y π i 0 (s' 22) (g' 28) (g' 29) (g' 30) → Q (some (.int (-9))) z (Hp X (s', v, g', w, q, ct, cn, cc, di, dr, df, li, la, sf, sl) M) := by
    intro i lev en s' g' n M' Y π hi hs hg hPS
    subst hi
    exact hQ s' g' none hs hg (wk_end hPS.1) (fun m y h => absurd h (by simp))
  intro j
  induction j with
  | zero =>
    intro i lev en s' g' n M' Y π hj hin hen hs hg hPS hLV
    have hn := uf_lt hPS.2.1
    omega
  | succ j ih =>
    intro i lev en s' g' n M' Y π hj hin hen hs hg hPS hLV
    have hn := uf_lt hPS.2.1
    have h22 := hPS.2.2.2.1
    have h128 : i < 128 := by omega
    rw [W401_26]
    by_cases hi : i < n
    · have hgo : ∀ (lev en : Nat) (κ : Option Value → AZ → AH → Prop), LV n M' i lev en → i < en → en ≤ 128 → (∀ f, Q (some (.int (nI lev))) z f → κ (some (.int (nI 1))) z f) → (∀ f, Wp (d + 3) 401 26 [some (.ref 25), some (.ref (so cs)), some (.int (nI p0)), some (.int (nI q0)), some (.int (nI lev)), some (.int (nI en)), some (.int (nI (i + 1)))] [] z f Q → κ (some (.int (nI 0))) z f) → Cw (d + 3) 403 [.ref 25, .ref (so cs), .int (nI i)] z (Hp X (s', v, g', w, q, ct, cn, cc, di, dr, df, li, la, sf, sl) M) κ := by
        intro lev en κ hLV2 hien hen2 k1 k2
        rw [cw_wp]
        simp (disch := omega) only [W403, s_0, ci_0, r_5, r_2, r_Li, ci_10, r_49, r_4, r_La, h60_4_4, h79_604, h60_4_5, s_41, ci_1, r_52, r_46, s_40, h61_4_2_0, h61_4_2_1, r_94, s_Z0, s_Z1, h79_405, s_8, r_In, h64_29, h64_30, enR, LG, LSt, LC, nlR, psR, TK, up_s, up_n, up_u, lt_nI, le_nI, eq_nI, true_and, and_true, if_true, if_false, Nat.zero_add, Nat.add_zero, nI_add, ↓reduceIte, Nat.reduceAdd, Nat.reduceMul, Nat.reduceSub, Nat.reduceLT, Nat.reduceLeDiff, Nat.reduceEqDiff, Nat.not_lt_zero, Nat.lt_irrefl, decide_true, BEq.rfl, nm1, nm2, nm3, nm4, nm9, ngc, eq_self, List.length_cons, List.length_nil]
        refine lp_parts (S := S) (T := T) (lev := lev) (en := en) hcs hSL (fun s2 g2 m y f1 f2 f3 f4 f5 f6 => ?_) (fun s2 g2 n2 M2 Y2 π2 f1 f2 f3 f4 => ?_) 10 0 s' g' n M' Y π (by omega) hs hg hPS hLV2 hien
        · refine k1 _ ?_
          rw [← f4]
          exact hQ s2 g2 (some (m, y)) f1 f2 f3 (fun m' y' he => by
            cases he
            exact ⟨f5, f6⟩)
        · refine k2 _ ?_
          have hi2 : i < n2 := by have := f4.2.1; omega
          exact ih (i + 1) lev en s2 g2 n2 M2 Y2 π2 (by omega) (by omega) hen2 f1 f2 ⟨wk_next f3.1 hi2, f3.2⟩ (lv_next f4 hien)
      by_cases hie : i = en
      · subst hie
        simp (disch := omega) only [W401, r_4, r_La, h79_404, s_0, ci_1, r_2, r_Li, r_18, h79_405, r_5, h60_4_6, ci_0, r_49, ci_128, r_47, s_8, r_In, h79_403, s_40, r_90, r_52, ci_m9, enR, LG, LSt, LC, nlR, psR, TK, up_s, up_n, up_u, lt_nI, le_nI, eq_nI, true_and, and_true, if_true, if_false, Nat.zero_add, Nat.add_zero, nI_add, ↓reduceIte, Nat.reduceAdd, Nat.reduceMul, Nat.reduceSub, Nat.reduceLT, Nat.reduceLeDiff, Nat.reduceEqDiff, Nat.not_lt_zero, Nat.lt_irrefl, decide_true, BEq.rfl, nm1, nm2, nm3, nm4, nm9, ngc, eq_self, List.length_cons, List.length_nil, h22, hi, h128]
        exact hgo (lev + 1) n _ (lv_adv hLV) hi (by omega) (fun f hf => by simp (disch := omega) only [W401, r_4, r_La, h79_404, s_0, ci_1, r_2, r_Li, r_18, h79_405, r_5, h60_4_6, ci_0, r_49, ci_128, r_47, s_8, r_In, h79_403, s_40, r_90, r_52, ci_m9, enR, LG, LSt, LC, nlR, psR, TK, up_s, up_n, up_u, lt_nI, le_nI, eq_nI, true_and, and_true, if_true, if_false, Nat.zero_add, Nat.add_zero, nI_add, ↓reduceIte, Nat.reduceAdd, Nat.reduceMul, Nat.reduceSub, Nat.reduceLT, Nat.reduceLeDiff, Nat.reduceEqDiff, Nat.not_lt_zero, Nat.lt_irrefl, decide_true, BEq.rfl, nm1, nm2, nm3, nm4, nm9, ngc, eq_self, List.length_cons, List.length_nil]; exact hf) (fun f hf => by simp (disch := omega) only [W401, r_4, r_La, h79_404, s_0, ci_1, r_2, r_Li, r_18, h79_405, r_5, h60_4_6, ci_0, r_49, ci_128, r_47, s_8, r_In, h79_403, s_40, r_90, r_52, ci_m9, enR, LG, LSt, LC, nlR, psR, TK, up_s, up_n, up_u, lt_nI, le_nI, eq_nI, true_and, and_true, if_true, if_false, Nat.zero_add, Nat.add_zero, nI_add, ↓reduceIte, Nat.reduceAdd, Nat.reduceMul, Nat.reduceSub, Nat.reduceLT, Nat.reduceLeDiff, Nat.reduceEqDiff, Nat.not_lt_zero, Nat.lt_irrefl, decide_true, BEq.rfl, nm1, nm2, nm3, nm4, nm9, ngc, eq_self, List.length_cons, List.length_nil]; exact hf)
      · have hien : i < en := by have := hLV.1; omega
        simp (disch := omega) only [W401, r_4, r_La, h79_404, s_0, ci_1, r_2, r_Li, r_18, h79_405, r_5, h60_4_6, ci_0, r_49, ci_128, r_47, s_8, r_In, h79_403, s_40, r_90, r_52, ci_m9, enR, LG, LSt, LC, nlR, psR, TK, up_s, up_n, up_u, lt_nI, le_nI, eq_nI, true_and, and_true, if_true, if_false, Nat.zero_add, Nat.add_zero, nI_add, ↓reduceIte, Nat.reduceAdd, Nat.reduceMul, Nat.reduceSub, Nat.reduceLT, Nat.reduceLeDiff, Nat.reduceEqDiff, Nat.not_lt_zero, Nat.lt_irrefl, decide_true, BEq.rfl, nm1, nm2, nm3, nm4, nm9, ngc, eq_self, List.length_cons, List.length_nil, h22, hi, h128, hie]
        exact hgo lev en _ hLV hien hen (fun f hf => by simp (disch := omega) only [W401, r_4, r_La, h79_404, s_0, ci_1, r_2, r_Li, r_18, h79_405, r_5, h60_4_6, ci_0, r_49, ci_128, r_47, s_8, r_In, h79_403, s_40, r_90, r_52, ci_m9, enR, LG, LSt, LC, nlR, psR, TK, up_s, up_n, up_u, lt_nI, le_nI, eq_nI, true_and, and_true, if_true, if_false, Nat.zero_add, Nat.add_zero, nI_add, ↓reduceIte, Nat.reduceAdd, Nat.reduceMul, Nat.reduceSub, Nat.reduceLT, Nat.reduceLeDiff, Nat.reduceEqDiff, Nat.not_lt_zero, Nat.lt_irrefl, decide_true, BEq.rfl, nm1, nm2, nm3, nm4, nm9, ngc, eq_self, List.length_cons, List.length_nil]; exact hf) (fun f hf => by simp (disch := omega) only [W401, r_4, r_La, h79_404, s_0, ci_1, r_2, r_Li, r_18, h79_405, r_5, h60_4_6, ci_0, r_49, ci_128, r_47, s_8, r_In, h79_403, s_40, r_90, r_52, ci_m9, enR, LG, LSt, LC, nlR, psR, TK, up_s, up_n, up_u, lt_nI, le_nI, eq_nI, true_and, and_true, if_true, if_false, Nat.zero_add, Nat.add_zero, nI_add, ↓reduceIte, Nat.reduceAdd, Nat.reduceMul, Nat.reduceSub, Nat.reduceLT, Nat.reduceLeDiff, Nat.reduceEqDiff, Nat.not_lt_zero, Nat.lt_irrefl, decide_true, BEq.rfl, nm1, nm2, nm3, nm4, nm9, ngc, eq_self, List.length_cons, List.length_nil]; exact hf)
    · have hi2 : i = n := by omega
      simp (disch := omega) only [W401, r_4, r_La, h79_404, s_0, ci_1, r_2, r_Li, r_18, h79_405, r_5, h60_4_6, ci_0, r_49, ci_128, r_47, s_8, r_In, h79_403, s_40, r_90, r_52, ci_m9, enR, LG, LSt, LC, nlR, psR, TK, up_s, up_n, up_u, lt_nI, le_nI, eq_nI, true_and, and_true, if_true, if_false, Nat.zero_add, Nat.add_zero, nI_add, ↓reduceIte, Nat.reduceAdd, Nat.reduceMul, Nat.reduceSub, Nat.reduceLT, Nat.reduceLeDiff, Nat.reduceEqDiff, Nat.not_lt_zero, Nat.lt_irrefl, decide_true, BEq.rfl, nm1, nm2, nm3, nm4, nm9, ngc, eq_self, List.length_cons, List.length_nil, h22, hi]
      exact hend i lev en s' g' n M' Y π hi2 hs hg hPS
theorem c_tell {cs p0 q0 : Nat} (hcs : cs < 2) (hSL : SL (sl cs) L) (hp : p0 < 7) (hq : q0 < 7)
    (hQ : ∀ (s' : Nat → Int32) (g' : Nat → Nat → Int32) (out : Option (Nat × Nat)), FRs s s' → FRg g g' → Tres L (2 ^ p0) (2 ^ q0) out → (∀ m y, out = some (m, y) → m < 256 ∧ s' 21 = (if rnw L (2 ^ p0) m y = 0 then nI 0 else nI 1)) → Q (some (.int (tdo out))) z (Hp X (s', v, g', w, q, ct, cn, cc, di, dr, df, li, la, sf, sl) M)) : Cw (d + 4) 401 [.ref 25, .ref (so cs), .int (nI p0), .int (nI q0)] z (Hp X (s, v, g, w, q, ct, cn, cc, di, dr, df, li, la, sf, sl) M) Q := by
  have h1 : 2 ^ p0 < 128 := Nat.lt_of_lt_of_le (Nat.pow_lt_pow_right (by decide) hp) (by decide)
  have h2 : 2 ^ q0 < 128 := Nat.lt_of_lt_of_le (Nat.pow_lt_pow_right (by decide) hq) (by decide)
  have h3 := Nat.two_pow_pos p0
  have h4 := Nat.two_pow_pos q0
  rw [cw_wp]
  simp (disch := omega) only [W401, r_4, r_La, h79_404, s_0, ci_1, r_2, r_Li, r_18, h79_405, r_5, h60_4_6, ci_0, r_49, ci_128, r_47, s_8, r_In, h79_403, s_40, r_90, r_52, ci_m9, enR, LG, LSt, LC, nlR, psR, TK, up_s, up_n, up_u, lt_nI, le_nI, eq_nI, true_and, and_true, if_true, if_false, Nat.zero_add, Nat.add_zero, nI_add, ↓reduceIte, Nat.reduceAdd, Nat.reduceMul, Nat.reduceSub, Nat.reduceLT, Nat.reduceLeDiff, Nat.reduceEqDiff, Nat.not_lt_zero, Nat.lt_irrefl, decide_true, BEq.rfl, nm1, nm2, nm3, nm4, nm9, ngc, eq_self, List.length_cons, List.length_nil]
  refine c_forget (fun γ hγ => ?_)
  simp (disch := omega) only [W401, r_4, r_La, h79_404, s_0, ci_1, r_2, r_Li, r_18, h79_405, r_5, h60_4_6, ci_0, r_49, ci_128, r_47, s_8, r_In, h79_403, s_40, r_90, r_52, ci_m9, enR, LG, LSt, LC, nlR, psR, TK, up_s, up_n, up_u, lt_nI, le_nI, eq_nI, true_and, and_true, if_true, if_false, Nat.zero_add, Nat.add_zero, nI_add, ↓reduceIte, Nat.reduceAdd, Nat.reduceMul, Nat.reduceSub, Nat.reduceLT, Nat.reduceLeDiff, Nat.reduceEqDiff, Nat.not_lt_zero, Nat.lt_irrefl, decide_true, BEq.rfl, nm1, nm2, nm3, nm4, nm9, ngc, eq_self, List.length_cons, List.length_nil, nI_bit]
  have u0 := uf_0
  have hi0 : UI L (2 ^ p0) (2 ^ q0) 0 (fun _ => 0) (fun _ => 0) (fun x => x) := fun k x _ A _ => Iff.rfl
  have e1 : itr (fun x => x) 128 (2 ^ p0) = 2 ^ p0 := itr_fix rfl 128
  have e2 : itr (fun x => x) 128 (2 ^ q0) = 2 ^ q0 := itr_fix rfl 128
  by_cases hpq : itr (fun x => x) 128 (2 ^ p0) = itr (fun x => x) 128 (2 ^ q0)
  · rw [c_meet_no (π := fun x => x) (fun x h => h) (by exact hγ) h1 h2 hpq]
    simp (disch := omega) only [W401, r_4, r_La, h79_404, s_0, ci_1, r_2, r_Li, r_18, h79_405, r_5, h60_4_6, ci_0, r_49, ci_128, r_47, s_8, r_In, h79_403, s_40, r_90, r_52, ci_m9, enR, LG, LSt, LC, nlR, psR, TK, up_s, up_n, up_u, lt_nI, le_nI, eq_nI, true_and, and_true, if_true, if_false, Nat.zero_add, Nat.add_zero, nI_add, ↓reduceIte, Nat.reduceAdd, Nat.reduceMul, Nat.reduceSub, Nat.reduceLT, Nat.reduceLeDiff, Nat.reduceEqDiff, Nat.not_lt_zero, Nat.lt_irrefl, decide_true, BEq.rfl, nm1, nm2, nm3, nm4, nm9, ngc, eq_self, List.length_cons, List.length_nil]
    rw [W401_26]
    simp (disch := omega) only [W401, r_4, r_La, h79_404, s_0, ci_1, r_2, r_Li, r_18, h79_405, r_5, h60_4_6, ci_0, r_49, ci_128, r_47, s_8, r_In, h79_403, s_40, r_90, r_52, ci_m9, enR, LG, LSt, LC, nlR, psR, TK, up_s, up_n, up_u, lt_nI, le_nI, eq_nI, true_and, and_true, if_true, if_false, Nat.zero_add, Nat.add_zero, nI_add, ↓reduceIte, Nat.reduceAdd, Nat.reduceMul, Nat.reduceSub, Nat.reduceLT, Nat.reduceLeDiff, Nat.reduceEqDiff, Nat.not_lt_zero, Nat.lt_irrefl, decide_true, BEq.rfl, nm1, nm2, nm3, nm4, nm9, ngc, eq_self, List.length_cons, List.length_nil]
    have hsame : 2 ^ p0 = 2 ^ q0 := by rw [← e1, ← e2]; exact hpq
    refine hQ _ _ none (fun k k1 k2 => up_n _ _ k2) (fun k k1 k2 k3 => up_n _ _ k1) (fun k x _ => ?_) (fun m y h => absurd h (by simp))
    rw [hsame]
    exact Iff.rfl
  · rw [c_meet_ok (π := fun x => x) (n := 0) (fun x h => h) (by exact hγ) h1 h2 hpq (up_s _ _ _) (by decide)]
    simp (disch := omega) only [W401, r_4, r_La, h79_404, s_0, ci_1, r_2, r_Li, r_18, h79_405, r_5, h60_4_6, ci_0, r_49, ci_128, r_47, s_8, r_In, h79_403, s_40, r_90, r_52, ci_m9, enR, LG, LSt, LC, nlR, psR, TK, up_s, up_n, up_u, lt_nI, le_nI, eq_nI, true_and, and_true, if_true, if_false, Nat.zero_add, Nat.add_zero, nI_add, ↓reduceIte, Nat.reduceAdd, Nat.reduceMul, Nat.reduceSub, Nat.reduceLT, Nat.reduceLeDiff, Nat.reduceEqDiff, Nat.not_lt_zero, Nat.lt_irrefl, decide_true, BEq.rfl, nm1, nm2, nm3, nm4, nm9, ngc, eq_self, List.length_cons, List.length_nil]
    have um := uf_meet u0 (a := itr (fun x => x) 128 (2 ^ p0)) (b := itr (fun x => x) 128 (2 ^ q0)) (by rw [e1]; exact h1) (by rw [e2]; exact h2) rfl rfl hpq
    have im := ui_meet (m := 0) (y := 0) hi0 u0 h1 h2 rfl rfl
    have z1 : va_up (fun _ => 0) 0 0 = (fun _ => 0 : Nat → Nat) := up_id rfl
    rw [z1] at im
    refine lp_tell (S := 2 ^ p0) (T := 2 ^ q0) hcs hSL hQ 128 0 1 1 _ _ 1 (fun _ => 0) (fun _ => 0) (va_up (fun x => x) (itr (fun x => x) 128 (2 ^ p0)) (itr (fun x => x) 128 (2 ^ q0))) (by decide) (by decide) (by decide) (fun k k1 k2 => up_n _ _ k2) (fun k k1 k2 k3 => ?_) ⟨wk_start (by omega) (by omega), um, im, up_s _ _ _, fun x hx => ?_, fun j hj => ?_⟩ ⟨by decide, by decide, fun j g1 g2 => rfl, fun j g1 g2 => by omega⟩
    · rw [up_n _ _ k3, up_n _ _ k2, up_n _ _ k1]
    · show upd γ (itr (fun x => x) 128 (2 ^ p0)) (nI (itr (fun x => x) 128 (2 ^ q0))) x = _
      by_cases hx2 : x = itr (fun x => x) 128 (2 ^ p0)
      · rw [hx2, ud_s, up_s]
      · rw [ud_n _ _ hx2, up_n _ _ hx2]; exact hγ x hx
    · have hj : j = 0 := by omega
      subst hj
      show upd (g 29) 0 (nI (2 ^ p0)) 0 = nI (2 ^ p0) ∧ upd (g 30) 0 (nI (2 ^ q0)) 0 = nI (2 ^ q0) ∧ 2 ^ p0 < 128 ∧ 2 ^ q0 < 128
      exact ⟨ud_s _ _ _, ud_s _ _ _, h1, h2⟩
end

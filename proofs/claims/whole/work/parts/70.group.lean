/-! unlike: groups -/
def alk (L : Nat → Nat → Nat) (p q : Nat) : Prop := ∀ k x, x < 10 ^ k → sam L (2 ^ p) (2 ^ q) k x
theorem alk_r (L : Nat → Nat → Nat) (p : Nat) : alk L p p := fun _ _ _ => Iff.rfl
theorem alk_s {L : Nat → Nat → Nat} {p q : Nat} (h : alk L p q) : alk L q p := fun k x hx => (h k x hx).symm
theorem alk_t {L : Nat → Nat → Nat} {p q r : Nat} (h : alk L p q) (h2 : alk L q r) : alk L p r := fun k x hx => (h k x hx).trans (h2 k x hx)
theorem tres_none {L : Nat → Nat → Nat} {p q : Nat} {out : Option (Nat × Nat)} (h : Tres L (2 ^ p) (2 ^ q) out) : out = none ↔ alk L p q := by
  cases out with
  | none => exact iff_of_true rfl h
  | some w =>
    refine iff_of_false (by simp) (fun ha => ?_)
    obtain ⟨m, y⟩ := w
    exact h.2.1 (ha m y h.1)
/-- each PLACE's group: the least PLACE like it -/
def GR (L : Nat → Nat → Nat) (γ : Nat → Int32) (P : Nat) : Prop := ∀ p, p < P → ∃ r, r ≤ p ∧ γ p = nI r ∧ alk L r p ∧ ∀ q, q < r → ¬ alk L q p
theorem tdo9 {out : Option (Nat × Nat)} (h : ∀ m y, out = some (m, y) → m ≤ 16384) : (tdo out = -9) = (out = none) := by
  cases out with
  | none => exact propext (iff_of_true rfl rfl)
  | some w =>
    obtain ⟨m, y⟩ := w
    have := h m y rfl
    exact propext (iff_of_false (ni_neg (by omega) (by decide)) (by simp))
section
variable {t d : Nat} {z : AZ} {X : Nat × (Nat → Int32)} {C : CT} {M : MT} {s : Nat → Int32} {v : Nat → Int64} {g : Nat → Nat → Int32} {w : Nat → Nat → Int64} {q : Nat → Nat} {ct : Nat → Int32} {cn : Nat → Int32} {cc : Nat → Nat → Int32} {di : Nat → Nat → Int32} {dr : Nat → Nat → Int32} {df : Nat → Nat → Int32} {li : Nat → Nat → Int32} {la : Nat → Nat → Nat → Int32} {sf : Nat → Nat → Int32} {sl : Nat → Nat → Int32} {a : Nat → Int32} {b : Nat → Int64} {e : Nat → Nat → Int32} {o : Nat → Nat → Int64} {B : Nat → Bool} {n : Nat → Nat} {P N W : Nat} {K O T J : Nat → Nat} {l : Nat} {Ds : Nat → Nat} {Dr Df Dp : Nat → Nat → Nat} {KB : Nat → Bool}
variable {Q : Option Value → AZ → AH → Prop} {L : Nat → Nat → Nat}
def FRh26 (g g' : Nat → Nat → Int32) : Prop := ∀ k, k ≠ 26 → k ≠ 28 → k ≠ 29 → k ≠ 30 → g' k = g k
theorem lp_group2_26 {cs P0 p : Nat} (hcs : cs < 2) (hSL : SL (sl cs) L) (hP : P0 ≤ 7) (hp : p < P0)
    (hQ : ∀ (s' : Nat → Int32) (g' : Nat → Nat → Int32), FRs s s' → FRh26 g g' → GR L (g' 26) (p + 1) → Wp (d + 4) 402 3 [some (.ref 25), some (.ref (so cs)), some (.int (nI P0)), some (.ref 26), some (.int (nI (p + 1)))] [] z (Hp X (s', v, g', w, q, ct, cn, cc, di, dr, df, li, la, sf, sl) M) Q) :
    ∀ (j q0 : Nat) (s' : Nat → Int32) (g' : Nat → Nat → Int32), q0 + j = p → FRs s s' → FRh26 g g' → GR L (g' 26) p → g' 26 p = nI p → (∀ r, r < q0 → ¬ alk L r p) → Wp (d + 4) 402 25 [some (.ref 25), some (.ref (so cs)), some (.int (nI P0)), some (.ref 26), some (.int (nI p)), some (.int (nI q0))] [] z (Hp X (s', v, g', w, q, ct, cn, cc, di, dr, df, li, la, sf, sl) M) Q := by
  intro j
  induction j with
  | zero =>
    intro q0 s' g' hj hs hg hG hgp hno
    have hj : q0 = p := by omega
    subst hj
    rw [W402_25]
    simp (disch := omega) only [W402, s_0, ci_0, r_5, r_2, r_Li, r_49, r_4, r_La, r_47, h79_401, ci_m9, r_52, s_8, r_In, ci_1, r_93, enR, LG, LSt, LC, nlR, psR, TK, up_s, up_n, up_u, lt_nI, le_nI, eq_nI, true_and, and_true, if_true, if_false, Nat.zero_add, Nat.add_zero, nI_add, ↓reduceIte, Nat.reduceAdd, Nat.reduceMul, Nat.reduceSub, Nat.reduceLT, Nat.reduceLeDiff, Nat.reduceEqDiff, Nat.not_lt_zero, Nat.lt_irrefl, decide_true, BEq.rfl, nm1, nm2, nm3, nm4, nm9, ngc, eq_self, List.length_cons, List.length_nil, h63_26, h64_26, h65_26]
    refine hQ s' g' hs hg (fun r hr => ?_)
    by_cases h : r = q0
    · subst h; exact ⟨r, Nat.le_refl _, hgp, alk_r L r, hno⟩
    · exact hG r (by omega)
  | succ j ih =>
    intro q0 s' g' hj hs hg hG hgp hno
    have h1 : q0 < p := by omega
    have h7 : q0 < 7 := by omega
    obtain ⟨r, r1, r2, r3, r4⟩ := hG q0 h1
    rw [W402_25]
    by_cases hr : r = q0
    · subst hr
      simp (disch := omega) only [W402, s_0, ci_0, r_5, r_2, r_Li, r_49, r_4, r_La, r_47, h79_401, ci_m9, r_52, s_8, r_In, ci_1, r_93, enR, LG, LSt, LC, nlR, psR, TK, up_s, up_n, up_u, lt_nI, le_nI, eq_nI, true_and, and_true, if_true, if_false, Nat.zero_add, Nat.add_zero, nI_add, ↓reduceIte, Nat.reduceAdd, Nat.reduceMul, Nat.reduceSub, Nat.reduceLT, Nat.reduceLeDiff, Nat.reduceEqDiff, Nat.not_lt_zero, Nat.lt_irrefl, decide_true, BEq.rfl, nm1, nm2, nm3, nm4, nm9, ngc, eq_self, List.length_cons, List.length_nil, h63_26, h64_26, h65_26, h1, h7, r2]
      refine c_tell hcs hSL h7 (show p < 7 by omega) (fun s2 g2 out f1 f2 f3 f4 => ?_)
      have h9 := tdo9 (out := out) (fun m y h => by have := (f4 m y h).1; omega)
      have fs : FRs s s2 := fun k k1 k2 => (f1 k k1 k2).trans (hs k k1 k2)
      have e26 : g2 26 = g' 26 := f2 26 (by decide) (by decide) (by decide)
      have fg2 : FRh26 g g2 := fun k k1 k2 k3 k4 => (f2 k k2 k3 k4).trans (hg k k1 k2 k3 k4)
      by_cases ho : out = none
      · have hal := (tres_none f3).mp ho
        simp (disch := omega) only [W402, s_0, ci_0, r_5, r_2, r_Li, r_49, r_4, r_La, r_47, h79_401, ci_m9, r_52, s_8, r_In, ci_1, r_93, enR, LG, LSt, LC, nlR, psR, TK, up_s, up_n, up_u, lt_nI, le_nI, eq_nI, true_and, and_true, if_true, if_false, Nat.zero_add, Nat.add_zero, nI_add, ↓reduceIte, Nat.reduceAdd, Nat.reduceMul, Nat.reduceSub, Nat.reduceLT, Nat.reduceLeDiff, Nat.reduceEqDiff, Nat.not_lt_zero, Nat.lt_irrefl, decide_true, BEq.rfl, nm1, nm2, nm3, nm4, nm9, ngc, eq_self, List.length_cons, List.length_nil, h63_26, h64_26, h65_26, h9, ho, h7]
        refine hQ s2 _ fs (fun k k1 k2 k3 k4 => ?_) (fun r' hr' => ?_)
        · rw [up_n _ _ k1]; exact fg2 k k1 k2 k3 k4
        · show ∃ r0, r0 ≤ r' ∧ upd (g2 26) p (nI r) r' = nI r0 ∧ _
          by_cases h : r' = p
          · subst h
            rw [ud_s]
            exact ⟨r, by omega, rfl, hal, hno⟩
          · rw [ud_n _ _ h, e26]
            exact hG r' (by omega)
      · have hal : ¬ alk L r p := fun hh => ho ((tres_none f3).mpr hh)
        simp (disch := omega) only [W402, s_0, ci_0, r_5, r_2, r_Li, r_49, r_4, r_La, r_47, h79_401, ci_m9, r_52, s_8, r_In, ci_1, r_93, enR, LG, LSt, LC, nlR, psR, TK, up_s, up_n, up_u, lt_nI, le_nI, eq_nI, true_and, and_true, if_true, if_false, Nat.zero_add, Nat.add_zero, nI_add, ↓reduceIte, Nat.reduceAdd, Nat.reduceMul, Nat.reduceSub, Nat.reduceLT, Nat.reduceLeDiff, Nat.reduceEqDiff, Nat.not_lt_zero, Nat.lt_irrefl, decide_true, BEq.rfl, nm1, nm2, nm3, nm4, nm9, ngc, eq_self, List.length_cons, List.length_nil, h63_26, h64_26, h65_26, h9, ho]
        refine ih (r + 1) s2 g2 (by omega) fs fg2 (by rw [e26]; exact hG) (by rw [e26]; exact hgp) (fun r' hr' => ?_)
        by_cases h : r' = r
        · subst h; exact hal
        · exact hno r' (by omega)
    · have hrq : ¬ nI r = nI q0 := fun hh => hr ((nI_eq (by omega) (by omega)).mp hh)
      simp (disch := omega) only [W402, s_0, ci_0, r_5, r_2, r_Li, r_49, r_4, r_La, r_47, h79_401, ci_m9, r_52, s_8, r_In, ci_1, r_93, enR, LG, LSt, LC, nlR, psR, TK, up_s, up_n, up_u, lt_nI, le_nI, eq_nI, true_and, and_true, if_true, if_false, Nat.zero_add, Nat.add_zero, nI_add, ↓reduceIte, Nat.reduceAdd, Nat.reduceMul, Nat.reduceSub, Nat.reduceLT, Nat.reduceLeDiff, Nat.reduceEqDiff, Nat.not_lt_zero, Nat.lt_irrefl, decide_true, BEq.rfl, nm1, nm2, nm3, nm4, nm9, ngc, eq_self, List.length_cons, List.length_nil, h63_26, h64_26, h65_26, h1, h7, r2, hr]
      refine ih (q0 + 1) s' g' (by omega) hs hg hG hgp (fun r' hr' => ?_)
      by_cases h : r' = q0
      · subst h; exact fun hh => hno r (by omega) (alk_t r3 hh)
      · exact hno r' (by omega)
theorem lp_group_26 {cs P0 : Nat} (hcs : cs < 2) (hSL : SL (sl cs) L) (hP : P0 ≤ 7)
    (hQ : ∀ (s' : Nat → Int32) (g' : Nat → Nat → Int32), FRs s s' → FRh26 g g' → GR L (g' 26) P0 → Q none z (Hp X (s', v, g', w, q, ct, cn, cc, di, dr, df, li, la, sf, sl) M)) :
    ∀ (j p : Nat) (s' : Nat → Int32) (g' : Nat → Nat → Int32), p + j = P0 → FRs s s' → FRh26 g g' → GR L (g' 26) p → Wp (d + 4) 402 3 [some (.ref 25), some (.ref (so cs)), some (.int (nI P0)), some (.ref 26), some (.int (nI p))] [] z (Hp X (s', v, g', w, q, ct, cn, cc, di, dr, df, li, la, sf, sl) M) Q := by
  intro j
  induction j with
  | zero =>
    intro p s' g' hj hs hg hG
    have hj : p = P0 := by omega
    subst hj
    rw [W402_3]
    simp (disch := omega) only [W402, s_0, ci_0, r_5, r_2, r_Li, r_49, r_4, r_La, r_47, h79_401, ci_m9, r_52, s_8, r_In, ci_1, r_93, enR, LG, LSt, LC, nlR, psR, TK, up_s, up_n, up_u, lt_nI, le_nI, eq_nI, true_and, and_true, if_true, if_false, Nat.zero_add, Nat.add_zero, nI_add, ↓reduceIte, Nat.reduceAdd, Nat.reduceMul, Nat.reduceSub, Nat.reduceLT, Nat.reduceLeDiff, Nat.reduceEqDiff, Nat.not_lt_zero, Nat.lt_irrefl, decide_true, BEq.rfl, nm1, nm2, nm3, nm4, nm9, ngc, eq_self, List.length_cons, List.length_nil, h63_26, h64_26, h65_26]
    exact hQ s' g' hs hg hG
  | succ j ih =>
    intro p s' g' hj hs hg hG
    have h1 : p < P0 := by omega
    have h7 : p < 7 := by omega
    rw [W402_3]
    simp (disch := omega) only [W402, s_0, ci_0, r_5, r_2, r_Li, r_49, r_4, r_La, r_47, h79_401, ci_m9, r_52, s_8, r_In, ci_1, r_93, enR, LG, LSt, LC, nlR, psR, TK, up_s, up_n, up_u, lt_nI, le_nI, eq_nI, true_and, and_true, if_true, if_false, Nat.zero_add, Nat.add_zero, nI_add, ↓reduceIte, Nat.reduceAdd, Nat.reduceMul, Nat.reduceSub, Nat.reduceLT, Nat.reduceLeDiff, Nat.reduceEqDiff, Nat.not_lt_zero, Nat.lt_irrefl, decide_true, BEq.rfl, nm1, nm2, nm3, nm4, nm9, ngc, eq_self, List.length_cons, List.length_nil, h63_26, h64_26, h65_26, h1, h7]
    refine lp_group2_26 (s := s) (g := g) hcs hSL hP h1 (fun s2 g2 f1 f2 f3 => ih (p + 1) s2 g2 (by omega) f1 f2 f3) p 0 s' _ (by omega) hs (fun k k1 k2 k3 k4 => ?_) (fun r hr => ?_) ?_ (fun r hr => absurd hr (by omega))
    · rw [up_n _ _ k1]; exact hg k k1 k2 k3 k4
    · show ∃ r0, r0 ≤ r ∧ upd (g' 26) p (nI p) r = nI r0 ∧ _
      rw [ud_n _ _ (by omega)]
      exact hG r hr
    · exact ud_s _ _ _
theorem c_group_26 {cs P0 : Nat} (hcs : cs < 2) (hSL : SL (sl cs) L) (hP : P0 ≤ 7)
    (hQ : ∀ (s' : Nat → Int32) (g' : Nat → Nat → Int32), FRs s s' → FRh26 g g' → GR L (g' 26) P0 → Q none z (Hp X (s', v, g', w, q, ct, cn, cc, di, dr, df, li, la, sf, sl) M)) : Cw (d + 5) 402 [.ref 25, .ref (so cs), .int (nI P0), .ref 26] z (Hp X (s, v, g, w, q, ct, cn, cc, di, dr, df, li, la, sf, sl) M) Q := by
  rw [cw_wp]
  simp (disch := omega) only [W402, s_0, ci_0, r_5, r_2, r_Li, r_49, r_4, r_La, r_47, h79_401, ci_m9, r_52, s_8, r_In, ci_1, r_93, enR, LG, LSt, LC, nlR, psR, TK, up_s, up_n, up_u, lt_nI, le_nI, eq_nI, true_and, and_true, if_true, if_false, Nat.zero_add, Nat.add_zero, nI_add, ↓reduceIte, Nat.reduceAdd, Nat.reduceMul, Nat.reduceSub, Nat.reduceLT, Nat.reduceLeDiff, Nat.reduceEqDiff, Nat.not_lt_zero, Nat.lt_irrefl, decide_true, BEq.rfl, nm1, nm2, nm3, nm4, nm9, ngc, eq_self, List.length_cons, List.length_nil, h63_26, h64_26, h65_26]
  exact lp_group_26 (s := s) (g := g) hcs hSL hP hQ P0 0 s g (by omega) (fun _ _ _ => rfl) (fun _ _ _ _ _ => rfl) (fun p hp => absurd hp (by omega))
def FRh27 (g g' : Nat → Nat → Int32) : Prop := ∀ k, k ≠ 27 → k ≠ 28 → k ≠ 29 → k ≠ 30 → g' k = g k
theorem lp_group2_27 {cs P0 p : Nat} (hcs : cs < 2) (hSL : SL (sl cs) L) (hP : P0 ≤ 7) (hp : p < P0)
    (hQ : ∀ (s' : Nat → Int32) (g' : Nat → Nat → Int32), FRs s s' → FRh27 g g' → GR L (g' 27) (p + 1) → Wp (d + 4) 402 3 [some (.ref 25), some (.ref (so cs)), some (.int (nI P0)), some (.ref 27), some (.int (nI (p + 1)))] [] z (Hp X (s', v, g', w, q, ct, cn, cc, di, dr, df, li, la, sf, sl) M) Q) :
    ∀ (j q0 : Nat) (s' : Nat → Int32) (g' : Nat → Nat → Int32), q0 + j = p → FRs s s' → FRh27 g g' → GR L (g' 27) p → g' 27 p = nI p → (∀ r, r < q0 → ¬ alk L r p) → Wp (d + 4) 402 25 [some (.ref 25), some (.ref (so cs)), some (.int (nI P0)), some (.ref 27), some (.int (nI p)), some (.int (nI q0))] [] z (Hp X (s', v, g', w, q, ct, cn, cc, di, dr, df, li, la, sf, sl) M) Q := by
  intro j
  induction j with
  | zero =>
    intro q0 s' g' hj hs hg hG hgp hno
    have hj : q0 = p := by omega
    subst hj
    rw [W402_25]
    simp (disch := omega) only [W402, s_0, ci_0, r_5, r_2, r_Li, r_49, r_4, r_La, r_47, h79_401, ci_m9, r_52, s_8, r_In, ci_1, r_93, enR, LG, LSt, LC, nlR, psR, TK, up_s, up_n, up_u, lt_nI, le_nI, eq_nI, true_and, and_true, if_true, if_false, Nat.zero_add, Nat.add_zero, nI_add, ↓reduceIte, Nat.reduceAdd, Nat.reduceMul, Nat.reduceSub, Nat.reduceLT, Nat.reduceLeDiff, Nat.reduceEqDiff, Nat.not_lt_zero, Nat.lt_irrefl, decide_true, BEq.rfl, nm1, nm2, nm3, nm4, nm9, ngc, eq_self, List.length_cons, List.length_nil, h63_27, h64_27, h65_27]
    refine hQ s' g' hs hg (fun r hr => ?_)
    by_cases h : r = q0
    · subst h; exact ⟨r, Nat.le_refl _, hgp, alk_r L r, hno⟩
    · exact hG r (by omega)
  | succ j ih =>
    intro q0 s' g' hj hs hg hG hgp hno
    have h1 : q0 < p := by omega
    have h7 : q0 < 7 := by omega
    obtain ⟨r, r1, r2, r3, r4⟩ := hG q0 h1
    rw [W402_25]
    by_cases hr : r = q0
    · subst hr
      simp (disch := omega) only [W402, s_0, ci_0, r_5, r_2, r_Li, r_49, r_4, r_La, r_47, h79_401, ci_m9, r_52, s_8, r_In, ci_1, r_93, enR, LG, LSt, LC, nlR, psR, TK, up_s, up_n, up_u, lt_nI, le_nI, eq_nI, true_and, and_true, if_true, if_false, Nat.zero_add, Nat.add_zero, nI_add, ↓reduceIte, Nat.reduceAdd, Nat.reduceMul, Nat.reduceSub, Nat.reduceLT, Nat.reduceLeDiff, Nat.reduceEqDiff, Nat.not_lt_zero, Nat.lt_irrefl, decide_true, BEq.rfl, nm1, nm2, nm3, nm4, nm9, ngc, eq_self, List.length_cons, List.length_nil, h63_27, h64_27, h65_27, h1, h7, r2]
      refine c_tell hcs hSL h7 (show p < 7 by omega) (fun s2 g2 out f1 f2 f3 f4 => ?_)
      have h9 := tdo9 (out := out) (fun m y h => by have := (f4 m y h).1; omega)
      have fs : FRs s s2 := fun k k1 k2 => (f1 k k1 k2).trans (hs k k1 k2)
      have e26 : g2 27 = g' 27 := f2 27 (by decide) (by decide) (by decide)
      have fg2 : FRh27 g g2 := fun k k1 k2 k3 k4 => (f2 k k2 k3 k4).trans (hg k k1 k2 k3 k4)
      by_cases ho : out = none
      · have hal := (tres_none f3).mp ho
        simp (disch := omega) only [W402, s_0, ci_0, r_5, r_2, r_Li, r_49, r_4, r_La, r_47, h79_401, ci_m9, r_52, s_8, r_In, ci_1, r_93, enR, LG, LSt, LC, nlR, psR, TK, up_s, up_n, up_u, lt_nI, le_nI, eq_nI, true_and, and_true, if_true, if_false, Nat.zero_add, Nat.add_zero, nI_add, ↓reduceIte, Nat.reduceAdd, Nat.reduceMul, Nat.reduceSub, Nat.reduceLT, Nat.reduceLeDiff, Nat.reduceEqDiff, Nat.not_lt_zero, Nat.lt_irrefl, decide_true, BEq.rfl, nm1, nm2, nm3, nm4, nm9, ngc, eq_self, List.length_cons, List.length_nil, h63_27, h64_27, h65_27, h9, ho, h7]
        refine hQ s2 _ fs (fun k k1 k2 k3 k4 => ?_) (fun r' hr' => ?_)
        · rw [up_n _ _ k1]; exact fg2 k k1 k2 k3 k4
        · show ∃ r0, r0 ≤ r' ∧ upd (g2 27) p (nI r) r' = nI r0 ∧ _
          by_cases h : r' = p
          · subst h
            rw [ud_s]
            exact ⟨r, by omega, rfl, hal, hno⟩
          · rw [ud_n _ _ h, e26]
            exact hG r' (by omega)
      · have hal : ¬ alk L r p := fun hh => ho ((tres_none f3).mpr hh)
        simp (disch := omega) only [W402, s_0, ci_0, r_5, r_2, r_Li, r_49, r_4, r_La, r_47, h79_401, ci_m9, r_52, s_8, r_In, ci_1, r_93, enR, LG, LSt, LC, nlR, psR, TK, up_s, up_n, up_u, lt_nI, le_nI, eq_nI, true_and, and_true, if_true, if_false, Nat.zero_add, Nat.add_zero, nI_add, ↓reduceIte, Nat.reduceAdd, Nat.reduceMul, Nat.reduceSub, Nat.reduceLT, Nat.reduceLeDiff, Nat.reduceEqDiff, Nat.not_lt_zero, Nat.lt_irrefl, decide_true, BEq.rfl, nm1, nm2, nm3, nm4, nm9, ngc, eq_self, List.length_cons, List.length_nil, h63_27, h64_27, h65_27, h9, ho]
        refine ih (r + 1) s2 g2 (by omega) fs fg2 (by rw [e26]; exact hG) (by rw [e26]; exact hgp) (fun r' hr' => ?_)
        by_cases h : r' = r
        · subst h; exact hal
        · exact hno r' (by omega)
    · have hrq : ¬ nI r = nI q0 := fun hh => hr ((nI_eq (by omega) (by omega)).mp hh)
      simp (disch := omega) only [W402, s_0, ci_0, r_5, r_2, r_Li, r_49, r_4, r_La, r_47, h79_401, ci_m9, r_52, s_8, r_In, ci_1, r_93, enR, LG, LSt, LC, nlR, psR, TK, up_s, up_n, up_u, lt_nI, le_nI, eq_nI, true_and, and_true, if_true, if_false, Nat.zero_add, Nat.add_zero, nI_add, ↓reduceIte, Nat.reduceAdd, Nat.reduceMul, Nat.reduceSub, Nat.reduceLT, Nat.reduceLeDiff, Nat.reduceEqDiff, Nat.not_lt_zero, Nat.lt_irrefl, decide_true, BEq.rfl, nm1, nm2, nm3, nm4, nm9, ngc, eq_self, List.length_cons, List.length_nil, h63_27, h64_27, h65_27, h1, h7, r2, hr]
      refine ih (q0 + 1) s' g' (by omega) hs hg hG hgp (fun r' hr' => ?_)
      by_cases h : r' = q0
      · subst h; exact fun hh => hno r (by omega) (alk_t r3 hh)
      · exact hno r' (by omega)
theorem lp_group_27 {cs P0 : Nat} (hcs : cs < 2) (hSL : SL (sl cs) L) (hP : P0 ≤ 7)
    (hQ : ∀ (s' : Nat → Int32) (g' : Nat → Nat → Int32), FRs s s' → FRh27 g g' → GR L (g' 27) P0 → Q none z (Hp X (s', v, g', w, q, ct, cn, cc, di, dr, df, li, la, sf, sl) M)) :
    ∀ (j p : Nat) (s' : Nat → Int32) (g' : Nat → Nat → Int32), p + j = P0 → FRs s s' → FRh27 g g' → GR L (g' 27) p → Wp (d + 4) 402 3 [some (.ref 25), some (.ref (so cs)), some (.int (nI P0)), some (.ref 27), some (.int (nI p))] [] z (Hp X (s', v, g', w, q, ct, cn, cc, di, dr, df, li, la, sf, sl) M) Q := by
  intro j
  induction j with
  | zero =>
    intro p s' g' hj hs hg hG
    have hj : p = P0 := by omega
    subst hj
    rw [W402_3]
    simp (disch := omega) only [W402, s_0, ci_0, r_5, r_2, r_Li, r_49, r_4, r_La, r_47, h79_401, ci_m9, r_52, s_8, r_In, ci_1, r_93, enR, LG, LSt, LC, nlR, psR, TK, up_s, up_n, up_u, lt_nI, le_nI, eq_nI, true_and, and_true, if_true, if_false, Nat.zero_add, Nat.add_zero, nI_add, ↓reduceIte, Nat.reduceAdd, Nat.reduceMul, Nat.reduceSub, Nat.reduceLT, Nat.reduceLeDiff, Nat.reduceEqDiff, Nat.not_lt_zero, Nat.lt_irrefl, decide_true, BEq.rfl, nm1, nm2, nm3, nm4, nm9, ngc, eq_self, List.length_cons, List.length_nil, h63_27, h64_27, h65_27]
    exact hQ s' g' hs hg hG
  | succ j ih =>
    intro p s' g' hj hs hg hG
    have h1 : p < P0 := by omega
    have h7 : p < 7 := by omega
    rw [W402_3]
    simp (disch := omega) only [W402, s_0, ci_0, r_5, r_2, r_Li, r_49, r_4, r_La, r_47, h79_401, ci_m9, r_52, s_8, r_In, ci_1, r_93, enR, LG, LSt, LC, nlR, psR, TK, up_s, up_n, up_u, lt_nI, le_nI, eq_nI, true_and, and_true, if_true, if_false, Nat.zero_add, Nat.add_zero, nI_add, ↓reduceIte, Nat.reduceAdd, Nat.reduceMul, Nat.reduceSub, Nat.reduceLT, Nat.reduceLeDiff, Nat.reduceEqDiff, Nat.not_lt_zero, Nat.lt_irrefl, decide_true, BEq.rfl, nm1, nm2, nm3, nm4, nm9, ngc, eq_self, List.length_cons, List.length_nil, h63_27, h64_27, h65_27, h1, h7]
    refine lp_group2_27 (s := s) (g := g) hcs hSL hP h1 (fun s2 g2 f1 f2 f3 => ih (p + 1) s2 g2 (by omega) f1 f2 f3) p 0 s' _ (by omega) hs (fun k k1 k2 k3 k4 => ?_) (fun r hr => ?_) ?_ (fun r hr => absurd hr (by omega))
    · rw [up_n _ _ k1]; exact hg k k1 k2 k3 k4
    · show ∃ r0, r0 ≤ r ∧ upd (g' 27) p (nI p) r = nI r0 ∧ _
      rw [ud_n _ _ (by omega)]
      exact hG r hr
    · exact ud_s _ _ _
theorem c_group_27 {cs P0 : Nat} (hcs : cs < 2) (hSL : SL (sl cs) L) (hP : P0 ≤ 7)
    (hQ : ∀ (s' : Nat → Int32) (g' : Nat → Nat → Int32), FRs s s' → FRh27 g g' → GR L (g' 27) P0 → Q none z (Hp X (s', v, g', w, q, ct, cn, cc, di, dr, df, li, la, sf, sl) M)) : Cw (d + 5) 402 [.ref 25, .ref (so cs), .int (nI P0), .ref 27] z (Hp X (s, v, g, w, q, ct, cn, cc, di, dr, df, li, la, sf, sl) M) Q := by
  rw [cw_wp]
  simp (disch := omega) only [W402, s_0, ci_0, r_5, r_2, r_Li, r_49, r_4, r_La, r_47, h79_401, ci_m9, r_52, s_8, r_In, ci_1, r_93, enR, LG, LSt, LC, nlR, psR, TK, up_s, up_n, up_u, lt_nI, le_nI, eq_nI, true_and, and_true, if_true, if_false, Nat.zero_add, Nat.add_zero, nI_add, ↓reduceIte, Nat.reduceAdd, Nat.reduceMul, Nat.reduceSub, Nat.reduceLT, Nat.reduceLeDiff, Nat.reduceEqDiff, Nat.not_lt_zero, Nat.lt_irrefl, decide_true, BEq.rfl, nm1, nm2, nm3, nm4, nm9, ngc, eq_self, List.length_cons, List.length_nil, h63_27, h64_27, h65_27]
  exact lp_group_27 (s := s) (g := g) hcs hSL hP hQ P0 0 s g (by omega) (fun _ _ _ => rfl) (fun _ _ _ _ _ => rfl) (fun p hp => absurd hp (by omega))
end

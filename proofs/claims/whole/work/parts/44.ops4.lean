/-! drives: the calls; what is told -/
section
variable {d : Nat} {z : AZ} {f : AH} {Q : Option Value → AZ → AH → Prop} {X : Nat × (Nat → Int32)} {C : CT} {a : Nat → Int32} {b : Nat → Int64} {e : Nat → Nat → Int32} {o : Nat → Nat → Int64} {P N W : Nat} {K O T J : Nat → Nat}
theorem lp_mfrom {p : Nat} (h : MLn a (e 74) P N W K O T J) (hb : LB P N W K O T J) (hp : p < 65536) : ∀ (j k S1 S2 : Nat), k + j = N → (Wp (d + 2) 1039 17 [some (.ref 67), some (.int (nI p)), some (.int (nI S1)), some (.int (nI S2)), some (.int (nI k))] [] z (Hp X C (a, b, e, o)) Q ↔ Q (some (.int (nI (foldu (rdsF K O T p) k j S1)))) z (Hp X C (va_up a 2 (nI (foldu (plsF K O T p) k j S2)), b, e, o))) := by
  have hN := hb.2.1
  have hP := hb.1
  have h0 := h.2.1
  intro j
  induction j with
  | zero =>
    intro k S1 S2 hk
    have hk : k = N := by omega
    subst hk
    rw [W1039_17]
    simp (disch := omega) only [W1039, r_4, r_La, r_2, r_Li, h79_1029, s_41, s_0, ci_m1, r_90, ci_0, r_5, h60_10_11, r_49, h79_1038, ci_m9, r_47, r_52, ci_1, r_18, r_16, s_8, r_In, h79_1003, enR, LG, LSt, LC, nlR, psR, TK, up_s, up_n, up_u, lt_nI, le_nI, eq_nI, true_and, and_true, if_true, if_false, Nat.zero_add, Nat.add_zero, nI_add, ↓reduceIte, Nat.reduceAdd, Nat.reduceMul, Nat.reduceSub, Nat.reduceLT, Nat.reduceLeDiff, Nat.reduceEqDiff, Nat.not_lt_zero, Nat.lt_irrefl, decide_true, BEq.rfl, nm1, nm2, nm3, nm4, nm9, ngc, eq_self, List.length_cons, List.length_nil, h0, foldu, m_ask]
  | succ j ih =>
    intro k S1 S2 hk
    have h1 : k < N := by omega
    rw [W1039_17]
    cases hl : ldm K O T k p with
    | none =>
      simp (disch := omega) only [W1039, r_4, r_La, r_2, r_Li, h79_1029, s_41, s_0, ci_m1, r_90, ci_0, r_5, h60_10_11, r_49, h79_1038, ci_m9, r_47, r_52, ci_1, r_18, r_16, s_8, r_In, h79_1003, enR, LG, LSt, LC, nlR, psR, TK, up_s, up_n, up_u, lt_nI, le_nI, eq_nI, true_and, and_true, if_true, if_false, Nat.zero_add, Nat.add_zero, nI_add, ↓reduceIte, Nat.reduceAdd, Nat.reduceMul, Nat.reduceSub, Nat.reduceLT, Nat.reduceLeDiff, Nat.reduceEqDiff, Nat.not_lt_zero, Nat.lt_irrefl, decide_true, BEq.rfl, nm1, nm2, nm3, nm4, nm9, ngc, eq_self, List.length_cons, List.length_nil, h0, h1, foldu, rdsF, plsF, hl, m_leads h hb h1 hp, o2i, nI_or, Nat.or_zero]
      exact ih (k + 1) _ _ (by omega)
    | some w =>
      have hw := ldm_lt hb h1 hl
      simp (disch := omega) only [W1039, r_4, r_La, r_2, r_Li, h79_1029, s_41, s_0, ci_m1, r_90, ci_0, r_5, h60_10_11, r_49, h79_1038, ci_m9, r_47, r_52, ci_1, r_18, r_16, s_8, r_In, h79_1003, enR, LG, LSt, LC, nlR, psR, TK, up_s, up_n, up_u, lt_nI, le_nI, eq_nI, true_and, and_true, if_true, if_false, Nat.zero_add, Nat.add_zero, nI_add, ↓reduceIte, Nat.reduceAdd, Nat.reduceMul, Nat.reduceSub, Nat.reduceLT, Nat.reduceLeDiff, Nat.reduceEqDiff, Nat.not_lt_zero, Nat.lt_irrefl, decide_true, BEq.rfl, nm1, nm2, nm3, nm4, nm9, ngc, eq_self, List.length_cons, List.length_nil, h0, h1, foldu, rdsF, plsF, hl, m_leads h hb h1 hp, o2i, nI_bit, nI_or]
      exact ih (k + 1) _ _ (by omega)
theorem m_now {m : Nat} {p : Nat → Nat} (h17 : a 17 = nI (p 0)) (h18 : a 18 = nI m) (hm : m ≤ 40) (h77 : ∀ k, k < m → e 77 (k + 1) = nI (p (k + 1))) : Cw (d + 1) 1040 [.ref 67] z (Hp X C (a, b, e, o)) Q ↔ Q (some (.int (nI (p m)))) z (Hp X C (a, b, e, o)) := by
  rw [cw_wp]
  by_cases h0 : m = 0
  · subst h0
    simp (disch := omega) only [W1040, r_4, r_La, h60_10_18, s_41, h60_10_17, r_52, h60_10_21, r_90, h64_77, enR, LG, LSt, LC, nlR, psR, TK, up_s, up_n, up_u, lt_nI, le_nI, eq_nI, true_and, and_true, if_true, if_false, Nat.zero_add, Nat.add_zero, nI_add, ↓reduceIte, Nat.reduceAdd, Nat.reduceMul, Nat.reduceSub, Nat.reduceLT, Nat.reduceLeDiff, Nat.reduceEqDiff, Nat.not_lt_zero, Nat.lt_irrefl, decide_true, BEq.rfl, nm1, nm2, nm3, nm4, nm9, ngc, eq_self, List.length_cons, List.length_nil, h17, h18]
  · have e1 := h77 (m - 1) (by omega)
    rw [show m - 1 + 1 = m by omega] at e1
    simp (disch := omega) only [W1040, r_4, r_La, h60_10_18, s_41, h60_10_17, r_52, h60_10_21, r_90, h64_77, enR, LG, LSt, LC, nlR, psR, TK, up_s, up_n, up_u, lt_nI, le_nI, eq_nI, true_and, and_true, if_true, if_false, Nat.zero_add, Nat.add_zero, nI_add, ↓reduceIte, Nat.reduceAdd, Nat.reduceMul, Nat.reduceSub, Nat.reduceLT, Nat.reduceLeDiff, Nat.reduceEqDiff, Nat.not_lt_zero, Nat.lt_irrefl, decide_true, BEq.rfl, nm1, nm2, nm3, nm4, nm9, ngc, eq_self, List.length_cons, List.length_nil, h17, h18, h0, e1]
theorem m_drive {i m t0 : Nat} {p : Nat → Nat} (h : MLn a (e 74) P N W K O T J) (hb : LB P N W K O T J) (hi : i < N) (h17 : a 17 = nI (p 0)) (h18 : a 18 = nI m) (hm : m < 40) (h77 : ∀ k, k < m → e 77 (k + 1) = nI (p (k + 1))) (hp : p m < 65536) (hl : ldm K O T i (p m) = some t0) : Cw (d + 3) 1043 [.ref 67, .int (nI i)] z (Hp X C (a, b, e, o)) Q ↔ Q none z (Hp X C (va_up a 18 (nI (m + 1)), b, va_up (va_up (va_up e 75 (upd (e 75) m (nI i))) 76 (upd (e 76) m (nI (fe W K J i)))) 77 (upd (e 77) (m + 1) (nI t0)), o)) := by
  have h' : MLn a (va_up e 75 (upd (e 75) m (nI i)) 74) P N W K O T J := h
  rw [cw_wp]
  simp (disch := omega) only [W1043, r_4, r_La, r_2, r_Li, h79_1040, h79_1038, r_5, h60_10_19, h60_10_18, h60_10_20, h79_1032, r_30, r_30r, s_0, ci_1, r_10, h61_10_18, h60_10_21, r_93, h65_75, h65_76, h65_77, enR, LG, LSt, LC, nlR, psR, TK, up_s, up_n, up_u, lt_nI, le_nI, eq_nI, true_and, and_true, if_true, if_false, Nat.zero_add, Nat.add_zero, nI_add, ↓reduceIte, Nat.reduceAdd, Nat.reduceMul, Nat.reduceSub, Nat.reduceLT, Nat.reduceLeDiff, Nat.reduceEqDiff, Nat.not_lt_zero, Nat.lt_irrefl, decide_true, BEq.rfl, nm1, nm2, nm3, nm4, nm9, ngc, eq_self, List.length_cons, List.length_nil, h18, m_now h17 h18 (by omega) h77, m_leads h hb hi hp, hl, o2i, hm]
  rw [m_feelOf h' hb hi]
  simp (disch := omega) only [W1043, r_4, r_La, r_2, r_Li, h79_1040, h79_1038, r_5, h60_10_19, h60_10_18, h60_10_20, h79_1032, r_30, r_30r, s_0, ci_1, r_10, h61_10_18, h60_10_21, r_93, h65_75, h65_76, h65_77, enR, LG, LSt, LC, nlR, psR, TK, up_s, up_n, up_u, lt_nI, le_nI, eq_nI, true_and, and_true, if_true, if_false, Nat.zero_add, Nat.add_zero, nI_add, ↓reduceIte, Nat.reduceAdd, Nat.reduceMul, Nat.reduceSub, Nat.reduceLT, Nat.reduceLeDiff, Nat.reduceEqDiff, Nat.not_lt_zero, Nat.lt_irrefl, decide_true, BEq.rfl, nm1, nm2, nm3, nm4, nm9, ngc, eq_self, List.length_cons, List.length_nil, h18, hm]
end
section
variable {t d : Nat} {z : AZ} {X : Nat × (Nat → Int32)} {C : CT} {M : MT} {s : Nat → Int32} {v : Nat → Int64} {g : Nat → Nat → Int32} {w : Nat → Nat → Int64} {q : Nat → Nat} {ct : Nat → Int32} {cn : Nat → Int32} {cc : Nat → Nat → Int32} {di : Nat → Nat → Int32} {dr : Nat → Nat → Int32} {df : Nat → Nat → Int32} {li : Nat → Nat → Int32} {la : Nat → Nat → Nat → Int32} {sf : Nat → Nat → Int32} {sl : Nat → Nat → Int32} {a : Nat → Int32} {b : Nat → Int64} {e : Nat → Nat → Int32} {o : Nat → Nat → Int64} {B : Nat → Bool} {n : Nat → Nat} {P N W : Nat} {K O T J : Nat → Nat} {l : Nat} {Ds : Nat → Nat} {Dr Df Dp : Nat → Nat → Nat} {KB : Nat → Bool}
theorem op_from {x : Int32} (H : RL t z s v g w q ct cn cc di dr df li la sf sl a b e o B n P N W K O T J l Ds Dr Df Dp KB) : OPI (d + 20) 914 1039 [.int x] t z X (s, v, g, w, q, ct, cn, cc, di, dr, df, li, la, sf, sl) (a, b, e, o) := by
  obtain ⟨hb, hl, hq, hC, hs, hM, hS⟩ := rl_land H
  have hP := hb.1
  unfold OPI
  rw [cw_wp]
  rcases ixN x (show P ≤ 80 by omega) with h | ⟨h1, h2, h3⟩ | ⟨p, hp, rfl⟩
  · simp (disch := omega) only [W914, r_4, r_La, h60_9_12, r_2, r_Li, h79_303, s_41, s_0, ci_m1, r_90, h79_309, h61_9_15, h79_308, enR, LG, LSt, LC, nlR, psR, TK, up_s, up_n, up_u, lt_nI, le_nI, eq_nI, true_and, and_true, if_true, if_false, Nat.zero_add, Nat.add_zero, nI_add, ↓reduceIte, Nat.reduceAdd, Nat.reduceMul, Nat.reduceSub, Nat.reduceLT, Nat.reduceLeDiff, Nat.reduceEqDiff, Nat.not_lt_zero, Nat.lt_irrefl, decide_true, BEq.rfl, nm1, nm2, nm3, nm4, nm9, ngc, eq_self, List.length_cons, List.length_nil, hq, hl, c_hasPlace hl hC, h]
    refine okc ?_
    rw [cw_wp]
    simp (disch := omega) only [W1039, r_4, r_La, r_2, r_Li, h79_1029, s_41, s_0, ci_m1, r_90, ci_0, r_5, h60_10_11, r_49, h79_1038, ci_m9, r_47, r_52, ci_1, r_18, r_16, s_8, r_In, h79_1003, enR, LG, LSt, LC, nlR, psR, TK, up_s, up_n, up_u, lt_nI, le_nI, eq_nI, true_and, and_true, if_true, if_false, Nat.zero_add, Nat.add_zero, nI_add, ↓reduceIte, Nat.reduceAdd, Nat.reduceMul, Nat.reduceSub, Nat.reduceLT, Nat.reduceLeDiff, Nat.reduceEqDiff, Nat.not_lt_zero, Nat.lt_irrefl, decide_true, BEq.rfl, nm1, nm2, nm3, nm4, nm9, ngc, eq_self, List.length_cons, List.length_nil, m_isPlace hM, h]
    exact okm (rl_inv (rl_t H))
  · simp (disch := omega) only [W914, r_4, r_La, h60_9_12, r_2, r_Li, h79_303, s_41, s_0, ci_m1, r_90, h79_309, h61_9_15, h79_308, enR, LG, LSt, LC, nlR, psR, TK, up_s, up_n, up_u, lt_nI, le_nI, eq_nI, true_and, and_true, if_true, if_false, Nat.zero_add, Nat.add_zero, nI_add, ↓reduceIte, Nat.reduceAdd, Nat.reduceMul, Nat.reduceSub, Nat.reduceLT, Nat.reduceLeDiff, Nat.reduceEqDiff, Nat.not_lt_zero, Nat.lt_irrefl, decide_true, BEq.rfl, nm1, nm2, nm3, nm4, nm9, ngc, eq_self, List.length_cons, List.length_nil, hq, hl, c_hasPlace hl hC, h1, h2]
    refine okc ?_
    rw [cw_wp]
    simp (disch := omega) only [W1039, r_4, r_La, r_2, r_Li, h79_1029, s_41, s_0, ci_m1, r_90, ci_0, r_5, h60_10_11, r_49, h79_1038, ci_m9, r_47, r_52, ci_1, r_18, r_16, s_8, r_In, h79_1003, enR, LG, LSt, LC, nlR, psR, TK, up_s, up_n, up_u, lt_nI, le_nI, eq_nI, true_and, and_true, if_true, if_false, Nat.zero_add, Nat.add_zero, nI_add, ↓reduceIte, Nat.reduceAdd, Nat.reduceMul, Nat.reduceSub, Nat.reduceLT, Nat.reduceLeDiff, Nat.reduceEqDiff, Nat.not_lt_zero, Nat.lt_irrefl, decide_true, BEq.rfl, nm1, nm2, nm3, nm4, nm9, ngc, eq_self, List.length_cons, List.length_nil, m_isPlace hM, h1, h3]
    exact okm (rl_inv (rl_t H))
  · have hi2 := nsub (show P < 65536 by omega) hp
    have hp6 : p < 65536 := by omega
    simp (disch := omega) only [W914, r_4, r_La, h60_9_12, r_2, r_Li, h79_303, s_41, s_0, ci_m1, r_90, h79_309, h61_9_15, h79_308, enR, LG, LSt, LC, nlR, psR, TK, up_s, up_n, up_u, lt_nI, le_nI, eq_nI, true_and, and_true, if_true, if_false, Nat.zero_add, Nat.add_zero, nI_add, ↓reduceIte, Nat.reduceAdd, Nat.reduceMul, Nat.reduceSub, Nat.reduceLT, Nat.reduceLeDiff, Nat.reduceEqDiff, Nat.not_lt_zero, Nat.lt_irrefl, decide_true, BEq.rfl, nm1, nm2, nm3, nm4, nm9, ngc, eq_self, List.length_cons, List.length_nil, hq, hl, c_hasPlace hl hC, hp, c_placesFrom hl hC hb hp6, c_roadsFrom hl hC hb hp6]
    refine okc ?_
    rw [cw_wp]
    simp (disch := omega) only [W1039, r_4, r_La, r_2, r_Li, h79_1029, s_41, s_0, ci_m1, r_90, ci_0, r_5, h60_10_11, r_49, h79_1038, ci_m9, r_47, r_52, ci_1, r_18, r_16, s_8, r_In, h79_1003, enR, LG, LSt, LC, nlR, psR, TK, up_s, up_n, up_u, lt_nI, le_nI, eq_nI, true_and, and_true, if_true, if_false, Nat.zero_add, Nat.add_zero, nI_add, ↓reduceIte, Nat.reduceAdd, Nat.reduceMul, Nat.reduceSub, Nat.reduceLT, Nat.reduceLeDiff, Nat.reduceEqDiff, Nat.not_lt_zero, Nat.lt_irrefl, decide_true, BEq.rfl, nm1, nm2, nm3, nm4, nm9, ngc, eq_self, List.length_cons, List.length_nil, m_isPlace hM, hi2]
    exact (lp_mfrom hM hb hp6 N 0 0 0 (by omega)).mpr (okm (rl_inv (rl_ask H)))
theorem op_begin {x : Int32} (H : RL t z s v g w q ct cn cc di dr df li la sf sl a b e o B n P N W K O T J l Ds Dr Df Dp KB) : OPI (d + 20) 915 1042 [.int x] t z X (s, v, g, w, q, ct, cn, cc, di, dr, df, li, la, sf, sl) (a, b, e, o) := by
  obtain ⟨hb, hl, hq, hC, hs, hM, hS⟩ := rl_land H
  have hP := hb.1
  have hN := hb.2.1
  unfold OPI
  rw [cw_wp]
  rcases ixN x (show P ≤ 80 by omega) with h | ⟨h1, h2, h3⟩ | ⟨p, hp, rfl⟩
  · simp (disch := omega) only [W915, r_4, r_La, h60_9_12, r_2, r_Li, h79_303, s_41, s_0, ci_m1, r_90, h60_9_3, h79_201, h79_308, h80_1200, enR, LG, LSt, LC, nlR, psR, TK, up_s, up_n, up_u, lt_nI, le_nI, eq_nI, true_and, and_true, if_true, if_false, Nat.zero_add, Nat.add_zero, nI_add, ↓reduceIte, Nat.reduceAdd, Nat.reduceMul, Nat.reduceSub, Nat.reduceLT, Nat.reduceLeDiff, Nat.reduceEqDiff, Nat.not_lt_zero, Nat.lt_irrefl, decide_true, BEq.rfl, nm1, nm2, nm3, nm4, nm9, ngc, eq_self, List.length_cons, List.length_nil, hq, hl, c_hasPlace hl hC, h]
    refine okc ?_
    rw [cw_wp]
    simp (disch := omega) only [W1042, r_4, r_La, r_2, r_Li, h79_1029, s_41, s_0, ci_m1, r_90, h61_10_17, ci_0, h61_10_18, h79_1041, enR, LG, LSt, LC, nlR, psR, TK, up_s, up_n, up_u, lt_nI, le_nI, eq_nI, true_and, and_true, if_true, if_false, Nat.zero_add, Nat.add_zero, nI_add, ↓reduceIte, Nat.reduceAdd, Nat.reduceMul, Nat.reduceSub, Nat.reduceLT, Nat.reduceLeDiff, Nat.reduceEqDiff, Nat.not_lt_zero, Nat.lt_irrefl, decide_true, BEq.rfl, nm1, nm2, nm3, nm4, nm9, ngc, eq_self, List.length_cons, List.length_nil, m_isPlace hM, h]
    exact okm (rl_inv (rl_t H))
  · simp (disch := omega) only [W915, r_4, r_La, h60_9_12, r_2, r_Li, h79_303, s_41, s_0, ci_m1, r_90, h60_9_3, h79_201, h79_308, h80_1200, enR, LG, LSt, LC, nlR, psR, TK, up_s, up_n, up_u, lt_nI, le_nI, eq_nI, true_and, and_true, if_true, if_false, Nat.zero_add, Nat.add_zero, nI_add, ↓reduceIte, Nat.reduceAdd, Nat.reduceMul, Nat.reduceSub, Nat.reduceLT, Nat.reduceLeDiff, Nat.reduceEqDiff, Nat.not_lt_zero, Nat.lt_irrefl, decide_true, BEq.rfl, nm1, nm2, nm3, nm4, nm9, ngc, eq_self, List.length_cons, List.length_nil, hq, hl, c_hasPlace hl hC, h1, h2]
    refine okc ?_
    rw [cw_wp]
    simp (disch := omega) only [W1042, r_4, r_La, r_2, r_Li, h79_1029, s_41, s_0, ci_m1, r_90, h61_10_17, ci_0, h61_10_18, h79_1041, enR, LG, LSt, LC, nlR, psR, TK, up_s, up_n, up_u, lt_nI, le_nI, eq_nI, true_and, and_true, if_true, if_false, Nat.zero_add, Nat.add_zero, nI_add, ↓reduceIte, Nat.reduceAdd, Nat.reduceMul, Nat.reduceSub, Nat.reduceLT, Nat.reduceLeDiff, Nat.reduceEqDiff, Nat.not_lt_zero, Nat.lt_irrefl, decide_true, BEq.rfl, nm1, nm2, nm3, nm4, nm9, ngc, eq_self, List.length_cons, List.length_nil, m_isPlace hM, h1, h3]
    exact okm (rl_inv (rl_t H))
  · have hi2 := nsub (show P < 65536 by omega) hp
    have hp6 : p < 65536 := by omega
    have hr : foldu (rdsF K O T p) 0 N 0 < 1024 := by rw [rds_sto]; exact sto_lt _ (m := 10) hN
    simp (disch := omega) only [W915, r_4, r_La, h60_9_12, r_2, r_Li, h79_303, s_41, s_0, ci_m1, r_90, h60_9_3, h79_201, h79_308, h80_1200, enR, LG, LSt, LC, nlR, psR, TK, up_s, up_n, up_u, lt_nI, le_nI, eq_nI, true_and, and_true, if_true, if_false, Nat.zero_add, Nat.add_zero, nI_add, ↓reduceIte, Nat.reduceAdd, Nat.reduceMul, Nat.reduceSub, Nat.reduceLT, Nat.reduceLeDiff, Nat.reduceEqDiff, Nat.not_lt_zero, Nat.lt_irrefl, decide_true, BEq.rfl, nm1, nm2, nm3, nm4, nm9, ngc, eq_self, List.length_cons, List.length_nil, hq, hl, c_hasPlace hl hC, hp, c_restart, c_roadsFrom hl hC hb hp6, c_bitCount hr]
    refine okc ?_
    rw [cw_wp]
    simp (disch := omega) only [W1042, r_4, r_La, r_2, r_Li, h79_1029, s_41, s_0, ci_m1, r_90, h61_10_17, ci_0, h61_10_18, h79_1041, enR, LG, LSt, LC, nlR, psR, TK, up_s, up_n, up_u, lt_nI, le_nI, eq_nI, true_and, and_true, if_true, if_false, Nat.zero_add, Nat.add_zero, nI_add, ↓reduceIte, Nat.reduceAdd, Nat.reduceMul, Nat.reduceSub, Nat.reduceLT, Nat.reduceLeDiff, Nat.reduceEqDiff, Nat.not_lt_zero, Nat.lt_irrefl, decide_true, BEq.rfl, nm1, nm2, nm3, nm4, nm9, ngc, eq_self, List.length_cons, List.length_nil, m_isPlace hM, hi2]
    have hM' : MLn (va_up (va_up a 17 (nI p)) 18 (nI 0)) (e 74) P N W K O T J := hM
    rw [m_openFrom hM' hb hp6, rds_sto, pc_sto _ hN, cntF_cnt]
    have H1 : RL (t + 1) z s v g w q ct cn cc (va_up di 0 (va_up (va_up (va_up (di 0) 3 (nI p)) 4 (nI p)) 5 (nI 0))) dr df li la sf sl (va_up (va_up a 17 (nI p)) 18 (nI 0)) b e o B n P N W K O T J l (va_up Ds 0 0) Dr Df (va_up Dp 0 (fun _ => p)) KB := by
      obtain ⟨h1, h2, h3, ⟨d1, d2, d3, d4⟩, h5, h6, h7⟩ := H
      refine ⟨h1, h2, h3, ⟨⟨Nat.zero_le _, fun h => by omega, fun _ => hp, fun k hk => absurd hk (by rw [up_s]; omega)⟩, ⟨?_, ?_, ?_, fun k hk => absurd hk (by rw [up_s]; omega)⟩, ⟨rfl, rfl, fun k hk => absurd hk (by rw [up_s]; omega)⟩, fun k hk => ?_⟩, h5, h6, seen_up h7⟩
      · rw [up_s]; rfl
      · rw [up_s]; rfl
      · rw [up_s]; rfl
      · rw [up_n Ds _ (show 1 + k ≠ 0 by omega), up_n Dp _ (show 1 + k ≠ 0 by omega), up_n di _ (show 1 + k ≠ 0 by omega)]
        exact d4 k hk
    exact okm (rl_inv H1)
theorem op_go {x : Int32} (H : RL t z s v g w q ct cn cc di dr df li la sf sl a b e o B n P N W K O T J l Ds Dr Df Dp KB) : OPI (d + 20) 916 1044 [.int x] t z X (s, v, g, w, q, ct, cn, cc, di, dr, df, li, la, sf, sl) (a, b, e, o) := by
  obtain ⟨hb, hl, hq, hC, hs, hM, hS⟩ := rl_land H
  have hN := hb.2.1
  have hP := hb.1
  obtain ⟨⟨v1, v2, v3, v4⟩, ⟨c1, c2, c3, c4⟩, ⟨m1, m2, m3⟩, dk⟩ := H.2.2.2.1
  unfold OPI
  rw [cw_wp]
  rcases ixN x (show N ≤ 80 by omega) with h | ⟨h1, h2, h3⟩ | ⟨i, hi, rfl⟩
  · simp (disch := omega) only [W916, r_4, r_La, h60_9_12, r_2, r_Li, h79_304, s_41, s_0, ci_m1, r_90, h60_9_3, h60_2_4, h79_306, r_5, r_47, ci_m4, h79_202, s_40, ci_m2, h60_9_5, h60_6_0, h79_204, h61_9_15, h64_sf, enR, LG, LSt, LC, nlR, psR, TK, up_s, up_n, up_u, lt_nI, le_nI, eq_nI, true_and, and_true, if_true, if_false, Nat.zero_add, Nat.add_zero, nI_add, ↓reduceIte, Nat.reduceAdd, Nat.reduceMul, Nat.reduceSub, Nat.reduceLT, Nat.reduceLeDiff, Nat.reduceEqDiff, Nat.not_lt_zero, Nat.lt_irrefl, decide_true, BEq.rfl, nm1, nm2, nm3, nm4, nm9, ngc, eq_self, List.length_cons, List.length_nil, hq, hl, c_hasRoad hl hC, h]
    refine okc ?_
    rw [cw_wp]
    simp (disch := omega) only [W1044, r_4, r_La, r_2, r_Li, h79_1030, s_41, s_0, ci_m1, r_90, h79_1040, h79_1038, ci_m9, r_47, ci_m4, h60_10_18, ci_40, ci_m2, h79_1043, h60_10_20, ci_1, r_11, h79_1003, h64_76, enR, LG, LSt, LC, nlR, psR, TK, up_s, up_n, up_u, lt_nI, le_nI, eq_nI, true_and, and_true, if_true, if_false, Nat.zero_add, Nat.add_zero, nI_add, ↓reduceIte, Nat.reduceAdd, Nat.reduceMul, Nat.reduceSub, Nat.reduceLT, Nat.reduceLeDiff, Nat.reduceEqDiff, Nat.not_lt_zero, Nat.lt_irrefl, decide_true, BEq.rfl, nm1, nm2, nm3, nm4, nm9, ngc, eq_self, List.length_cons, List.length_nil, m_isRoad hM, h]
    exact okm (rl_inv (rl_t H))
  · simp (disch := omega) only [W916, r_4, r_La, h60_9_12, r_2, r_Li, h79_304, s_41, s_0, ci_m1, r_90, h60_9_3, h60_2_4, h79_306, r_5, r_47, ci_m4, h79_202, s_40, ci_m2, h60_9_5, h60_6_0, h79_204, h61_9_15, h64_sf, enR, LG, LSt, LC, nlR, psR, TK, up_s, up_n, up_u, lt_nI, le_nI, eq_nI, true_and, and_true, if_true, if_false, Nat.zero_add, Nat.add_zero, nI_add, ↓reduceIte, Nat.reduceAdd, Nat.reduceMul, Nat.reduceSub, Nat.reduceLT, Nat.reduceLeDiff, Nat.reduceEqDiff, Nat.not_lt_zero, Nat.lt_irrefl, decide_true, BEq.rfl, nm1, nm2, nm3, nm4, nm9, ngc, eq_self, List.length_cons, List.length_nil, hq, hl, c_hasRoad hl hC, h1, h2]
    refine okc ?_
    rw [cw_wp]
    simp (disch := omega) only [W1044, r_4, r_La, r_2, r_Li, h79_1030, s_41, s_0, ci_m1, r_90, h79_1040, h79_1038, ci_m9, r_47, ci_m4, h60_10_18, ci_40, ci_m2, h79_1043, h60_10_20, ci_1, r_11, h79_1003, h64_76, enR, LG, LSt, LC, nlR, psR, TK, up_s, up_n, up_u, lt_nI, le_nI, eq_nI, true_and, and_true, if_true, if_false, Nat.zero_add, Nat.add_zero, nI_add, ↓reduceIte, Nat.reduceAdd, Nat.reduceMul, Nat.reduceSub, Nat.reduceLT, Nat.reduceLeDiff, Nat.reduceEqDiff, Nat.not_lt_zero, Nat.lt_irrefl, decide_true, BEq.rfl, nm1, nm2, nm3, nm4, nm9, ngc, eq_self, List.length_cons, List.length_nil, m_isRoad hM, h1, h3]
    exact okm (rl_inv (rl_t H))
  · have hi2 := nsub (show N < 65536 by omega) hi
    have hi10 : i < 10 := by omega
    have hp7 : Dp 0 (Ds 0) < 65536 := by
      by_cases h0 : Ds 0 = 0
      · rw [h0]
        by_cases hP0 : P = 0
        · rw [(v2 hP0).1]; omega
        · have := v3 (by omega); omega
      · obtain ⟨r1, r2, r3⟩ := v4 (Ds 0 - 1) (by omega)
        rw [show Ds 0 - 1 + 1 = Ds 0 by omega] at r3
        have := ldm_lt hb r1 r3
        omega
    have hnow := fun (C : CT) (Q : Option Value → AZ → AH → Prop) => m_now (d := d + 18) (z := z) (Q := Q) (X := X) (C := C) (b := b) (o := o) m1 m2 v1 (fun k hk => (m3 k hk).2.2)
    cases hd : ldm K O T i (Dp 0 (Ds 0)) with
    | none =>
      simp (disch := omega) only [W916, r_4, r_La, h60_9_12, r_2, r_Li, h79_304, s_41, s_0, ci_m1, r_90, h60_9_3, h60_2_4, h79_306, r_5, r_47, ci_m4, h79_202, s_40, ci_m2, h60_9_5, h60_6_0, h79_204, h61_9_15, h64_sf, enR, LG, LSt, LC, nlR, psR, TK, up_s, up_n, up_u, lt_nI, le_nI, eq_nI, true_and, and_true, if_true, if_false, Nat.zero_add, Nat.add_zero, nI_add, ↓reduceIte, Nat.reduceAdd, Nat.reduceMul, Nat.reduceSub, Nat.reduceLT, Nat.reduceLeDiff, Nat.reduceEqDiff, Nat.not_lt_zero, Nat.lt_irrefl, decide_true, BEq.rfl, nm1, nm2, nm3, nm4, nm9, ngc, eq_self, List.length_cons, List.length_nil, hq, hl, c_hasRoadn hl hC hi hN, c2, c_lead hl hC hb hi hp7, hd, o2i]
      refine okc ?_
      rw [cw_wp]
      simp (disch := omega) only [W1044, r_4, r_La, r_2, r_Li, h79_1030, s_41, s_0, ci_m1, r_90, h79_1040, h79_1038, ci_m9, r_47, ci_m4, h60_10_18, ci_40, ci_m2, h79_1043, h60_10_20, ci_1, r_11, h79_1003, h64_76, enR, LG, LSt, LC, nlR, psR, TK, up_s, up_n, up_u, lt_nI, le_nI, eq_nI, true_and, and_true, if_true, if_false, Nat.zero_add, Nat.add_zero, nI_add, ↓reduceIte, Nat.reduceAdd, Nat.reduceMul, Nat.reduceSub, Nat.reduceLT, Nat.reduceLeDiff, Nat.reduceEqDiff, Nat.not_lt_zero, Nat.lt_irrefl, decide_true, BEq.rfl, nm1, nm2, nm3, nm4, nm9, ngc, eq_self, List.length_cons, List.length_nil, m_isRoad hM, hi2, hnow, m_leads hM hb hi hp7, hd, o2i]
      exact okm (rl_inv (rl_t H))
    | some t0 =>
      have ht := ldm_lt hb hi hd
      have e5 : sf 0 i = nI (fe W K J i) := by rw [hS.1 i hi10, if_pos hi]
      by_cases hf : Ds 0 < 40
      · have hf2 : ¬ Ds 0 = 40 := by omega
        simp (disch := omega) only [W916, r_4, r_La, h60_9_12, r_2, r_Li, h79_304, s_41, s_0, ci_m1, r_90, h60_9_3, h60_2_4, h79_306, r_5, r_47, ci_m4, h79_202, s_40, ci_m2, h60_9_5, h60_6_0, h79_204, h61_9_15, h64_sf, enR, LG, LSt, LC, nlR, psR, TK, up_s, up_n, up_u, lt_nI, le_nI, eq_nI, true_and, and_true, if_true, if_false, Nat.zero_add, Nat.add_zero, nI_add, ↓reduceIte, Nat.reduceAdd, Nat.reduceMul, Nat.reduceSub, Nat.reduceLT, Nat.reduceLeDiff, Nat.reduceEqDiff, Nat.not_lt_zero, Nat.lt_irrefl, decide_true, BEq.rfl, nm1, nm2, nm3, nm4, nm9, ngc, eq_self, List.length_cons, List.length_nil, hq, hl, hi10, c_hasRoadn hl hC hi hN, c2, c_lead hl hC hb hi hp7, hd, o2i, c_isFull (show 0 < 4 by omega) c3, hf, e5, c_extend (show 0 < 4 by omega) c3 hf]
        refine okc ?_
        rw [cw_wp]
        simp (disch := omega) only [W1044, r_4, r_La, r_2, r_Li, h79_1030, s_41, s_0, ci_m1, r_90, h79_1040, h79_1038, ci_m9, r_47, ci_m4, h60_10_18, ci_40, ci_m2, h79_1043, h60_10_20, ci_1, r_11, h79_1003, h64_76, enR, LG, LSt, LC, nlR, psR, TK, up_s, up_n, up_u, lt_nI, le_nI, eq_nI, true_and, and_true, if_true, if_false, Nat.zero_add, Nat.add_zero, nI_add, ↓reduceIte, Nat.reduceAdd, Nat.reduceMul, Nat.reduceSub, Nat.reduceLT, Nat.reduceLeDiff, Nat.reduceEqDiff, Nat.not_lt_zero, Nat.lt_irrefl, decide_true, BEq.rfl, nm1, nm2, nm3, nm4, nm9, ngc, eq_self, List.length_cons, List.length_nil, m_isRoad hM, hi2, hnow, m_leads hM hb hi hp7, hd, o2i, m2, hf2, m_drive hM hb hi m1 m2 hf (fun k hk => (m3 k hk).2.2) hp7 hd]
        have m3' : ∀ k, k < Ds 0 + 1 → upd (e 77) (Ds 0 + 1) (nI t0) (k + 1) = nI (va_up (Dp 0) (Ds 0 + 1) t0 (k + 1)) := fun k hk => by
          by_cases hk2 : k = Ds 0
          · subst hk2; rw [ud_s, up_s]
          · rw [ud_n _ _ (by omega), up_n _ _ (by omega)]; exact (m3 k (by omega)).2.2
        rw [m_now (p := va_up (Dp 0) (Ds 0 + 1) t0) (m := Ds 0 + 1) (a := va_up a 18 (nI (Ds 0 + 1))) (e := va_up (va_up (va_up e 75 (upd (e 75) (Ds 0) (nI i))) 76 (upd (e 76) (Ds 0) (nI (fe W K J i)))) 77 (upd (e 77) (Ds 0 + 1) (nI t0))) (by rw [up_n _ _ (by decide), up_n _ _ (by omega)]; exact m1) (up_s _ _ _) (by omega) (by rw [up_s]; exact m3')]
        simp (disch := omega) only [W1044, r_4, r_La, r_2, r_Li, h79_1030, s_41, s_0, ci_m1, r_90, h79_1040, h79_1038, ci_m9, r_47, ci_m4, h60_10_18, ci_40, ci_m2, h79_1043, h60_10_20, ci_1, r_11, h79_1003, h64_76, enR, LG, LSt, LC, nlR, psR, TK, up_s, up_n, up_u, lt_nI, le_nI, eq_nI, true_and, and_true, if_true, if_false, Nat.zero_add, Nat.add_zero, nI_add, ↓reduceIte, Nat.reduceAdd, Nat.reduceMul, Nat.reduceSub, Nat.reduceLT, Nat.reduceLeDiff, Nat.reduceEqDiff, Nat.not_lt_zero, Nat.lt_irrefl, decide_true, BEq.rfl, nm1, nm2, nm3, nm4, nm9, ngc, eq_self, List.length_cons, List.length_nil, nI_sub, Nat.add_sub_cancel, hf, ud_s, m_ask]
        have H1 : RL (t) z s v g w q ct cn cc (va_up di 0 (va_up (va_up (di 0) 4 (nI t0)) 5 (nI (Ds 0 + 1)))) (va_up dr 0 (upd (dr 0) (Ds 0) (nI i))) (va_up df 0 (upd (df 0) (Ds 0) (nI (fe W K J i)))) li la sf sl (va_up a 18 (nI (Ds 0 + 1))) b (va_up (va_up (va_up e 75 (upd (e 75) (Ds 0) (nI i))) 76 (upd (e 76) (Ds 0) (nI (fe W K J i)))) 77 (upd (e 77) (Ds 0 + 1) (nI t0))) o B n P N W K O T J l (va_up Ds 0 (Ds 0 + 1)) (va_up Dr 0 (va_up (Dr 0) (Ds 0) i)) (va_up Df 0 (va_up (Df 0) (Ds 0) (fe W K J i))) (va_up Dp 0 (va_up (Dp 0) (Ds 0 + 1) t0)) KB := by
          obtain ⟨h1, h2, h3, h4, h5, h6, h7⟩ := H
          refine ⟨h1, h2, h3, ⟨⟨?_, fun h => ?_, fun h => ?_, fun k hk => ?_⟩, ⟨?_, ?_, ?_, fun k hk => ?_⟩, ⟨?_, ?_, fun k hk => ?_⟩, fun k hk => ?_⟩, h5, h6, h7⟩
          · rw [up_s]; omega
          · omega
          · rw [up_s, up_n _ _ (by omega)]; exact v3 h
          · rw [up_s] at hk
            rw [up_s, up_s, up_s]
            by_cases hk2 : k = Ds 0
            · subst hk2
              rw [up_s, up_s, up_s, up_n _ _ (by omega)]
              exact ⟨hi, fe_lt hb hi, hd⟩
            · rw [up_n _ _ hk2, up_n _ _ hk2, up_n _ _ (by omega), up_n _ _ (by omega)]
              exact v4 k (by omega)
          · rw [up_s, up_s, up_n _ _ (by decide), up_n _ _ (by decide), up_n _ _ (by omega)]; exact c1
          · rw [up_s, up_s, up_s, up_s, up_n _ _ (by decide), up_s]
          · rw [up_s, up_s, up_s]
          · rw [up_s] at hk
            rw [up_s, up_s, up_s, up_s]
            by_cases hk2 : k = Ds 0
            · subst hk2
              rw [ud_s, ud_s, up_s, up_s]
              exact ⟨rfl, rfl⟩
            · rw [ud_n _ _ hk2, ud_n _ _ hk2, up_n _ _ hk2, up_n _ _ hk2]
              exact c4 k (by omega)
          · rw [up_n _ _ (by decide), up_s, up_n _ _ (by omega)]; exact m1
          · rw [up_s, up_s]
          · rw [up_s] at hk
            have hm3 := m3' k hk
            show upd (e 75) (Ds 0) (nI i) k = _ ∧ upd (e 76) (Ds 0) (nI (fe W K J i)) k = _ ∧ upd (e 77) (Ds 0 + 1) (nI t0) (k + 1) = _
            rw [up_s, up_s, up_s]
            by_cases hk2 : k = Ds 0
            · subst hk2
              rw [ud_s, ud_s, up_s, up_s]
              exact ⟨rfl, rfl, hm3⟩
            · rw [ud_n _ _ hk2, ud_n _ _ hk2, up_n _ _ hk2, up_n _ _ hk2]
              exact ⟨(m3 k (by omega)).1, (m3 k (by omega)).2.1, hm3⟩
          · rw [up_n di _ (show 1 + k ≠ 0 by omega), up_n dr _ (show 1 + k ≠ 0 by omega), up_n df _ (show 1 + k ≠ 0 by omega), up_n Ds _ (show 1 + k ≠ 0 by omega), up_n Dr _ (show 1 + k ≠ 0 by omega), up_n Df _ (show 1 + k ≠ 0 by omega), up_n Dp _ (show 1 + k ≠ 0 by omega)]
            exact dk k hk
        have H2 := rl_ask (x := nI t0) H1
        exact okm (rl_inv H2)
      · have hf2 : (Ds 0 = 40) = True := eq_true (by omega)
        simp (disch := omega) only [W916, r_4, r_La, h60_9_12, r_2, r_Li, h79_304, s_41, s_0, ci_m1, r_90, h60_9_3, h60_2_4, h79_306, r_5, r_47, ci_m4, h79_202, s_40, ci_m2, h60_9_5, h60_6_0, h79_204, h61_9_15, h64_sf, enR, LG, LSt, LC, nlR, psR, TK, up_s, up_n, up_u, lt_nI, le_nI, eq_nI, true_and, and_true, if_true, if_false, Nat.zero_add, Nat.add_zero, nI_add, ↓reduceIte, Nat.reduceAdd, Nat.reduceMul, Nat.reduceSub, Nat.reduceLT, Nat.reduceLeDiff, Nat.reduceEqDiff, Nat.not_lt_zero, Nat.lt_irrefl, decide_true, BEq.rfl, nm1, nm2, nm3, nm4, nm9, ngc, eq_self, List.length_cons, List.length_nil, hq, hl, hi10, c_hasRoadn hl hC hi hN, c2, c_lead hl hC hb hi hp7, hd, o2i, c_isFull (show 0 < 4 by omega) c3, hf]
        refine okc ?_
        rw [cw_wp]
        simp (disch := omega) only [W1044, r_4, r_La, r_2, r_Li, h79_1030, s_41, s_0, ci_m1, r_90, h79_1040, h79_1038, ci_m9, r_47, ci_m4, h60_10_18, ci_40, ci_m2, h79_1043, h60_10_20, ci_1, r_11, h79_1003, h64_76, enR, LG, LSt, LC, nlR, psR, TK, up_s, up_n, up_u, lt_nI, le_nI, eq_nI, true_and, and_true, if_true, if_false, Nat.zero_add, Nat.add_zero, nI_add, ↓reduceIte, Nat.reduceAdd, Nat.reduceMul, Nat.reduceSub, Nat.reduceLT, Nat.reduceLeDiff, Nat.reduceEqDiff, Nat.not_lt_zero, Nat.lt_irrefl, decide_true, BEq.rfl, nm1, nm2, nm3, nm4, nm9, ngc, eq_self, List.length_cons, List.length_nil, m_isRoad hM, hi2, hnow, m_leads hM hb hi hp7, hd, o2i, m2, hf2]
        exact okm (rl_inv (rl_t H))
end

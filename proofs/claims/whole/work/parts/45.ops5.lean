/-! drives: more calls; what is told -/
section
variable {t d : Nat} {z : AZ} {X : Nat × (Nat → Int32)} {C : CT} {M : MT} {s : Nat → Int32} {v : Nat → Int64} {g : Nat → Nat → Int32} {w : Nat → Nat → Int64} {q : Nat → Nat} {ct : Nat → Int32} {cn : Nat → Int32} {cc : Nat → Nat → Int32} {di : Nat → Nat → Int32} {dr : Nat → Nat → Int32} {df : Nat → Nat → Int32} {li : Nat → Nat → Int32} {la : Nat → Nat → Nat → Int32} {sf : Nat → Nat → Int32} {sl : Nat → Nat → Int32} {a : Nat → Int32} {b : Nat → Int64} {e : Nat → Nat → Int32} {o : Nat → Nat → Int64} {B : Nat → Bool} {n : Nat → Nat} {P N W : Nat} {K O T J : Nat → Nat} {l : Nat} {Ds : Nat → Nat} {Dr Df Dp : Nat → Nat → Nat} {KB : Nat → Bool}
theorem rl_drv (H : RL t z s v g w q ct cn cc di dr df li la sf sl a b e o B n P N W K O T J l Ds Dr Df Dp KB) : DV P N K O T (Ds 0) (Dr 0) (Df 0) (Dp 0) ∧ DC (di 0) (dr 0) (df 0) (Ds 0) (Dr 0) (Df 0) (Dp 0) ∧ DM (a 17) (a 18) (e 75) (e 76) (e 77) (Ds 0) (Dr 0) (Df 0) (Dp 0) := ⟨H.2.2.2.1.1, H.2.2.2.1.2.1, H.2.2.2.1.2.2.1⟩
theorem dv_place {m : Nat} {r f p : Nat → Nat} (hb : LB P N W K O T J) (h : DV P N K O T m r f p) {k : Nat} (hk : k ≤ m) : p k < 7 := by
  obtain ⟨v1, v2, v3, v4⟩ := h
  have hP := hb.1
  by_cases h0 : k = 0
  · subst h0
    by_cases hP0 : P = 0
    · rw [(v2 hP0).1]; omega
    · have := v3 (by omega); omega
  · obtain ⟨r1, r2, r3⟩ := v4 (k - 1) (by omega)
    rw [show k - 1 + 1 = k by omega] at r3
    have := ldm_lt hb r1 r3
    omega
theorem op_here (H : RL t z s v g w q ct cn cc di dr df li la sf sl a b e o B n P N W K O T J l Ds Dr Df Dp KB) : OPI (d + 20) 917 1045 [] t z X (s, v, g, w, q, ct, cn, cc, di, dr, df, li, la, sf, sl) (a, b, e, o) := by
  obtain ⟨hb, hl, hq, hC, hs, hM, hS⟩ := rl_land H
  obtain ⟨hV, ⟨c1, c2, c3, c4⟩, ⟨m1, m2, m3⟩⟩ := rl_drv H
  have hP := hb.1
  have h0 := hC.1
  have h9 := hM.1
  unfold OPI
  rw [cw_wp]
  by_cases hP0 : P = 0
  · simp (disch := omega) only [W917, r_4, r_La, h60_9_12, h60_3_4, s_41, s_0, ci_m4, r_90, h60_9_3, h60_2_5, h61_9_15, h60_2_4, enR, LG, LSt, LC, nlR, psR, TK, up_s, up_n, up_u, lt_nI, le_nI, eq_nI, true_and, and_true, if_true, if_false, Nat.zero_add, Nat.add_zero, nI_add, ↓reduceIte, Nat.reduceAdd, Nat.reduceMul, Nat.reduceSub, Nat.reduceLT, Nat.reduceLeDiff, Nat.reduceEqDiff, Nat.not_lt_zero, Nat.lt_irrefl, decide_true, BEq.rfl, nm1, nm2, nm3, nm4, nm9, ngc, eq_self, List.length_cons, List.length_nil, hq, hl, h0, hP0]
    refine okc ?_
    rw [cw_wp]
    simp (disch := omega) only [W1045, r_4, r_La, h60_10_10, s_41, s_0, ci_m4, r_52, h60_10_18, h79_1040, h79_1003, r_90, enR, LG, LSt, LC, nlR, psR, TK, up_s, up_n, up_u, lt_nI, le_nI, eq_nI, true_and, and_true, if_true, if_false, Nat.zero_add, Nat.add_zero, nI_add, ↓reduceIte, Nat.reduceAdd, Nat.reduceMul, Nat.reduceSub, Nat.reduceLT, Nat.reduceLeDiff, Nat.reduceEqDiff, Nat.not_lt_zero, Nat.lt_irrefl, decide_true, BEq.rfl, nm1, nm2, nm3, nm4, nm9, ngc, eq_self, List.length_cons, List.length_nil, h9, hP0]
    exact okm (rl_inv (rl_t H))
  · simp (disch := omega) only [W917, r_4, r_La, h60_9_12, h60_3_4, s_41, s_0, ci_m4, r_90, h60_9_3, h60_2_5, h61_9_15, h60_2_4, enR, LG, LSt, LC, nlR, psR, TK, up_s, up_n, up_u, lt_nI, le_nI, eq_nI, true_and, and_true, if_true, if_false, Nat.zero_add, Nat.add_zero, nI_add, ↓reduceIte, Nat.reduceAdd, Nat.reduceMul, Nat.reduceSub, Nat.reduceLT, Nat.reduceLeDiff, Nat.reduceEqDiff, Nat.not_lt_zero, Nat.lt_irrefl, decide_true, BEq.rfl, nm1, nm2, nm3, nm4, nm9, ngc, eq_self, List.length_cons, List.length_nil, hq, hl, h0, hP0, c3, c2]
    refine okc ?_
    rw [cw_wp]
    simp (disch := omega) only [W1045, r_4, r_La, h60_10_10, s_41, s_0, ci_m4, r_52, h60_10_18, h79_1040, h79_1003, r_90, enR, LG, LSt, LC, nlR, psR, TK, up_s, up_n, up_u, lt_nI, le_nI, eq_nI, true_and, and_true, if_true, if_false, Nat.zero_add, Nat.add_zero, nI_add, ↓reduceIte, Nat.reduceAdd, Nat.reduceMul, Nat.reduceSub, Nat.reduceLT, Nat.reduceLeDiff, Nat.reduceEqDiff, Nat.not_lt_zero, Nat.lt_irrefl, decide_true, BEq.rfl, nm1, nm2, nm3, nm4, nm9, ngc, eq_self, List.length_cons, List.length_nil, h9, hP0, m2, m_now m1 m2 hV.1 (fun k hk => (m3 k hk).2.2), m_ask]
    exact okm (rl_inv (rl_ask H))
theorem op_felt {x : Int32} (H : RL t z s v g w q ct cn cc di dr df li la sf sl a b e o B n P N W K O T J l Ds Dr Df Dp KB) : OPI (d + 20) 918 1046 [.int x] t z X (s, v, g, w, q, ct, cn, cc, di, dr, df, li, la, sf, sl) (a, b, e, o) := by
  obtain ⟨hV, ⟨c1, c2, c3, c4⟩, ⟨m1, m2, m3⟩⟩ := rl_drv H
  have h40 := hV.1
  unfold OPI
  rw [cw_wp]
  rcases ixN x (show Ds 0 ≤ 80 by omega) with h | ⟨h1, h2, h3⟩ | ⟨k, hk, rfl⟩
  · simp (disch := omega) only [W918, r_2, r_Li, s_43, s_0, ci_m1, r_90, r_4, r_La, h60_9_3, h79_203, s_41, ci_2, h79_951, h60_2_0, h61_9_15, h60_2_1, h64_df, h64_dr, enR, LG, LSt, LC, nlR, psR, TK, up_s, up_n, up_u, lt_nI, le_nI, eq_nI, true_and, and_true, if_true, if_false, Nat.zero_add, Nat.add_zero, nI_add, ↓reduceIte, Nat.reduceAdd, Nat.reduceMul, Nat.reduceSub, Nat.reduceLT, Nat.reduceLeDiff, Nat.reduceEqDiff, Nat.not_lt_zero, Nat.lt_irrefl, decide_true, BEq.rfl, nm1, nm2, nm3, nm4, nm9, ngc, eq_self, List.length_cons, List.length_nil, h]
    refine okc ?_
    rw [cw_wp]
    simp (disch := omega) only [W1046, r_2, r_Li, s_43, s_0, ci_m1, r_90, r_4, r_La, h60_10_18, r_49, h60_10_19, h60_10_20, h79_1003, r_52, ci_2, h79_1002, h64_75, h64_76, enR, LG, LSt, LC, nlR, psR, TK, up_s, up_n, up_u, lt_nI, le_nI, eq_nI, true_and, and_true, if_true, if_false, Nat.zero_add, Nat.add_zero, nI_add, ↓reduceIte, Nat.reduceAdd, Nat.reduceMul, Nat.reduceSub, Nat.reduceLT, Nat.reduceLeDiff, Nat.reduceEqDiff, Nat.not_lt_zero, Nat.lt_irrefl, decide_true, BEq.rfl, nm1, nm2, nm3, nm4, nm9, ngc, eq_self, List.length_cons, List.length_nil, h]
    exact okm (rl_inv (rl_t H))
  · simp (disch := omega) only [W918, r_2, r_Li, s_43, s_0, ci_m1, r_90, r_4, r_La, h60_9_3, h79_203, s_41, ci_2, h79_951, h60_2_0, h61_9_15, h60_2_1, h64_df, h64_dr, enR, LG, LSt, LC, nlR, psR, TK, up_s, up_n, up_u, lt_nI, le_nI, eq_nI, true_and, and_true, if_true, if_false, Nat.zero_add, Nat.add_zero, nI_add, ↓reduceIte, Nat.reduceAdd, Nat.reduceMul, Nat.reduceSub, Nat.reduceLT, Nat.reduceLeDiff, Nat.reduceEqDiff, Nat.not_lt_zero, Nat.lt_irrefl, decide_true, BEq.rfl, nm1, nm2, nm3, nm4, nm9, ngc, eq_self, List.length_cons, List.length_nil, h1, h2, c_hasStep (show 0 < 4 by omega) c3 (by omega), c_found]
    refine okc ?_
    rw [cw_wp]
    simp (disch := omega) only [W1046, r_2, r_Li, s_43, s_0, ci_m1, r_90, r_4, r_La, h60_10_18, r_49, h60_10_19, h60_10_20, h79_1003, r_52, ci_2, h79_1002, h64_75, h64_76, enR, LG, LSt, LC, nlR, psR, TK, up_s, up_n, up_u, lt_nI, le_nI, eq_nI, true_and, and_true, if_true, if_false, Nat.zero_add, Nat.add_zero, nI_add, ↓reduceIte, Nat.reduceAdd, Nat.reduceMul, Nat.reduceSub, Nat.reduceLT, Nat.reduceLeDiff, Nat.reduceEqDiff, Nat.not_lt_zero, Nat.lt_irrefl, decide_true, BEq.rfl, nm1, nm2, nm3, nm4, nm9, ngc, eq_self, List.length_cons, List.length_nil, h1, m2, h2, m_meet]
    exact okm (rl_inv (rl_found (k := 2) (by decide) H))
  · obtain ⟨e1, e2⟩ := c4 k hk
    obtain ⟨f1, f2, f3⟩ := m3 k hk
    have hk40 : k < 40 := by omega
    simp (disch := omega) only [W918, r_2, r_Li, s_43, s_0, ci_m1, r_90, r_4, r_La, h60_9_3, h79_203, s_41, ci_2, h79_951, h60_2_0, h61_9_15, h60_2_1, h64_df, h64_dr, enR, LG, LSt, LC, nlR, psR, TK, up_s, up_n, up_u, lt_nI, le_nI, eq_nI, true_and, and_true, if_true, if_false, Nat.zero_add, Nat.add_zero, nI_add, ↓reduceIte, Nat.reduceAdd, Nat.reduceMul, Nat.reduceSub, Nat.reduceLT, Nat.reduceLeDiff, Nat.reduceEqDiff, Nat.not_lt_zero, Nat.lt_irrefl, decide_true, BEq.rfl, nm1, nm2, nm3, nm4, nm9, ngc, eq_self, List.length_cons, List.length_nil, c_hasStep (show 0 < 4 by omega) c3 (by omega), hk, hk40, e1, e2]
    refine okc ?_
    rw [cw_wp]
    simp (disch := omega) only [W1046, r_2, r_Li, s_43, s_0, ci_m1, r_90, r_4, r_La, h60_10_18, r_49, h60_10_19, h60_10_20, h79_1003, r_52, ci_2, h79_1002, h64_75, h64_76, enR, LG, LSt, LC, nlR, psR, TK, up_s, up_n, up_u, lt_nI, le_nI, eq_nI, true_and, and_true, if_true, if_false, Nat.zero_add, Nat.add_zero, nI_add, ↓reduceIte, Nat.reduceAdd, Nat.reduceMul, Nat.reduceSub, Nat.reduceLT, Nat.reduceLeDiff, Nat.reduceEqDiff, Nat.not_lt_zero, Nat.lt_irrefl, decide_true, BEq.rfl, nm1, nm2, nm3, nm4, nm9, ngc, eq_self, List.length_cons, List.length_nil, m2, hk, hk40, f1, f2, m_ask]
    exact okm (rl_inv (rl_ask H))
theorem op_undo {x : Int32} (H : RL t z s v g w q ct cn cc di dr df li la sf sl a b e o B n P N W K O T J l Ds Dr Df Dp KB) : OPI (d + 20) 919 1047 [.int x] t z X (s, v, g, w, q, ct, cn, cc, di, dr, df, li, la, sf, sl) (a, b, e, o) := by
  obtain ⟨hb, hl, hq, hC, hs, hM, hS⟩ := rl_land H
  obtain ⟨hV, ⟨c1, c2, c3, c4⟩, ⟨m1, m2, m3⟩⟩ := rl_drv H
  have h40 := hV.1
  unfold OPI
  rw [cw_wp]
  rcases ix x (n := Ds 0) (by omega) with h | ⟨h1, h2, h3⟩ | ⟨k, hk, rfl⟩
  · simp (disch := omega) only [W919, r_2, r_Li, s_42, r_4, r_La, h60_9_3, h60_2_5, r_51, s_0, ci_m1, r_90, r_11, r_5, h60_9_12, h79_205, enR, LG, LSt, LC, nlR, psR, TK, up_s, up_n, up_u, lt_nI, le_nI, eq_nI, true_and, and_true, if_true, if_false, Nat.zero_add, Nat.add_zero, nI_add, ↓reduceIte, Nat.reduceAdd, Nat.reduceMul, Nat.reduceSub, Nat.reduceLT, Nat.reduceLeDiff, Nat.reduceEqDiff, Nat.not_lt_zero, Nat.lt_irrefl, decide_true, BEq.rfl, nm1, nm2, nm3, nm4, nm9, ngc, eq_self, List.length_cons, List.length_nil, h]
    refine okc ?_
    rw [cw_wp]
    simp (disch := omega) only [W1047, r_2, r_Li, s_0, ci_0, r_4, r_La, h60_10_18, h80_1001, s_41, ci_m1, r_90, r_11, r_5, h61_10_18, enR, LG, LSt, LC, nlR, psR, TK, up_s, up_n, up_u, lt_nI, le_nI, eq_nI, true_and, and_true, if_true, if_false, Nat.zero_add, Nat.add_zero, nI_add, ↓reduceIte, Nat.reduceAdd, Nat.reduceMul, Nat.reduceSub, Nat.reduceLT, Nat.reduceLeDiff, Nat.reduceEqDiff, Nat.not_lt_zero, Nat.lt_irrefl, decide_true, BEq.rfl, nm1, nm2, nm3, nm4, nm9, ngc, eq_self, List.length_cons, List.length_nil, m_in, h]
    exact okm (rl_inv (rl_t H))
  · simp (disch := omega) only [W919, r_2, r_Li, s_42, r_4, r_La, h60_9_3, h60_2_5, r_51, s_0, ci_m1, r_90, r_11, r_5, h60_9_12, h79_205, enR, LG, LSt, LC, nlR, psR, TK, up_s, up_n, up_u, lt_nI, le_nI, eq_nI, true_and, and_true, if_true, if_false, Nat.zero_add, Nat.add_zero, nI_add, ↓reduceIte, Nat.reduceAdd, Nat.reduceMul, Nat.reduceSub, Nat.reduceLT, Nat.reduceLeDiff, Nat.reduceEqDiff, Nat.not_lt_zero, Nat.lt_irrefl, decide_true, BEq.rfl, nm1, nm2, nm3, nm4, nm9, ngc, eq_self, List.length_cons, List.length_nil, h1, c3, h3]
    refine okc ?_
    rw [cw_wp]
    simp (disch := omega) only [W1047, r_2, r_Li, s_0, ci_0, r_4, r_La, h60_10_18, h80_1001, s_41, ci_m1, r_90, r_11, r_5, h61_10_18, enR, LG, LSt, LC, nlR, psR, TK, up_s, up_n, up_u, lt_nI, le_nI, eq_nI, true_and, and_true, if_true, if_false, Nat.zero_add, Nat.add_zero, nI_add, ↓reduceIte, Nat.reduceAdd, Nat.reduceMul, Nat.reduceSub, Nat.reduceLT, Nat.reduceLeDiff, Nat.reduceEqDiff, Nat.not_lt_zero, Nat.lt_irrefl, decide_true, BEq.rfl, nm1, nm2, nm3, nm4, nm9, ngc, eq_self, List.length_cons, List.length_nil, m_in, h1, m2, h3]
    exact okm (rl_inv (rl_t H))
  · have hk2 : ¬ Ds 0 < k := by omega
    have hr : ∀ j, j < k → dr 0 j = nI (Dr 0 j) ∧ Dr 0 j < N ∧ ldm K O T (Dr 0 j) (Dp 0 j) = some (Dp 0 (j + 1)) := fun j hj => ⟨(c4 j (by omega)).1, (hV.2.2.2 j (by omega)).1, (hV.2.2.2 j (by omega)).2.2⟩
    simp (disch := omega) only [W919, r_2, r_Li, s_42, r_4, r_La, h60_9_3, h60_2_5, r_51, s_0, ci_m1, r_90, r_11, r_5, h60_9_12, h79_205, enR, LG, LSt, LC, nlR, psR, TK, up_s, up_n, up_u, lt_nI, le_nI, eq_nI, true_and, and_true, if_true, if_false, Nat.zero_add, Nat.add_zero, nI_add, ↓reduceIte, Nat.reduceAdd, Nat.reduceMul, Nat.reduceSub, Nat.reduceLT, Nat.reduceLeDiff, Nat.reduceEqDiff, Nat.not_lt_zero, Nat.lt_irrefl, decide_true, BEq.rfl, nm1, nm2, nm3, nm4, nm9, ngc, eq_self, List.length_cons, List.length_nil, c3, hk2, hq, nI_sub, c_cutTo hl hC hb (show 0 < 4 by omega) hk h40 hr c3 c1]
    refine okc ?_
    rw [cw_wp]
    simp (disch := omega) only [W1047, r_2, r_Li, s_0, ci_0, r_4, r_La, h60_10_18, h80_1001, s_41, ci_m1, r_90, r_11, r_5, h61_10_18, enR, LG, LSt, LC, nlR, psR, TK, up_s, up_n, up_u, lt_nI, le_nI, eq_nI, true_and, and_true, if_true, if_false, Nat.zero_add, Nat.add_zero, nI_add, ↓reduceIte, Nat.reduceAdd, Nat.reduceMul, Nat.reduceSub, Nat.reduceLT, Nat.reduceLeDiff, Nat.reduceEqDiff, Nat.not_lt_zero, Nat.lt_irrefl, decide_true, BEq.rfl, nm1, nm2, nm3, nm4, nm9, ngc, eq_self, List.length_cons, List.length_nil, m_in, m2, hk2, nI_sub]
    have H1 : RL (t + 1) z s v g w q ct cn cc (va_up di 0 (va_up (va_up (di 0) 5 (nI k)) 4 (nI (Dp 0 k)))) dr df li la sf sl (va_up a 18 (nI k)) b e o B n P N W K O T J l (va_up Ds 0 k) Dr Df Dp KB := by
      obtain ⟨h1, h2, h3, ⟨⟨v1, v2, v3, v4⟩, d2, d3, d4⟩, h5, h6, h7⟩ := H
      refine ⟨h1, h2, h3, ⟨⟨?_, fun h => ⟨(v2 h).1, ?_⟩, v3, fun j hj => ?_⟩, ⟨?_, ?_, ?_, fun j hj => ?_⟩, ⟨?_, ?_, fun j hj => ?_⟩, fun j hj => ?_⟩, h5, h6, seen_up h7⟩
      · rw [up_s]; omega
      · rw [up_s]; have := (v2 h).2; omega
      · rw [up_s] at hj; exact v4 j (by omega)
      · rw [up_s, up_n _ _ (by decide), up_n _ _ (by decide)]; exact c1
      · rw [up_s, up_s, up_s]
      · rw [up_s, up_n _ _ (by decide), up_s, up_s]
      · rw [up_s] at hj; exact c4 j (by omega)
      · rw [up_n _ _ (by decide)]; exact m1
      · rw [up_s, up_s]
      · rw [up_s] at hj; exact m3 j (by omega)
      · rw [up_n di _ (show 1 + j ≠ 0 by omega), up_n Ds _ (show 1 + j ≠ 0 by omega)]
        exact d4 j hj
    exact okm (rl_inv H1)
end
section
variable {d : Nat} {z : AZ} {f : AH} {Q : Option Value → AZ → AH → Prop} {X : Nat × (Nat → Int32)} {C : CT} {a : Nat → Int32} {b : Nat → Int64} {e : Nat → Nat → Int32} {o : Nat → Nat → Int64}
/-- k cells written into a row from an array -/
theorem lp_mtell {r m : Nat} (hr : r < 6) (hm : m ≤ 40) (h18 : a 18 = nI m) : ∀ (p k : Nat) (e : Nat → Nat → Int32) (y : Nat → Int32), k + p = m → (∀ q, y q = if 40 * r + k ≤ q ∧ q < 40 * r + m then e 76 (q - 40 * r) else e 70 q) → (Wp (d + 3) 1048 21 [some (.ref 67), some (.int (nI r)), some (.int (nI k))] [] z (Hp X C (a, b, e, o)) Q ↔ Q (some (.int (nI m))) z (Hp X C (a, b, va_up e 70 y, o))) := by
  intro p
  induction p with
  | zero =>
    intro k e y hk hy
    have hk : k = m := by omega
    subst hk
    have e1 : e 70 = y := by
      funext q
      rw [hy q, if_neg (by omega)]
    rw [W1048_21, up_id e1]
    simp (disch := omega) only [W1048, r_2, r_Li, h80_1007, s_41, s_0, ci_m1, r_90, r_4, r_La, h60_10_18, h79_1013, r_32, ci_0, r_5, r_49, h60_10_20, h79_1012, s_8, r_In, ci_1, r_52, h64_76, enR, LG, LSt, LC, nlR, psR, TK, up_s, up_n, up_u, lt_nI, le_nI, eq_nI, true_and, and_true, if_true, if_false, Nat.zero_add, Nat.add_zero, nI_add, ↓reduceIte, Nat.reduceAdd, Nat.reduceMul, Nat.reduceSub, Nat.reduceLT, Nat.reduceLeDiff, Nat.reduceEqDiff, Nat.not_lt_zero, Nat.lt_irrefl, decide_true, BEq.rfl, nm1, nm2, nm3, nm4, nm9, ngc, eq_self, List.length_cons, List.length_nil, h18]
  | succ p ih =>
    intro k e y hk hy
    have h1 : k < m := by omega
    rw [W1048_21]
    simp (disch := omega) only [W1048, r_2, r_Li, h80_1007, s_41, s_0, ci_m1, r_90, r_4, r_La, h60_10_18, h79_1013, r_32, ci_0, r_5, r_49, h60_10_20, h79_1012, s_8, r_In, ci_1, r_52, h64_76, enR, LG, LSt, LC, nlR, psR, TK, up_s, up_n, up_u, lt_nI, le_nI, eq_nI, true_and, and_true, if_true, if_false, Nat.zero_add, Nat.add_zero, nI_add, ↓reduceIte, Nat.reduceAdd, Nat.reduceMul, Nat.reduceSub, Nat.reduceLT, Nat.reduceLeDiff, Nat.reduceEqDiff, Nat.not_lt_zero, Nat.lt_irrefl, decide_true, BEq.rfl, nm1, nm2, nm3, nm4, nm9, ngc, eq_self, List.length_cons, List.length_nil, h18, h1, m_setRow]
    rw [ih (k + 1) _ y (by omega) (fun q => ?_), up_u]
    rw [hy q, up_s, up_n e _ (show 76 ≠ 70 by decide)]
    by_cases h2 : q = 40 * r + k
    · subst h2
      rw [if_pos (by omega), if_neg (by omega), ud_s]
      congr 1
      omega
    · rw [ud_n _ _ h2]
      by_cases h3 : 40 * r + (k + 1) ≤ q ∧ q < 40 * r + m
      · rw [if_pos h3, if_pos (by omega)]
      · rw [if_neg h3, if_neg (by omega)]
/-- keep: 40 entries -/
theorem lp_mkeep {k0 : Nat} (hk0 : k0 < 3) {x1 : Int32} : ∀ (p j : Nat) (e : Nat → Nat → Int32) (y : Nat → Int32), j + p = 40 → (∀ q, y q = if 82 * k0 + 2 + j ≤ q ∧ q < 82 * k0 + 42 then nI 10 * e 75 (q - (82 * k0 + 2)) + e 76 (q - (82 * k0 + 2)) else if 82 * k0 + 42 + j ≤ q ∧ q < 82 * k0 + 82 then e 77 (q - (82 * k0 + 42) + 1) else e 78 q) → (Wp (d + 1) 1049 50 [some (.ref 67), some (.int x1), some (.int (nI (82 * k0))), some (.int (nI j))] [] z (Hp X C (a, b, e, o)) Q ↔ Q (some (.int (a 18))) z (Hp X C (a, b, va_up e 78 y, o))) := by
  intro p
  induction p with
  | zero =>
    intro j e y hj hy
    have hj : j = 40 := by omega
    subst hj
    have e1 : e 78 = y := by
      funext q
      rw [hy q, if_neg (by omega), if_neg (by omega)]
    rw [W1049_50, up_id e1]
    simp (disch := omega) only [W1049, r_2, r_Li, s_0, ci_0, ci_2, h80_1001, s_41, ci_m1, r_90, r_4, r_La, h60_10_10, ci_m4, ci_82, r_12, r_5, h60_10_22, h60_10_18, ci_1, r_10, h60_10_17, ci_40, r_49, ci_10, h60_10_19, h60_10_20, ci_42, h60_10_21, s_8, r_In, r_52, h64_75, h65_75, h64_76, h65_76, h64_77, h65_77, h64_78, h65_78, enR, LG, LSt, LC, nlR, psR, TK, up_s, up_n, up_u, lt_nI, le_nI, eq_nI, true_and, and_true, if_true, if_false, Nat.zero_add, Nat.add_zero, nI_add, ↓reduceIte, Nat.reduceAdd, Nat.reduceMul, Nat.reduceSub, Nat.reduceLT, Nat.reduceLeDiff, Nat.reduceEqDiff, Nat.not_lt_zero, Nat.lt_irrefl, decide_true, BEq.rfl, nm1, nm2, nm3, nm4, nm9, ngc, eq_self, List.length_cons, List.length_nil]
  | succ p ih =>
    intro j e y hj hy
    have h1 : j < 40 := by omega
    rw [W1049_50]
    simp (disch := omega) only [W1049, r_2, r_Li, s_0, ci_0, ci_2, h80_1001, s_41, ci_m1, r_90, r_4, r_La, h60_10_10, ci_m4, ci_82, r_12, r_5, h60_10_22, h60_10_18, ci_1, r_10, h60_10_17, ci_40, r_49, ci_10, h60_10_19, h60_10_20, ci_42, h60_10_21, s_8, r_In, r_52, h64_75, h65_75, h64_76, h65_76, h64_77, h65_77, h64_78, h65_78, enR, LG, LSt, LC, nlR, psR, TK, up_s, up_n, up_u, lt_nI, le_nI, eq_nI, true_and, and_true, if_true, if_false, Nat.zero_add, Nat.add_zero, nI_add, ↓reduceIte, Nat.reduceAdd, Nat.reduceMul, Nat.reduceSub, Nat.reduceLT, Nat.reduceLeDiff, Nat.reduceEqDiff, Nat.not_lt_zero, Nat.lt_irrefl, decide_true, BEq.rfl, nm1, nm2, nm3, nm4, nm9, ngc, eq_self, List.length_cons, List.length_nil, h1, show ((75 : Nat) = 78) = False from eq_false (by decide), show ((76 : Nat) = 78) = False from eq_false (by decide)]
    rw [ih (j + 1) _ y (by omega) (fun q => ?_), up_u]
    rw [hy q, up_s, up_n e _ (show 75 ≠ 78 by decide), up_n e _ (show 76 ≠ 78 by decide), up_n e _ (show 77 ≠ 78 by decide)]
    by_cases h2 : q = 82 * k0 + 42 + j
    · subst h2
      rw [if_neg (by omega), if_pos (by omega), if_neg (by omega), if_neg (by omega), ud_s]
      congr 1
      omega
    · rw [ud_n _ _ h2]
      by_cases h3 : q = 82 * k0 + 2 + j
      · subst h3
        rw [if_pos (by omega), if_neg (by omega), if_neg (by omega), ud_s]
        rw [show 82 * k0 + 2 + j - (82 * k0 + 2) = j by omega]
      · rw [ud_n _ _ h3]
        by_cases h4 : 82 * k0 + 2 + j ≤ q ∧ q < 82 * k0 + 42
        · rw [if_pos h4, if_pos (by omega)]
        · by_cases h5 : 82 * k0 + 42 + j ≤ q ∧ q < 82 * k0 + 82
          · rw [if_neg h4, if_pos h5, if_neg (by omega), if_pos (by omega)]
          · rw [if_neg h4, if_neg h5, if_neg (by omega), if_neg (by omega)]
/-- on: 40 entries back -/
theorem lp_mon {k0 : Nat} (hk0 : k0 < 3) {x1 : Int32} (hQ : ∀ y75 y76 y77 : Nat → Int32, (∀ j, j < 40 → y75 j = e 78 (82 * k0 + 2 + j) / nI 10 ∧ y76 j = e 78 (82 * k0 + 2 + j) - e 78 (82 * k0 + 2 + j) / nI 10 * nI 10 ∧ y77 (j + 1) = e 78 (82 * k0 + 42 + j)) → Q (some (.int (a 18))) z (Hp X C (a, b, va_up (va_up (va_up e 75 y75) 76 y76) 77 y77, o))) : ∀ (p j : Nat) (y75 y76 y77 : Nat → Int32), j + p = 40 → (∀ i, i < j → y75 i = e 78 (82 * k0 + 2 + i) / nI 10 ∧ y76 i = e 78 (82 * k0 + 2 + i) - e 78 (82 * k0 + 2 + i) / nI 10 * nI 10 ∧ y77 (i + 1) = e 78 (82 * k0 + 42 + i)) → Wp (d + 1) 1050 57 [some (.ref 67), some (.int x1), some (.int (nI (82 * k0))), some (.int (nI j))] [] z (Hp X C (a, b, va_up (va_up (va_up e 75 y75) 76 y76) 77 y77, o)) Q := by
  intro p
  induction p with
  | zero =>
    intro j y75 y76 y77 hj hy
    have hj : j = 40 := by omega
    subst hj
    rw [W1050_57]
    simp (disch := omega) only [W1050, r_2, r_Li, s_0, ci_0, ci_2, h80_1001, s_41, ci_m1, r_90, ci_82, r_12, r_5, r_4, r_La, h60_10_22, ci_m9, r_47, ci_1, h79_1002, h61_10_18, r_10, h61_10_17, ci_40, r_49, h60_10_19, ci_10, s_13, h60_10_20, s_14, h60_10_21, ci_42, s_8, r_In, r_52, h60_10_18, h64_75, h65_75, h64_76, h65_76, h64_77, h65_77, h64_78, h65_78, enR, LG, LSt, LC, nlR, psR, TK, up_s, up_n, up_u, lt_nI, le_nI, eq_nI, true_and, and_true, if_true, if_false, Nat.zero_add, Nat.add_zero, nI_add, ↓reduceIte, Nat.reduceAdd, Nat.reduceMul, Nat.reduceSub, Nat.reduceLT, Nat.reduceLeDiff, Nat.reduceEqDiff, Nat.not_lt_zero, Nat.lt_irrefl, decide_true, BEq.rfl, nm1, nm2, nm3, nm4, nm9, ngc, eq_self, List.length_cons, List.length_nil]
    exact hQ _ _ _ hy
  | succ p ih =>
    intro j y75 y76 y77 hj hy
    have h1 : j < 40 := by omega
    have h10 : ¬ (10 : Nat) = 0 := by decide
    rw [W1050_57]
    simp (disch := omega) only [W1050, r_2, r_Li, s_0, ci_0, ci_2, h80_1001, s_41, ci_m1, r_90, ci_82, r_12, r_5, r_4, r_La, h60_10_22, ci_m9, r_47, ci_1, h79_1002, h61_10_18, r_10, h61_10_17, ci_40, r_49, h60_10_19, ci_10, s_13, h60_10_20, s_14, h60_10_21, ci_42, s_8, r_In, r_52, h60_10_18, h64_75, h65_75, h64_76, h65_76, h64_77, h65_77, h64_78, h65_78, enR, LG, LSt, LC, nlR, psR, TK, up_s, up_n, up_u, lt_nI, le_nI, eq_nI, true_and, and_true, if_true, if_false, Nat.zero_add, Nat.add_zero, nI_add, ↓reduceIte, Nat.reduceAdd, Nat.reduceMul, Nat.reduceSub, Nat.reduceLT, Nat.reduceLeDiff, Nat.reduceEqDiff, Nat.not_lt_zero, Nat.lt_irrefl, decide_true, BEq.rfl, nm1, nm2, nm3, nm4, nm9, ngc, eq_self, List.length_cons, List.length_nil, h1, h10, not_false_eq_true]
    have e1 : va_up (va_up (va_up (va_up (va_up (va_up e 75 y75) 76 y76) 77 y77) 75 (upd y75 j (e 78 (82 * k0 + 2 + j) / nI 10))) 76 (upd y76 j (e 78 (82 * k0 + 2 + j) - e 78 (82 * k0 + 2 + j) / nI 10 * nI 10))) 77 (upd y77 (j + 1) (e 78 (82 * k0 + 42 + j))) = va_up (va_up (va_up e 75 (upd y75 j (e 78 (82 * k0 + 2 + j) / nI 10))) 76 (upd y76 j (e 78 (82 * k0 + 2 + j) - e 78 (82 * k0 + 2 + j) / nI 10 * nI 10))) 77 (upd y77 (j + 1) (e 78 (82 * k0 + 42 + j))) := by
      funext q
      unfold va_up
      by_cases q1 : q = 77
      · simp [q1]
      · by_cases q2 : q = 76
        · simp [q2]
        · by_cases q3 : q = 75 <;> simp [q1, q2, q3]
    rw [e1]
    refine ih (j + 1) _ _ _ (by omega) (fun i hi => ?_)
    by_cases h2 : i = j
    · subst h2
      rw [ud_s, ud_s, ud_s]
      exact ⟨rfl, rfl, rfl⟩
    · rw [ud_n _ _ h2, ud_n _ _ h2, ud_n _ _ (by omega)]
      exact hy i (by omega)
end
section
variable {t d : Nat} {z : AZ} {X : Nat × (Nat → Int32)} {C : CT} {M : MT} {s : Nat → Int32} {v : Nat → Int64} {g : Nat → Nat → Int32} {w : Nat → Nat → Int64} {q : Nat → Nat} {ct : Nat → Int32} {cn : Nat → Int32} {cc : Nat → Nat → Int32} {di : Nat → Nat → Int32} {dr : Nat → Nat → Int32} {df : Nat → Nat → Int32} {li : Nat → Nat → Int32} {la : Nat → Nat → Nat → Int32} {sf : Nat → Nat → Int32} {sl : Nat → Nat → Int32} {a : Nat → Int32} {b : Nat → Int64} {e : Nat → Nat → Int32} {o : Nat → Nat → Int64} {B : Nat → Bool} {n : Nat → Nat} {P N W : Nat} {K O T J : Nat → Nat} {l : Nat} {Ds : Nat → Nat} {Dr Df Dp : Nat → Nat → Nat} {KB : Nat → Bool}
theorem op_tell {x : Int32} (H : RL t z s v g w q ct cn cc di dr df li la sf sl a b e o B n P N W K O T J l Ds Dr Df Dp KB) : OPI (d + 20) 920 1048 [.int x] t z X (s, v, g, w, q, ct, cn, cc, di, dr, df, li, la, sf, sl) (a, b, e, o) := by
  obtain ⟨hV, ⟨c1, c2, c3, c4⟩, ⟨m1, m2, m3⟩⟩ := rl_drv H
  have h40 := hV.1
  unfold OPI
  rw [cw_wp]
  rcases ix x (n := 5) (by decide) with h | ⟨h1, h2, h3⟩ | ⟨r, hr, rfl⟩
  · simp (disch := omega) only [W920, r_2, r_Li, h80_948, s_41, s_0, ci_m1, r_90, r_4, r_La, h60_9_0, h60_9_3, h60_2_1, h60_2_5, h79_2, h68_1, enR, LG, LSt, LC, nlR, psR, TK, up_s, up_n, up_u, lt_nI, le_nI, eq_nI, true_and, and_true, if_true, if_false, Nat.zero_add, Nat.add_zero, nI_add, ↓reduceIte, Nat.reduceAdd, Nat.reduceMul, Nat.reduceSub, Nat.reduceLT, Nat.reduceLeDiff, Nat.reduceEqDiff, Nat.not_lt_zero, Nat.lt_irrefl, decide_true, BEq.rfl, nm1, nm2, nm3, nm4, nm9, ngc, eq_self, List.length_cons, List.length_nil, c_isRow, h]
    refine okc ?_
    rw [cw_wp]
    simp (disch := omega) only [W1048, r_2, r_Li, h80_1007, s_41, s_0, ci_m1, r_90, r_4, r_La, h60_10_18, h79_1013, r_32, ci_0, r_5, r_49, h60_10_20, h79_1012, s_8, r_In, ci_1, r_52, h64_76, enR, LG, LSt, LC, nlR, psR, TK, up_s, up_n, up_u, lt_nI, le_nI, eq_nI, true_and, and_true, if_true, if_false, Nat.zero_add, Nat.add_zero, nI_add, ↓reduceIte, Nat.reduceAdd, Nat.reduceMul, Nat.reduceSub, Nat.reduceLT, Nat.reduceLeDiff, Nat.reduceEqDiff, Nat.not_lt_zero, Nat.lt_irrefl, decide_true, BEq.rfl, nm1, nm2, nm3, nm4, nm9, ngc, eq_self, List.length_cons, List.length_nil, m_isRow, h]
    exact okm (rl_inv (rl_t H))
  · simp (disch := omega) only [W920, r_2, r_Li, h80_948, s_41, s_0, ci_m1, r_90, r_4, r_La, h60_9_0, h60_9_3, h60_2_1, h60_2_5, h79_2, h68_1, enR, LG, LSt, LC, nlR, psR, TK, up_s, up_n, up_u, lt_nI, le_nI, eq_nI, true_and, and_true, if_true, if_false, Nat.zero_add, Nat.add_zero, nI_add, ↓reduceIte, Nat.reduceAdd, Nat.reduceMul, Nat.reduceSub, Nat.reduceLT, Nat.reduceLeDiff, Nat.reduceEqDiff, Nat.not_lt_zero, Nat.lt_irrefl, decide_true, BEq.rfl, nm1, nm2, nm3, nm4, nm9, ngc, eq_self, List.length_cons, List.length_nil, c_isRow, h1, h2]
    refine okc ?_
    rw [cw_wp]
    simp (disch := omega) only [W1048, r_2, r_Li, h80_1007, s_41, s_0, ci_m1, r_90, r_4, r_La, h60_10_18, h79_1013, r_32, ci_0, r_5, r_49, h60_10_20, h79_1012, s_8, r_In, ci_1, r_52, h64_76, enR, LG, LSt, LC, nlR, psR, TK, up_s, up_n, up_u, lt_nI, le_nI, eq_nI, true_and, and_true, if_true, if_false, Nat.zero_add, Nat.add_zero, nI_add, ↓reduceIte, Nat.reduceAdd, Nat.reduceMul, Nat.reduceSub, Nat.reduceLT, Nat.reduceLeDiff, Nat.reduceEqDiff, Nat.not_lt_zero, Nat.lt_irrefl, decide_true, BEq.rfl, nm1, nm2, nm3, nm4, nm9, ngc, eq_self, List.length_cons, List.length_nil, m_isRow, h1, h3]
    exact okm (rl_inv (rl_t H))
  · have hr6 : r < 6 := by omega
    have hr5 : ¬ 5 < r := by omega
    simp (disch := omega) only [W920, r_2, r_Li, h80_948, s_41, s_0, ci_m1, r_90, r_4, r_La, h60_9_0, h60_9_3, h60_2_1, h60_2_5, h79_2, h68_1, enR, LG, LSt, LC, nlR, psR, TK, up_s, up_n, up_u, lt_nI, le_nI, eq_nI, true_and, and_true, if_true, if_false, Nat.zero_add, Nat.add_zero, nI_add, ↓reduceIte, Nat.reduceAdd, Nat.reduceMul, Nat.reduceSub, Nat.reduceLT, Nat.reduceLeDiff, Nat.reduceEqDiff, Nat.not_lt_zero, Nat.lt_irrefl, decide_true, BEq.rfl, nm1, nm2, nm3, nm4, nm9, ngc, eq_self, List.length_cons, List.length_nil, c_isRow, hr6, c3, c_takeF]
    refine okc ?_
    rw [cw_wp]
    simp (disch := omega) only [W1048, r_2, r_Li, h80_1007, s_41, s_0, ci_m1, r_90, r_4, r_La, h60_10_18, h79_1013, r_32, ci_0, r_5, r_49, h60_10_20, h79_1012, s_8, r_In, ci_1, r_52, h64_76, enR, LG, LSt, LC, nlR, psR, TK, up_s, up_n, up_u, lt_nI, le_nI, eq_nI, true_and, and_true, if_true, if_false, Nat.zero_add, Nat.add_zero, nI_add, ↓reduceIte, Nat.reduceAdd, Nat.reduceMul, Nat.reduceSub, Nat.reduceLT, Nat.reduceLeDiff, Nat.reduceEqDiff, Nat.not_lt_zero, Nat.lt_irrefl, decide_true, BEq.rfl, nm1, nm2, nm3, nm4, nm9, ngc, eq_self, List.length_cons, List.length_nil, m_isRow, hr5, m2, m_row hr6 h40]
    rw [lp_mtell hr6 h40 m2 (Ds 0) 0 _ (fun q => if 40 * r ≤ q ∧ q < 40 * r + Ds 0 then e 76 (q - 40 * r) else fil (e 70) (40 * r) (40 * r + 40) (nI 0) q) (by omega) (fun q => rfl), up_u]
    refine okm (rl_inv (rl_rows H (ic_row H.2.1 hr6 h40 (fun j hj => ?_) (fun j hj => ?_))))
    · rw [if_pos (by omega)]
      unfold va_cpy
      rw [if_pos (by omega), show 40 * r + j - 40 * r = j by omega, show 0 + (j - 0) = j by omega, (m3 j hj).2.1, (c4 j hj).2]
    · rw [if_neg (by omega)]
      exact if_neg (by omega)
end

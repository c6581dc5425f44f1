/-! felt rows: ends, where, next -/
theorem run_zero (L : Nat → Nat → Nat) (R : Nat → Nat) : ∀ (j k : Nat), run L R k j 0 = 0 := by
  intro j
  induction j with
  | zero => intro k; rfl
  | succ j ih =>
    intro k
    show run L R (k + 1) j (stp L 0 (R k)) = 0
    have : stp L 0 (R k) = 0 := eq_bits (fun i => by rw [stp_bit]; simp)
    rw [this]
    exact ih (k + 1)
section
variable {t d : Nat} {z : AZ} {X : Nat × (Nat → Int32)} {C : CT} {M : MT} {s : Nat → Int32} {v : Nat → Int64} {g : Nat → Nat → Int32} {w : Nat → Nat → Int64} {q : Nat → Nat} {ct : Nat → Int32} {cn : Nat → Int32} {cc : Nat → Nat → Int32} {di : Nat → Nat → Int32} {dr : Nat → Nat → Int32} {df : Nat → Nat → Int32} {li : Nat → Nat → Int32} {la : Nat → Nat → Nat → Int32} {sf : Nat → Nat → Int32} {sl : Nat → Nat → Int32} {a : Nat → Int32} {b : Nat → Int64} {e : Nat → Nat → Int32} {o : Nat → Nat → Int64} {B : Nat → Bool} {n : Nat → Nat} {P N W : Nat} {K O T J : Nat → Nat} {l : Nat} {Ds : Nat → Nat} {Dr Df Dp : Nat → Nat → Nat} {KB : Nat → Bool}
theorem op_ends {x y : Int32} (H : RL t z s v g w q ct cn cc di dr df li la sf sl a b e o B n P N W K O T J l Ds Dr Df Dp KB) : OPI (d + 20) 925 1058 [.int x, .int y] t z X (s, v, g, w, q, ct, cn, cc, di, dr, df, li, la, sf, sl) (a, b, e, o) := by
  obtain ⟨hb, hl, hq, hC, hs, hM, hS⟩ := rl_land H
  have hP := hb.1
  have hN := hb.2.1
  unfold OPI
  rcases ix x (n := 5) (by decide) with h | ⟨h1, h2, h3⟩ | ⟨r, hr, rfl⟩
  · rw [cw_wp]
    simp (disch := omega) only [W925, r_2, r_Li, h80_948, s_40, r_4, r_La, h60_9_12, h79_303, s_41, s_0, ci_m1, r_90, h60_9_0, ci_16, h79_955, r_5, h60_9_5, ci_1, r_18, h79_605, h68_1, enR, LG, LSt, LC, nlR, psR, TK, up_s, up_n, up_u, lt_nI, le_nI, eq_nI, true_and, and_true, if_true, if_false, Nat.zero_add, Nat.add_zero, nI_add, ↓reduceIte, Nat.reduceAdd, Nat.reduceMul, Nat.reduceSub, Nat.reduceLT, Nat.reduceLeDiff, Nat.reduceEqDiff, Nat.not_lt_zero, Nat.lt_irrefl, decide_true, BEq.rfl, nm1, nm2, nm3, nm4, nm9, ngc, eq_self, List.length_cons, List.length_nil, c_isRow, h]
    refine okc ?_
    rw [cw_wp]
    simp (disch := omega) only [W1058, r_4, r_La, r_2, r_Li, h79_1053, r_5, s_43, r_52, s_0, ci_1, r_18, ci_0, h79_1057, r_90, W1053, h80_1007, s_40, h79_1029, s_41, ci_m1, ci_16, h79_1052, (fun d => cw_wp d 1053), enR, LG, LSt, LC, nlR, psR, TK, up_s, up_n, up_u, lt_nI, le_nI, eq_nI, true_and, and_true, if_true, if_false, Nat.zero_add, Nat.add_zero, nI_add, ↓reduceIte, Nat.reduceAdd, Nat.reduceMul, Nat.reduceSub, Nat.reduceLT, Nat.reduceLeDiff, Nat.reduceEqDiff, Nat.not_lt_zero, Nat.lt_irrefl, decide_true, BEq.rfl, nm1, nm2, nm3, nm4, nm9, ngc, eq_self, List.length_cons, List.length_nil, m_isRow, h]
    exact okm (rl_inv (rl_t H))
  · rw [cw_wp]
    simp (disch := omega) only [W925, r_2, r_Li, h80_948, s_40, r_4, r_La, h60_9_12, h79_303, s_41, s_0, ci_m1, r_90, h60_9_0, ci_16, h79_955, r_5, h60_9_5, ci_1, r_18, h79_605, h68_1, enR, LG, LSt, LC, nlR, psR, TK, up_s, up_n, up_u, lt_nI, le_nI, eq_nI, true_and, and_true, if_true, if_false, Nat.zero_add, Nat.add_zero, nI_add, ↓reduceIte, Nat.reduceAdd, Nat.reduceMul, Nat.reduceSub, Nat.reduceLT, Nat.reduceLeDiff, Nat.reduceEqDiff, Nat.not_lt_zero, Nat.lt_irrefl, decide_true, BEq.rfl, nm1, nm2, nm3, nm4, nm9, ngc, eq_self, List.length_cons, List.length_nil, c_isRow, h1, h2]
    refine okc ?_
    rw [cw_wp]
    simp (disch := omega) only [W1058, r_4, r_La, r_2, r_Li, h79_1053, r_5, s_43, r_52, s_0, ci_1, r_18, ci_0, h79_1057, r_90, W1053, h80_1007, s_40, h79_1029, s_41, ci_m1, ci_16, h79_1052, (fun d => cw_wp d 1053), enR, LG, LSt, LC, nlR, psR, TK, up_s, up_n, up_u, lt_nI, le_nI, eq_nI, true_and, and_true, if_true, if_false, Nat.zero_add, Nat.add_zero, nI_add, ↓reduceIte, Nat.reduceAdd, Nat.reduceMul, Nat.reduceSub, Nat.reduceLT, Nat.reduceLeDiff, Nat.reduceEqDiff, Nat.not_lt_zero, Nat.lt_irrefl, decide_true, BEq.rfl, nm1, nm2, nm3, nm4, nm9, ngc, eq_self, List.length_cons, List.length_nil, m_isRow, h1, h3]
    exact okm (rl_inv (rl_t H))
  have hr6 : r < 6 := by omega
  have hr5 : ¬ 5 < r := by omega
  rcases ixN y (show P ≤ 80 by omega) with h | ⟨h1, h2, h3⟩ | ⟨p, hp, rfl⟩
  · rw [cw_wp]
    simp (disch := omega) only [W925, r_2, r_Li, h80_948, s_40, r_4, r_La, h60_9_12, h79_303, s_41, s_0, ci_m1, r_90, h60_9_0, ci_16, h79_955, r_5, h60_9_5, ci_1, r_18, h79_605, h68_1, enR, LG, LSt, LC, nlR, psR, TK, up_s, up_n, up_u, lt_nI, le_nI, eq_nI, true_and, and_true, if_true, if_false, Nat.zero_add, Nat.add_zero, nI_add, ↓reduceIte, Nat.reduceAdd, Nat.reduceMul, Nat.reduceSub, Nat.reduceLT, Nat.reduceLeDiff, Nat.reduceEqDiff, Nat.not_lt_zero, Nat.lt_irrefl, decide_true, BEq.rfl, nm1, nm2, nm3, nm4, nm9, ngc, eq_self, List.length_cons, List.length_nil, c_isRow, hr6, hq, c_hasPlace hl hC, h]
    refine okc ?_
    rw [cw_wp]
    simp (disch := omega) only [W1058, r_4, r_La, r_2, r_Li, h79_1053, r_5, s_43, r_52, s_0, ci_1, r_18, ci_0, h79_1057, r_90, W1053, h80_1007, s_40, h79_1029, s_41, ci_m1, ci_16, h79_1052, (fun d => cw_wp d 1053), enR, LG, LSt, LC, nlR, psR, TK, up_s, up_n, up_u, lt_nI, le_nI, eq_nI, true_and, and_true, if_true, if_false, Nat.zero_add, Nat.add_zero, nI_add, ↓reduceIte, Nat.reduceAdd, Nat.reduceMul, Nat.reduceSub, Nat.reduceLT, Nat.reduceLeDiff, Nat.reduceEqDiff, Nat.not_lt_zero, Nat.lt_irrefl, decide_true, BEq.rfl, nm1, nm2, nm3, nm4, nm9, ngc, eq_self, List.length_cons, List.length_nil, m_isRow, hr5, m_isPlace hM, h]
    exact okm (rl_inv (rl_t H))
  · rw [cw_wp]
    simp (disch := omega) only [W925, r_2, r_Li, h80_948, s_40, r_4, r_La, h60_9_12, h79_303, s_41, s_0, ci_m1, r_90, h60_9_0, ci_16, h79_955, r_5, h60_9_5, ci_1, r_18, h79_605, h68_1, enR, LG, LSt, LC, nlR, psR, TK, up_s, up_n, up_u, lt_nI, le_nI, eq_nI, true_and, and_true, if_true, if_false, Nat.zero_add, Nat.add_zero, nI_add, ↓reduceIte, Nat.reduceAdd, Nat.reduceMul, Nat.reduceSub, Nat.reduceLT, Nat.reduceLeDiff, Nat.reduceEqDiff, Nat.not_lt_zero, Nat.lt_irrefl, decide_true, BEq.rfl, nm1, nm2, nm3, nm4, nm9, ngc, eq_self, List.length_cons, List.length_nil, c_isRow, hr6, hq, c_hasPlace hl hC, h1, h2]
    refine okc ?_
    rw [cw_wp]
    simp (disch := omega) only [W1058, r_4, r_La, r_2, r_Li, h79_1053, r_5, s_43, r_52, s_0, ci_1, r_18, ci_0, h79_1057, r_90, W1053, h80_1007, s_40, h79_1029, s_41, ci_m1, ci_16, h79_1052, (fun d => cw_wp d 1053), enR, LG, LSt, LC, nlR, psR, TK, up_s, up_n, up_u, lt_nI, le_nI, eq_nI, true_and, and_true, if_true, if_false, Nat.zero_add, Nat.add_zero, nI_add, ↓reduceIte, Nat.reduceAdd, Nat.reduceMul, Nat.reduceSub, Nat.reduceLT, Nat.reduceLeDiff, Nat.reduceEqDiff, Nat.not_lt_zero, Nat.lt_irrefl, decide_true, BEq.rfl, nm1, nm2, nm3, nm4, nm9, ngc, eq_self, List.length_cons, List.length_nil, m_isRow, hr5, m_isPlace hM, h1, h3]
    exact okm (rl_inv (rl_t H))
  have hp2 := nsub (show P < 65536 by omega) hp
  rcases rl_r H hr6 with ⟨q1, q2, q3, q4, q5⟩ | ⟨q1, q2, q3, q4, q5, q6⟩
  · rw [cw_wp]
    simp (disch := omega) only [W925, r_2, r_Li, h80_948, s_40, r_4, r_La, h60_9_12, h79_303, s_41, s_0, ci_m1, r_90, h60_9_0, ci_16, h79_955, r_5, h60_9_5, ci_1, r_18, h79_605, h68_1, enR, LG, LSt, LC, nlR, psR, TK, up_s, up_n, up_u, lt_nI, le_nI, eq_nI, true_and, and_true, if_true, if_false, Nat.zero_add, Nat.add_zero, nI_add, ↓reduceIte, Nat.reduceAdd, Nat.reduceMul, Nat.reduceSub, Nat.reduceLT, Nat.reduceLeDiff, Nat.reduceEqDiff, Nat.not_lt_zero, Nat.lt_irrefl, decide_true, BEq.rfl, nm1, nm2, nm3, nm4, nm9, ngc, eq_self, List.length_cons, List.length_nil, c_isRow, hr6, hq, c_hasPlace hl hC, hp, c_felt_no (show r < 10 by omega) q2]
    refine okc ?_
    rw [cw_wp]
    simp (disch := omega) only [W1058, r_4, r_La, r_2, r_Li, h79_1053, r_5, s_43, r_52, s_0, ci_1, r_18, ci_0, h79_1057, r_90, W1053, h80_1007, s_40, h79_1029, s_41, ci_m1, ci_16, h79_1052, (fun d => cw_wp d 1053), enR, LG, LSt, LC, nlR, psR, TK, up_s, up_n, up_u, lt_nI, le_nI, eq_nI, true_and, and_true, if_true, if_false, Nat.zero_add, Nat.add_zero, nI_add, ↓reduceIte, Nat.reduceAdd, Nat.reduceMul, Nat.reduceSub, Nat.reduceLT, Nat.reduceLeDiff, Nat.reduceEqDiff, Nat.not_lt_zero, Nat.lt_irrefl, decide_true, BEq.rfl, nm1, nm2, nm3, nm4, nm9, ngc, eq_self, List.length_cons, List.length_nil, m_isRow, hr5, m_isPlace hM, hp2, m_felt_no hr6 q5]
    exact okm (rl_inv (rl_found (k := 1) (by decide) H))
  by_cases hw : 16 < n r
  · rw [cw_wp]
    simp (disch := omega) only [W925, r_2, r_Li, h80_948, s_40, r_4, r_La, h60_9_12, h79_303, s_41, s_0, ci_m1, r_90, h60_9_0, ci_16, h79_955, r_5, h60_9_5, ci_1, r_18, h79_605, h68_1, enR, LG, LSt, LC, nlR, psR, TK, up_s, up_n, up_u, lt_nI, le_nI, eq_nI, true_and, and_true, if_true, if_false, Nat.zero_add, Nat.add_zero, nI_add, ↓reduceIte, Nat.reduceAdd, Nat.reduceMul, Nat.reduceSub, Nat.reduceLT, Nat.reduceLeDiff, Nat.reduceEqDiff, Nat.not_lt_zero, Nat.lt_irrefl, decide_true, BEq.rfl, nm1, nm2, nm3, nm4, nm9, ngc, eq_self, List.length_cons, List.length_nil, c_isRow, hr6, hq, c_hasPlace hl hC, hp, c_felt_size (show r < 10 by omega) q2 q3 (show n r ≤ 80 by omega) hw]
    refine okc ?_
    rw [cw_wp]
    simp (disch := omega) only [W1058, r_4, r_La, r_2, r_Li, h79_1053, r_5, s_43, r_52, s_0, ci_1, r_18, ci_0, h79_1057, r_90, W1053, h80_1007, s_40, h79_1029, s_41, ci_m1, ci_16, h79_1052, (fun d => cw_wp d 1053), enR, LG, LSt, LC, nlR, psR, TK, up_s, up_n, up_u, lt_nI, le_nI, eq_nI, true_and, and_true, if_true, if_false, Nat.zero_add, Nat.add_zero, nI_add, ↓reduceIte, Nat.reduceAdd, Nat.reduceMul, Nat.reduceSub, Nat.reduceLT, Nat.reduceLeDiff, Nat.reduceEqDiff, Nat.not_lt_zero, Nat.lt_irrefl, decide_true, BEq.rfl, nm1, nm2, nm3, nm4, nm9, ngc, eq_self, List.length_cons, List.length_nil, m_isRow, hr5, m_isPlace hM, hp2, m_felt_size hr6 q5 q4 hw]
    exact okm (rl_inv (rl_found (k := 5) (by decide) H))
  have hw2 : n r ≤ 16 := by omega
  have hcap : n r ≤ cap r := by rw [show cap r = 40 from if_pos hr6]; exact q4
  cases hf : felt (cc r) (n r) with
  | false =>
    rw [cw_wp]
    simp (disch := omega) only [W925, r_2, r_Li, h80_948, s_40, r_4, r_La, h60_9_12, h79_303, s_41, s_0, ci_m1, r_90, h60_9_0, ci_16, h79_955, r_5, h60_9_5, ci_1, r_18, h79_605, h68_1, enR, LG, LSt, LC, nlR, psR, TK, up_s, up_n, up_u, lt_nI, le_nI, eq_nI, true_and, and_true, if_true, if_false, Nat.zero_add, Nat.add_zero, nI_add, ↓reduceIte, Nat.reduceAdd, Nat.reduceMul, Nat.reduceSub, Nat.reduceLT, Nat.reduceLeDiff, Nat.reduceEqDiff, Nat.not_lt_zero, Nat.lt_irrefl, decide_true, BEq.rfl, nm1, nm2, nm3, nm4, nm9, ngc, eq_self, List.length_cons, List.length_nil, c_isRow, hr6, hq, c_hasPlace hl hC, hp, c_felt_unlike (show r < 10 by omega) q2 q3 hcap hw2 (by omega) hf]
    refine okc ?_
    rw [cw_wp]
    simp (disch := omega) only [W1058, r_4, r_La, r_2, r_Li, h79_1053, r_5, s_43, r_52, s_0, ci_1, r_18, ci_0, h79_1057, r_90, W1053, h80_1007, s_40, h79_1029, s_41, ci_m1, ci_16, h79_1052, (fun d => cw_wp d 1053), enR, LG, LSt, LC, nlR, psR, TK, up_s, up_n, up_u, lt_nI, le_nI, eq_nI, true_and, and_true, if_true, if_false, Nat.zero_add, Nat.add_zero, nI_add, ↓reduceIte, Nat.reduceAdd, Nat.reduceMul, Nat.reduceSub, Nat.reduceLT, Nat.reduceLeDiff, Nat.reduceEqDiff, Nat.not_lt_zero, Nat.lt_irrefl, decide_true, BEq.rfl, nm1, nm2, nm3, nm4, nm9, ngc, eq_self, List.length_cons, List.length_nil, m_isRow, hr5, m_isPlace hM, hp2, m_felt_unlike hr6 q5 q4 hw2 (by omega) q6 hf]
    exact okm (rl_inv (rl_found (k := 3) (by decide) H))
  | true =>
    obtain ⟨R, hR⟩ := felt_ok hf
    have hR7 : ∀ k, k < n r → e 70 (40 * r + k) = nI (R k) ∧ R k < 10 := fun k hk => ⟨by rw [q6 k hk]; exact (hR k hk).1, (hR k hk).2⟩
    have hr10 : r < 10 := by omega
    have hSL := sen_SL hb hS
    have hp30 : 2 ^ p < 128 := by
      have := Nat.pow_lt_pow_right (a := 2) (by decide) (show p < 7 by omega)
      exact this
    rw [cw_wp]
    simp (disch := omega) only [W925, r_2, r_Li, h80_948, s_40, r_4, r_La, h60_9_12, h79_303, s_41, s_0, ci_m1, r_90, h60_9_0, ci_16, h79_955, r_5, h60_9_5, ci_1, r_18, h79_605, h68_1, enR, LG, LSt, LC, nlR, psR, TK, up_s, up_n, up_u, lt_nI, le_nI, eq_nI, true_and, and_true, if_true, if_false, Nat.zero_add, Nat.add_zero, nI_add, ↓reduceIte, Nat.reduceAdd, Nat.reduceMul, Nat.reduceSub, Nat.reduceLT, Nat.reduceLeDiff, Nat.reduceEqDiff, Nat.not_lt_zero, Nat.lt_irrefl, decide_true, BEq.rfl, nm1, nm2, nm3, nm4, nm9, ngc, eq_self, List.length_cons, List.length_nil, c_isRow, hr6, hq, c_hasPlace hl hC, hp, c_felt_ok (show r < 10 by omega) q2 q3 hcap hw2 (by omega) hf, nI_bit, c_reached (show 0 < 2 by omega) hSL hr10 q3 hcap hR]
    refine okc ?_
    rw [cw_wp]
    simp (disch := omega) only [W1058, r_4, r_La, r_2, r_Li, h79_1053, r_5, s_43, r_52, s_0, ci_1, r_18, ci_0, h79_1057, r_90, W1053, h80_1007, s_40, h79_1029, s_41, ci_m1, ci_16, h79_1052, (fun d => cw_wp d 1053), enR, LG, LSt, LC, nlR, psR, TK, up_s, up_n, up_u, lt_nI, le_nI, eq_nI, true_and, and_true, if_true, if_false, Nat.zero_add, Nat.add_zero, nI_add, ↓reduceIte, Nat.reduceAdd, Nat.reduceMul, Nat.reduceSub, Nat.reduceLT, Nat.reduceLeDiff, Nat.reduceEqDiff, Nat.not_lt_zero, Nat.lt_irrefl, decide_true, BEq.rfl, nm1, nm2, nm3, nm4, nm9, ngc, eq_self, List.length_cons, List.length_nil, m_isRow, hr5, m_isPlace hM, hp2, m_felt_ok hr6 q5 q4 hw2 (by omega) q6 hf, nI_bit, m_endsOf hM hb hr6 q4 q5 hR7 (Nat.zero_le _) hp30, Nat.sub_zero]
    exact okm (rl_inv (rl_t H))
end

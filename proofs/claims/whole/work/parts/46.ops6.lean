/-! keep, on; what is told -/
section
variable {t d : Nat} {z : AZ} {X : Nat × (Nat → Int32)} {C : CT} {M : MT} {s : Nat → Int32} {v : Nat → Int64} {g : Nat → Nat → Int32} {w : Nat → Nat → Int64} {q : Nat → Nat} {ct : Nat → Int32} {cn : Nat → Int32} {cc : Nat → Nat → Int32} {di : Nat → Nat → Int32} {dr : Nat → Nat → Int32} {df : Nat → Nat → Int32} {li : Nat → Nat → Int32} {la : Nat → Nat → Nat → Int32} {sf : Nat → Nat → Int32} {sl : Nat → Nat → Int32} {a : Nat → Int32} {b : Nat → Int64} {e : Nat → Nat → Int32} {o : Nat → Nat → Int64} {B : Nat → Bool} {n : Nat → Nat} {P N W : Nat} {K O T J : Nat → Nat} {l : Nat} {Ds : Nat → Nat} {Dr Df Dp : Nat → Nat → Nat} {KB : Nat → Bool}
theorem op_keep {x : Int32} (H : RL t z s v g w q ct cn cc di dr df li la sf sl a b e o B n P N W K O T J l Ds Dr Df Dp KB) : OPI (d + 20) 921 1049 [.int x] t z X (s, v, g, w, q, ct, cn, cc, di, dr, df, li, la, sf, sl) (a, b, e, o) := by
  obtain ⟨hb, hl, hq, hC, hs, hM, hS⟩ := rl_land H
  obtain ⟨hV, ⟨c1, c2, c3, c4⟩, ⟨m1, m2, m3⟩⟩ := rl_drv H
  have h40 := hV.1
  have hP := hb.1
  have h0 := hC.1
  have h9 := hM.1
  unfold OPI
  rw [cw_wp]
  rcases ix x (n := 2) (by decide) with h | ⟨h1, h2, h3⟩ | ⟨k0, hk, rfl⟩
  · simp (disch := omega) only [W921, r_2, r_Li, h80_950, s_41, s_0, ci_m1, r_90, r_4, r_La, h60_9_12, h60_3_4, ci_m4, h60_9_4, h60_9_3, h79_206, ci_1, h61_2_2_0, h61_2_2_1, h60_2_5, h68_12, enR, LG, LSt, LC, nlR, psR, TK, up_s, up_n, up_u, lt_nI, le_nI, eq_nI, true_and, and_true, if_true, if_false, Nat.zero_add, Nat.add_zero, nI_add, ↓reduceIte, Nat.reduceAdd, Nat.reduceMul, Nat.reduceSub, Nat.reduceLT, Nat.reduceLeDiff, Nat.reduceEqDiff, Nat.not_lt_zero, Nat.lt_irrefl, decide_true, BEq.rfl, nm1, nm2, nm3, nm4, nm9, ngc, eq_self, List.length_cons, List.length_nil, c_isKept, h]
    refine okc ?_
    rw [cw_wp]
    simp (disch := omega) only [W1049, r_2, r_Li, s_0, ci_0, ci_2, h80_1001, s_41, ci_m1, r_90, r_4, r_La, h60_10_10, ci_m4, ci_82, r_12, r_5, h60_10_22, h60_10_18, ci_1, r_10, h60_10_17, ci_40, r_49, ci_10, h60_10_19, h60_10_20, ci_42, h60_10_21, s_8, r_In, r_52, h64_75, h65_75, h64_76, h65_76, h64_77, h65_77, h64_78, h65_78, enR, LG, LSt, LC, nlR, psR, TK, up_s, up_n, up_u, lt_nI, le_nI, eq_nI, true_and, and_true, if_true, if_false, Nat.zero_add, Nat.add_zero, nI_add, ↓reduceIte, Nat.reduceAdd, Nat.reduceMul, Nat.reduceSub, Nat.reduceLT, Nat.reduceLeDiff, Nat.reduceEqDiff, Nat.not_lt_zero, Nat.lt_irrefl, decide_true, BEq.rfl, nm1, nm2, nm3, nm4, nm9, ngc, eq_self, List.length_cons, List.length_nil, m_in, h]
    exact okm (rl_inv (rl_t H))
  · simp (disch := omega) only [W921, r_2, r_Li, h80_950, s_41, s_0, ci_m1, r_90, r_4, r_La, h60_9_12, h60_3_4, ci_m4, h60_9_4, h60_9_3, h79_206, ci_1, h61_2_2_0, h61_2_2_1, h60_2_5, h68_12, enR, LG, LSt, LC, nlR, psR, TK, up_s, up_n, up_u, lt_nI, le_nI, eq_nI, true_and, and_true, if_true, if_false, Nat.zero_add, Nat.add_zero, nI_add, ↓reduceIte, Nat.reduceAdd, Nat.reduceMul, Nat.reduceSub, Nat.reduceLT, Nat.reduceLeDiff, Nat.reduceEqDiff, Nat.not_lt_zero, Nat.lt_irrefl, decide_true, BEq.rfl, nm1, nm2, nm3, nm4, nm9, ngc, eq_self, List.length_cons, List.length_nil, c_isKept, h1, h2]
    refine okc ?_
    rw [cw_wp]
    simp (disch := omega) only [W1049, r_2, r_Li, s_0, ci_0, ci_2, h80_1001, s_41, ci_m1, r_90, r_4, r_La, h60_10_10, ci_m4, ci_82, r_12, r_5, h60_10_22, h60_10_18, ci_1, r_10, h60_10_17, ci_40, r_49, ci_10, h60_10_19, h60_10_20, ci_42, h60_10_21, s_8, r_In, r_52, h64_75, h65_75, h64_76, h65_76, h64_77, h65_77, h64_78, h65_78, enR, LG, LSt, LC, nlR, psR, TK, up_s, up_n, up_u, lt_nI, le_nI, eq_nI, true_and, and_true, if_true, if_false, Nat.zero_add, Nat.add_zero, nI_add, ↓reduceIte, Nat.reduceAdd, Nat.reduceMul, Nat.reduceSub, Nat.reduceLT, Nat.reduceLeDiff, Nat.reduceEqDiff, Nat.not_lt_zero, Nat.lt_irrefl, decide_true, BEq.rfl, nm1, nm2, nm3, nm4, nm9, ngc, eq_self, List.length_cons, List.length_nil, m_in, h1, h3]
    exact okm (rl_inv (rl_t H))
  · have hk3 : k0 < 3 := by omega
    have hk2 : ¬ 2 < k0 := by omega
    by_cases hP0 : P = 0
    · simp (disch := omega) only [W921, r_2, r_Li, h80_950, s_41, s_0, ci_m1, r_90, r_4, r_La, h60_9_12, h60_3_4, ci_m4, h60_9_4, h60_9_3, h79_206, ci_1, h61_2_2_0, h61_2_2_1, h60_2_5, h68_12, enR, LG, LSt, LC, nlR, psR, TK, up_s, up_n, up_u, lt_nI, le_nI, eq_nI, true_and, and_true, if_true, if_false, Nat.zero_add, Nat.add_zero, nI_add, ↓reduceIte, Nat.reduceAdd, Nat.reduceMul, Nat.reduceSub, Nat.reduceLT, Nat.reduceLeDiff, Nat.reduceEqDiff, Nat.not_lt_zero, Nat.lt_irrefl, decide_true, BEq.rfl, nm1, nm2, nm3, nm4, nm9, ngc, eq_self, List.length_cons, List.length_nil, c_isKept, hk3, hq, hl, h0, hP0]
      refine okc ?_
      rw [cw_wp]
      simp (disch := omega) only [W1049, r_2, r_Li, s_0, ci_0, ci_2, h80_1001, s_41, ci_m1, r_90, r_4, r_La, h60_10_10, ci_m4, ci_82, r_12, r_5, h60_10_22, h60_10_18, ci_1, r_10, h60_10_17, ci_40, r_49, ci_10, h60_10_19, h60_10_20, ci_42, h60_10_21, s_8, r_In, r_52, h64_75, h65_75, h64_76, h65_76, h64_77, h65_77, h64_78, h65_78, enR, LG, LSt, LC, nlR, psR, TK, up_s, up_n, up_u, lt_nI, le_nI, eq_nI, true_and, and_true, if_true, if_false, Nat.zero_add, Nat.add_zero, nI_add, ↓reduceIte, Nat.reduceAdd, Nat.reduceMul, Nat.reduceSub, Nat.reduceLT, Nat.reduceLeDiff, Nat.reduceEqDiff, Nat.not_lt_zero, Nat.lt_irrefl, decide_true, BEq.rfl, nm1, nm2, nm3, nm4, nm9, ngc, eq_self, List.length_cons, List.length_nil, m_in, hk2, h9, hP0]
      exact okm (rl_inv (rl_t H))
    · simp (disch := omega) only [W921, r_2, r_Li, h80_950, s_41, s_0, ci_m1, r_90, r_4, r_La, h60_9_12, h60_3_4, ci_m4, h60_9_4, h60_9_3, h79_206, ci_1, h61_2_2_0, h61_2_2_1, h60_2_5, h68_12, enR, LG, LSt, LC, nlR, psR, TK, up_s, up_n, up_u, lt_nI, le_nI, eq_nI, true_and, and_true, if_true, if_false, Nat.zero_add, Nat.add_zero, nI_add, ↓reduceIte, Nat.reduceAdd, Nat.reduceMul, Nat.reduceSub, Nat.reduceLT, Nat.reduceLeDiff, Nat.reduceEqDiff, Nat.not_lt_zero, Nat.lt_irrefl, decide_true, BEq.rfl, nm1, nm2, nm3, nm4, nm9, ngc, eq_self, List.length_cons, List.length_nil, c_isKept, hk3, hq, hl, h0, hP0, c_become (show 1 + k0 < 4 by omega) (show 0 < 4 by omega) (show 0 ≠ 1 + k0 by omega), c3]
      refine okc ?_
      rw [cw_wp]
      simp (disch := omega) only [W1049, r_2, r_Li, s_0, ci_0, ci_2, h80_1001, s_41, ci_m1, r_90, r_4, r_La, h60_10_10, ci_m4, ci_82, r_12, r_5, h60_10_22, h60_10_18, ci_1, r_10, h60_10_17, ci_40, r_49, ci_10, h60_10_19, h60_10_20, ci_42, h60_10_21, s_8, r_In, r_52, h64_75, h65_75, h64_76, h65_76, h64_77, h65_77, h64_78, h65_78, enR, LG, LSt, LC, nlR, psR, TK, up_s, up_n, up_u, lt_nI, le_nI, eq_nI, true_and, and_true, if_true, if_false, Nat.zero_add, Nat.add_zero, nI_add, ↓reduceIte, Nat.reduceAdd, Nat.reduceMul, Nat.reduceSub, Nat.reduceLT, Nat.reduceLeDiff, Nat.reduceEqDiff, Nat.not_lt_zero, Nat.lt_irrefl, decide_true, BEq.rfl, nm1, nm2, nm3, nm4, nm9, ngc, eq_self, List.length_cons, List.length_nil, m_in, hk2, h9, hP0, nI_mul]
      rw [lp_mkeep hk3 40 0 _ (fun q => if 82 * k0 + 2 ≤ q ∧ q < 82 * k0 + 42 then nI 10 * e 75 (q - (82 * k0 + 2)) + e 76 (q - (82 * k0 + 2)) else if 82 * k0 + 42 ≤ q ∧ q < 82 * k0 + 82 then e 77 (q - (82 * k0 + 42) + 1) else upd (upd (e 78) (82 * k0) (a 18)) (82 * k0 + 1) (a 17) q) (by omega) (fun q => rfl), up_u, m2]
      have H1 : RL (t + 1) z s v g w q ct cn cc (va_up di (1 + k0) (va_up (va_up (va_up (va_up (di (1 + k0)) 3 (di 0 3)) 4 (di 0 4)) 5 (nI (Ds 0))) 2 (nI 1))) (va_up dr (1 + k0) (va_cpy (dr 0) (dr (1 + k0)) 0 0 40)) (va_up df (1 + k0) (va_cpy (df 0) (df (1 + k0)) 0 0 40)) li la sf sl a b (va_up e 78 (fun q => if 82 * k0 + 2 ≤ q ∧ q < 82 * k0 + 42 then nI 10 * e 75 (q - (82 * k0 + 2)) + e 76 (q - (82 * k0 + 2)) else if 82 * k0 + 42 ≤ q ∧ q < 82 * k0 + 82 then e 77 (q - (82 * k0 + 42) + 1) else upd (upd (e 78) (82 * k0) (nI (Ds 0))) (82 * k0 + 1) (a 17) q)) o B n P N W K O T J l (va_up Ds (1 + k0) (Ds 0)) (va_up Dr (1 + k0) (Dr 0)) (va_up Df (1 + k0) (Df 0)) (va_up Dp (1 + k0) (Dp 0)) (va_up KB k0 true) := by
        obtain ⟨h1, h2, h3, ⟨d1, d2, d3, d4⟩, h5, h6, h7⟩ := H
        have z0 : (0 : Nat) ≠ 1 + k0 := by omega
        refine ⟨h1, h2, h3, ⟨?_, ?_, ?_, fun j hj => ?_⟩, h5, h6, seen_up h7⟩
        · rw [up_n Ds _ z0, up_n Dr _ z0, up_n Df _ z0, up_n Dp _ z0]; exact d1
        · rw [up_n Ds _ z0, up_n Dr _ z0, up_n Df _ z0, up_n Dp _ z0, up_n di _ z0, up_n dr _ z0, up_n df _ z0]; exact d2
        · rw [up_n Ds _ z0, up_n Dr _ z0, up_n Df _ z0, up_n Dp _ z0]; exact d3
        · by_cases hj0 : j = k0
          · subst hj0
            rw [up_s di, up_s dr, up_s df, up_s Ds, up_s Dr, up_s Df, up_s Dp, up_s KB]
            refine ⟨(by rw [up_s]; rfl), fun h => (by cases h), fun _ => ⟨(by omega), d1, ⟨?_, ?_, ?_, fun i hi => ?_⟩, ⟨?_, ?_, fun i hi => ?_⟩⟩⟩
            · rw [up_n _ _ (by decide), up_n _ _ (by decide), up_n _ _ (by decide), up_s]; exact c1
            · rw [up_n _ _ (by decide), up_n _ _ (by decide), up_s]; exact c2
            · rw [up_n _ _ (by decide), up_s]
            · unfold va_cpy
              rw [if_pos (by omega), if_pos (by omega), show 0 + (i - 0) = i by omega]
              exact c4 i hi
            · show (if 82 * j + 2 ≤ 82 * j ∧ 82 * j < 82 * j + 42 then _ else if 82 * j + 42 ≤ 82 * j ∧ 82 * j < 82 * j + 82 then _ else upd (upd (e 78) (82 * j) (nI (Ds 0))) (82 * j + 1) (a 17) (82 * j)) = _
              rw [if_neg (by omega), if_neg (by omega), ud_n _ _ (by omega), ud_s]
            · show (if 82 * j + 2 ≤ 82 * j + 1 ∧ 82 * j + 1 < 82 * j + 42 then _ else if 82 * j + 42 ≤ 82 * j + 1 ∧ 82 * j + 1 < 82 * j + 82 then _ else upd (upd (e 78) (82 * j) (nI (Ds 0))) (82 * j + 1) (a 17) (82 * j + 1)) = _
              rw [if_neg (by omega), if_neg (by omega), ud_s]; exact m1
            · obtain ⟨f1, f2, f3⟩ := m3 i hi
              constructor
              · show (if 82 * j + 2 ≤ 82 * j + 2 + i ∧ 82 * j + 2 + i < 82 * j + 42 then nI 10 * e 75 (82 * j + 2 + i - (82 * j + 2)) + e 76 (82 * j + 2 + i - (82 * j + 2)) else _) = _
                rw [if_pos (by omega), show 82 * j + 2 + i - (82 * j + 2) = i by omega, f1, f2, nI_mul, nI_add]
              · show (if 82 * j + 2 ≤ 82 * j + 42 + i ∧ 82 * j + 42 + i < 82 * j + 42 then _ else if 82 * j + 42 ≤ 82 * j + 42 + i ∧ 82 * j + 42 + i < 82 * j + 82 then e 77 (82 * j + 42 + i - (82 * j + 42) + 1) else _) = _
                rw [if_neg (by omega), if_pos (by omega), show 82 * j + 42 + i - (82 * j + 42) = i by omega, f3]
          · have z1 : 1 + j ≠ 1 + k0 := by omega
            obtain ⟨g1, g2, g3⟩ := d4 j hj
            have ex : ∀ q, 82 * j ≤ q → q < 82 * j + 82 → (if 82 * k0 + 2 ≤ q ∧ q < 82 * k0 + 42 then nI 10 * e 75 (q - (82 * k0 + 2)) + e 76 (q - (82 * k0 + 2)) else if 82 * k0 + 42 ≤ q ∧ q < 82 * k0 + 82 then e 77 (q - (82 * k0 + 42) + 1) else upd (upd (e 78) (82 * k0) (nI (Ds 0))) (82 * k0 + 1) (a 17) q) = e 78 q := fun q q1 q2 => by
              rw [if_neg (by omega), if_neg (by omega), ud_n _ _ (by omega), ud_n _ _ (by omega)]
            rw [up_n Ds _ z1, up_n Dr _ z1, up_n Df _ z1, up_n Dp _ z1, up_n di _ z1, up_n dr _ z1, up_n df _ z1, up_n KB _ hj0]
            refine ⟨g1, fun h => (ex _ (by omega) (by omega)).trans (g2 h), fun h => ?_⟩
            obtain ⟨k1, k2, k3, k4, k5, k6⟩ := g3 h
            have k40 := k2.1
            refine ⟨k1, k2, k3, (ex _ (by omega) (by omega)).trans k4, (ex _ (by omega) (by omega)).trans k5, fun i hi => ⟨(ex _ (by omega) (by omega)).trans (k6 i hi).1, (ex _ (by omega) (by omega)).trans (k6 i hi).2⟩⟩
      exact okm (rl_inv H1)
theorem op_on {x : Int32} (H : RL t z s v g w q ct cn cc di dr df li la sf sl a b e o B n P N W K O T J l Ds Dr Df Dp KB) : OPI (d + 20) 922 1050 [.int x] t z X (s, v, g, w, q, ct, cn, cc, di, dr, df, li, la, sf, sl) (a, b, e, o) := by
  unfold OPI
  rw [cw_wp]
  rcases ix x (n := 2) (by decide) with h | ⟨h1, h2, h3⟩ | ⟨k0, hk, rfl⟩
  · simp (disch := omega) only [W922, r_2, r_Li, h80_950, s_41, s_0, ci_m1, r_90, r_4, r_La, h60_9_4, h60_2_2, ci_1, h79_951, h60_9_3, h79_206, h60_2_5, h68_12, enR, LG, LSt, LC, nlR, psR, TK, up_s, up_n, up_u, lt_nI, le_nI, eq_nI, true_and, and_true, if_true, if_false, Nat.zero_add, Nat.add_zero, nI_add, ↓reduceIte, Nat.reduceAdd, Nat.reduceMul, Nat.reduceSub, Nat.reduceLT, Nat.reduceLeDiff, Nat.reduceEqDiff, Nat.not_lt_zero, Nat.lt_irrefl, decide_true, BEq.rfl, nm1, nm2, nm3, nm4, nm9, ngc, eq_self, List.length_cons, List.length_nil, c_isKept, h]
    refine okc ?_
    rw [cw_wp]
    simp (disch := omega) only [W1050, r_2, r_Li, s_0, ci_0, ci_2, h80_1001, s_41, ci_m1, r_90, ci_82, r_12, r_5, r_4, r_La, h60_10_22, ci_m9, r_47, ci_1, h79_1002, h61_10_18, r_10, h61_10_17, ci_40, r_49, h60_10_19, ci_10, s_13, h60_10_20, s_14, h60_10_21, ci_42, s_8, r_In, r_52, h60_10_18, h64_75, h65_75, h64_76, h65_76, h64_77, h65_77, h64_78, h65_78, enR, LG, LSt, LC, nlR, psR, TK, up_s, up_n, up_u, lt_nI, le_nI, eq_nI, true_and, and_true, if_true, if_false, Nat.zero_add, Nat.add_zero, nI_add, ↓reduceIte, Nat.reduceAdd, Nat.reduceMul, Nat.reduceSub, Nat.reduceLT, Nat.reduceLeDiff, Nat.reduceEqDiff, Nat.not_lt_zero, Nat.lt_irrefl, decide_true, BEq.rfl, nm1, nm2, nm3, nm4, nm9, ngc, eq_self, List.length_cons, List.length_nil, m_in, h]
    exact okm (rl_inv (rl_t H))
  · simp (disch := omega) only [W922, r_2, r_Li, h80_950, s_41, s_0, ci_m1, r_90, r_4, r_La, h60_9_4, h60_2_2, ci_1, h79_951, h60_9_3, h79_206, h60_2_5, h68_12, enR, LG, LSt, LC, nlR, psR, TK, up_s, up_n, up_u, lt_nI, le_nI, eq_nI, true_and, and_true, if_true, if_false, Nat.zero_add, Nat.add_zero, nI_add, ↓reduceIte, Nat.reduceAdd, Nat.reduceMul, Nat.reduceSub, Nat.reduceLT, Nat.reduceLeDiff, Nat.reduceEqDiff, Nat.not_lt_zero, Nat.lt_irrefl, decide_true, BEq.rfl, nm1, nm2, nm3, nm4, nm9, ngc, eq_self, List.length_cons, List.length_nil, c_isKept, h1, h2]
    refine okc ?_
    rw [cw_wp]
    simp (disch := omega) only [W1050, r_2, r_Li, s_0, ci_0, ci_2, h80_1001, s_41, ci_m1, r_90, ci_82, r_12, r_5, r_4, r_La, h60_10_22, ci_m9, r_47, ci_1, h79_1002, h61_10_18, r_10, h61_10_17, ci_40, r_49, h60_10_19, ci_10, s_13, h60_10_20, s_14, h60_10_21, ci_42, s_8, r_In, r_52, h60_10_18, h64_75, h65_75, h64_76, h65_76, h64_77, h65_77, h64_78, h65_78, enR, LG, LSt, LC, nlR, psR, TK, up_s, up_n, up_u, lt_nI, le_nI, eq_nI, true_and, and_true, if_true, if_false, Nat.zero_add, Nat.add_zero, nI_add, ↓reduceIte, Nat.reduceAdd, Nat.reduceMul, Nat.reduceSub, Nat.reduceLT, Nat.reduceLeDiff, Nat.reduceEqDiff, Nat.not_lt_zero, Nat.lt_irrefl, decide_true, BEq.rfl, nm1, nm2, nm3, nm4, nm9, ngc, eq_self, List.length_cons, List.length_nil, m_in, h1, h3]
    exact okm (rl_inv (rl_t H))
  · have hk3 : k0 < 3 := by omega
    have hk2 : ¬ 2 < k0 := by omega
    obtain ⟨hb, hl, hq, hC, hs, hM, hS⟩ := rl_land H
    obtain ⟨g1, g2, g3⟩ := H.2.2.2.1.2.2.2 k0 hk3
    by_cases hB : KB k0 = true
    · obtain ⟨hP0, hV, ⟨c1, c2, c3, c4⟩, ⟨k1, k2, k3⟩⟩ := g3 hB
      have h40 := hV.1
      rw [hB] at g1
      have g1' : di (1 + k0) 2 = nI 1 := g1
      simp (disch := omega) only [W922, r_2, r_Li, h80_950, s_41, s_0, ci_m1, r_90, r_4, r_La, h60_9_4, h60_2_2, ci_1, h79_951, h60_9_3, h79_206, h60_2_5, h68_12, enR, LG, LSt, LC, nlR, psR, TK, up_s, up_n, up_u, lt_nI, le_nI, eq_nI, true_and, and_true, if_true, if_false, Nat.zero_add, Nat.add_zero, nI_add, ↓reduceIte, Nat.reduceAdd, Nat.reduceMul, Nat.reduceSub, Nat.reduceLT, Nat.reduceLeDiff, Nat.reduceEqDiff, Nat.not_lt_zero, Nat.lt_irrefl, decide_true, BEq.rfl, nm1, nm2, nm3, nm4, nm9, ngc, eq_self, List.length_cons, List.length_nil, c_isKept, hk3, g1', c_become (show 0 < 4 by omega) (show 1 + k0 < 4 by omega) (show 1 + k0 ≠ 0 by omega), c3]
      refine okc ?_
      rw [cw_wp]
      simp (disch := omega) only [W1050, r_2, r_Li, s_0, ci_0, ci_2, h80_1001, s_41, ci_m1, r_90, ci_82, r_12, r_5, r_4, r_La, h60_10_22, ci_m9, r_47, ci_1, h79_1002, h61_10_18, r_10, h61_10_17, ci_40, r_49, h60_10_19, ci_10, s_13, h60_10_20, s_14, h60_10_21, ci_42, s_8, r_In, r_52, h60_10_18, h64_75, h65_75, h64_76, h65_76, h64_77, h65_77, h64_78, h65_78, enR, LG, LSt, LC, nlR, psR, TK, up_s, up_n, up_u, lt_nI, le_nI, eq_nI, true_and, and_true, if_true, if_false, Nat.zero_add, Nat.add_zero, nI_add, ↓reduceIte, Nat.reduceAdd, Nat.reduceMul, Nat.reduceSub, Nat.reduceLT, Nat.reduceLeDiff, Nat.reduceEqDiff, Nat.not_lt_zero, Nat.lt_irrefl, decide_true, BEq.rfl, nm1, nm2, nm3, nm4, nm9, ngc, eq_self, List.length_cons, List.length_nil, m_in, hk2, k1, k2, nI_mul]
      have := lp_mon (d := d + 18) (z := z) (X := X) (C := (s, v, g, w, q, ct, cn, cc, va_up di 0 (va_up (va_up (va_up (di 0) 3 (di (1 + k0) 3)) 4 (di (1 + k0) 4)) 5 (nI (Ds (1 + k0)))), va_up dr 0 (va_cpy (dr (1 + k0)) (dr 0) 0 0 40), va_up df 0 (va_cpy (df (1 + k0)) (df 0) 0 0 40), li, la, sf, sl)) (a := va_up (va_up a 18 (nI (Ds (1 + k0)))) 17 (nI (Dp (1 + k0) 0))) (b := b) (e := e) (o := o) (Q := OKm (nI (Ds (1 + k0))) t X (s, v, g, w, q, ct, cn, cc, va_up di 0 (va_up (va_up (va_up (di 0) 3 (di (1 + k0) 3)) 4 (di (1 + k0) 4)) 5 (nI (Ds (1 + k0)))), va_up dr 0 (va_cpy (dr (1 + k0)) (dr 0) 0 0 40), va_up df 0 (va_cpy (df (1 + k0)) (df 0) 0 0 40), li, la, sf, sl)) hk3 (x1 := nI k0) (fun y75 y76 y77 hy => ?_) 40 0 (e 75) (e 76) (e 77) (by omega) (fun i hi => absurd hi (by omega))
      · rw [up_id (rfl : e 75 = e 75), up_id (rfl : e 76 = e 76), up_id (rfl : e 77 = e 77)] at this
        exact this
      · rw [up_n _ _ (by decide), up_s]
        have H1 : RL (t + 1) z s v g w q ct cn cc (va_up di 0 (va_up (va_up (va_up (di 0) 3 (di (1 + k0) 3)) 4 (di (1 + k0) 4)) 5 (nI (Ds (1 + k0))))) (va_up dr 0 (va_cpy (dr (1 + k0)) (dr 0) 0 0 40)) (va_up df 0 (va_cpy (df (1 + k0)) (df 0) 0 0 40)) li la sf sl (va_up (va_up a 18 (nI (Ds (1 + k0)))) 17 (nI (Dp (1 + k0) 0))) b (va_up (va_up (va_up e 75 y75) 76 y76) 77 y77) o B n P N W K O T J l (va_up Ds 0 (Ds (1 + k0))) (va_up Dr 0 (Dr (1 + k0))) (va_up Df 0 (Df (1 + k0))) (va_up Dp 0 (Dp (1 + k0))) KB := by
          obtain ⟨h1, h2, h3, ⟨d1, d2, d3, d4⟩, h5, h6, h7⟩ := H
          refine ⟨h1, h2, h3, ⟨?_, ⟨?_, ?_, ?_, fun i hi => ?_⟩, ⟨?_, ?_, fun i hi => ?_⟩, fun j hj => ?_⟩, h5, h6, seen_up h7⟩
          · rw [up_s, up_s, up_s, up_s]; exact hV
          · rw [up_s, up_s, up_n _ _ (by decide), up_n _ _ (by decide), up_s]; exact c1
          · rw [up_s, up_s, up_s, up_n _ _ (by decide), up_s]; exact c2
          · rw [up_s, up_s, up_s]
          · rw [up_s] at hi
            rw [up_s, up_s, up_s, up_s]
            unfold va_cpy
            rw [if_pos (by omega), if_pos (by omega), show 0 + (i - 0) = i by omega]
            exact c4 i hi
          · rw [up_s, up_s]
          · rw [up_n _ _ (by decide), up_s, up_s]
          · rw [up_s] at hi
            obtain ⟨v1, v2, v3⟩ := hV.2.2.2 i hi
            obtain ⟨f1, f2⟩ := k3 i hi
            obtain ⟨p1, p2, p3⟩ := hy i (by omega)
            have hN := hb.2.1
            have e1 : (10 * Dr (1 + k0) i + Df (1 + k0) i) / 10 = Dr (1 + k0) i := by omega
            have e2 : (10 * Dr (1 + k0) i + Df (1 + k0) i) % 10 = Df (1 + k0) i := by omega
            rw [f1, nI_div (by omega) (by decide) (by decide), e1] at p1
            rw [f1, nI_rem (by omega) (by decide) (by decide), e2] at p2
            rw [f2] at p3
            rw [up_s, up_s, up_s]
            exact ⟨p1, p2, p3⟩
          · have z1 : 1 + j ≠ 0 := by omega
            rw [up_n Ds _ z1, up_n Dr _ z1, up_n Df _ z1, up_n Dp _ z1, up_n di _ z1, up_n dr _ z1, up_n df _ z1]
            exact d4 j hj
        exact okm (rl_inv H1)
    · have hB' : KB k0 = false := by simpa using hB
      have k1 := g2 hB'
      rw [hB'] at g1
      have g1' : di (1 + k0) 2 = nI 0 := g1
      simp (disch := omega) only [W922, r_2, r_Li, h80_950, s_41, s_0, ci_m1, r_90, r_4, r_La, h60_9_4, h60_2_2, ci_1, h79_951, h60_9_3, h79_206, h60_2_5, h68_12, enR, LG, LSt, LC, nlR, psR, TK, up_s, up_n, up_u, lt_nI, le_nI, eq_nI, true_and, and_true, if_true, if_false, Nat.zero_add, Nat.add_zero, nI_add, ↓reduceIte, Nat.reduceAdd, Nat.reduceMul, Nat.reduceSub, Nat.reduceLT, Nat.reduceLeDiff, Nat.reduceEqDiff, Nat.not_lt_zero, Nat.lt_irrefl, decide_true, BEq.rfl, nm1, nm2, nm3, nm4, nm9, ngc, eq_self, List.length_cons, List.length_nil, c_isKept, hk3, g1', c_found]
      refine okc ?_
      rw [cw_wp]
      simp (disch := omega) only [W1050, r_2, r_Li, s_0, ci_0, ci_2, h80_1001, s_41, ci_m1, r_90, ci_82, r_12, r_5, r_4, r_La, h60_10_22, ci_m9, r_47, ci_1, h79_1002, h61_10_18, r_10, h61_10_17, ci_40, r_49, h60_10_19, ci_10, s_13, h60_10_20, s_14, h60_10_21, ci_42, s_8, r_In, r_52, h60_10_18, h64_75, h65_75, h64_76, h65_76, h64_77, h65_77, h64_78, h65_78, enR, LG, LSt, LC, nlR, psR, TK, up_s, up_n, up_u, lt_nI, le_nI, eq_nI, true_and, and_true, if_true, if_false, Nat.zero_add, Nat.add_zero, nI_add, ↓reduceIte, Nat.reduceAdd, Nat.reduceMul, Nat.reduceSub, Nat.reduceLT, Nat.reduceLeDiff, Nat.reduceEqDiff, Nat.not_lt_zero, Nat.lt_irrefl, decide_true, BEq.rfl, nm1, nm2, nm3, nm4, nm9, ngc, eq_self, List.length_cons, List.length_nil, m_in, hk2, k1, nI_mul, m_meet]
      exact okm (rl_inv (rl_found (k := 1) (by decide) H))
theorem op_asked (H : RL t z s v g w q ct cn cc di dr df li la sf sl a b e o B n P N W K O T J l Ds Dr Df Dp KB) : OPI (d + 20) 941 1081 [] t z X (s, v, g, w, q, ct, cn, cc, di, dr, df, li, la, sf, sl) (a, b, e, o) := by
  obtain ⟨h1, h2, h3, h4, h5⟩ := H.1
  unfold OPI
  rw [cw_wp]
  simp (disch := omega) only [W941, r_4, r_La, h60_9_15, r_90, enR, LG, LSt, LC, nlR, psR, TK, up_s, up_n, up_u, lt_nI, le_nI, eq_nI, true_and, and_true, if_true, if_false, Nat.zero_add, Nat.add_zero, nI_add, ↓reduceIte, Nat.reduceAdd, Nat.reduceMul, Nat.reduceSub, Nat.reduceLT, Nat.reduceLeDiff, Nat.reduceEqDiff, Nat.not_lt_zero, Nat.lt_irrefl, decide_true, BEq.rfl, nm1, nm2, nm3, nm4, nm9, ngc, eq_self, List.length_cons, List.length_nil, h2]
  refine okc ?_
  rw [cw_wp]
  simp (disch := omega) only [W1081, r_4, r_La, h60_10_2, r_90, enR, LG, LSt, LC, nlR, psR, TK, up_s, up_n, up_u, lt_nI, le_nI, eq_nI, true_and, and_true, if_true, if_false, Nat.zero_add, Nat.add_zero, nI_add, ↓reduceIte, Nat.reduceAdd, Nat.reduceMul, Nat.reduceSub, Nat.reduceLT, Nat.reduceLeDiff, Nat.reduceEqDiff, Nat.not_lt_zero, Nat.lt_irrefl, decide_true, BEq.rfl, nm1, nm2, nm3, nm4, nm9, ngc, eq_self, List.length_cons, List.length_nil]
  exact okm (rl_inv (rl_t H))
theorem op_finding (H : RL t z s v g w q ct cn cc di dr df li la sf sl a b e o B n P N W K O T J l Ds Dr Df Dp KB) : OPI (d + 20) 945 1086 [] t z X (s, v, g, w, q, ct, cn, cc, di, dr, df, li, la, sf, sl) (a, b, e, o) := by
  obtain ⟨h1, h2, h3, h4, h5⟩ := H.1
  unfold OPI
  rw [cw_wp]
  simp (disch := omega) only [W945, r_4, r_La, h60_9_18, r_90, enR, LG, LSt, LC, nlR, psR, TK, up_s, up_n, up_u, lt_nI, le_nI, eq_nI, true_and, and_true, if_true, if_false, Nat.zero_add, Nat.add_zero, nI_add, ↓reduceIte, Nat.reduceAdd, Nat.reduceMul, Nat.reduceSub, Nat.reduceLT, Nat.reduceLeDiff, Nat.reduceEqDiff, Nat.not_lt_zero, Nat.lt_irrefl, decide_true, BEq.rfl, nm1, nm2, nm3, nm4, nm9, ngc, eq_self, List.length_cons, List.length_nil, h1]
  refine okc ?_
  rw [cw_wp]
  simp (disch := omega) only [W1086, r_4, r_La, h60_10_0, r_90, enR, LG, LSt, LC, nlR, psR, TK, up_s, up_n, up_u, lt_nI, le_nI, eq_nI, true_and, and_true, if_true, if_false, Nat.zero_add, Nat.add_zero, nI_add, ↓reduceIte, Nat.reduceAdd, Nat.reduceMul, Nat.reduceSub, Nat.reduceLT, Nat.reduceLeDiff, Nat.reduceEqDiff, Nat.not_lt_zero, Nat.lt_irrefl, decide_true, BEq.rfl, nm1, nm2, nm3, nm4, nm9, ngc, eq_self, List.length_cons, List.length_nil]
  exact okm (rl_inv (rl_t H))
theorem op_upper (H : RL t z s v g w q ct cn cc di dr df li la sf sl a b e o B n P N W K O T J l Ds Dr Df Dp KB) : OPL (d + 20) 942 1082 [] t z X (s, v, g, w, q, ct, cn, cc, di, dr, df, li, la, sf, sl) (a, b, e, o) := by
  obtain ⟨h1, h2, h3, h4, h5⟩ := H.1
  unfold OPL
  rw [cw_wp]
  simp (disch := omega) only [W942, r_4, r_La, h60_9_16, r_91, enR, LG, LSt, LC, nlR, psR, TK, up_s, up_n, up_u, lt_nI, le_nI, eq_nI, true_and, and_true, if_true, if_false, Nat.zero_add, Nat.add_zero, nI_add, ↓reduceIte, Nat.reduceAdd, Nat.reduceMul, Nat.reduceSub, Nat.reduceLT, Nat.reduceLeDiff, Nat.reduceEqDiff, Nat.not_lt_zero, Nat.lt_irrefl, decide_true, BEq.rfl, nm1, nm2, nm3, nm4, nm9, ngc, eq_self, List.length_cons, List.length_nil, h3]
  refine olc ?_
  rw [cw_wp]
  simp (disch := omega) only [W1082, r_4, r_La, h60_10_3, r_91, enR, LG, LSt, LC, nlR, psR, TK, up_s, up_n, up_u, lt_nI, le_nI, eq_nI, true_and, and_true, if_true, if_false, Nat.zero_add, Nat.add_zero, nI_add, ↓reduceIte, Nat.reduceAdd, Nat.reduceMul, Nat.reduceSub, Nat.reduceLT, Nat.reduceLeDiff, Nat.reduceEqDiff, Nat.not_lt_zero, Nat.lt_irrefl, decide_true, BEq.rfl, nm1, nm2, nm3, nm4, nm9, ngc, eq_self, List.length_cons, List.length_nil]
  exact olm (rl_inv (rl_t H))
theorem op_lower (H : RL t z s v g w q ct cn cc di dr df li la sf sl a b e o B n P N W K O T J l Ds Dr Df Dp KB) : OPL (d + 20) 943 1083 [] t z X (s, v, g, w, q, ct, cn, cc, di, dr, df, li, la, sf, sl) (a, b, e, o) := by
  obtain ⟨h1, h2, h3, h4, h5⟩ := H.1
  unfold OPL
  rw [cw_wp]
  simp (disch := omega) only [W943, r_4, r_La, h60_9_17, r_91, enR, LG, LSt, LC, nlR, psR, TK, up_s, up_n, up_u, lt_nI, le_nI, eq_nI, true_and, and_true, if_true, if_false, Nat.zero_add, Nat.add_zero, nI_add, ↓reduceIte, Nat.reduceAdd, Nat.reduceMul, Nat.reduceSub, Nat.reduceLT, Nat.reduceLeDiff, Nat.reduceEqDiff, Nat.not_lt_zero, Nat.lt_irrefl, decide_true, BEq.rfl, nm1, nm2, nm3, nm4, nm9, ngc, eq_self, List.length_cons, List.length_nil, h4]
  refine olc ?_
  rw [cw_wp]
  simp (disch := omega) only [W1083, r_4, r_La, h60_10_4, r_91, enR, LG, LSt, LC, nlR, psR, TK, up_s, up_n, up_u, lt_nI, le_nI, eq_nI, true_and, and_true, if_true, if_false, Nat.zero_add, Nat.add_zero, nI_add, ↓reduceIte, Nat.reduceAdd, Nat.reduceMul, Nat.reduceSub, Nat.reduceLT, Nat.reduceLeDiff, Nat.reduceEqDiff, Nat.not_lt_zero, Nat.lt_irrefl, decide_true, BEq.rfl, nm1, nm2, nm3, nm4, nm9, ngc, eq_self, List.length_cons, List.length_nil]
  exact olm (rl_inv (rl_t H))
theorem op_findings {x : Int32} (H : RL t z s v g w q ct cn cc di dr df li la sf sl a b e o B n P N W K O T J l Ds Dr Df Dp KB) : OPI (d + 20) 946 1087 [.int x] t z X (s, v, g, w, q, ct, cn, cc, di, dr, df, li, la, sf, sl) (a, b, e, o) := by
  obtain ⟨h1, h2, h3, h4, h5⟩ := H.1
  unfold OPI
  rw [cw_wp]
  rcases ix x (n := 5) (by decide) with h | ⟨q1, q2, q3⟩ | ⟨k, hk, rfl⟩
  · have q1 : x < nI 1 := Int32.lt_trans h (by decide +kernel)
    simp (disch := omega) only [W946, r_2, r_Li, s_0, ci_1, r_48, ci_5, r_51, ci_m1, r_90, r_4, r_La, h60_9_11, h64_32, enR, LG, LSt, LC, nlR, psR, TK, up_s, up_n, up_u, lt_nI, le_nI, eq_nI, true_and, and_true, if_true, if_false, Nat.zero_add, Nat.add_zero, nI_add, ↓reduceIte, Nat.reduceAdd, Nat.reduceMul, Nat.reduceSub, Nat.reduceLT, Nat.reduceLeDiff, Nat.reduceEqDiff, Nat.not_lt_zero, Nat.lt_irrefl, decide_true, BEq.rfl, nm1, nm2, nm3, nm4, nm9, ngc, eq_self, List.length_cons, List.length_nil, q1]
    refine okc ?_
    rw [cw_wp]
    simp (disch := omega) only [W1087, r_2, r_Li, s_0, ci_1, ci_5, h80_1001, s_40, r_4, r_La, h60_10_1, r_52, ci_m1, r_90, h64_68, enR, LG, LSt, LC, nlR, psR, TK, up_s, up_n, up_u, lt_nI, le_nI, eq_nI, true_and, and_true, if_true, if_false, Nat.zero_add, Nat.add_zero, nI_add, ↓reduceIte, Nat.reduceAdd, Nat.reduceMul, Nat.reduceSub, Nat.reduceLT, Nat.reduceLeDiff, Nat.reduceEqDiff, Nat.not_lt_zero, Nat.lt_irrefl, decide_true, BEq.rfl, nm1, nm2, nm3, nm4, nm9, ngc, eq_self, List.length_cons, List.length_nil, m_in, q1]
    exact okm (rl_inv (rl_t H))
  · have q4 : ¬ x < nI 1 := fun h => q2 (Int32.lt_trans h (by decide +kernel))
    simp (disch := omega) only [W946, r_2, r_Li, s_0, ci_1, r_48, ci_5, r_51, ci_m1, r_90, r_4, r_La, h60_9_11, h64_32, enR, LG, LSt, LC, nlR, psR, TK, up_s, up_n, up_u, lt_nI, le_nI, eq_nI, true_and, and_true, if_true, if_false, Nat.zero_add, Nat.add_zero, nI_add, ↓reduceIte, Nat.reduceAdd, Nat.reduceMul, Nat.reduceSub, Nat.reduceLT, Nat.reduceLeDiff, Nat.reduceEqDiff, Nat.not_lt_zero, Nat.lt_irrefl, decide_true, BEq.rfl, nm1, nm2, nm3, nm4, nm9, ngc, eq_self, List.length_cons, List.length_nil, q4, q3]
    refine okc ?_
    rw [cw_wp]
    simp (disch := omega) only [W1087, r_2, r_Li, s_0, ci_1, ci_5, h80_1001, s_40, r_4, r_La, h60_10_1, r_52, ci_m1, r_90, h64_68, enR, LG, LSt, LC, nlR, psR, TK, up_s, up_n, up_u, lt_nI, le_nI, eq_nI, true_and, and_true, if_true, if_false, Nat.zero_add, Nat.add_zero, nI_add, ↓reduceIte, Nat.reduceAdd, Nat.reduceMul, Nat.reduceSub, Nat.reduceLT, Nat.reduceLeDiff, Nat.reduceEqDiff, Nat.not_lt_zero, Nat.lt_irrefl, decide_true, BEq.rfl, nm1, nm2, nm3, nm4, nm9, ngc, eq_self, List.length_cons, List.length_nil, m_in, q4, q3]
    exact okm (rl_inv (rl_t H))
  · have q3 : ¬ 5 < k := by omega
    by_cases q1 : k < 1
    · simp (disch := omega) only [W946, r_2, r_Li, s_0, ci_1, r_48, ci_5, r_51, ci_m1, r_90, r_4, r_La, h60_9_11, h64_32, enR, LG, LSt, LC, nlR, psR, TK, up_s, up_n, up_u, lt_nI, le_nI, eq_nI, true_and, and_true, if_true, if_false, Nat.zero_add, Nat.add_zero, nI_add, ↓reduceIte, Nat.reduceAdd, Nat.reduceMul, Nat.reduceSub, Nat.reduceLT, Nat.reduceLeDiff, Nat.reduceEqDiff, Nat.not_lt_zero, Nat.lt_irrefl, decide_true, BEq.rfl, nm1, nm2, nm3, nm4, nm9, ngc, eq_self, List.length_cons, List.length_nil, q1]
      refine okc ?_
      rw [cw_wp]
      simp (disch := omega) only [W1087, r_2, r_Li, s_0, ci_1, ci_5, h80_1001, s_40, r_4, r_La, h60_10_1, r_52, ci_m1, r_90, h64_68, enR, LG, LSt, LC, nlR, psR, TK, up_s, up_n, up_u, lt_nI, le_nI, eq_nI, true_and, and_true, if_true, if_false, Nat.zero_add, Nat.add_zero, nI_add, ↓reduceIte, Nat.reduceAdd, Nat.reduceMul, Nat.reduceSub, Nat.reduceLT, Nat.reduceLeDiff, Nat.reduceEqDiff, Nat.not_lt_zero, Nat.lt_irrefl, decide_true, BEq.rfl, nm1, nm2, nm3, nm4, nm9, ngc, eq_self, List.length_cons, List.length_nil, m_in, q1]
      exact okm (rl_inv (rl_t H))
    · simp (disch := omega) only [W946, r_2, r_Li, s_0, ci_1, r_48, ci_5, r_51, ci_m1, r_90, r_4, r_La, h60_9_11, h64_32, enR, LG, LSt, LC, nlR, psR, TK, up_s, up_n, up_u, lt_nI, le_nI, eq_nI, true_and, and_true, if_true, if_false, Nat.zero_add, Nat.add_zero, nI_add, ↓reduceIte, Nat.reduceAdd, Nat.reduceMul, Nat.reduceSub, Nat.reduceLT, Nat.reduceLeDiff, Nat.reduceEqDiff, Nat.not_lt_zero, Nat.lt_irrefl, decide_true, BEq.rfl, nm1, nm2, nm3, nm4, nm9, ngc, eq_self, List.length_cons, List.length_nil, q1, q3, h5 k (by omega)]
      refine okc ?_
      rw [cw_wp]
      simp (disch := omega) only [W1087, r_2, r_Li, s_0, ci_1, ci_5, h80_1001, s_40, r_4, r_La, h60_10_1, r_52, ci_m1, r_90, h64_68, enR, LG, LSt, LC, nlR, psR, TK, up_s, up_n, up_u, lt_nI, le_nI, eq_nI, true_and, and_true, if_true, if_false, Nat.zero_add, Nat.add_zero, nI_add, ↓reduceIte, Nat.reduceAdd, Nat.reduceMul, Nat.reduceSub, Nat.reduceLT, Nat.reduceLeDiff, Nat.reduceEqDiff, Nat.not_lt_zero, Nat.lt_irrefl, decide_true, BEq.rfl, nm1, nm2, nm3, nm4, nm9, ngc, eq_self, List.length_cons, List.length_nil, m_in, q1, q3]
      exact okm (rl_inv (rl_t H))
end

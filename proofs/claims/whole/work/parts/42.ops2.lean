/-! rows and texts: more calls -/
section
variable {d : Nat} {z : AZ} {f : AH} {Q : Option Value → AZ → AH → Prop} {X : Nat × (Nat → Int32)} {C : CT} {a : Nat → Int32} {b : Nat → Int64} {e : Nat → Nat → Int32} {o : Nat → Nat → Int64}
theorem m_at_no {r : Nat} {x : Int32} (hr : r < 6) (h : e 69 r = -9) : Cw (d + 4) 1014 [.ref 67, .int (nI r), .int x] z (Hp X C (a, b, e, o)) Q ↔ Q (some (.int (-3))) z (Hp X C (va_up a 0 (nI 1), b, va_up e 68 (upd (e 68) 1 (e 68 1 + nI 1)), o)) := by
  rw [cw_wp]
  simp (disch := omega) only [W1014, r_4, r_La, r_2, r_Li, h79_1009, r_5, s_43, r_90, s_0, ci_0, h60_10_5, ci_1, r_11, h80_1001, s_40, h79_1011, h79_1003, r_52, ci_2, h79_1002, h64_69, enR, LG, LSt, LC, nlR, psR, TK, up_s, up_n, up_u, lt_nI, le_nI, eq_nI, true_and, and_true, if_true, if_false, Nat.zero_add, Nat.add_zero, nI_add, ↓reduceIte, Nat.reduceAdd, Nat.reduceMul, Nat.reduceSub, Nat.reduceLT, Nat.reduceLeDiff, Nat.reduceEqDiff, Nat.not_lt_zero, Nat.lt_irrefl, decide_true, BEq.rfl, nm1, nm2, nm3, nm4, nm9, ngc, eq_self, List.length_cons, List.length_nil, m_asked_no hr h]
theorem m_at_out {r m : Nat} {x : Int32} (hr : r < 6) (h : e 69 r = nI m) (hm : m ≤ 40) (hx : x < nI 0 ∨ (¬ x < nI 0 ∧ nI m - nI 1 < x)) : Cw (d + 4) 1014 [.ref 67, .int (nI r), .int x] z (Hp X C (a, b, e, o)) Q ↔ Q (some (.int (-3))) z (Hp X C (va_up a 0 (nI 2), b, va_up e 68 (upd (e 68) 2 (e 68 2 + nI 1)), o)) := by
  rw [cw_wp]
  rcases hx with h1 | ⟨h1, h2⟩
  · simp (disch := omega) only [W1014, r_4, r_La, r_2, r_Li, h79_1009, r_5, s_43, r_90, s_0, ci_0, h60_10_5, ci_1, r_11, h80_1001, s_40, h79_1011, h79_1003, r_52, ci_2, h79_1002, h64_69, enR, LG, LSt, LC, nlR, psR, TK, up_s, up_n, up_u, lt_nI, le_nI, eq_nI, true_and, and_true, if_true, if_false, Nat.zero_add, Nat.add_zero, nI_add, ↓reduceIte, Nat.reduceAdd, Nat.reduceMul, Nat.reduceSub, Nat.reduceLT, Nat.reduceLeDiff, Nat.reduceEqDiff, Nat.not_lt_zero, Nat.lt_irrefl, decide_true, BEq.rfl, nm1, nm2, nm3, nm4, nm9, ngc, eq_self, List.length_cons, List.length_nil, m_asked_ok hr h, h, m_in, h1, m_meet]
  · simp (disch := omega) only [W1014, r_4, r_La, r_2, r_Li, h79_1009, r_5, s_43, r_90, s_0, ci_0, h60_10_5, ci_1, r_11, h80_1001, s_40, h79_1011, h79_1003, r_52, ci_2, h79_1002, h64_69, enR, LG, LSt, LC, nlR, psR, TK, up_s, up_n, up_u, lt_nI, le_nI, eq_nI, true_and, and_true, if_true, if_false, Nat.zero_add, Nat.add_zero, nI_add, ↓reduceIte, Nat.reduceAdd, Nat.reduceMul, Nat.reduceSub, Nat.reduceLT, Nat.reduceLeDiff, Nat.reduceEqDiff, Nat.not_lt_zero, Nat.lt_irrefl, decide_true, BEq.rfl, nm1, nm2, nm3, nm4, nm9, ngc, eq_self, List.length_cons, List.length_nil, m_asked_ok hr h, h, m_in, h1, h2, m_meet]
theorem nsub {m k : Nat} (hm : m < 65536) (hk : k < m) : (nI m - nI 1 < nI k) = False := eq_false (fun e => by
  have := (sub1 (by omega) (by omega)).mp e
  omega)
theorem m_at_ok {r m k : Nat} (hr : r < 6) (h : e 69 r = nI m) (hm : m ≤ 40) (hk : k < m) : Cw (d + 4) 1014 [.ref 67, .int (nI r), .int (nI k)] z (Hp X C (a, b, e, o)) Q ↔ Q (some (.int (nI 1))) z (Hp X C (va_up a 2 (e 70 (40 * r + k)), b, e, o)) := by
  rw [cw_wp]
  simp (disch := omega) only [W1014, r_4, r_La, r_2, r_Li, h79_1009, r_5, s_43, r_90, s_0, ci_0, h60_10_5, ci_1, r_11, h80_1001, s_40, h79_1011, h79_1003, r_52, ci_2, h79_1002, h64_69, enR, LG, LSt, LC, nlR, psR, TK, up_s, up_n, up_u, lt_nI, le_nI, eq_nI, true_and, and_true, if_true, if_false, Nat.zero_add, Nat.add_zero, nI_add, ↓reduceIte, Nat.reduceAdd, Nat.reduceMul, Nat.reduceSub, Nat.reduceLT, Nat.reduceLeDiff, Nat.reduceEqDiff, Nat.not_lt_zero, Nat.lt_irrefl, decide_true, BEq.rfl, nm1, nm2, nm3, nm4, nm9, ngc, eq_self, List.length_cons, List.length_nil, m_asked_ok hr h, h, m_in, nsub (show m < 65536 by omega) hk, m_rowAt, m_ask]
end
section
variable {t d : Nat} {z : AZ} {X : Nat × (Nat → Int32)} {C : CT} {M : MT} {s : Nat → Int32} {v : Nat → Int64} {g : Nat → Nat → Int32} {w : Nat → Nat → Int64} {q : Nat → Nat} {ct : Nat → Int32} {cn : Nat → Int32} {cc : Nat → Nat → Int32} {di : Nat → Nat → Int32} {dr : Nat → Nat → Int32} {df : Nat → Nat → Int32} {li : Nat → Nat → Int32} {la : Nat → Nat → Nat → Int32} {sf : Nat → Nat → Int32} {sl : Nat → Nat → Int32} {a : Nat → Int32} {b : Nat → Int64} {e : Nat → Nat → Int32} {o : Nat → Nat → Int64} {B : Nat → Bool} {n : Nat → Nat} {P N W : Nat} {K O T J : Nat → Nat} {l : Nat} {Ds : Nat → Nat} {Dr Df Dp : Nat → Nat → Nat} {KB : Nat → Bool}
theorem op_at {x y : Int32} (H : RL t z s v g w q ct cn cc di dr df li la sf sl a b e o B n P N W K O T J l Ds Dr Df Dp KB) : OPI (d + 20) 903 1014 [.int x, .int y] t z X (s, v, g, w, q, ct, cn, cc, di, dr, df, li, la, sf, sl) (a, b, e, o) := by
  unfold OPI
  rw [cw_wp]
  rcases ix x (n := 5) (by decide) with h | ⟨h1, h2, h3⟩ | ⟨r, hr, rfl⟩
  · simp (disch := omega) only [W903, r_2, r_Li, h80_948, s_41, s_0, ci_m1, r_90, r_4, r_La, h60_9_0, h79_954, r_5, s_40, h79_5, h79_952, h68_1, enR, LG, LSt, LC, nlR, psR, TK, up_s, up_n, up_u, lt_nI, le_nI, eq_nI, true_and, and_true, if_true, if_false, Nat.zero_add, Nat.add_zero, nI_add, ↓reduceIte, Nat.reduceAdd, Nat.reduceMul, Nat.reduceSub, Nat.reduceLT, Nat.reduceLeDiff, Nat.reduceEqDiff, Nat.not_lt_zero, Nat.lt_irrefl, decide_true, BEq.rfl, nm1, nm2, nm3, nm4, nm9, ngc, eq_self, List.length_cons, List.length_nil, c_isRow, h]
    refine okc ?_
    rw [cw_wp]
    simp (disch := omega) only [W1014, r_4, r_La, r_2, r_Li, h79_1009, r_5, s_43, r_90, s_0, ci_0, h60_10_5, ci_1, r_11, h80_1001, s_40, h79_1011, h79_1003, r_52, ci_2, h79_1002, h64_69, W1009, h80_1007, s_41, ci_m1, (fun d => cw_wp d 1009), enR, LG, LSt, LC, nlR, psR, TK, up_s, up_n, up_u, lt_nI, le_nI, eq_nI, true_and, and_true, if_true, if_false, Nat.zero_add, Nat.add_zero, nI_add, ↓reduceIte, Nat.reduceAdd, Nat.reduceMul, Nat.reduceSub, Nat.reduceLT, Nat.reduceLeDiff, Nat.reduceEqDiff, Nat.not_lt_zero, Nat.lt_irrefl, decide_true, BEq.rfl, nm1, nm2, nm3, nm4, nm9, ngc, eq_self, List.length_cons, List.length_nil, m_isRow, h]
    exact okm (rl_inv (rl_t H))
  · simp (disch := omega) only [W903, r_2, r_Li, h80_948, s_41, s_0, ci_m1, r_90, r_4, r_La, h60_9_0, h79_954, r_5, s_40, h79_5, h79_952, h68_1, enR, LG, LSt, LC, nlR, psR, TK, up_s, up_n, up_u, lt_nI, le_nI, eq_nI, true_and, and_true, if_true, if_false, Nat.zero_add, Nat.add_zero, nI_add, ↓reduceIte, Nat.reduceAdd, Nat.reduceMul, Nat.reduceSub, Nat.reduceLT, Nat.reduceLeDiff, Nat.reduceEqDiff, Nat.not_lt_zero, Nat.lt_irrefl, decide_true, BEq.rfl, nm1, nm2, nm3, nm4, nm9, ngc, eq_self, List.length_cons, List.length_nil, c_isRow, h1, h2]
    refine okc ?_
    rw [cw_wp]
    simp (disch := omega) only [W1014, r_4, r_La, r_2, r_Li, h79_1009, r_5, s_43, r_90, s_0, ci_0, h60_10_5, ci_1, r_11, h80_1001, s_40, h79_1011, h79_1003, r_52, ci_2, h79_1002, h64_69, W1009, h80_1007, s_41, ci_m1, (fun d => cw_wp d 1009), enR, LG, LSt, LC, nlR, psR, TK, up_s, up_n, up_u, lt_nI, le_nI, eq_nI, true_and, and_true, if_true, if_false, Nat.zero_add, Nat.add_zero, nI_add, ↓reduceIte, Nat.reduceAdd, Nat.reduceMul, Nat.reduceSub, Nat.reduceLT, Nat.reduceLeDiff, Nat.reduceEqDiff, Nat.not_lt_zero, Nat.lt_irrefl, decide_true, BEq.rfl, nm1, nm2, nm3, nm4, nm9, ngc, eq_self, List.length_cons, List.length_nil, m_isRow, h1, h3]
    exact okm (rl_inv (rl_t H))
  · have hr6 : r < 6 := by omega
    rcases rl_r H hr6 with ⟨q1, q2, q3, q4, q5⟩ | ⟨q1, q2, q3, q4, q5, q6⟩
    · simp (disch := omega) only [W903, r_2, r_Li, h80_948, s_41, s_0, ci_m1, r_90, r_4, r_La, h60_9_0, h79_954, r_5, s_40, h79_5, h79_952, h68_1, enR, LG, LSt, LC, nlR, psR, TK, up_s, up_n, up_u, lt_nI, le_nI, eq_nI, true_and, and_true, if_true, if_false, Nat.zero_add, Nat.add_zero, nI_add, ↓reduceIte, Nat.reduceAdd, Nat.reduceMul, Nat.reduceSub, Nat.reduceLT, Nat.reduceLeDiff, Nat.reduceEqDiff, Nat.not_lt_zero, Nat.lt_irrefl, decide_true, BEq.rfl, nm1, nm2, nm3, nm4, nm9, ngc, eq_self, List.length_cons, List.length_nil, c_isRow, hr6, c_refCell_no (show r < 10 by omega) q2]
      refine okc ?_
      rw [m_at_no hr6 q5]
      exact okm (rl_inv (rl_found (k := 1) (by decide) H))
    · rcases ixm y (show n r ≤ 80 by omega) with ⟨p1, p2⟩ | ⟨k, hk, rfl⟩
      · simp (disch := omega) only [W903, r_2, r_Li, h80_948, s_41, s_0, ci_m1, r_90, r_4, r_La, h60_9_0, h79_954, r_5, s_40, h79_5, h79_952, h68_1, enR, LG, LSt, LC, nlR, psR, TK, up_s, up_n, up_u, lt_nI, le_nI, eq_nI, true_and, and_true, if_true, if_false, Nat.zero_add, Nat.add_zero, nI_add, ↓reduceIte, Nat.reduceAdd, Nat.reduceMul, Nat.reduceSub, Nat.reduceLT, Nat.reduceLeDiff, Nat.reduceEqDiff, Nat.not_lt_zero, Nat.lt_irrefl, decide_true, BEq.rfl, nm1, nm2, nm3, nm4, nm9, ngc, eq_self, List.length_cons, List.length_nil, c_isRow, hr6, c_refCell_out (show r < 10 by omega) q2 q3 p1]
        refine okc ?_
        rw [m_at_out hr6 q5 q4 p2]
        exact okm (rl_inv (rl_found (k := 2) (by decide) H))
      · have hcap : cap r = 40 := if_pos hr6
        simp (disch := omega) only [W903, r_2, r_Li, h80_948, s_41, s_0, ci_m1, r_90, r_4, r_La, h60_9_0, h79_954, r_5, s_40, h79_5, h79_952, h68_1, enR, LG, LSt, LC, nlR, psR, TK, up_s, up_n, up_u, lt_nI, le_nI, eq_nI, true_and, and_true, if_true, if_false, Nat.zero_add, Nat.add_zero, nI_add, ↓reduceIte, Nat.reduceAdd, Nat.reduceMul, Nat.reduceSub, Nat.reduceLT, Nat.reduceLeDiff, Nat.reduceEqDiff, Nat.not_lt_zero, Nat.lt_irrefl, decide_true, BEq.rfl, nm1, nm2, nm3, nm4, nm9, ngc, eq_self, List.length_cons, List.length_nil, c_isRow, hr6, c_refCell_ok (show r < 10 by omega) q2 q3 hk (by omega), c_valueAt (show r < 10 by omega) q3 hk (by omega), c_toldA]
        refine okc ?_
        rw [m_at_ok hr6 q5 q4 hk, q6 k hk]
        exact okm (rl_inv (rl_ask H))
theorem op_lay {x y u : Int32} (H : RL t z s v g w q ct cn cc di dr df li la sf sl a b e o B n P N W K O T J l Ds Dr Df Dp KB) : OPI (d + 20) 902 1015 [.int x, .int y, .int u] t z X (s, v, g, w, q, ct, cn, cc, di, dr, df, li, la, sf, sl) (a, b, e, o) := by
  unfold OPI
  rw [cw_wp]
  rcases ix x (n := 5) (by decide) with h | ⟨h1, h2, h3⟩ | ⟨r, hr, rfl⟩
  · simp (disch := omega) only [W902, r_2, r_Li, h80_948, s_41, s_0, ci_m1, r_90, r_4, r_La, h60_9_0, h79_954, r_5, s_40, h79_5, h79_6, h79_952, h68_1, enR, LG, LSt, LC, nlR, psR, TK, up_s, up_n, up_u, lt_nI, le_nI, eq_nI, true_and, and_true, if_true, if_false, Nat.zero_add, Nat.add_zero, nI_add, ↓reduceIte, Nat.reduceAdd, Nat.reduceMul, Nat.reduceSub, Nat.reduceLT, Nat.reduceLeDiff, Nat.reduceEqDiff, Nat.not_lt_zero, Nat.lt_irrefl, decide_true, BEq.rfl, nm1, nm2, nm3, nm4, nm9, ngc, eq_self, List.length_cons, List.length_nil, c_isRow, h]
    refine okc ?_
    rw [cw_wp]
    simp (disch := omega) only [W1015, r_4, r_La, r_2, r_Li, h79_1014, r_5, s_43, r_90, h79_1012, s_0, ci_1, W1014, h79_1009, ci_0, h60_10_5, r_11, h80_1001, s_40, h79_1011, h79_1003, r_52, ci_2, h79_1002, h64_69, (fun d => cw_wp d 1014), enR, W1009, h80_1007, s_41, ci_m1, (fun d => cw_wp d 1009), LG, LSt, LC, nlR, psR, TK, up_s, up_n, up_u, lt_nI, le_nI, eq_nI, true_and, and_true, if_true, if_false, Nat.zero_add, Nat.add_zero, nI_add, ↓reduceIte, Nat.reduceAdd, Nat.reduceMul, Nat.reduceSub, Nat.reduceLT, Nat.reduceLeDiff, Nat.reduceEqDiff, Nat.not_lt_zero, Nat.lt_irrefl, decide_true, BEq.rfl, nm1, nm2, nm3, nm4, nm9, ngc, eq_self, List.length_cons, List.length_nil, m_isRow, h]
    exact okm (rl_inv (rl_t H))
  · simp (disch := omega) only [W902, r_2, r_Li, h80_948, s_41, s_0, ci_m1, r_90, r_4, r_La, h60_9_0, h79_954, r_5, s_40, h79_5, h79_6, h79_952, h68_1, enR, LG, LSt, LC, nlR, psR, TK, up_s, up_n, up_u, lt_nI, le_nI, eq_nI, true_and, and_true, if_true, if_false, Nat.zero_add, Nat.add_zero, nI_add, ↓reduceIte, Nat.reduceAdd, Nat.reduceMul, Nat.reduceSub, Nat.reduceLT, Nat.reduceLeDiff, Nat.reduceEqDiff, Nat.not_lt_zero, Nat.lt_irrefl, decide_true, BEq.rfl, nm1, nm2, nm3, nm4, nm9, ngc, eq_self, List.length_cons, List.length_nil, c_isRow, h1, h2]
    refine okc ?_
    rw [cw_wp]
    simp (disch := omega) only [W1015, r_4, r_La, r_2, r_Li, h79_1014, r_5, s_43, r_90, h79_1012, s_0, ci_1, W1014, h79_1009, ci_0, h60_10_5, r_11, h80_1001, s_40, h79_1011, h79_1003, r_52, ci_2, h79_1002, h64_69, (fun d => cw_wp d 1014), enR, W1009, h80_1007, s_41, ci_m1, (fun d => cw_wp d 1009), LG, LSt, LC, nlR, psR, TK, up_s, up_n, up_u, lt_nI, le_nI, eq_nI, true_and, and_true, if_true, if_false, Nat.zero_add, Nat.add_zero, nI_add, ↓reduceIte, Nat.reduceAdd, Nat.reduceMul, Nat.reduceSub, Nat.reduceLT, Nat.reduceLeDiff, Nat.reduceEqDiff, Nat.not_lt_zero, Nat.lt_irrefl, decide_true, BEq.rfl, nm1, nm2, nm3, nm4, nm9, ngc, eq_self, List.length_cons, List.length_nil, m_isRow, h1, h3]
    exact okm (rl_inv (rl_t H))
  · have hr6 : r < 6 := by omega
    rcases rl_r H hr6 with ⟨q1, q2, q3, q4, q5⟩ | ⟨q1, q2, q3, q4, q5, q6⟩
    · simp (disch := omega) only [W902, r_2, r_Li, h80_948, s_41, s_0, ci_m1, r_90, r_4, r_La, h60_9_0, h79_954, r_5, s_40, h79_5, h79_6, h79_952, h68_1, enR, LG, LSt, LC, nlR, psR, TK, up_s, up_n, up_u, lt_nI, le_nI, eq_nI, true_and, and_true, if_true, if_false, Nat.zero_add, Nat.add_zero, nI_add, ↓reduceIte, Nat.reduceAdd, Nat.reduceMul, Nat.reduceSub, Nat.reduceLT, Nat.reduceLeDiff, Nat.reduceEqDiff, Nat.not_lt_zero, Nat.lt_irrefl, decide_true, BEq.rfl, nm1, nm2, nm3, nm4, nm9, ngc, eq_self, List.length_cons, List.length_nil, c_isRow, hr6, c_refCell_no (show r < 10 by omega) q2]
      refine okc ?_
      rw [cw_wp]
      simp (disch := omega) only [W1015, r_4, r_La, r_2, r_Li, h79_1014, r_5, s_43, r_90, h79_1012, s_0, ci_1, enR, LG, LSt, LC, nlR, psR, TK, up_s, up_n, up_u, lt_nI, le_nI, eq_nI, true_and, and_true, if_true, if_false, Nat.zero_add, Nat.add_zero, nI_add, ↓reduceIte, Nat.reduceAdd, Nat.reduceMul, Nat.reduceSub, Nat.reduceLT, Nat.reduceLeDiff, Nat.reduceEqDiff, Nat.not_lt_zero, Nat.lt_irrefl, decide_true, BEq.rfl, nm1, nm2, nm3, nm4, nm9, ngc, eq_self, List.length_cons, List.length_nil, m_at_no hr6 q5]
      exact okm (rl_inv (rl_found (k := 1) (by decide) H))
    · rcases ixm y (show n r ≤ 80 by omega) with ⟨p1, p2⟩ | ⟨k, hk, rfl⟩
      · simp (disch := omega) only [W902, r_2, r_Li, h80_948, s_41, s_0, ci_m1, r_90, r_4, r_La, h60_9_0, h79_954, r_5, s_40, h79_5, h79_6, h79_952, h68_1, enR, LG, LSt, LC, nlR, psR, TK, up_s, up_n, up_u, lt_nI, le_nI, eq_nI, true_and, and_true, if_true, if_false, Nat.zero_add, Nat.add_zero, nI_add, ↓reduceIte, Nat.reduceAdd, Nat.reduceMul, Nat.reduceSub, Nat.reduceLT, Nat.reduceLeDiff, Nat.reduceEqDiff, Nat.not_lt_zero, Nat.lt_irrefl, decide_true, BEq.rfl, nm1, nm2, nm3, nm4, nm9, ngc, eq_self, List.length_cons, List.length_nil, c_isRow, hr6, c_refCell_out (show r < 10 by omega) q2 q3 p1]
        refine okc ?_
        rw [cw_wp]
        simp (disch := omega) only [W1015, r_4, r_La, r_2, r_Li, h79_1014, r_5, s_43, r_90, h79_1012, s_0, ci_1, enR, LG, LSt, LC, nlR, psR, TK, up_s, up_n, up_u, lt_nI, le_nI, eq_nI, true_and, and_true, if_true, if_false, Nat.zero_add, Nat.add_zero, nI_add, ↓reduceIte, Nat.reduceAdd, Nat.reduceMul, Nat.reduceSub, Nat.reduceLT, Nat.reduceLeDiff, Nat.reduceEqDiff, Nat.not_lt_zero, Nat.lt_irrefl, decide_true, BEq.rfl, nm1, nm2, nm3, nm4, nm9, ngc, eq_self, List.length_cons, List.length_nil, m_at_out hr6 q5 q4 p2]
        exact okm (rl_inv (rl_found (k := 2) (by decide) H))
      · have hcap : cap r = 40 := if_pos hr6
        simp (disch := omega) only [W902, r_2, r_Li, h80_948, s_41, s_0, ci_m1, r_90, r_4, r_La, h60_9_0, h79_954, r_5, s_40, h79_5, h79_6, h79_952, h68_1, enR, LG, LSt, LC, nlR, psR, TK, up_s, up_n, up_u, lt_nI, le_nI, eq_nI, true_and, and_true, if_true, if_false, Nat.zero_add, Nat.add_zero, nI_add, ↓reduceIte, Nat.reduceAdd, Nat.reduceMul, Nat.reduceSub, Nat.reduceLT, Nat.reduceLeDiff, Nat.reduceEqDiff, Nat.not_lt_zero, Nat.lt_irrefl, decide_true, BEq.rfl, nm1, nm2, nm3, nm4, nm9, ngc, eq_self, List.length_cons, List.length_nil, c_isRow, hr6, c_refCell_ok (show r < 10 by omega) q2 q3 hk (by omega), c_valueAt (show r < 10 by omega) q3 hk (by omega), c_change (show r < 10 by omega) q3 hk (by omega), c_toldA]
        refine okc ?_
        rw [cw_wp]
        simp (disch := omega) only [W1015, r_4, r_La, r_2, r_Li, h79_1014, r_5, s_43, r_90, h79_1012, s_0, ci_1, enR, LG, LSt, LC, nlR, psR, TK, up_s, up_n, up_u, lt_nI, le_nI, eq_nI, true_and, and_true, if_true, if_false, Nat.zero_add, Nat.add_zero, nI_add, ↓reduceIte, Nat.reduceAdd, Nat.reduceMul, Nat.reduceSub, Nat.reduceLT, Nat.reduceLeDiff, Nat.reduceEqDiff, Nat.not_lt_zero, Nat.lt_irrefl, decide_true, BEq.rfl, nm1, nm2, nm3, nm4, nm9, ngc, eq_self, List.length_cons, List.length_nil, m_at_ok hr6 q5 q4 hk, m_setRow, q6 k hk]
        have H1 : RL t z s v g w q ct cn (va_up cc r (upd (cc r) k u)) di dr df li la sf sl a b (va_up e 70 (upd (e 70) (40 * r + k) u)) o B n P N W K O T J l Ds Dr Df Dp KB := by
          obtain ⟨h1, h2, h3, h4, h5, h6, h7⟩ := H
          refine ⟨h1, ic_set h2 hr6 (fun j hj => ?_) (fun j hj => ud_n _ _ (by omega)), h3, h4, h5, h6, h7⟩
          show upd (e 70) (40 * r + k) u (40 * r + j) = upd (cc r) k u j
          by_cases e1 : j = k
          · subst e1; rw [ud_s, ud_s]
          · rw [ud_n _ _ e1, ud_n _ _ (by omega)]; exact q6 j hj
        exact okm (rl_inv (rl_ask H1))
theorem op_tear {x : Int32} (H : RL t z s v g w q ct cn cc di dr df li la sf sl a b e o B n P N W K O T J l Ds Dr Df Dp KB) : OPI (d + 20) 904 1016 [.int x] t z X (s, v, g, w, q, ct, cn, cc, di, dr, df, li, la, sf, sl) (a, b, e, o) := by
  unfold OPI
  rw [cw_wp]
  rcases ix x (n := 5) (by decide) with h | ⟨h1, h2, h3⟩ | ⟨r, hr, rfl⟩
  · simp (disch := omega) only [W904, r_2, r_Li, h80_948, s_41, s_0, ci_m1, r_90, r_4, r_La, h60_9_0, h60_0_1, ci_1, h79_951, h79_3, h68_1, enR, LG, LSt, LC, nlR, psR, TK, up_s, up_n, up_u, lt_nI, le_nI, eq_nI, true_and, and_true, if_true, if_false, Nat.zero_add, Nat.add_zero, nI_add, ↓reduceIte, Nat.reduceAdd, Nat.reduceMul, Nat.reduceSub, Nat.reduceLT, Nat.reduceLeDiff, Nat.reduceEqDiff, Nat.not_lt_zero, Nat.lt_irrefl, decide_true, BEq.rfl, nm1, nm2, nm3, nm4, nm9, ngc, eq_self, List.length_cons, List.length_nil, c_isRow, h]
    refine okc ?_
    rw [cw_wp]
    simp (disch := omega) only [W1016, r_4, r_La, r_2, r_Li, h79_1009, r_5, s_43, r_90, h60_10_5, s_0, ci_m9, ci_1, h65_69, W1009, h80_1007, s_41, ci_m1, r_52, h79_1002, ci_0, h64_69, (fun d => cw_wp d 1009), enR, LG, LSt, LC, nlR, psR, TK, up_s, up_n, up_u, lt_nI, le_nI, eq_nI, true_and, and_true, if_true, if_false, Nat.zero_add, Nat.add_zero, nI_add, ↓reduceIte, Nat.reduceAdd, Nat.reduceMul, Nat.reduceSub, Nat.reduceLT, Nat.reduceLeDiff, Nat.reduceEqDiff, Nat.not_lt_zero, Nat.lt_irrefl, decide_true, BEq.rfl, nm1, nm2, nm3, nm4, nm9, ngc, eq_self, List.length_cons, List.length_nil, m_isRow, h]
    exact okm (rl_inv (rl_t H))
  · simp (disch := omega) only [W904, r_2, r_Li, h80_948, s_41, s_0, ci_m1, r_90, r_4, r_La, h60_9_0, h60_0_1, ci_1, h79_951, h79_3, h68_1, enR, LG, LSt, LC, nlR, psR, TK, up_s, up_n, up_u, lt_nI, le_nI, eq_nI, true_and, and_true, if_true, if_false, Nat.zero_add, Nat.add_zero, nI_add, ↓reduceIte, Nat.reduceAdd, Nat.reduceMul, Nat.reduceSub, Nat.reduceLT, Nat.reduceLeDiff, Nat.reduceEqDiff, Nat.not_lt_zero, Nat.lt_irrefl, decide_true, BEq.rfl, nm1, nm2, nm3, nm4, nm9, ngc, eq_self, List.length_cons, List.length_nil, c_isRow, h1, h2]
    refine okc ?_
    rw [cw_wp]
    simp (disch := omega) only [W1016, r_4, r_La, r_2, r_Li, h79_1009, r_5, s_43, r_90, h60_10_5, s_0, ci_m9, ci_1, h65_69, W1009, h80_1007, s_41, ci_m1, r_52, h79_1002, ci_0, h64_69, (fun d => cw_wp d 1009), enR, LG, LSt, LC, nlR, psR, TK, up_s, up_n, up_u, lt_nI, le_nI, eq_nI, true_and, and_true, if_true, if_false, Nat.zero_add, Nat.add_zero, nI_add, ↓reduceIte, Nat.reduceAdd, Nat.reduceMul, Nat.reduceSub, Nat.reduceLT, Nat.reduceLeDiff, Nat.reduceEqDiff, Nat.not_lt_zero, Nat.lt_irrefl, decide_true, BEq.rfl, nm1, nm2, nm3, nm4, nm9, ngc, eq_self, List.length_cons, List.length_nil, m_isRow, h1, h3]
    exact okm (rl_inv (rl_t H))
  · have hr6 : r < 6 := by omega
    rcases rl_r H hr6 with ⟨q1, q2, q3, q4, q5⟩ | ⟨q1, q2, q3, q4, q5, q6⟩
    · simp (disch := omega) only [W904, r_2, r_Li, h80_948, s_41, s_0, ci_m1, r_90, r_4, r_La, h60_9_0, h60_0_1, ci_1, h79_951, h79_3, h68_1, enR, LG, LSt, LC, nlR, psR, TK, up_s, up_n, up_u, lt_nI, le_nI, eq_nI, true_and, and_true, if_true, if_false, Nat.zero_add, Nat.add_zero, nI_add, ↓reduceIte, Nat.reduceAdd, Nat.reduceMul, Nat.reduceSub, Nat.reduceLT, Nat.reduceLeDiff, Nat.reduceEqDiff, Nat.not_lt_zero, Nat.lt_irrefl, decide_true, BEq.rfl, nm1, nm2, nm3, nm4, nm9, ngc, eq_self, List.length_cons, List.length_nil, c_isRow, hr6, q2, c_found]
      refine okc ?_
      rw [cw_wp]
      simp (disch := omega) only [W1016, r_4, r_La, r_2, r_Li, h79_1009, r_5, s_43, r_90, h60_10_5, s_0, ci_m9, ci_1, h65_69, enR, LG, LSt, LC, nlR, psR, TK, up_s, up_n, up_u, lt_nI, le_nI, eq_nI, true_and, and_true, if_true, if_false, Nat.zero_add, Nat.add_zero, nI_add, ↓reduceIte, Nat.reduceAdd, Nat.reduceMul, Nat.reduceSub, Nat.reduceLT, Nat.reduceLeDiff, Nat.reduceEqDiff, Nat.not_lt_zero, Nat.lt_irrefl, decide_true, BEq.rfl, nm1, nm2, nm3, nm4, nm9, ngc, eq_self, List.length_cons, List.length_nil, m_asked_no hr6 q5]
      exact okm (rl_inv (rl_found (k := 1) (by decide) H))
    · simp (disch := omega) only [W904, r_2, r_Li, h80_948, s_41, s_0, ci_m1, r_90, r_4, r_La, h60_9_0, h60_0_1, ci_1, h79_951, h79_3, h68_1, enR, LG, LSt, LC, nlR, psR, TK, up_s, up_n, up_u, lt_nI, le_nI, eq_nI, true_and, and_true, if_true, if_false, Nat.zero_add, Nat.add_zero, nI_add, ↓reduceIte, Nat.reduceAdd, Nat.reduceMul, Nat.reduceSub, Nat.reduceLT, Nat.reduceLeDiff, Nat.reduceEqDiff, Nat.not_lt_zero, Nat.lt_irrefl, decide_true, BEq.rfl, nm1, nm2, nm3, nm4, nm9, ngc, eq_self, List.length_cons, List.length_nil, c_isRow, hr6, q2, c_drop]
      refine okc ?_
      rw [cw_wp]
      simp (disch := omega) only [W1016, r_4, r_La, r_2, r_Li, h79_1009, r_5, s_43, r_90, h60_10_5, s_0, ci_m9, ci_1, h65_69, enR, LG, LSt, LC, nlR, psR, TK, up_s, up_n, up_u, lt_nI, le_nI, eq_nI, true_and, and_true, if_true, if_false, Nat.zero_add, Nat.add_zero, nI_add, ↓reduceIte, Nat.reduceAdd, Nat.reduceMul, Nat.reduceSub, Nat.reduceLT, Nat.reduceLeDiff, Nat.reduceEqDiff, Nat.not_lt_zero, Nat.lt_irrefl, decide_true, BEq.rfl, nm1, nm2, nm3, nm4, nm9, ngc, eq_self, List.length_cons, List.length_nil, m_asked_ok hr6 q5]
      exact okm (rl_inv (rl_row0 H (ic_drop H.2.1 hr6)))
theorem op_put {x y u : Int32} (H : RL t z s v g w q ct cn cc di dr df li la sf sl a b e o B n P N W K O T J l Ds Dr Df Dp KB) : OPI (d + 20) 908 1020 [.int x, .int y, .int u] t z X (s, v, g, w, q, ct, cn, cc, di, dr, df, li, la, sf, sl) (a, b, e, o) := by
  unfold OPI
  rw [cw_wp]
  rcases ix x (n := 3) (by decide) with h | ⟨h1, h2, h3⟩ | ⟨r, hr, rfl⟩
  · simp (disch := omega) only [W908, r_2, r_Li, h80_949, s_41, s_0, ci_m1, r_90, r_4, r_La, h60_9_1, h79_954, r_5, s_40, h79_5, r_28, h79_6, ci_1000, r_10, h68_2, enR, LG, LSt, LC, nlR, psR, TK, up_s, up_n, up_u, lt_nI, le_nI, eq_nI, true_and, and_true, if_true, if_false, Nat.zero_add, Nat.add_zero, nI_add, ↓reduceIte, Nat.reduceAdd, Nat.reduceMul, Nat.reduceSub, Nat.reduceLT, Nat.reduceLeDiff, Nat.reduceEqDiff, Nat.not_lt_zero, Nat.lt_irrefl, decide_true, BEq.rfl, nm1, nm2, nm3, nm4, nm9, ngc, eq_self, List.length_cons, List.length_nil, c_isText, h]
    refine okc ?_
    rw [cw_wp]
    simp (disch := omega) only [W1020, r_4, r_La, r_2, r_Li, h79_1010, r_5, s_43, r_90, s_0, ci_0, h60_10_8, ci_1, r_11, h80_1001, s_41, ci_2, h79_1002, h60_10_9, ci_80, r_12, r_10, r_28, ci_1000, h64_72, h65_72, h64_73, h65_73, W1010, h80_1008, ci_m1, r_52, (fun d => cw_wp d 1010), enR, LG, LSt, LC, nlR, psR, TK, up_s, up_n, up_u, lt_nI, le_nI, eq_nI, true_and, and_true, if_true, if_false, Nat.zero_add, Nat.add_zero, nI_add, ↓reduceIte, Nat.reduceAdd, Nat.reduceMul, Nat.reduceSub, Nat.reduceLT, Nat.reduceLeDiff, Nat.reduceEqDiff, Nat.not_lt_zero, Nat.lt_irrefl, decide_true, BEq.rfl, nm1, nm2, nm3, nm4, nm9, ngc, eq_self, List.length_cons, List.length_nil, m_isText, h]
    exact okm (rl_inv (rl_t H))
  · simp (disch := omega) only [W908, r_2, r_Li, h80_949, s_41, s_0, ci_m1, r_90, r_4, r_La, h60_9_1, h79_954, r_5, s_40, h79_5, r_28, h79_6, ci_1000, r_10, h68_2, enR, LG, LSt, LC, nlR, psR, TK, up_s, up_n, up_u, lt_nI, le_nI, eq_nI, true_and, and_true, if_true, if_false, Nat.zero_add, Nat.add_zero, nI_add, ↓reduceIte, Nat.reduceAdd, Nat.reduceMul, Nat.reduceSub, Nat.reduceLT, Nat.reduceLeDiff, Nat.reduceEqDiff, Nat.not_lt_zero, Nat.lt_irrefl, decide_true, BEq.rfl, nm1, nm2, nm3, nm4, nm9, ngc, eq_self, List.length_cons, List.length_nil, c_isText, h1, h2]
    refine okc ?_
    rw [cw_wp]
    simp (disch := omega) only [W1020, r_4, r_La, r_2, r_Li, h79_1010, r_5, s_43, r_90, s_0, ci_0, h60_10_8, ci_1, r_11, h80_1001, s_41, ci_2, h79_1002, h60_10_9, ci_80, r_12, r_10, r_28, ci_1000, h64_72, h65_72, h64_73, h65_73, W1010, h80_1008, ci_m1, r_52, (fun d => cw_wp d 1010), enR, LG, LSt, LC, nlR, psR, TK, up_s, up_n, up_u, lt_nI, le_nI, eq_nI, true_and, and_true, if_true, if_false, Nat.zero_add, Nat.add_zero, nI_add, ↓reduceIte, Nat.reduceAdd, Nat.reduceMul, Nat.reduceSub, Nat.reduceLT, Nat.reduceLeDiff, Nat.reduceEqDiff, Nat.not_lt_zero, Nat.lt_irrefl, decide_true, BEq.rfl, nm1, nm2, nm3, nm4, nm9, ngc, eq_self, List.length_cons, List.length_nil, m_isText, h1, h3]
    exact okm (rl_inv (rl_t H))
  · have hr6 : r < 4 := by omega
    rcases rl_x H hr6 with ⟨q1, q2, q3, q4, q5⟩ | ⟨q1, q2, q3, q4, q5, q6⟩
    · simp (disch := omega) only [W908, r_2, r_Li, h80_949, s_41, s_0, ci_m1, r_90, r_4, r_La, h60_9_1, h79_954, r_5, s_40, h79_5, r_28, h79_6, ci_1000, r_10, h68_2, enR, LG, LSt, LC, nlR, psR, TK, up_s, up_n, up_u, lt_nI, le_nI, eq_nI, true_and, and_true, if_true, if_false, Nat.zero_add, Nat.add_zero, nI_add, ↓reduceIte, Nat.reduceAdd, Nat.reduceMul, Nat.reduceSub, Nat.reduceLT, Nat.reduceLeDiff, Nat.reduceEqDiff, Nat.not_lt_zero, Nat.lt_irrefl, decide_true, BEq.rfl, nm1, nm2, nm3, nm4, nm9, ngc, eq_self, List.length_cons, List.length_nil, c_isText, hr6, c_refCell_no (show 6 + r < 10 by omega) q2]
      refine okc ?_
      rw [cw_wp]
      simp (disch := omega) only [W1020, r_4, r_La, r_2, r_Li, h79_1010, r_5, s_43, r_90, s_0, ci_0, h60_10_8, ci_1, r_11, h80_1001, s_41, ci_2, h79_1002, h60_10_9, ci_80, r_12, r_10, r_28, ci_1000, h64_72, h65_72, h64_73, h65_73, enR, LG, LSt, LC, nlR, psR, TK, up_s, up_n, up_u, lt_nI, le_nI, eq_nI, true_and, and_true, if_true, if_false, Nat.zero_add, Nat.add_zero, nI_add, ↓reduceIte, Nat.reduceAdd, Nat.reduceMul, Nat.reduceSub, Nat.reduceLT, Nat.reduceLeDiff, Nat.reduceEqDiff, Nat.not_lt_zero, Nat.lt_irrefl, decide_true, BEq.rfl, nm1, nm2, nm3, nm4, nm9, ngc, eq_self, List.length_cons, List.length_nil, m_askedT_no hr6 q5]
      exact okm (rl_inv (rl_found (k := 1) (by decide) H))
    · rcases ixm y (show n (6 + r) ≤ 80 by omega) with ⟨p1, p2⟩ | ⟨k, hk, rfl⟩
      · simp (disch := omega) only [W908, r_2, r_Li, h80_949, s_41, s_0, ci_m1, r_90, r_4, r_La, h60_9_1, h79_954, r_5, s_40, h79_5, r_28, h79_6, ci_1000, r_10, h68_2, enR, LG, LSt, LC, nlR, psR, TK, up_s, up_n, up_u, lt_nI, le_nI, eq_nI, true_and, and_true, if_true, if_false, Nat.zero_add, Nat.add_zero, nI_add, ↓reduceIte, Nat.reduceAdd, Nat.reduceMul, Nat.reduceSub, Nat.reduceLT, Nat.reduceLeDiff, Nat.reduceEqDiff, Nat.not_lt_zero, Nat.lt_irrefl, decide_true, BEq.rfl, nm1, nm2, nm3, nm4, nm9, ngc, eq_self, List.length_cons, List.length_nil, c_isText, hr6, c_refCell_out (show 6 + r < 10 by omega) q2 q3 p1]
        refine okc ?_
        rw [cw_wp]
        rcases p2 with p2 | ⟨p2, p3⟩
        · simp (disch := omega) only [W1020, r_4, r_La, r_2, r_Li, h79_1010, r_5, s_43, r_90, s_0, ci_0, h60_10_8, ci_1, r_11, h80_1001, s_41, ci_2, h79_1002, h60_10_9, ci_80, r_12, r_10, r_28, ci_1000, h64_72, h65_72, h64_73, h65_73, enR, LG, LSt, LC, nlR, psR, TK, up_s, up_n, up_u, lt_nI, le_nI, eq_nI, true_and, and_true, if_true, if_false, Nat.zero_add, Nat.add_zero, nI_add, ↓reduceIte, Nat.reduceAdd, Nat.reduceMul, Nat.reduceSub, Nat.reduceLT, Nat.reduceLeDiff, Nat.reduceEqDiff, Nat.not_lt_zero, Nat.lt_irrefl, decide_true, BEq.rfl, nm1, nm2, nm3, nm4, nm9, ngc, eq_self, List.length_cons, List.length_nil, m_askedT_ok hr6 q5, q5, m_in, p2, m_meet]
          exact okm (rl_inv (rl_found (k := 2) (by decide) H))
        · simp (disch := omega) only [W1020, r_4, r_La, r_2, r_Li, h79_1010, r_5, s_43, r_90, s_0, ci_0, h60_10_8, ci_1, r_11, h80_1001, s_41, ci_2, h79_1002, h60_10_9, ci_80, r_12, r_10, r_28, ci_1000, h64_72, h65_72, h64_73, h65_73, enR, LG, LSt, LC, nlR, psR, TK, up_s, up_n, up_u, lt_nI, le_nI, eq_nI, true_and, and_true, if_true, if_false, Nat.zero_add, Nat.add_zero, nI_add, ↓reduceIte, Nat.reduceAdd, Nat.reduceMul, Nat.reduceSub, Nat.reduceLT, Nat.reduceLeDiff, Nat.reduceEqDiff, Nat.not_lt_zero, Nat.lt_irrefl, decide_true, BEq.rfl, nm1, nm2, nm3, nm4, nm9, ngc, eq_self, List.length_cons, List.length_nil, m_askedT_ok hr6 q5, q5, m_in, p2, p3, m_meet]
          exact okm (rl_inv (rl_found (k := 2) (by decide) H))
      · have hcap : cap (6 + r) = 80 := if_neg (by omega)
        simp (disch := omega) only [W908, r_2, r_Li, h80_949, s_41, s_0, ci_m1, r_90, r_4, r_La, h60_9_1, h79_954, r_5, s_40, h79_5, r_28, h79_6, ci_1000, r_10, h68_2, enR, LG, LSt, LC, nlR, psR, TK, up_s, up_n, up_u, lt_nI, le_nI, eq_nI, true_and, and_true, if_true, if_false, Nat.zero_add, Nat.add_zero, nI_add, ↓reduceIte, Nat.reduceAdd, Nat.reduceMul, Nat.reduceSub, Nat.reduceLT, Nat.reduceLeDiff, Nat.reduceEqDiff, Nat.not_lt_zero, Nat.lt_irrefl, decide_true, BEq.rfl, nm1, nm2, nm3, nm4, nm9, ngc, eq_self, List.length_cons, List.length_nil, c_isText, hr6, c_refCell_ok (show 6 + r < 10 by omega) q2 q3 hk (by omega), c_valueAt (show 6 + r < 10 by omega) q3 hk (by omega), c_change (show 6 + r < 10 by omega) q3 hk (by omega)]
        refine okc ?_
        rw [cw_wp]
        simp (disch := omega) only [W1020, r_4, r_La, r_2, r_Li, h79_1010, r_5, s_43, r_90, s_0, ci_0, h60_10_8, ci_1, r_11, h80_1001, s_41, ci_2, h79_1002, h60_10_9, ci_80, r_12, r_10, r_28, ci_1000, h64_72, h65_72, h64_73, h65_73, enR, LG, LSt, LC, nlR, psR, TK, up_s, up_n, up_u, lt_nI, le_nI, eq_nI, true_and, and_true, if_true, if_false, Nat.zero_add, Nat.add_zero, nI_add, ↓reduceIte, Nat.reduceAdd, Nat.reduceMul, Nat.reduceSub, Nat.reduceLT, Nat.reduceLeDiff, Nat.reduceEqDiff, Nat.not_lt_zero, Nat.lt_irrefl, decide_true, BEq.rfl, nm1, nm2, nm3, nm4, nm9, ngc, eq_self, List.length_cons, List.length_nil, m_askedT_ok hr6 q5, q5, m_in, nsub (show n (6 + r) < 65536 by omega) hk, nI_mul, q6 k hk]
        refine okm (rl_inv (rl_text1 H (ic_setT H.2.1 hr6 (fun j hj => ?_) (fun j hj => ud_n _ _ (by omega)))))
        show upd (e 73) (80 * r + k) _ (80 * r + j) = upd (cc (6 + r)) k _ j
        by_cases e1 : j = k
        · subst e1; rw [ud_s, ud_s]
        · rw [ud_n _ _ e1, ud_n _ _ (by omega)]; exact q6 j hj
theorem op_mean {x : Int32} (H : RL t z s v g w q ct cn cc di dr df li la sf sl a b e o B n P N W K O T J l Ds Dr Df Dp KB) : OPI (d + 20) 906 1018 [.int x] t z X (s, v, g, w, q, ct, cn, cc, di, dr, df, li, la, sf, sl) (a, b, e, o) := by
  unfold OPI
  rw [cw_wp]
  rcases ix x (n := 5) (by decide) with h | ⟨h1, h2, h3⟩ | ⟨r, hr, rfl⟩
  · simp (disch := omega) only [W906, r_2, r_Li, h80_948, s_41, s_0, ci_m1, r_90, r_4, r_La, h60_9_0, h60_0_1, ci_1, h79_951, h60_0_2, r_5, ci_4, h79_10, r_26, r_23, r_27, h79_952, h68_1, enR, LG, LSt, LC, nlR, psR, TK, up_s, up_n, up_u, lt_nI, le_nI, eq_nI, true_and, and_true, if_true, if_false, Nat.zero_add, Nat.add_zero, nI_add, ↓reduceIte, Nat.reduceAdd, Nat.reduceMul, Nat.reduceSub, Nat.reduceLT, Nat.reduceLeDiff, Nat.reduceEqDiff, Nat.not_lt_zero, Nat.lt_irrefl, decide_true, BEq.rfl, nm1, nm2, nm3, nm4, nm9, ngc, eq_self, List.length_cons, List.length_nil, c_isRow, h]
    refine okc ?_
    rw [cw_wp]
    simp (disch := omega) only [W1018, r_4, r_La, r_2, r_Li, h79_1009, r_5, s_43, r_90, s_1, cl_0, r_6, s_0, ci_0, h60_10_5, r_49, r_3, r_Ll, h79_1011, r_26, r_21, s_8, r_In, ci_1, r_52, s_41, ci_4, h79_1002, r_23, r_27, h79_1003, h64_69, W1009, h80_1007, ci_m1, (fun d => cw_wp d 1009), enR, LG, LSt, LC, nlR, psR, TK, up_s, up_n, up_u, lt_nI, le_nI, eq_nI, true_and, and_true, if_true, if_false, Nat.zero_add, Nat.add_zero, nI_add, ↓reduceIte, Nat.reduceAdd, Nat.reduceMul, Nat.reduceSub, Nat.reduceLT, Nat.reduceLeDiff, Nat.reduceEqDiff, Nat.not_lt_zero, Nat.lt_irrefl, decide_true, BEq.rfl, nm1, nm2, nm3, nm4, nm9, ngc, eq_self, List.length_cons, List.length_nil, m_isRow, h]
    exact okm (rl_inv (rl_t H))
  · simp (disch := omega) only [W906, r_2, r_Li, h80_948, s_41, s_0, ci_m1, r_90, r_4, r_La, h60_9_0, h60_0_1, ci_1, h79_951, h60_0_2, r_5, ci_4, h79_10, r_26, r_23, r_27, h79_952, h68_1, enR, LG, LSt, LC, nlR, psR, TK, up_s, up_n, up_u, lt_nI, le_nI, eq_nI, true_and, and_true, if_true, if_false, Nat.zero_add, Nat.add_zero, nI_add, ↓reduceIte, Nat.reduceAdd, Nat.reduceMul, Nat.reduceSub, Nat.reduceLT, Nat.reduceLeDiff, Nat.reduceEqDiff, Nat.not_lt_zero, Nat.lt_irrefl, decide_true, BEq.rfl, nm1, nm2, nm3, nm4, nm9, ngc, eq_self, List.length_cons, List.length_nil, c_isRow, h1, h2]
    refine okc ?_
    rw [cw_wp]
    simp (disch := omega) only [W1018, r_4, r_La, r_2, r_Li, h79_1009, r_5, s_43, r_90, s_1, cl_0, r_6, s_0, ci_0, h60_10_5, r_49, r_3, r_Ll, h79_1011, r_26, r_21, s_8, r_In, ci_1, r_52, s_41, ci_4, h79_1002, r_23, r_27, h79_1003, h64_69, W1009, h80_1007, ci_m1, (fun d => cw_wp d 1009), enR, LG, LSt, LC, nlR, psR, TK, up_s, up_n, up_u, lt_nI, le_nI, eq_nI, true_and, and_true, if_true, if_false, Nat.zero_add, Nat.add_zero, nI_add, ↓reduceIte, Nat.reduceAdd, Nat.reduceMul, Nat.reduceSub, Nat.reduceLT, Nat.reduceLeDiff, Nat.reduceEqDiff, Nat.not_lt_zero, Nat.lt_irrefl, decide_true, BEq.rfl, nm1, nm2, nm3, nm4, nm9, ngc, eq_self, List.length_cons, List.length_nil, m_isRow, h1, h3]
    exact okm (rl_inv (rl_t H))
  · have hr6 : r < 6 := by omega
    rcases rl_r H hr6 with ⟨q1, q2, q3, q4, q5⟩ | ⟨q1, q2, q3, q4, q5, q6⟩
    · simp (disch := omega) only [W906, r_2, r_Li, h80_948, s_41, s_0, ci_m1, r_90, r_4, r_La, h60_9_0, h60_0_1, ci_1, h79_951, h60_0_2, r_5, ci_4, h79_10, r_26, r_23, r_27, h79_952, h68_1, enR, LG, LSt, LC, nlR, psR, TK, up_s, up_n, up_u, lt_nI, le_nI, eq_nI, true_and, and_true, if_true, if_false, Nat.zero_add, Nat.add_zero, nI_add, ↓reduceIte, Nat.reduceAdd, Nat.reduceMul, Nat.reduceSub, Nat.reduceLT, Nat.reduceLeDiff, Nat.reduceEqDiff, Nat.not_lt_zero, Nat.lt_irrefl, decide_true, BEq.rfl, nm1, nm2, nm3, nm4, nm9, ngc, eq_self, List.length_cons, List.length_nil, c_isRow, hr6, q2, c_found]
      refine okc ?_
      rw [cw_wp]
      simp (disch := omega) only [W1018, r_4, r_La, r_2, r_Li, h79_1009, r_5, s_43, r_90, s_1, cl_0, r_6, s_0, ci_0, h60_10_5, r_49, r_3, r_Ll, h79_1011, r_26, r_21, s_8, r_In, ci_1, r_52, s_41, ci_4, h79_1002, r_23, r_27, h79_1003, h64_69, enR, LG, LSt, LC, nlR, psR, TK, up_s, up_n, up_u, lt_nI, le_nI, eq_nI, true_and, and_true, if_true, if_false, Nat.zero_add, Nat.add_zero, nI_add, ↓reduceIte, Nat.reduceAdd, Nat.reduceMul, Nat.reduceSub, Nat.reduceLT, Nat.reduceLeDiff, Nat.reduceEqDiff, Nat.not_lt_zero, Nat.lt_irrefl, decide_true, BEq.rfl, nm1, nm2, nm3, nm4, nm9, ngc, eq_self, List.length_cons, List.length_nil, m_asked_no hr6 q5]
      exact okm (rl_inv (rl_found (k := 1) (by decide) H))
    · by_cases h0 : n r = 0
      · simp (disch := omega) only [W906, r_2, r_Li, h80_948, s_41, s_0, ci_m1, r_90, r_4, r_La, h60_9_0, h60_0_1, ci_1, h79_951, h60_0_2, r_5, ci_4, h79_10, r_26, r_23, r_27, h79_952, h68_1, enR, LG, LSt, LC, nlR, psR, TK, up_s, up_n, up_u, lt_nI, le_nI, eq_nI, true_and, and_true, if_true, if_false, Nat.zero_add, Nat.add_zero, nI_add, ↓reduceIte, Nat.reduceAdd, Nat.reduceMul, Nat.reduceSub, Nat.reduceLT, Nat.reduceLeDiff, Nat.reduceEqDiff, Nat.not_lt_zero, Nat.lt_irrefl, decide_true, BEq.rfl, nm1, nm2, nm3, nm4, nm9, ngc, eq_self, List.length_cons, List.length_nil, c_isRow, hr6, q2, q3, h0, c_found]
        refine okc ?_
        rw [cw_wp]
        simp (disch := omega) only [W1018, r_4, r_La, r_2, r_Li, h79_1009, r_5, s_43, r_90, s_1, cl_0, r_6, s_0, ci_0, h60_10_5, r_49, r_3, r_Ll, h79_1011, r_26, r_21, s_8, r_In, ci_1, r_52, s_41, ci_4, h79_1002, r_23, r_27, h79_1003, h64_69, enR, LG, LSt, LC, nlR, psR, TK, up_s, up_n, up_u, lt_nI, le_nI, eq_nI, true_and, and_true, if_true, if_false, Nat.zero_add, Nat.add_zero, nI_add, ↓reduceIte, Nat.reduceAdd, Nat.reduceMul, Nat.reduceSub, Nat.reduceLT, Nat.reduceLeDiff, Nat.reduceEqDiff, Nat.not_lt_zero, Nat.lt_irrefl, decide_true, BEq.rfl, nm1, nm2, nm3, nm4, nm9, ngc, eq_self, List.length_cons, List.length_nil, m_asked_ok hr6 q5]
        rw [W1018_17]
        simp (disch := omega) only [W1018, r_4, r_La, r_2, r_Li, h79_1009, r_5, s_43, r_90, s_1, cl_0, r_6, s_0, ci_0, h60_10_5, r_49, r_3, r_Ll, h79_1011, r_26, r_21, s_8, r_In, ci_1, r_52, s_41, ci_4, h79_1002, r_23, r_27, h79_1003, h64_69, enR, LG, LSt, LC, nlR, psR, TK, up_s, up_n, up_u, lt_nI, le_nI, eq_nI, true_and, and_true, if_true, if_false, Nat.zero_add, Nat.add_zero, nI_add, ↓reduceIte, Nat.reduceAdd, Nat.reduceMul, Nat.reduceSub, Nat.reduceLT, Nat.reduceLeDiff, Nat.reduceEqDiff, Nat.not_lt_zero, Nat.lt_irrefl, decide_true, BEq.rfl, nm1, nm2, nm3, nm4, nm9, ngc, eq_self, List.length_cons, List.length_nil, q5, h0, m_meet]
        exact okm (rl_inv (rl_found (k := 4) (by decide) H))
      · have hcap : cap r = 40 := if_pos hr6
        simp (disch := omega) only [W906, r_2, r_Li, h80_948, s_41, s_0, ci_m1, r_90, r_4, r_La, h60_9_0, h60_0_1, ci_1, h79_951, h60_0_2, r_5, ci_4, h79_10, r_26, r_23, r_27, h79_952, h68_1, enR, LG, LSt, LC, nlR, psR, TK, up_s, up_n, up_u, lt_nI, le_nI, eq_nI, true_and, and_true, if_true, if_false, Nat.zero_add, Nat.add_zero, nI_add, ↓reduceIte, Nat.reduceAdd, Nat.reduceMul, Nat.reduceSub, Nat.reduceLT, Nat.reduceLeDiff, Nat.reduceEqDiff, Nat.not_lt_zero, Nat.lt_irrefl, decide_true, BEq.rfl, nm1, nm2, nm3, nm4, nm9, ngc, eq_self, List.length_cons, List.length_nil, c_isRow, hr6, q2, q3, h0, c_sum (show r < 10 by omega) q3 (by omega), c_toldA, nI_nl, lN_z, not_false_eq_true]
        refine okc ?_
        rw [cw_wp]
        simp (disch := omega) only [W1018, r_4, r_La, r_2, r_Li, h79_1009, r_5, s_43, r_90, s_1, cl_0, r_6, s_0, ci_0, h60_10_5, r_49, r_3, r_Ll, h79_1011, r_26, r_21, s_8, r_In, ci_1, r_52, s_41, ci_4, h79_1002, r_23, r_27, h79_1003, h64_69, enR, LG, LSt, LC, nlR, psR, TK, up_s, up_n, up_u, lt_nI, le_nI, eq_nI, true_and, and_true, if_true, if_false, Nat.zero_add, Nat.add_zero, nI_add, ↓reduceIte, Nat.reduceAdd, Nat.reduceMul, Nat.reduceSub, Nat.reduceLT, Nat.reduceLeDiff, Nat.reduceEqDiff, Nat.not_lt_zero, Nat.lt_irrefl, decide_true, BEq.rfl, nm1, nm2, nm3, nm4, nm9, ngc, eq_self, List.length_cons, List.length_nil, m_asked_ok hr6 q5]
        have hfe : foldu (smF fun j => e 70 (40 * r + j)) 0 (n r) (lN 0) = foldu (smF (cc r)) 0 (n r) (lN 0) := foldu_congr _ _ _ (fun j u _ h2 => by
          show u + (e 70 (40 * r + j)).toInt64 = u + (cc r j).toInt64
          rw [q6 j (by omega)])
        rw [lp_mmean hr6 q4 (by omega) q5 (n r) 0 (lN 0) (by omega), hfe]
        exact okm (rl_inv (rl_ask H))
end
/-! copy -/
section
variable {d : Nat} {z : AZ} {f : AH} {Q : Option Value → AZ → AH → Prop} {X : Nat × (Nat → Int32)} {C : CT} {a : Nat → Int32} {b : Nat → Int64} {e : Nat → Nat → Int32} {o : Nat → Nat → Int64}
theorem lp_mcopy2 {r i t j m : Nat} (ht : t < 6) (hj : j + m ≤ 40) : ∀ (p k : Nat) (e : Nat → Nat → Int32) (y : Nat → Int32), k + p = m → (∀ q, y q = if 40 * t + j + k ≤ q ∧ q < 40 * t + j + m then e 71 (q - (40 * t + j)) else e 70 q) → (Wp (d + 2) 1017 136 [some (.ref 67), some (.int (nI r)), some (.int (nI i)), some (.int (nI t)), some (.int (nI j)), some (.int (nI m)), some (.int (nI k))] [] z (Hp X C (a, b, e, o)) Q ↔ Q (some (.int (nI 1))) z (Hp X C (a, b, va_up e 70 y, o))) := by
  intro p
  induction p with
  | zero =>
    intro k e y hk hy
    have hk : k = m := by omega
    subst hk
    have e1 : e 70 = y := by
      funext q
      rw [hy q, if_neg (by omega)]
    rw [W1017_136, up_id e1]
    simp (disch := omega) only [W1017, r_2, r_Li, h80_1007, s_40, s_41, s_0, ci_m1, r_90, s_43, r_4, r_La, ci_5, h79_1002, h60_10_5, s_42, ci_1, r_26, r_21, r_25, s_44, s_45, ci_2, ci_0, r_5, r_49, h60_10_7, r_10, h79_1011, s_8, r_In, r_52, h79_1012, h64_69, h65_69, h64_71, h65_71, enR, LG, LSt, LC, nlR, psR, TK, up_s, up_n, up_u, lt_nI, le_nI, eq_nI, true_and, and_true, if_true, if_false, Nat.zero_add, Nat.add_zero, nI_add, ↓reduceIte, Nat.reduceAdd, Nat.reduceMul, Nat.reduceSub, Nat.reduceLT, Nat.reduceLeDiff, Nat.reduceEqDiff, Nat.not_lt_zero, Nat.lt_irrefl, decide_true, BEq.rfl, nm1, nm2, nm3, nm4, nm9, ngc, eq_self, List.length_cons, List.length_nil]
  | succ p ih =>
    intro k e y hk hy
    have h1 : k < m := by omega
    rw [W1017_136]
    simp (disch := omega) only [W1017, r_2, r_Li, h80_1007, s_40, s_41, s_0, ci_m1, r_90, s_43, r_4, r_La, ci_5, h79_1002, h60_10_5, s_42, ci_1, r_26, r_21, r_25, s_44, s_45, ci_2, ci_0, r_5, r_49, h60_10_7, r_10, h79_1011, s_8, r_In, r_52, h79_1012, h64_69, h65_69, h64_71, h65_71, enR, LG, LSt, LC, nlR, psR, TK, up_s, up_n, up_u, lt_nI, le_nI, eq_nI, true_and, and_true, if_true, if_false, Nat.zero_add, Nat.add_zero, nI_add, ↓reduceIte, Nat.reduceAdd, Nat.reduceMul, Nat.reduceSub, Nat.reduceLT, Nat.reduceLeDiff, Nat.reduceEqDiff, Nat.not_lt_zero, Nat.lt_irrefl, decide_true, BEq.rfl, nm1, nm2, nm3, nm4, nm9, ngc, eq_self, List.length_cons, List.length_nil, h1, m_setRow]
    rw [ih (k + 1) _ y (by omega) (fun q => ?_), up_u]
    rw [hy q, up_s, up_n e _ (show 71 ≠ 70 by decide)]
    by_cases h2 : q = 40 * t + (j + k)
    · subst h2
      rw [if_pos (by omega), if_neg (by omega), ud_s]
      congr 1
      omega
    · rw [ud_n _ _ h2]
      by_cases h3 : 40 * t + j + (k + 1) ≤ q ∧ q < 40 * t + j + m
      · rw [if_pos h3, if_pos (by omega)]
      · rw [if_neg h3, if_neg (by omega)]
theorem lp_mcopy1 {r i t j m : Nat} (hr : r < 6) (ht : t < 6) (hi : i + m ≤ 40) (hj : j + m ≤ 40) {x6 : Option Value} (hQ : ∀ (μ y : Nat → Int32), (∀ q, y q = if 40 * t + j ≤ q ∧ q < 40 * t + j + m then e 70 (40 * r + i + (q - (40 * t + j))) else e 70 q) → Q (some (.int (nI 1))) z (Hp X C (a, b, va_up (va_up e 71 μ) 70 y, o))) : ∀ (p k : Nat) (μ : Nat → Int32), k + p = m → (∀ q, q < k → μ q = e 70 (40 * r + i + q)) → Wp (d + 2) 1017 104 [some (.ref 67), some (.int (nI r)), some (.int (nI i)), some (.int (nI t)), some (.int (nI j)), some (.int (nI m)), some (.int (nI k))] [] z (Hp X C (a, b, va_up e 71 μ, o)) Q := by
  intro p
  induction p with
  | zero =>
    intro k μ hk hμ
    have hk : k = m := by omega
    subst hk
    rw [W1017_104]
    simp (disch := omega) only [W1017, r_2, r_Li, h80_1007, s_40, s_41, s_0, ci_m1, r_90, s_43, r_4, r_La, ci_5, h79_1002, h60_10_5, s_42, ci_1, r_26, r_21, r_25, s_44, s_45, ci_2, ci_0, r_5, r_49, h60_10_7, r_10, h79_1011, s_8, r_In, r_52, h79_1012, h64_69, h65_69, h64_71, h65_71, enR, LG, LSt, LC, nlR, psR, TK, up_s, up_n, up_u, lt_nI, le_nI, eq_nI, true_and, and_true, if_true, if_false, Nat.zero_add, Nat.add_zero, nI_add, ↓reduceIte, Nat.reduceAdd, Nat.reduceMul, Nat.reduceSub, Nat.reduceLT, Nat.reduceLeDiff, Nat.reduceEqDiff, Nat.not_lt_zero, Nat.lt_irrefl, decide_true, BEq.rfl, nm1, nm2, nm3, nm4, nm9, ngc, eq_self, List.length_cons, List.length_nil]
    rw [lp_mcopy2 ht hj k 0 _ (fun q => if 40 * t + j ≤ q ∧ q < 40 * t + j + k then e 70 (40 * r + i + (q - (40 * t + j))) else e 70 q) (by omega) (fun q => ?_)]
    · exact hQ _ _ (fun q => rfl)
    · rw [up_s, up_n e _ (show 70 ≠ 71 by decide), Nat.add_zero]
      by_cases h3 : 40 * t + j ≤ q ∧ q < 40 * t + j + k
      · rw [if_pos h3, if_pos h3, hμ _ (by omega)]
      · rw [if_neg h3, if_neg h3]
  | succ p ih =>
    intro k μ hk hμ
    have h1 : k < m := by omega
    have h2 : k < 40 := by omega
    rw [W1017_104]
    simp (disch := omega) only [W1017, r_2, r_Li, h80_1007, s_40, s_41, s_0, ci_m1, r_90, s_43, r_4, r_La, ci_5, h79_1002, h60_10_5, s_42, ci_1, r_26, r_21, r_25, s_44, s_45, ci_2, ci_0, r_5, r_49, h60_10_7, r_10, h79_1011, s_8, r_In, r_52, h79_1012, h64_69, h65_69, h64_71, h65_71, enR, LG, LSt, LC, nlR, psR, TK, up_s, up_n, up_u, lt_nI, le_nI, eq_nI, true_and, and_true, if_true, if_false, Nat.zero_add, Nat.add_zero, nI_add, ↓reduceIte, Nat.reduceAdd, Nat.reduceMul, Nat.reduceSub, Nat.reduceLT, Nat.reduceLeDiff, Nat.reduceEqDiff, Nat.not_lt_zero, Nat.lt_irrefl, decide_true, BEq.rfl, nm1, nm2, nm3, nm4, nm9, ngc, eq_self, List.length_cons, List.length_nil, h1, h2, m_rowAt, show ((70 : Nat) = 71) = False from eq_false (by decide)]
    refine ih (k + 1) _ (by omega) (fun q hq => ?_)
    by_cases h3 : q = k
    · subst h3
      rw [ud_s]
      congr 1
      omega
    · rw [ud_n _ _ h3]
      exact hμ q (by omega)
end
theorem spn {a i m : Nat} (ha : a ≤ 80) (hi : i < 2147483648) (hm : m < 2147483648) : (if ¬ nI i < nI 0 ∧ ¬ nI a < nI i ∧ ¬ nI a - nI i < nI m then nI 1 else nI 0) = if i + m ≤ a then nI 1 else nI 0 := by
  have key : (¬ nI i < nI 0 ∧ ¬ nI a < nI i ∧ ¬ nI a - nI i < nI m) ↔ i + m ≤ a := by
    constructor
    · rintro ⟨-, h2, h3⟩
      rw [nI_ltI (by omega) hi] at h2
      rw [nI_sub (by omega), nI_ltI (by omega) hm] at h3
      omega
    · intro h
      refine ⟨by rw [nI_ltI hi (by decide)]; omega, by rw [nI_ltI (by omega) hi]; omega, ?_⟩
      rw [nI_sub (by omega), nI_ltI (by omega) hm]
      omega
  by_cases h : i + m ≤ a
  · rw [if_pos h, if_pos (key.mpr h)]
  · rw [if_neg h, if_neg (fun x => h (key.mp x))]
theorem lN_eq63 {a b : Nat} (ha : a < 9223372036854775808) (hb : b < 9223372036854775808) : lN a = lN b ↔ a = b := by
  constructor
  · intro h
    have h1 : (lN a).toInt = (lN b).toInt := by rw [h]
    rw [show (lN a).toInt = (a : Int) from Int64.toInt_ofNat_of_lt (by omega), show (lN b).toInt = (b : Int) from Int64.toInt_ofNat_of_lt (by omega)] at h1
    omega
  · intro h; rw [h]
theorem lcp {x y : Nat} (hx : x < 9223372036854775808) (hy : y < 9223372036854775808) : (nI 0 < (if lN x < lN y then (-1 : Int32) else if lN x = lN y then 0 else 1)) = (y < x) := by
  by_cases h1 : x < y
  · rw [if_pos ((lN_lt63 hx hy).mpr h1)]
    exact propext (iff_of_false (by decide +kernel) (by omega))
  · rw [if_neg (fun h => h1 ((lN_lt63 hx hy).mp h))]
    by_cases h2 : x = y
    · rw [if_pos ((lN_eq63 hx hy).mpr h2)]
      exact propext (iff_of_false (by decide +kernel) (by omega))
    · rw [if_neg (fun h => h2 ((lN_eq63 hx hy).mp h))]
      exact propext (iff_of_true (by decide +kernel) (by omega))
section
variable {t d : Nat} {z : AZ} {X : Nat × (Nat → Int32)} {C : CT} {M : MT} {s : Nat → Int32} {v : Nat → Int64} {g : Nat → Nat → Int32} {w : Nat → Nat → Int64} {q : Nat → Nat} {ct : Nat → Int32} {cn : Nat → Int32} {cc : Nat → Nat → Int32} {di : Nat → Nat → Int32} {dr : Nat → Nat → Int32} {df : Nat → Nat → Int32} {li : Nat → Nat → Int32} {la : Nat → Nat → Nat → Int32} {sf : Nat → Nat → Int32} {sl : Nat → Nat → Int32} {a : Nat → Int32} {b : Nat → Int64} {e : Nat → Nat → Int32} {o : Nat → Nat → Int64} {B : Nat → Bool} {n : Nat → Nat} {P N W : Nat} {K O T J : Nat → Nat} {l : Nat} {Ds : Nat → Nat} {Dr Df Dp : Nat → Nat → Nat} {KB : Nat → Bool}
theorem c_spansN {c m i k : Nat} {Q : Option Value → AZ → AH → Prop} (h : c < 10) (hn : cn c = nI m) (hm : m ≤ 80) (hi : i < 2147483648) (hk : k < 2147483648) : Cw (d + 1) 7 [.ref (co c), .int (nI i), .int (nI k)] z (Hp X (s, v, g, w, q, ct, cn, cc, di, dr, df, li, la, sf, sl) M) Q ↔ Q (some (.int (if i + k ≤ m then nI 1 else nI 0))) z (Hp X (s, v, g, w, q, ct, cn, cc, di, dr, df, li, la, sf, sl) M) := by
  rw [c_spans h hn, spn hm hi hk]
theorem c_spansX {c m : Nat} {x y : Int32} {Q : Option Value → AZ → AH → Prop} (h : c < 10) (hn : cn c = nI m) (hx : x < nI 0) : Cw (d + 1) 7 [.ref (co c), .int x, .int y] z (Hp X (s, v, g, w, q, ct, cn, cc, di, dr, df, li, la, sf, sl) M) Q ↔ Q (some (.int (nI 0))) z (Hp X (s, v, g, w, q, ct, cn, cc, di, dr, df, li, la, sf, sl) M) := by
  rw [c_spans h hn, if_neg (fun e => e.1 hx)]
end
section
variable {t d : Nat} {z : AZ} {X : Nat × (Nat → Int32)} {C : CT} {M : MT} {s : Nat → Int32} {v : Nat → Int64} {g : Nat → Nat → Int32} {w : Nat → Nat → Int64} {q : Nat → Nat} {ct : Nat → Int32} {cn : Nat → Int32} {cc : Nat → Nat → Int32} {di : Nat → Nat → Int32} {dr : Nat → Nat → Int32} {df : Nat → Nat → Int32} {li : Nat → Nat → Int32} {la : Nat → Nat → Nat → Int32} {sf : Nat → Nat → Int32} {sl : Nat → Nat → Int32} {a : Nat → Int32} {b : Nat → Int64} {e : Nat → Nat → Int32} {o : Nat → Nat → Int64} {B : Nat → Bool} {n : Nat → Nat} {P N W : Nat} {K O T J : Nat → Nat} {l : Nat} {Ds : Nat → Nat} {Dr Df Dp : Nat → Nat → Nat} {KB : Nat → Bool}
theorem op_copy {x1 x2 x3 x4 x5 : Int32} (H : RL t z s v g w q ct cn cc di dr df li la sf sl a b e o B n P N W K O T J l Ds Dr Df Dp KB) : OPI (d + 20) 905 1017 [.int x1, .int x2, .int x3, .int x4, .int x5] t z X (s, v, g, w, q, ct, cn, cc, di, dr, df, li, la, sf, sl) (a, b, e, o) := by
  unfold OPI
  rw [cw_wp]
  rcases ix x1 (n := 5) (by decide) with h | ⟨h1, h2, h3⟩ | ⟨r, hr, rfl⟩
  · simp (disch := omega) only [W905, r_2, r_Li, h80_948, s_40, s_41, s_0, ci_m1, r_90, s_43, r_4, r_La, ci_5, h79_951, h60_9_0, h60_0_1, ci_1, h79_7, ci_2, h60_0_0, h81_cc, h81_tc, h81_fc, h81_rr, h81_ff, h68_1, enR, LG, LSt, LC, nlR, psR, TK, up_s, up_n, up_u, lt_nI, le_nI, eq_nI, true_and, and_true, if_true, if_false, Nat.zero_add, Nat.add_zero, nI_add, ↓reduceIte, Nat.reduceAdd, Nat.reduceMul, Nat.reduceSub, Nat.reduceLT, Nat.reduceLeDiff, Nat.reduceEqDiff, Nat.not_lt_zero, Nat.lt_irrefl, decide_true, BEq.rfl, nm1, nm2, nm3, nm4, nm9, ngc, eq_self, List.length_cons, List.length_nil, c_isRow, h]
    refine okc ?_
    rw [cw_wp]
    simp (disch := omega) only [W1017, r_2, r_Li, h80_1007, s_40, s_41, s_0, ci_m1, r_90, s_43, r_4, r_La, ci_5, h79_1002, h60_10_5, s_42, ci_1, r_26, r_21, r_25, s_44, s_45, ci_2, ci_0, r_5, r_49, h60_10_7, r_10, h79_1011, s_8, r_In, r_52, h79_1012, h64_69, h65_69, h64_71, h65_71, enR, LG, LSt, LC, nlR, psR, TK, up_s, up_n, up_u, lt_nI, le_nI, eq_nI, true_and, and_true, if_true, if_false, Nat.zero_add, Nat.add_zero, nI_add, ↓reduceIte, Nat.reduceAdd, Nat.reduceMul, Nat.reduceSub, Nat.reduceLT, Nat.reduceLeDiff, Nat.reduceEqDiff, Nat.not_lt_zero, Nat.lt_irrefl, decide_true, BEq.rfl, nm1, nm2, nm3, nm4, nm9, ngc, eq_self, List.length_cons, List.length_nil, m_isRow, h]
    exact okm (rl_inv (rl_t H))
  · simp (disch := omega) only [W905, r_2, r_Li, h80_948, s_40, s_41, s_0, ci_m1, r_90, s_43, r_4, r_La, ci_5, h79_951, h60_9_0, h60_0_1, ci_1, h79_7, ci_2, h60_0_0, h81_cc, h81_tc, h81_fc, h81_rr, h81_ff, h68_1, enR, LG, LSt, LC, nlR, psR, TK, up_s, up_n, up_u, lt_nI, le_nI, eq_nI, true_and, and_true, if_true, if_false, Nat.zero_add, Nat.add_zero, nI_add, ↓reduceIte, Nat.reduceAdd, Nat.reduceMul, Nat.reduceSub, Nat.reduceLT, Nat.reduceLeDiff, Nat.reduceEqDiff, Nat.not_lt_zero, Nat.lt_irrefl, decide_true, BEq.rfl, nm1, nm2, nm3, nm4, nm9, ngc, eq_self, List.length_cons, List.length_nil, c_isRow, h1, h2]
    refine okc ?_
    rw [cw_wp]
    simp (disch := omega) only [W1017, r_2, r_Li, h80_1007, s_40, s_41, s_0, ci_m1, r_90, s_43, r_4, r_La, ci_5, h79_1002, h60_10_5, s_42, ci_1, r_26, r_21, r_25, s_44, s_45, ci_2, ci_0, r_5, r_49, h60_10_7, r_10, h79_1011, s_8, r_In, r_52, h79_1012, h64_69, h65_69, h64_71, h65_71, enR, LG, LSt, LC, nlR, psR, TK, up_s, up_n, up_u, lt_nI, le_nI, eq_nI, true_and, and_true, if_true, if_false, Nat.zero_add, Nat.add_zero, nI_add, ↓reduceIte, Nat.reduceAdd, Nat.reduceMul, Nat.reduceSub, Nat.reduceLT, Nat.reduceLeDiff, Nat.reduceEqDiff, Nat.not_lt_zero, Nat.lt_irrefl, decide_true, BEq.rfl, nm1, nm2, nm3, nm4, nm9, ngc, eq_self, List.length_cons, List.length_nil, m_isRow, h1, h3]
    exact okm (rl_inv (rl_t H))
  have hr6 : r < 6 := by omega
  have hr5 : ¬ 5 < r := by omega
  rcases ix x3 (n := 5) (by decide) with h | ⟨h1, h2, h3⟩ | ⟨u, hu, rfl⟩
  · simp (disch := omega) only [W905, r_2, r_Li, h80_948, s_40, s_41, s_0, ci_m1, r_90, s_43, r_4, r_La, ci_5, h79_951, h60_9_0, h60_0_1, ci_1, h79_7, ci_2, h60_0_0, h81_cc, h81_tc, h81_fc, h81_rr, h81_ff, h68_1, enR, LG, LSt, LC, nlR, psR, TK, up_s, up_n, up_u, lt_nI, le_nI, eq_nI, true_and, and_true, if_true, if_false, Nat.zero_add, Nat.add_zero, nI_add, ↓reduceIte, Nat.reduceAdd, Nat.reduceMul, Nat.reduceSub, Nat.reduceLT, Nat.reduceLeDiff, Nat.reduceEqDiff, Nat.not_lt_zero, Nat.lt_irrefl, decide_true, BEq.rfl, nm1, nm2, nm3, nm4, nm9, ngc, eq_self, List.length_cons, List.length_nil, c_isRow, hr6, h]
    refine okc ?_
    rw [cw_wp]
    simp (disch := omega) only [W1017, r_2, r_Li, h80_1007, s_40, s_41, s_0, ci_m1, r_90, s_43, r_4, r_La, ci_5, h79_1002, h60_10_5, s_42, ci_1, r_26, r_21, r_25, s_44, s_45, ci_2, ci_0, r_5, r_49, h60_10_7, r_10, h79_1011, s_8, r_In, r_52, h79_1012, h64_69, h65_69, h64_71, h65_71, enR, LG, LSt, LC, nlR, psR, TK, up_s, up_n, up_u, lt_nI, le_nI, eq_nI, true_and, and_true, if_true, if_false, Nat.zero_add, Nat.add_zero, nI_add, ↓reduceIte, Nat.reduceAdd, Nat.reduceMul, Nat.reduceSub, Nat.reduceLT, Nat.reduceLeDiff, Nat.reduceEqDiff, Nat.not_lt_zero, Nat.lt_irrefl, decide_true, BEq.rfl, nm1, nm2, nm3, nm4, nm9, ngc, eq_self, List.length_cons, List.length_nil, m_isRow, hr5, h]
    exact okm (rl_inv (rl_t H))
  · simp (disch := omega) only [W905, r_2, r_Li, h80_948, s_40, s_41, s_0, ci_m1, r_90, s_43, r_4, r_La, ci_5, h79_951, h60_9_0, h60_0_1, ci_1, h79_7, ci_2, h60_0_0, h81_cc, h81_tc, h81_fc, h81_rr, h81_ff, h68_1, enR, LG, LSt, LC, nlR, psR, TK, up_s, up_n, up_u, lt_nI, le_nI, eq_nI, true_and, and_true, if_true, if_false, Nat.zero_add, Nat.add_zero, nI_add, ↓reduceIte, Nat.reduceAdd, Nat.reduceMul, Nat.reduceSub, Nat.reduceLT, Nat.reduceLeDiff, Nat.reduceEqDiff, Nat.not_lt_zero, Nat.lt_irrefl, decide_true, BEq.rfl, nm1, nm2, nm3, nm4, nm9, ngc, eq_self, List.length_cons, List.length_nil, c_isRow, hr6, h1, h2]
    refine okc ?_
    rw [cw_wp]
    simp (disch := omega) only [W1017, r_2, r_Li, h80_1007, s_40, s_41, s_0, ci_m1, r_90, s_43, r_4, r_La, ci_5, h79_1002, h60_10_5, s_42, ci_1, r_26, r_21, r_25, s_44, s_45, ci_2, ci_0, r_5, r_49, h60_10_7, r_10, h79_1011, s_8, r_In, r_52, h79_1012, h64_69, h65_69, h64_71, h65_71, enR, LG, LSt, LC, nlR, psR, TK, up_s, up_n, up_u, lt_nI, le_nI, eq_nI, true_and, and_true, if_true, if_false, Nat.zero_add, Nat.add_zero, nI_add, ↓reduceIte, Nat.reduceAdd, Nat.reduceMul, Nat.reduceSub, Nat.reduceLT, Nat.reduceLeDiff, Nat.reduceEqDiff, Nat.not_lt_zero, Nat.lt_irrefl, decide_true, BEq.rfl, nm1, nm2, nm3, nm4, nm9, ngc, eq_self, List.length_cons, List.length_nil, m_isRow, hr5, h1, h3]
    exact okm (rl_inv (rl_t H))
  have hu6 : u < 6 := by omega
  have hu5 : ¬ 5 < u := by omega
  by_cases h5 : x5 < nI 0
  · simp (disch := omega) only [W905, r_2, r_Li, h80_948, s_40, s_41, s_0, ci_m1, r_90, s_43, r_4, r_La, ci_5, h79_951, h60_9_0, h60_0_1, ci_1, h79_7, ci_2, h60_0_0, h81_cc, h81_tc, h81_fc, h81_rr, h81_ff, h68_1, enR, LG, LSt, LC, nlR, psR, TK, up_s, up_n, up_u, lt_nI, le_nI, eq_nI, true_and, and_true, if_true, if_false, Nat.zero_add, Nat.add_zero, nI_add, ↓reduceIte, Nat.reduceAdd, Nat.reduceMul, Nat.reduceSub, Nat.reduceLT, Nat.reduceLeDiff, Nat.reduceEqDiff, Nat.not_lt_zero, Nat.lt_irrefl, decide_true, BEq.rfl, nm1, nm2, nm3, nm4, nm9, ngc, eq_self, List.length_cons, List.length_nil, c_isRow, hr6, hu6, h5, c_found]
    refine okc ?_
    rw [cw_wp]
    simp (disch := omega) only [W1017, r_2, r_Li, h80_1007, s_40, s_41, s_0, ci_m1, r_90, s_43, r_4, r_La, ci_5, h79_1002, h60_10_5, s_42, ci_1, r_26, r_21, r_25, s_44, s_45, ci_2, ci_0, r_5, r_49, h60_10_7, r_10, h79_1011, s_8, r_In, r_52, h79_1012, h64_69, h65_69, h64_71, h65_71, enR, LG, LSt, LC, nlR, psR, TK, up_s, up_n, up_u, lt_nI, le_nI, eq_nI, true_and, and_true, if_true, if_false, Nat.zero_add, Nat.add_zero, nI_add, ↓reduceIte, Nat.reduceAdd, Nat.reduceMul, Nat.reduceSub, Nat.reduceLT, Nat.reduceLeDiff, Nat.reduceEqDiff, Nat.not_lt_zero, Nat.lt_irrefl, decide_true, BEq.rfl, nm1, nm2, nm3, nm4, nm9, ngc, eq_self, List.length_cons, List.length_nil, m_isRow, hr5, hu5, h5, m_meet]
    exact okm (rl_inv (rl_found (k := 5) (by decide) H))
  obtain ⟨m, hm, rfl⟩ := nI_of' h5
  rcases rl_r H hr6 with ⟨q1, q2, q3, q4, q5⟩ | ⟨q1, q2, q3, q4, q5, q6⟩
  · simp (disch := omega) only [W905, r_2, r_Li, h80_948, s_40, s_41, s_0, ci_m1, r_90, s_43, r_4, r_La, ci_5, h79_951, h60_9_0, h60_0_1, ci_1, h79_7, ci_2, h60_0_0, h81_cc, h81_tc, h81_fc, h81_rr, h81_ff, h68_1, enR, LG, LSt, LC, nlR, psR, TK, up_s, up_n, up_u, lt_nI, le_nI, eq_nI, true_and, and_true, if_true, if_false, Nat.zero_add, Nat.add_zero, nI_add, ↓reduceIte, Nat.reduceAdd, Nat.reduceMul, Nat.reduceSub, Nat.reduceLT, Nat.reduceLeDiff, Nat.reduceEqDiff, Nat.not_lt_zero, Nat.lt_irrefl, decide_true, BEq.rfl, nm1, nm2, nm3, nm4, nm9, ngc, eq_self, List.length_cons, List.length_nil, c_isRow, hr6, hu6, q2, c_found]
    refine okc ?_
    rw [cw_wp]
    simp (disch := omega) only [W1017, r_2, r_Li, h80_1007, s_40, s_41, s_0, ci_m1, r_90, s_43, r_4, r_La, ci_5, h79_1002, h60_10_5, s_42, ci_1, r_26, r_21, r_25, s_44, s_45, ci_2, ci_0, r_5, r_49, h60_10_7, r_10, h79_1011, s_8, r_In, r_52, h79_1012, h64_69, h65_69, h64_71, h65_71, enR, LG, LSt, LC, nlR, psR, TK, up_s, up_n, up_u, lt_nI, le_nI, eq_nI, true_and, and_true, if_true, if_false, Nat.zero_add, Nat.add_zero, nI_add, ↓reduceIte, Nat.reduceAdd, Nat.reduceMul, Nat.reduceSub, Nat.reduceLT, Nat.reduceLeDiff, Nat.reduceEqDiff, Nat.not_lt_zero, Nat.lt_irrefl, decide_true, BEq.rfl, nm1, nm2, nm3, nm4, nm9, ngc, eq_self, List.length_cons, List.length_nil, m_isRow, hr5, hu5, q5, m_meet]
    exact okm (rl_inv (rl_found (k := 1) (by decide) H))
  rcases rl_r H hu6 with ⟨p1, p2, p3, p4, p5⟩ | ⟨p1, p2, p3, p4, p5, p6⟩
  · simp (disch := omega) only [W905, r_2, r_Li, h80_948, s_40, s_41, s_0, ci_m1, r_90, s_43, r_4, r_La, ci_5, h79_951, h60_9_0, h60_0_1, ci_1, h79_7, ci_2, h60_0_0, h81_cc, h81_tc, h81_fc, h81_rr, h81_ff, h68_1, enR, LG, LSt, LC, nlR, psR, TK, up_s, up_n, up_u, lt_nI, le_nI, eq_nI, true_and, and_true, if_true, if_false, Nat.zero_add, Nat.add_zero, nI_add, ↓reduceIte, Nat.reduceAdd, Nat.reduceMul, Nat.reduceSub, Nat.reduceLT, Nat.reduceLeDiff, Nat.reduceEqDiff, Nat.not_lt_zero, Nat.lt_irrefl, decide_true, BEq.rfl, nm1, nm2, nm3, nm4, nm9, ngc, eq_self, List.length_cons, List.length_nil, c_isRow, hr6, hu6, q2, p2, c_found]
    refine okc ?_
    rw [cw_wp]
    simp (disch := omega) only [W1017, r_2, r_Li, h80_1007, s_40, s_41, s_0, ci_m1, r_90, s_43, r_4, r_La, ci_5, h79_1002, h60_10_5, s_42, ci_1, r_26, r_21, r_25, s_44, s_45, ci_2, ci_0, r_5, r_49, h60_10_7, r_10, h79_1011, s_8, r_In, r_52, h79_1012, h64_69, h65_69, h64_71, h65_71, enR, LG, LSt, LC, nlR, psR, TK, up_s, up_n, up_u, lt_nI, le_nI, eq_nI, true_and, and_true, if_true, if_false, Nat.zero_add, Nat.add_zero, nI_add, ↓reduceIte, Nat.reduceAdd, Nat.reduceMul, Nat.reduceSub, Nat.reduceLT, Nat.reduceLeDiff, Nat.reduceEqDiff, Nat.not_lt_zero, Nat.lt_irrefl, decide_true, BEq.rfl, nm1, nm2, nm3, nm4, nm9, ngc, eq_self, List.length_cons, List.length_nil, m_isRow, hr5, hu5, q5, p5, m_meet]
    exact okm (rl_inv (rl_found (k := 1) (by decide) H))
  have s1 : r < 10 := by omega
  have s2 : u < 10 := by omega
  have s3 : n r ≤ 80 := by omega
  have s4 : n u ≤ 80 := by omega
  by_cases h2 : x2 < nI 0
  · simp (disch := omega) only [W905, r_2, r_Li, h80_948, s_40, s_41, s_0, ci_m1, r_90, s_43, r_4, r_La, ci_5, h79_951, h60_9_0, h60_0_1, ci_1, h79_7, ci_2, h60_0_0, h81_cc, h81_tc, h81_fc, h81_rr, h81_ff, h68_1, enR, LG, LSt, LC, nlR, psR, TK, up_s, up_n, up_u, lt_nI, le_nI, eq_nI, true_and, and_true, if_true, if_false, Nat.zero_add, Nat.add_zero, nI_add, ↓reduceIte, Nat.reduceAdd, Nat.reduceMul, Nat.reduceSub, Nat.reduceLT, Nat.reduceLeDiff, Nat.reduceEqDiff, Nat.not_lt_zero, Nat.lt_irrefl, decide_true, BEq.rfl, nm1, nm2, nm3, nm4, nm9, ngc, eq_self, List.length_cons, List.length_nil, c_isRow, hr6, hu6, q2, p2, h2, c_spansX s1 q3 h2, c_found]
    refine okc ?_
    rw [cw_wp]
    simp (disch := omega) only [W1017, r_2, r_Li, h80_1007, s_40, s_41, s_0, ci_m1, r_90, s_43, r_4, r_La, ci_5, h79_1002, h60_10_5, s_42, ci_1, r_26, r_21, r_25, s_44, s_45, ci_2, ci_0, r_5, r_49, h60_10_7, r_10, h79_1011, s_8, r_In, r_52, h79_1012, h64_69, h65_69, h64_71, h65_71, enR, LG, LSt, LC, nlR, psR, TK, up_s, up_n, up_u, lt_nI, le_nI, eq_nI, true_and, and_true, if_true, if_false, Nat.zero_add, Nat.add_zero, nI_add, ↓reduceIte, Nat.reduceAdd, Nat.reduceMul, Nat.reduceSub, Nat.reduceLT, Nat.reduceLeDiff, Nat.reduceEqDiff, Nat.not_lt_zero, Nat.lt_irrefl, decide_true, BEq.rfl, nm1, nm2, nm3, nm4, nm9, ngc, eq_self, List.length_cons, List.length_nil, m_isRow, hr5, hu5, q5, p5, h2, m_meet]
    exact okm (rl_inv (rl_found (k := 2) (by decide) H))
  obtain ⟨i, hi, rfl⟩ := nI_of' h2
  by_cases h6 : i + m ≤ n r
  · by_cases h4 : x4 < nI 0
    · simp (disch := omega) only [W905, r_2, r_Li, h80_948, s_40, s_41, s_0, ci_m1, r_90, s_43, r_4, r_La, ci_5, h79_951, h60_9_0, h60_0_1, ci_1, h79_7, ci_2, h60_0_0, h81_cc, h81_tc, h81_fc, h81_rr, h81_ff, h68_1, enR, LG, LSt, LC, nlR, psR, TK, up_s, up_n, up_u, lt_nI, le_nI, eq_nI, true_and, and_true, if_true, if_false, Nat.zero_add, Nat.add_zero, nI_add, ↓reduceIte, Nat.reduceAdd, Nat.reduceMul, Nat.reduceSub, Nat.reduceLT, Nat.reduceLeDiff, Nat.reduceEqDiff, Nat.not_lt_zero, Nat.lt_irrefl, decide_true, BEq.rfl, nm1, nm2, nm3, nm4, nm9, ngc, eq_self, List.length_cons, List.length_nil, c_isRow, hr6, hu6, q2, p2, c_spansN s1 q3 s3 hi hm, h6, h4, c_spansX s2 p3 h4, c_found]
      refine okc ?_
      rw [cw_wp]
      simp (disch := omega) only [W1017, r_2, r_Li, h80_1007, s_40, s_41, s_0, ci_m1, r_90, s_43, r_4, r_La, ci_5, h79_1002, h60_10_5, s_42, ci_1, r_26, r_21, r_25, s_44, s_45, ci_2, ci_0, r_5, r_49, h60_10_7, r_10, h79_1011, s_8, r_In, r_52, h79_1012, h64_69, h65_69, h64_71, h65_71, enR, LG, LSt, LC, nlR, psR, TK, up_s, up_n, up_u, lt_nI, le_nI, eq_nI, true_and, and_true, if_true, if_false, Nat.zero_add, Nat.add_zero, nI_add, ↓reduceIte, Nat.reduceAdd, Nat.reduceMul, Nat.reduceSub, Nat.reduceLT, Nat.reduceLeDiff, Nat.reduceEqDiff, Nat.not_lt_zero, Nat.lt_irrefl, decide_true, BEq.rfl, nm1, nm2, nm3, nm4, nm9, ngc, eq_self, List.length_cons, List.length_nil, m_isRow, hr5, hu5, q5, p5, h4, m_meet]
      exact okm (rl_inv (rl_found (k := 2) (by decide) H))
    obtain ⟨j, hj, rfl⟩ := nI_of' h4
    by_cases h7 : j + m ≤ n u
    · have c1 : cap r = 40 := if_pos hr6
      have c2 : cap u = 40 := if_pos hu6
      have h8 : ¬ n r < i + m := by omega
      have h9 : ¬ n u < j + m := by omega
      simp (disch := omega) only [W905, r_2, r_Li, h80_948, s_40, s_41, s_0, ci_m1, r_90, s_43, r_4, r_La, ci_5, h79_951, h60_9_0, h60_0_1, ci_1, h79_7, ci_2, h60_0_0, h81_cc, h81_tc, h81_fc, h81_rr, h81_ff, h68_1, enR, LG, LSt, LC, nlR, psR, TK, up_s, up_n, up_u, lt_nI, le_nI, eq_nI, true_and, and_true, if_true, if_false, Nat.zero_add, Nat.add_zero, nI_add, ↓reduceIte, Nat.reduceAdd, Nat.reduceMul, Nat.reduceSub, Nat.reduceLT, Nat.reduceLeDiff, Nat.reduceEqDiff, Nat.not_lt_zero, Nat.lt_irrefl, decide_true, BEq.rfl, nm1, nm2, nm3, nm4, nm9, ngc, eq_self, List.length_cons, List.length_nil, c_isRow, hr6, hu6, q2, p2, c_spansN s1 q3 s3 hi hm, c_spansN s2 p3 s4 hj hm, h6, h7, c1, c2]
      refine okc ?_
      rw [cw_wp]
      simp (disch := omega) only [W1017, r_2, r_Li, h80_1007, s_40, s_41, s_0, ci_m1, r_90, s_43, r_4, r_La, ci_5, h79_1002, h60_10_5, s_42, ci_1, r_26, r_21, r_25, s_44, s_45, ci_2, ci_0, r_5, r_49, h60_10_7, r_10, h79_1011, s_8, r_In, r_52, h79_1012, h64_69, h65_69, h64_71, h65_71, enR, LG, LSt, LC, nlR, psR, TK, up_s, up_n, up_u, lt_nI, le_nI, eq_nI, true_and, and_true, if_true, if_false, Nat.zero_add, Nat.add_zero, nI_add, ↓reduceIte, Nat.reduceAdd, Nat.reduceMul, Nat.reduceSub, Nat.reduceLT, Nat.reduceLeDiff, Nat.reduceEqDiff, Nat.not_lt_zero, Nat.lt_irrefl, decide_true, BEq.rfl, nm1, nm2, nm3, nm4, nm9, ngc, eq_self, List.length_cons, List.length_nil, m_isRow, hr5, hu5, q5, p5, nI_nl, lN_add, lcp, h8, h9]
      have := lp_mcopy1 (d := d + 17) (z := z) (Q := OKm (nI 1) t X (s, v, g, w, q, ct, cn, va_up cc u (va_cpy (cc r) (cc u) i j m), di, dr, df, li, la, sf, sl)) (X := X) (C := (s, v, g, w, q, ct, cn, va_up cc u (va_cpy (cc r) (cc u) i j m), di, dr, df, li, la, sf, sl)) (a := a) (b := b) (e := e) (o := o) (r := r) (i := i) (t := u) (j := j) (m := m) (x6 := none) hr6 hu6 (by omega) (by omega) (fun μ y hy => okm (rl_inv (rl_row1 (e := va_up e 71 μ) H (ic_set H.2.1 hu6 (fun p hp => ?_) (fun p hp => ?_))))) m 0 (e 71) (by omega) (fun q hq => absurd hq (by omega))
      · rw [up_id rfl] at this
        exact this
      · rw [hy]
        show _ = va_cpy (cc r) (cc u) i j m p
        unfold va_cpy
        by_cases h10 : j ≤ p ∧ p < j + m
        · rw [if_pos (by omega), if_pos h10, ← q6 _ (by omega)]
          congr 1
          omega
        · rw [if_neg (by omega), if_neg h10]
          exact p6 p hp
      · rw [hy, if_neg (by omega)]
    · have h8 : ¬ n r < i + m := by omega
      have h9 : n u < j + m := by omega
      simp (disch := omega) only [W905, r_2, r_Li, h80_948, s_40, s_41, s_0, ci_m1, r_90, s_43, r_4, r_La, ci_5, h79_951, h60_9_0, h60_0_1, ci_1, h79_7, ci_2, h60_0_0, h81_cc, h81_tc, h81_fc, h81_rr, h81_ff, h68_1, enR, LG, LSt, LC, nlR, psR, TK, up_s, up_n, up_u, lt_nI, le_nI, eq_nI, true_and, and_true, if_true, if_false, Nat.zero_add, Nat.add_zero, nI_add, ↓reduceIte, Nat.reduceAdd, Nat.reduceMul, Nat.reduceSub, Nat.reduceLT, Nat.reduceLeDiff, Nat.reduceEqDiff, Nat.not_lt_zero, Nat.lt_irrefl, decide_true, BEq.rfl, nm1, nm2, nm3, nm4, nm9, ngc, eq_self, List.length_cons, List.length_nil, c_isRow, hr6, hu6, q2, p2, c_spansN s1 q3 s3 hi hm, c_spansN s2 p3 s4 hj hm, h6, h7, c_found]
      refine okc ?_
      rw [cw_wp]
      simp (disch := omega) only [W1017, r_2, r_Li, h80_1007, s_40, s_41, s_0, ci_m1, r_90, s_43, r_4, r_La, ci_5, h79_1002, h60_10_5, s_42, ci_1, r_26, r_21, r_25, s_44, s_45, ci_2, ci_0, r_5, r_49, h60_10_7, r_10, h79_1011, s_8, r_In, r_52, h79_1012, h64_69, h65_69, h64_71, h65_71, enR, LG, LSt, LC, nlR, psR, TK, up_s, up_n, up_u, lt_nI, le_nI, eq_nI, true_and, and_true, if_true, if_false, Nat.zero_add, Nat.add_zero, nI_add, ↓reduceIte, Nat.reduceAdd, Nat.reduceMul, Nat.reduceSub, Nat.reduceLT, Nat.reduceLeDiff, Nat.reduceEqDiff, Nat.not_lt_zero, Nat.lt_irrefl, decide_true, BEq.rfl, nm1, nm2, nm3, nm4, nm9, ngc, eq_self, List.length_cons, List.length_nil, m_isRow, hr5, hu5, q5, p5, nI_nl, lN_add, lcp, h8, h9, m_meet]
      exact okm (rl_inv (rl_found (k := 2) (by decide) H))
  · have h8 : n r < i + m := by omega
    simp (disch := omega) only [W905, r_2, r_Li, h80_948, s_40, s_41, s_0, ci_m1, r_90, s_43, r_4, r_La, ci_5, h79_951, h60_9_0, h60_0_1, ci_1, h79_7, ci_2, h60_0_0, h81_cc, h81_tc, h81_fc, h81_rr, h81_ff, h68_1, enR, LG, LSt, LC, nlR, psR, TK, up_s, up_n, up_u, lt_nI, le_nI, eq_nI, true_and, and_true, if_true, if_false, Nat.zero_add, Nat.add_zero, nI_add, ↓reduceIte, Nat.reduceAdd, Nat.reduceMul, Nat.reduceSub, Nat.reduceLT, Nat.reduceLeDiff, Nat.reduceEqDiff, Nat.not_lt_zero, Nat.lt_irrefl, decide_true, BEq.rfl, nm1, nm2, nm3, nm4, nm9, ngc, eq_self, List.length_cons, List.length_nil, c_isRow, hr6, hu6, q2, p2, c_spansN s1 q3 s3 hi hm, h6, c_found]
    refine okc ?_
    rw [cw_wp]
    by_cases h4 : x4 < nI 0
    · simp (disch := omega) only [W1017, r_2, r_Li, h80_1007, s_40, s_41, s_0, ci_m1, r_90, s_43, r_4, r_La, ci_5, h79_1002, h60_10_5, s_42, ci_1, r_26, r_21, r_25, s_44, s_45, ci_2, ci_0, r_5, r_49, h60_10_7, r_10, h79_1011, s_8, r_In, r_52, h79_1012, h64_69, h65_69, h64_71, h65_71, enR, LG, LSt, LC, nlR, psR, TK, up_s, up_n, up_u, lt_nI, le_nI, eq_nI, true_and, and_true, if_true, if_false, Nat.zero_add, Nat.add_zero, nI_add, ↓reduceIte, Nat.reduceAdd, Nat.reduceMul, Nat.reduceSub, Nat.reduceLT, Nat.reduceLeDiff, Nat.reduceEqDiff, Nat.not_lt_zero, Nat.lt_irrefl, decide_true, BEq.rfl, nm1, nm2, nm3, nm4, nm9, ngc, eq_self, List.length_cons, List.length_nil, m_isRow, hr5, hu5, q5, p5, h4, m_meet]
      exact okm (rl_inv (rl_found (k := 2) (by decide) H))
    · simp (disch := omega) only [W1017, r_2, r_Li, h80_1007, s_40, s_41, s_0, ci_m1, r_90, s_43, r_4, r_La, ci_5, h79_1002, h60_10_5, s_42, ci_1, r_26, r_21, r_25, s_44, s_45, ci_2, ci_0, r_5, r_49, h60_10_7, r_10, h79_1011, s_8, r_In, r_52, h79_1012, h64_69, h65_69, h64_71, h65_71, enR, LG, LSt, LC, nlR, psR, TK, up_s, up_n, up_u, lt_nI, le_nI, eq_nI, true_and, and_true, if_true, if_false, Nat.zero_add, Nat.add_zero, nI_add, ↓reduceIte, Nat.reduceAdd, Nat.reduceMul, Nat.reduceSub, Nat.reduceLT, Nat.reduceLeDiff, Nat.reduceEqDiff, Nat.not_lt_zero, Nat.lt_irrefl, decide_true, BEq.rfl, nm1, nm2, nm3, nm4, nm9, ngc, eq_self, List.length_cons, List.length_nil, m_isRow, hr5, hu5, q5, p5, h4, nI_nl, lN_add, lcp, h8, m_meet]
      exact okm (rl_inv (rl_found (k := 2) (by decide) H))
end

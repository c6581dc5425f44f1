/-! apart, unlike -/
section
variable {t d : Nat} {z : AZ} {X : Nat × (Nat → Int32)} {C : CT} {M : MT} {s : Nat → Int32} {v : Nat → Int64} {g : Nat → Nat → Int32} {w : Nat → Nat → Int64} {q : Nat → Nat} {ct : Nat → Int32} {cn : Nat → Int32} {cc : Nat → Nat → Int32} {di : Nat → Nat → Int32} {dr : Nat → Nat → Int32} {df : Nat → Nat → Int32} {li : Nat → Nat → Int32} {la : Nat → Nat → Nat → Int32} {sf : Nat → Nat → Int32} {sl : Nat → Nat → Int32} {a : Nat → Int32} {b : Nat → Int64} {e : Nat → Nat → Int32} {o : Nat → Nat → Int64} {B : Nat → Bool} {n : Nat → Nat} {P N W : Nat} {K O T J : Nat → Nat} {l : Nat} {Ds : Nat → Nat} {Dr Df Dp : Nat → Nat → Nat} {KB : Nat → Bool}
/-- what telling apart changes -/
theorem rl_tell {s' : Nat → Int32} {g' : Nat → Nat → Int32} {a' : Nat → Int32} {e' : Nat → Nat → Int32} {γ : Nat → Int32} {mk m : Nat} (H : RL t z s v g w q ct cn cc di dr df li la sf sl a b e o B n P N W K O T J l Ds Dr Df Dp KB) (hs : FRs s s') (hg : FRg g g') (ha : FRa a a') (he : FRe (va_up e 83 γ) e') (h30 : a' 30 = nI mk) (hmk : mk ≤ 1000 * (t + 1)) (h84 : ∀ w, w < 16384 → ∃ v, v ≤ mk ∧ e' 84 w = nI v) : RL (t + 1) z (s') v (g') w q ct cn cc di dr df li la sf sl (a') b (e') o B n P N W K O T J l Ds Dr Df Dp KB := by
  have e68 : ∀ k, k ≠ 83 → k ≠ 84 → k ≠ 85 → e' k = e k := fun k k1 k2 k3 => by rw [he k k2 k3, up_n _ _ k1]
  obtain ⟨⟨h1, h11, h12, h13, h14⟩, h2, h3, h4, h5, h6, h7⟩ := H
  refine ⟨?_, ?_, ?_, ?_, h5, h6, mk, h30, hmk, h84⟩
  · refine ⟨?_, ?_, h12, h13, ?_⟩
    · rw [hs 18 (by decide) (by decide), ha 0 (by decide) (by decide)]; exact h1
    · rw [hs 15 (by decide) (by decide), ha 2 (by decide) (by decide)]; exact h11
    · rw [hg 32 (by decide) (by decide) (by decide), e68 68 (by decide) (by decide) (by decide)]; exact h14
  · rw [e68 69 (by decide) (by decide) (by decide), e68 70 (by decide) (by decide) (by decide), e68 72 (by decide) (by decide) (by decide), e68 73 (by decide) (by decide) (by decide)]; exact h2
  · obtain ⟨f1, f2, f3, f4, f5, f6, ⟨m1, m2, m3, m4⟩, f8⟩ := h3
    refine ⟨f1, f2, f3, f4, f5, ?_, ⟨?_, ?_, ?_, ?_⟩, f8⟩
    · rw [hs 14 (by decide) (by decide)]; exact f6
    · rw [ha 10 (by decide) (by decide)]; exact m1
    · rw [ha 11 (by decide) (by decide)]; exact m2
    · rw [ha 12 (by decide) (by decide)]; exact m3
    · rw [e68 74 (by decide) (by decide) (by decide)]; exact m4
  · rw [ha 17 (by decide) (by decide), ha 18 (by decide) (by decide), e68 75 (by decide) (by decide) (by decide), e68 76 (by decide) (by decide) (by decide), e68 77 (by decide) (by decide) (by decide), e68 78 (by decide) (by decide) (by decide)]; exact h4
theorem rl_ask0 {x : Int32} (H : RL t z s v g w q ct cn cc di dr df li la sf sl a b e o B n P N W K O T J l Ds Dr Df Dp KB) : RL t z (va_up s 15 x) v g w q ct cn cc di dr df li la sf sl (va_up a 2 x) b e o B n P N W K O T J l Ds Dr Df Dp KB := by
  obtain ⟨⟨h1, h11, h12, h13, h14⟩, h2, h3, h4, h5, h6, h7⟩ := H
  exact ⟨⟨h1, rfl, h12, h13, h14⟩, h2, h3, h4, h5, h6, h7⟩
theorem op_apart {x y : Int32} (H : RL t z s v g w q ct cn cc di dr df li la sf sl a b e o B n P N W K O T J l Ds Dr Df Dp KB) (ht : t < 1000000) : OPI (d + 20) 930 1066 [.int x, .int y] t z X (s, v, g, w, q, ct, cn, cc, di, dr, df, li, la, sf, sl) (a, b, e, o) := by
  obtain ⟨hb, hl, hq, hC, hs, hM, hS⟩ := rl_land H
  have hP := hb.1
  have h7 := pow_le7 hP
  unfold OPI
  rw [cw_wp]
  rcases ixN x (show P ≤ 80 by omega) with h | ⟨h1, h2, h3⟩ | ⟨p, hp, rfl⟩
  · simp (disch := omega) only [W930, r_4, r_La, h60_9_12, r_2, r_Li, h79_303, s_40, s_41, s_0, ci_m1, r_90, h60_9_9, h60_9_5, h79_401, r_5, ci_m9, r_46, h60_4_2, r_52, h61_9_15, enR, LG, LSt, LC, nlR, psR, TK, up_s, up_n, up_u, lt_nI, le_nI, eq_nI, true_and, and_true, if_true, if_false, Nat.zero_add, Nat.add_zero, nI_add, ↓reduceIte, Nat.reduceAdd, Nat.reduceMul, Nat.reduceSub, Nat.reduceLT, Nat.reduceLeDiff, Nat.reduceEqDiff, Nat.not_lt_zero, Nat.lt_irrefl, decide_true, BEq.rfl, nm1, nm2, nm3, nm4, nm9, ngc, eq_self, List.length_cons, List.length_nil, hq, c_hasPlace hl hC, h]
    refine okc ?_
    rw [cw_wp]
    simp (disch := omega) only [W1066, r_4, r_La, r_2, r_Li, h79_1029, s_40, s_41, s_0, ci_m1, r_90, h79_1064, h79_1065, r_5, ci_m9, r_47, r_52, h60_10_31, h79_1003, enR, LG, LSt, LC, nlR, psR, TK, up_s, up_n, up_u, lt_nI, le_nI, eq_nI, true_and, and_true, if_true, if_false, Nat.zero_add, Nat.add_zero, nI_add, ↓reduceIte, Nat.reduceAdd, Nat.reduceMul, Nat.reduceSub, Nat.reduceLT, Nat.reduceLeDiff, Nat.reduceEqDiff, Nat.not_lt_zero, Nat.lt_irrefl, decide_true, BEq.rfl, nm1, nm2, nm3, nm4, nm9, ngc, eq_self, List.length_cons, List.length_nil, m_isPlace hM, h]
    exact okm (rl_inv (rl_t H))
  · simp (disch := omega) only [W930, r_4, r_La, h60_9_12, r_2, r_Li, h79_303, s_40, s_41, s_0, ci_m1, r_90, h60_9_9, h60_9_5, h79_401, r_5, ci_m9, r_46, h60_4_2, r_52, h61_9_15, enR, LG, LSt, LC, nlR, psR, TK, up_s, up_n, up_u, lt_nI, le_nI, eq_nI, true_and, and_true, if_true, if_false, Nat.zero_add, Nat.add_zero, nI_add, ↓reduceIte, Nat.reduceAdd, Nat.reduceMul, Nat.reduceSub, Nat.reduceLT, Nat.reduceLeDiff, Nat.reduceEqDiff, Nat.not_lt_zero, Nat.lt_irrefl, decide_true, BEq.rfl, nm1, nm2, nm3, nm4, nm9, ngc, eq_self, List.length_cons, List.length_nil, hq, c_hasPlace hl hC, h1, h2]
    refine okc ?_
    rw [cw_wp]
    simp (disch := omega) only [W1066, r_4, r_La, r_2, r_Li, h79_1029, s_40, s_41, s_0, ci_m1, r_90, h79_1064, h79_1065, r_5, ci_m9, r_47, r_52, h60_10_31, h79_1003, enR, LG, LSt, LC, nlR, psR, TK, up_s, up_n, up_u, lt_nI, le_nI, eq_nI, true_and, and_true, if_true, if_false, Nat.zero_add, Nat.add_zero, nI_add, ↓reduceIte, Nat.reduceAdd, Nat.reduceMul, Nat.reduceSub, Nat.reduceLT, Nat.reduceLeDiff, Nat.reduceEqDiff, Nat.not_lt_zero, Nat.lt_irrefl, decide_true, BEq.rfl, nm1, nm2, nm3, nm4, nm9, ngc, eq_self, List.length_cons, List.length_nil, m_isPlace hM, h1, h3]
    exact okm (rl_inv (rl_t H))
  have hp2 := nsub (show P < 65536 by omega) hp
  rcases ixN y (show P ≤ 80 by omega) with h | ⟨h1, h2, h3⟩ | ⟨p', hp', rfl⟩
  · simp (disch := omega) only [W930, r_4, r_La, h60_9_12, r_2, r_Li, h79_303, s_40, s_41, s_0, ci_m1, r_90, h60_9_9, h60_9_5, h79_401, r_5, ci_m9, r_46, h60_4_2, r_52, h61_9_15, enR, LG, LSt, LC, nlR, psR, TK, up_s, up_n, up_u, lt_nI, le_nI, eq_nI, true_and, and_true, if_true, if_false, Nat.zero_add, Nat.add_zero, nI_add, ↓reduceIte, Nat.reduceAdd, Nat.reduceMul, Nat.reduceSub, Nat.reduceLT, Nat.reduceLeDiff, Nat.reduceEqDiff, Nat.not_lt_zero, Nat.lt_irrefl, decide_true, BEq.rfl, nm1, nm2, nm3, nm4, nm9, ngc, eq_self, List.length_cons, List.length_nil, hq, c_hasPlace hl hC, hp, h]
    refine okc ?_
    rw [cw_wp]
    simp (disch := omega) only [W1066, r_4, r_La, r_2, r_Li, h79_1029, s_40, s_41, s_0, ci_m1, r_90, h79_1064, h79_1065, r_5, ci_m9, r_47, r_52, h60_10_31, h79_1003, enR, LG, LSt, LC, nlR, psR, TK, up_s, up_n, up_u, lt_nI, le_nI, eq_nI, true_and, and_true, if_true, if_false, Nat.zero_add, Nat.add_zero, nI_add, ↓reduceIte, Nat.reduceAdd, Nat.reduceMul, Nat.reduceSub, Nat.reduceLT, Nat.reduceLeDiff, Nat.reduceEqDiff, Nat.not_lt_zero, Nat.lt_irrefl, decide_true, BEq.rfl, nm1, nm2, nm3, nm4, nm9, ngc, eq_self, List.length_cons, List.length_nil, m_isPlace hM, hp2, h]
    exact okm (rl_inv (rl_t H))
  · simp (disch := omega) only [W930, r_4, r_La, h60_9_12, r_2, r_Li, h79_303, s_40, s_41, s_0, ci_m1, r_90, h60_9_9, h60_9_5, h79_401, r_5, ci_m9, r_46, h60_4_2, r_52, h61_9_15, enR, LG, LSt, LC, nlR, psR, TK, up_s, up_n, up_u, lt_nI, le_nI, eq_nI, true_and, and_true, if_true, if_false, Nat.zero_add, Nat.add_zero, nI_add, ↓reduceIte, Nat.reduceAdd, Nat.reduceMul, Nat.reduceSub, Nat.reduceLT, Nat.reduceLeDiff, Nat.reduceEqDiff, Nat.not_lt_zero, Nat.lt_irrefl, decide_true, BEq.rfl, nm1, nm2, nm3, nm4, nm9, ngc, eq_self, List.length_cons, List.length_nil, hq, c_hasPlace hl hC, hp, h1, h2]
    refine okc ?_
    rw [cw_wp]
    simp (disch := omega) only [W1066, r_4, r_La, r_2, r_Li, h79_1029, s_40, s_41, s_0, ci_m1, r_90, h79_1064, h79_1065, r_5, ci_m9, r_47, r_52, h60_10_31, h79_1003, enR, LG, LSt, LC, nlR, psR, TK, up_s, up_n, up_u, lt_nI, le_nI, eq_nI, true_and, and_true, if_true, if_false, Nat.zero_add, Nat.add_zero, nI_add, ↓reduceIte, Nat.reduceAdd, Nat.reduceMul, Nat.reduceSub, Nat.reduceLT, Nat.reduceLeDiff, Nat.reduceEqDiff, Nat.not_lt_zero, Nat.lt_irrefl, decide_true, BEq.rfl, nm1, nm2, nm3, nm4, nm9, ngc, eq_self, List.length_cons, List.length_nil, m_isPlace hM, hp2, h1, h3]
    exact okm (rl_inv (rl_t H))
  have hp3 := nsub (show P < 65536 by omega) hp'
  obtain ⟨mk, k30, kmk, k84⟩ := id H.2.2.2.2.2.2
  simp (disch := omega) only [W930, r_4, r_La, h60_9_12, r_2, r_Li, h79_303, s_40, s_41, s_0, ci_m1, r_90, h60_9_9, h60_9_5, h79_401, r_5, ci_m9, r_46, h60_4_2, r_52, h61_9_15, enR, LG, LSt, LC, nlR, psR, TK, up_s, up_n, up_u, lt_nI, le_nI, eq_nI, true_and, and_true, if_true, if_false, Nat.zero_add, Nat.add_zero, nI_add, ↓reduceIte, Nat.reduceAdd, Nat.reduceMul, Nat.reduceSub, Nat.reduceLT, Nat.reduceLeDiff, Nat.reduceEqDiff, Nat.not_lt_zero, Nat.lt_irrefl, decide_true, BEq.rfl, nm1, nm2, nm3, nm4, nm9, ngc, eq_self, List.length_cons, List.length_nil, hq, c_hasPlace hl hC, hp, hp']
  refine c_tell (show 0 < 2 by decide) (sen_SL hb hS) (show p < 7 by omega) (show p' < 7 by omega) (fun s' g' out f1 f2 f3 f4 => ?_)
  cases out with
  | none =>
    simp (disch := omega) only [W930, r_4, r_La, h60_9_12, r_2, r_Li, h79_303, s_40, s_41, s_0, ci_m1, r_90, h60_9_9, h60_9_5, h79_401, r_5, ci_m9, r_46, h60_4_2, r_52, h61_9_15, enR, LG, LSt, LC, nlR, psR, TK, up_s, up_n, up_u, lt_nI, le_nI, eq_nI, true_and, and_true, if_true, if_false, Nat.zero_add, Nat.add_zero, nI_add, ↓reduceIte, Nat.reduceAdd, Nat.reduceMul, Nat.reduceSub, Nat.reduceLT, Nat.reduceLeDiff, Nat.reduceEqDiff, Nat.not_lt_zero, Nat.lt_irrefl, decide_true, BEq.rfl, nm1, nm2, nm3, nm4, nm9, ngc, eq_self, List.length_cons, List.length_nil, tdo]
    refine okc ?_
    rw [cw_wp]
    simp (disch := omega) only [W1066, r_4, r_La, r_2, r_Li, h79_1029, s_40, s_41, s_0, ci_m1, r_90, h79_1064, h79_1065, r_5, ci_m9, r_47, r_52, h60_10_31, h79_1003, enR, LG, LSt, LC, nlR, psR, TK, up_s, up_n, up_u, lt_nI, le_nI, eq_nI, true_and, and_true, if_true, if_false, Nat.zero_add, Nat.add_zero, nI_add, ↓reduceIte, Nat.reduceAdd, Nat.reduceMul, Nat.reduceSub, Nat.reduceLT, Nat.reduceLeDiff, Nat.reduceEqDiff, Nat.not_lt_zero, Nat.lt_irrefl, decide_true, BEq.rfl, nm1, nm2, nm3, nm4, nm9, ngc, eq_self, List.length_cons, List.length_nil, m_isPlace hM, hp2, hp3]
    refine m_setNext hM hb (fun γ hγ => ?_)
    simp (disch := omega) only [W1066, r_4, r_La, r_2, r_Li, h79_1029, s_40, s_41, s_0, ci_m1, r_90, h79_1064, h79_1065, r_5, ci_m9, r_47, r_52, h60_10_31, h79_1003, enR, LG, LSt, LC, nlR, psR, TK, up_s, up_n, up_u, lt_nI, le_nI, eq_nI, true_and, and_true, if_true, if_false, Nat.zero_add, Nat.add_zero, nI_add, ↓reduceIte, Nat.reduceAdd, Nat.reduceMul, Nat.reduceSub, Nat.reduceLT, Nat.reduceLeDiff, Nat.reduceEqDiff, Nat.not_lt_zero, Nat.lt_irrefl, decide_true, BEq.rfl, nm1, nm2, nm3, nm4, nm9, ngc, eq_self, List.length_cons, List.length_nil]
    refine m_apartOf (L := lds N (fe W K J) K O T) hP (show mk + 1 < 2147483648 by omega) hp hp' (by exact hγ) (fun S v => stp_lt hb) k30 (by exact k84) (fun a' e' out' r1 r2 r3 r4 r5 r6 => ?_)
    have := tres_eq f3 r4
    subst this
    simp (disch := omega) only [W1066, r_4, r_La, r_2, r_Li, h79_1029, s_40, s_41, s_0, ci_m1, r_90, h79_1064, h79_1065, r_5, ci_m9, r_47, r_52, h60_10_31, h79_1003, enR, LG, LSt, LC, nlR, psR, TK, up_s, up_n, up_u, lt_nI, le_nI, eq_nI, true_and, and_true, if_true, if_false, Nat.zero_add, Nat.add_zero, nI_add, ↓reduceIte, Nat.reduceAdd, Nat.reduceMul, Nat.reduceSub, Nat.reduceLT, Nat.reduceLeDiff, Nat.reduceEqDiff, Nat.not_lt_zero, Nat.lt_irrefl, decide_true, BEq.rfl, nm1, nm2, nm3, nm4, nm9, ngc, eq_self, List.length_cons, List.length_nil, tdo]
    exact okm (rl_inv (rl_tell (m := 0) H f1 f2 r1 r2 r5 (by omega) r3))
  | some w0 =>
    obtain ⟨m, y⟩ := w0
    obtain ⟨u1, u2⟩ := f4 m y rfl
    have hm9 : (nI m = -9) = False := nm9 (by omega)
    by_cases hz : rnw (lds N (fe W K J) K O T) (2 ^ p) m y = 0
    · rw [if_pos hz] at u2
      simp (disch := omega) only [W930, r_4, r_La, h60_9_12, r_2, r_Li, h79_303, s_40, s_41, s_0, ci_m1, r_90, h60_9_9, h60_9_5, h79_401, r_5, ci_m9, r_46, h60_4_2, r_52, h61_9_15, enR, LG, LSt, LC, nlR, psR, TK, up_s, up_n, up_u, lt_nI, le_nI, eq_nI, true_and, and_true, if_true, if_false, Nat.zero_add, Nat.add_zero, nI_add, ↓reduceIte, Nat.reduceAdd, Nat.reduceMul, Nat.reduceSub, Nat.reduceLT, Nat.reduceLeDiff, Nat.reduceEqDiff, Nat.not_lt_zero, Nat.lt_irrefl, decide_true, BEq.rfl, nm1, nm2, nm3, nm4, nm9, ngc, eq_self, List.length_cons, List.length_nil, tdo, hm9, u2]
      refine okc ?_
      rw [cw_wp]
      simp (disch := omega) only [W1066, r_4, r_La, r_2, r_Li, h79_1029, s_40, s_41, s_0, ci_m1, r_90, h79_1064, h79_1065, r_5, ci_m9, r_47, r_52, h60_10_31, h79_1003, enR, LG, LSt, LC, nlR, psR, TK, up_s, up_n, up_u, lt_nI, le_nI, eq_nI, true_and, and_true, if_true, if_false, Nat.zero_add, Nat.add_zero, nI_add, ↓reduceIte, Nat.reduceAdd, Nat.reduceMul, Nat.reduceSub, Nat.reduceLT, Nat.reduceLeDiff, Nat.reduceEqDiff, Nat.not_lt_zero, Nat.lt_irrefl, decide_true, BEq.rfl, nm1, nm2, nm3, nm4, nm9, ngc, eq_self, List.length_cons, List.length_nil, m_isPlace hM, hp2, hp3]
      refine m_setNext hM hb (fun γ hγ => ?_)
      simp (disch := omega) only [W1066, r_4, r_La, r_2, r_Li, h79_1029, s_40, s_41, s_0, ci_m1, r_90, h79_1064, h79_1065, r_5, ci_m9, r_47, r_52, h60_10_31, h79_1003, enR, LG, LSt, LC, nlR, psR, TK, up_s, up_n, up_u, lt_nI, le_nI, eq_nI, true_and, and_true, if_true, if_false, Nat.zero_add, Nat.add_zero, nI_add, ↓reduceIte, Nat.reduceAdd, Nat.reduceMul, Nat.reduceSub, Nat.reduceLT, Nat.reduceLeDiff, Nat.reduceEqDiff, Nat.not_lt_zero, Nat.lt_irrefl, decide_true, BEq.rfl, nm1, nm2, nm3, nm4, nm9, ngc, eq_self, List.length_cons, List.length_nil]
      refine m_apartOf (L := lds N (fe W K J) K O T) hP (show mk + 1 < 2147483648 by omega) hp hp' (by exact hγ) (fun S v => stp_lt hb) k30 (by exact k84) (fun a' e' out' r1 r2 r3 r4 r5 r6 => ?_)
      have := tres_eq f3 r4
      subst this
      have r7 := (r6 m y rfl).2
      rw [if_pos hz] at r7
      simp (disch := omega) only [W1066, r_4, r_La, r_2, r_Li, h79_1029, s_40, s_41, s_0, ci_m1, r_90, h79_1064, h79_1065, r_5, ci_m9, r_47, r_52, h60_10_31, h79_1003, enR, LG, LSt, LC, nlR, psR, TK, up_s, up_n, up_u, lt_nI, le_nI, eq_nI, true_and, and_true, if_true, if_false, Nat.zero_add, Nat.add_zero, nI_add, ↓reduceIte, Nat.reduceAdd, Nat.reduceMul, Nat.reduceSub, Nat.reduceLT, Nat.reduceLeDiff, Nat.reduceEqDiff, Nat.not_lt_zero, Nat.lt_irrefl, decide_true, BEq.rfl, nm1, nm2, nm3, nm4, nm9, ngc, eq_self, List.length_cons, List.length_nil, tdo, hm9, r7, m_ask]
      exact okm (rl_inv (rl_ask0 (rl_tell (m := 0) H f1 f2 r1 r2 r5 (by omega) r3)))
    · rw [if_neg hz] at u2
      simp (disch := omega) only [W930, r_4, r_La, h60_9_12, r_2, r_Li, h79_303, s_40, s_41, s_0, ci_m1, r_90, h60_9_9, h60_9_5, h79_401, r_5, ci_m9, r_46, h60_4_2, r_52, h61_9_15, enR, LG, LSt, LC, nlR, psR, TK, up_s, up_n, up_u, lt_nI, le_nI, eq_nI, true_and, and_true, if_true, if_false, Nat.zero_add, Nat.add_zero, nI_add, ↓reduceIte, Nat.reduceAdd, Nat.reduceMul, Nat.reduceSub, Nat.reduceLT, Nat.reduceLeDiff, Nat.reduceEqDiff, Nat.not_lt_zero, Nat.lt_irrefl, decide_true, BEq.rfl, nm1, nm2, nm3, nm4, nm9, ngc, eq_self, List.length_cons, List.length_nil, tdo, hm9, u2]
      refine okc ?_
      rw [cw_wp]
      simp (disch := omega) only [W1066, r_4, r_La, r_2, r_Li, h79_1029, s_40, s_41, s_0, ci_m1, r_90, h79_1064, h79_1065, r_5, ci_m9, r_47, r_52, h60_10_31, h79_1003, enR, LG, LSt, LC, nlR, psR, TK, up_s, up_n, up_u, lt_nI, le_nI, eq_nI, true_and, and_true, if_true, if_false, Nat.zero_add, Nat.add_zero, nI_add, ↓reduceIte, Nat.reduceAdd, Nat.reduceMul, Nat.reduceSub, Nat.reduceLT, Nat.reduceLeDiff, Nat.reduceEqDiff, Nat.not_lt_zero, Nat.lt_irrefl, decide_true, BEq.rfl, nm1, nm2, nm3, nm4, nm9, ngc, eq_self, List.length_cons, List.length_nil, m_isPlace hM, hp2, hp3]
      refine m_setNext hM hb (fun γ hγ => ?_)
      simp (disch := omega) only [W1066, r_4, r_La, r_2, r_Li, h79_1029, s_40, s_41, s_0, ci_m1, r_90, h79_1064, h79_1065, r_5, ci_m9, r_47, r_52, h60_10_31, h79_1003, enR, LG, LSt, LC, nlR, psR, TK, up_s, up_n, up_u, lt_nI, le_nI, eq_nI, true_and, and_true, if_true, if_false, Nat.zero_add, Nat.add_zero, nI_add, ↓reduceIte, Nat.reduceAdd, Nat.reduceMul, Nat.reduceSub, Nat.reduceLT, Nat.reduceLeDiff, Nat.reduceEqDiff, Nat.not_lt_zero, Nat.lt_irrefl, decide_true, BEq.rfl, nm1, nm2, nm3, nm4, nm9, ngc, eq_self, List.length_cons, List.length_nil]
      refine m_apartOf (L := lds N (fe W K J) K O T) hP (show mk + 1 < 2147483648 by omega) hp hp' (by exact hγ) (fun S v => stp_lt hb) k30 (by exact k84) (fun a' e' out' r1 r2 r3 r4 r5 r6 => ?_)
      have := tres_eq f3 r4
      subst this
      have r7 := (r6 m y rfl).2
      rw [if_neg hz] at r7
      simp (disch := omega) only [W1066, r_4, r_La, r_2, r_Li, h79_1029, s_40, s_41, s_0, ci_m1, r_90, h79_1064, h79_1065, r_5, ci_m9, r_47, r_52, h60_10_31, h79_1003, enR, LG, LSt, LC, nlR, psR, TK, up_s, up_n, up_u, lt_nI, le_nI, eq_nI, true_and, and_true, if_true, if_false, Nat.zero_add, Nat.add_zero, nI_add, ↓reduceIte, Nat.reduceAdd, Nat.reduceMul, Nat.reduceSub, Nat.reduceLT, Nat.reduceLeDiff, Nat.reduceEqDiff, Nat.not_lt_zero, Nat.lt_irrefl, decide_true, BEq.rfl, nm1, nm2, nm3, nm4, nm9, ngc, eq_self, List.length_cons, List.length_nil, tdo, hm9, r7, m_ask]
      exact okm (rl_inv (rl_ask0 (rl_tell (m := 0) H f1 f2 r1 r2 r5 (by omega) r3)))
end

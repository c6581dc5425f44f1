/-! tour: the call -/
section
variable {t d : Nat} {z : AZ} {X : Nat × (Nat → Int32)} {C : CT} {M : MT} {s : Nat → Int32} {v : Nat → Int64} {g : Nat → Nat → Int32} {w : Nat → Nat → Int64} {q : Nat → Nat} {ct : Nat → Int32} {cn : Nat → Int32} {cc : Nat → Nat → Int32} {di : Nat → Nat → Int32} {dr : Nat → Nat → Int32} {df : Nat → Nat → Int32} {li : Nat → Nat → Int32} {la : Nat → Nat → Nat → Int32} {sf : Nat → Nat → Int32} {sl : Nat → Nat → Int32} {a : Nat → Int32} {b : Nat → Int64} {e : Nat → Nat → Int32} {o : Nat → Nat → Int64} {B : Nat → Bool} {n : Nat → Nat} {P N W : Nat} {K O T J : Nat → Nat} {l : Nat} {Ds : Nat → Nat} {Dr Df Dp : Nat → Nat → Nat} {KB : Nat → Bool}
theorem rl_tour {z' : AZ} {s' : Nat → Int32} {g' : Nat → Nat → Int32} {q' : Nat → Nat} {e' : Nat → Nat → Int32} (H : RL t z s v g w q ct cn cc di dr df li la sf sl a b e o B n P N W K O T J l Ds Dr Df Dp KB) (hs : ∀ k, k ≠ 23 → s' k = s k) (hg : g' 32 = g 32) (hq : ∀ k, k < 7 → q' k = q k) (hz : I_z z' (q' 7) (q' 8) (q' 9) (q' 10)) (he : FRt e e') : RL (t + 1) (z') (s') v (g') w (q') ct cn cc di dr df li la sf sl a b (e') o B n P N W K O T J l Ds Dr Df Dp KB := by
  obtain ⟨⟨h1, h11, h12, h13, h14⟩, h2, h3, h4, h5, h6, h7⟩ := H
  have e1 : ∀ k, k < 86 → e' k = e k := fun k hk => he k (by omega) (by omega)
  refine ⟨?_, ?_, ?_, ?_, hz, ?_, ?_⟩
  · refine ⟨?_, ?_, h12, h13, ?_⟩
    · rw [hs 18 (by decide)]; exact h1
    · rw [hs 15 (by decide)]; exact h11
    · rw [hg, e1 68 (by decide)]; exact h14
  · rw [e1 69 (by decide), e1 70 (by decide), e1 72 (by decide), e1 73 (by decide)]; exact h2
  · rw [hs 14 (by decide), hq 0 (by decide), hq 1 (by decide), e1 74 (by decide)]; exact h3
  · rw [e1 75 (by decide), e1 76 (by decide), e1 77 (by decide), e1 78 (by decide)]; exact h4
  · rw [hq 3 (by decide), hq 4 (by decide), hq 5 (by decide), hq 6 (by decide)]; exact h6
  · rw [e1 84 (by decide)]; exact seen_up h7
theorem hp_new : va_up (va_up (va_up (va_up (va_up (Hp X (s, v, g, w, q, ct, cn, cc, di, dr, df, li, la, sf, sl) M) 89 (.inr (8, [.int 0, .null, .null, .null]))) (90 + 2) (.inl (0, 1024, .inl fun _ => 0))) (90 + 1) (.inl (0, 1024, .inl fun _ => 0))) 90 (.inl (0, 1024, .inl fun _ => 0))) 89 (.inr (8, [.int 0, .ref 90, .ref (90 + 1), .ref (90 + 2)])) = Hp X (va_up s 23 0, v, va_up (va_up (va_up g 90 (fun _ => 0)) 91 (fun _ => 0)) 92 (fun _ => 0), w, va_up (va_up (va_up q 8 0) 9 1) 10 1, ct, cn, cc, di, dr, df, li, la, sf, sl) M := by
  funext k
  by_cases hk : k < 93
  · match k, hk with
    | 0, _ => rfl
    | 1, _ => rfl
    | 2, _ => rfl
    | 3, _ => rfl
    | 4, _ => rfl
    | 5, _ => rfl
    | 6, _ => rfl
    | 7, _ => rfl
    | 8, _ => rfl
    | 9, _ => rfl
    | 10, _ => rfl
    | 11, _ => rfl
    | 12, _ => rfl
    | 13, _ => rfl
    | 14, _ => rfl
    | 15, _ => rfl
    | 16, _ => rfl
    | 17, _ => rfl
    | 18, _ => rfl
    | 19, _ => rfl
    | 20, _ => rfl
    | 21, _ => rfl
    | 22, _ => rfl
    | 23, _ => rfl
    | 24, _ => rfl
    | 25, _ => rfl
    | 26, _ => rfl
    | 27, _ => rfl
    | 28, _ => rfl
    | 29, _ => rfl
    | 30, _ => rfl
    | 31, _ => rfl
    | 32, _ => rfl
    | 33, _ => rfl
    | 34, _ => rfl
    | 35, _ => rfl
    | 36, _ => rfl
    | 37, _ => rfl
    | 38, _ => rfl
    | 39, _ => rfl
    | 40, _ => rfl
    | 41, _ => rfl
    | 42, _ => rfl
    | 43, _ => rfl
    | 44, _ => rfl
    | 45, _ => rfl
    | 46, _ => rfl
    | 47, _ => rfl
    | 48, _ => rfl
    | 49, _ => rfl
    | 50, _ => rfl
    | 51, _ => rfl
    | 52, _ => rfl
    | 53, _ => rfl
    | 54, _ => rfl
    | 55, _ => rfl
    | 56, _ => rfl
    | 57, _ => rfl
    | 58, _ => rfl
    | 59, _ => rfl
    | 60, _ => rfl
    | 61, _ => rfl
    | 62, _ => rfl
    | 63, _ => rfl
    | 64, _ => rfl
    | 65, _ => rfl
    | 66, _ => rfl
    | 67, _ => rfl
    | 68, _ => rfl
    | 69, _ => rfl
    | 70, _ => rfl
    | 71, _ => rfl
    | 72, _ => rfl
    | 73, _ => rfl
    | 74, _ => rfl
    | 75, _ => rfl
    | 76, _ => rfl
    | 77, _ => rfl
    | 78, _ => rfl
    | 79, _ => rfl
    | 80, _ => rfl
    | 81, _ => rfl
    | 82, _ => rfl
    | 83, _ => rfl
    | 84, _ => rfl
    | 85, _ => rfl
    | 86, _ => rfl
    | 87, _ => rfl
    | 88, _ => rfl
    | 89, _ => rfl
    | 90, _ => rfl
    | 91, _ => rfl
    | 92, _ => rfl
    | n + 93, hk => exact absurd hk (by omega)
  · simp (disch := omega) only [up_n]
    unfold Hp
    rw [if_neg hk, if_neg hk]
theorem op_tour {x : Int32} (H : RL t z s v g w q ct cn cc di dr df li la sf sl a b e o B n P N W K O T J l Ds Dr Df Dp KB) : OPI (d + 20) 936 1074 [.int x] t z X (s, v, g, w, q, ct, cn, cc, di, dr, df, li, la, sf, sl) (a, b, e, o) := by
  obtain ⟨hb, hl, hq, hC, hs, hM, hS⟩ := rl_land H
  have hP := hb.1
  unfold OPI
  rw [cw_wp]
  rcases ixN x (show P ≤ 80 by omega) with h | ⟨h1, h2, h3⟩ | ⟨p, hp, rfl⟩
  · simp (disch := omega) only [W936, r_4, r_La, h60_9_12, r_2, r_Li, h79_303, s_41, s_0, ci_m1, r_90, h60_9_13, r_53, r_53n, r_74, r_30, r_30r, h61_9_13, h79_801, r_5, ci_m9, r_46, h60_8_0, h61_9_15, enR, LG, LSt, LC, nlR, psR, TK, up_s, up_n, up_u, lt_nI, le_nI, eq_nI, true_and, and_true, if_true, if_false, Nat.zero_add, Nat.add_zero, nI_add, ↓reduceIte, Nat.reduceAdd, Nat.reduceMul, Nat.reduceSub, Nat.reduceLT, Nat.reduceLeDiff, Nat.reduceEqDiff, Nat.not_lt_zero, Nat.lt_irrefl, decide_true, BEq.rfl, nm1, nm2, nm3, nm4, nm9, ngc, eq_self, List.length_cons, List.length_nil, hq, hl, c_hasPlace hl hC, h]
    refine okc ?_
    rw [cw_wp]
    simp (disch := omega) only [W1074, r_4, r_La, r_2, r_Li, h79_1029, s_41, s_0, ci_m1, r_90, ci_0, r_5, ci_7168, r_49, h60_10_34, ci_m9, s_8, r_In, ci_1, r_52, h60_10_11, r_18, r_11, h60_10_35, ci_1024, r_12, s_13, s_14, r_47, r_46, h79_1038, r_16, r_10, h79_1003, h64_86, h65_86, h64_87, h65_87, enR, LG, LSt, LC, nlR, psR, TK, up_s, up_n, up_u, lt_nI, le_nI, eq_nI, true_and, and_true, if_true, if_false, Nat.zero_add, Nat.add_zero, nI_add, ↓reduceIte, Nat.reduceAdd, Nat.reduceMul, Nat.reduceSub, Nat.reduceLT, Nat.reduceLeDiff, Nat.reduceEqDiff, Nat.not_lt_zero, Nat.lt_irrefl, decide_true, BEq.rfl, nm1, nm2, nm3, nm4, nm9, ngc, eq_self, List.length_cons, List.length_nil, m_isPlace hM, h]
    exact okm (rl_inv (rl_t H))
  · simp (disch := omega) only [W936, r_4, r_La, h60_9_12, r_2, r_Li, h79_303, s_41, s_0, ci_m1, r_90, h60_9_13, r_53, r_53n, r_74, r_30, r_30r, h61_9_13, h79_801, r_5, ci_m9, r_46, h60_8_0, h61_9_15, enR, LG, LSt, LC, nlR, psR, TK, up_s, up_n, up_u, lt_nI, le_nI, eq_nI, true_and, and_true, if_true, if_false, Nat.zero_add, Nat.add_zero, nI_add, ↓reduceIte, Nat.reduceAdd, Nat.reduceMul, Nat.reduceSub, Nat.reduceLT, Nat.reduceLeDiff, Nat.reduceEqDiff, Nat.not_lt_zero, Nat.lt_irrefl, decide_true, BEq.rfl, nm1, nm2, nm3, nm4, nm9, ngc, eq_self, List.length_cons, List.length_nil, hq, hl, c_hasPlace hl hC, h1, h2]
    refine okc ?_
    rw [cw_wp]
    simp (disch := omega) only [W1074, r_4, r_La, r_2, r_Li, h79_1029, s_41, s_0, ci_m1, r_90, ci_0, r_5, ci_7168, r_49, h60_10_34, ci_m9, s_8, r_In, ci_1, r_52, h60_10_11, r_18, r_11, h60_10_35, ci_1024, r_12, s_13, s_14, r_47, r_46, h79_1038, r_16, r_10, h79_1003, h64_86, h65_86, h64_87, h65_87, enR, LG, LSt, LC, nlR, psR, TK, up_s, up_n, up_u, lt_nI, le_nI, eq_nI, true_and, and_true, if_true, if_false, Nat.zero_add, Nat.add_zero, nI_add, ↓reduceIte, Nat.reduceAdd, Nat.reduceMul, Nat.reduceSub, Nat.reduceLT, Nat.reduceLeDiff, Nat.reduceEqDiff, Nat.not_lt_zero, Nat.lt_irrefl, decide_true, BEq.rfl, nm1, nm2, nm3, nm4, nm9, ngc, eq_self, List.length_cons, List.length_nil, m_isPlace hM, h1, h3]
    exact okm (rl_inv (rl_t H))
  rcases H.2.2.2.2.1 with ⟨z1, z2, z3, z4⟩ | ⟨z1, z2, z3, z4, z5⟩
  · obtain ⟨za, zb⟩ := z
    have z1 : za = 89 := z1
    subst z1
    have z2 : zb ≤ 100000 := z2
    simp (disch := omega) only [W936, r_4, r_La, h60_9_12, r_2, r_Li, h79_303, s_41, s_0, ci_m1, r_90, h60_9_13, r_53, r_53n, r_74, r_30, r_30r, h61_9_13, h79_801, r_5, ci_m9, r_46, h60_8_0, h61_9_15, enR, LG, LSt, LC, nlR, psR, TK, up_s, up_n, up_u, lt_nI, le_nI, eq_nI, true_and, and_true, if_true, if_false, Nat.zero_add, Nat.add_zero, nI_add, ↓reduceIte, Nat.reduceAdd, Nat.reduceMul, Nat.reduceSub, Nat.reduceLT, Nat.reduceLeDiff, Nat.reduceEqDiff, Nat.not_lt_zero, Nat.lt_irrefl, decide_true, BEq.rfl, nm1, nm2, nm3, nm4, nm9, ngc, eq_self, List.length_cons, List.length_nil, hq, hl, c_hasPlace hl hC, hp, z3, tvl, r_79_1, Ca, CD, rce_o, enL, Int.reduceToNat, Nat.reduceDiv]
    refine (i_800 (x := 89) (n := 90) (by omega) (up_s _ _ _)).mpr ?_
    rw [hp_new]
    simp (disch := omega) only [W936, r_4, r_La, h60_9_12, r_2, r_Li, h79_303, s_41, s_0, ci_m1, r_90, h60_9_13, r_53, r_53n, r_74, r_30, r_30r, h61_9_13, h79_801, r_5, ci_m9, r_46, h60_8_0, h61_9_15, enR, LG, LSt, LC, nlR, psR, TK, up_s, up_n, up_u, lt_nI, le_nI, eq_nI, true_and, and_true, if_true, if_false, Nat.zero_add, Nat.add_zero, nI_add, ↓reduceIte, Nat.reduceAdd, Nat.reduceMul, Nat.reduceSub, Nat.reduceLT, Nat.reduceLeDiff, Nat.reduceEqDiff, Nat.not_lt_zero, Nat.lt_irrefl, decide_true, BEq.rfl, nm1, nm2, nm3, nm4, nm9, ngc, eq_self, List.length_cons, List.length_nil, hq, hl, hp]
    refine c_short (q := va_up (va_up (va_up (va_up q 8 0) 9 1) 10 1) 7 1) (p0 := p) hl hC hb hp (by simp (disch := omega) only [up_s, up_n]; decide) (Or.inl ⟨by simp (disch := omega) only [up_s, up_n], by simp (disch := omega) only [up_s, up_n]⟩) (fun g' q' f1 f2 f3 f4 => ?_) (fun g' q' r1 p1 f1 f2 f3 f4 => ?_)
    · have q7 : q' 7 = 1 := by rw [f2 7 (by omega) (by omega), up_s]
      have q10 : q' 10 = 1 := by rw [f2 10 (by omega) (by omega)]; simp (disch := omega) only [up_s, up_n]
      have q6 : ∀ k, k < 7 → q' k = q k := fun k hk => by rw [f2 k (by omega) (by omega)]; simp (disch := omega) only [up_n]
      have g32 : g' 32 = g 32 := by rw [f1 32 (by omega)]; simp (disch := omega) only [up_n]
      simp (disch := omega) only [W936, r_4, r_La, h60_9_12, r_2, r_Li, h79_303, s_41, s_0, ci_m1, r_90, h60_9_13, r_53, r_53n, r_74, r_30, r_30r, h61_9_13, h79_801, r_5, ci_m9, r_46, h60_8_0, h61_9_15, enR, LG, LSt, LC, nlR, psR, TK, up_s, up_n, up_u, lt_nI, le_nI, eq_nI, true_and, and_true, if_true, if_false, Nat.zero_add, Nat.add_zero, nI_add, ↓reduceIte, Nat.reduceAdd, Nat.reduceMul, Nat.reduceSub, Nat.reduceLT, Nat.reduceLeDiff, Nat.reduceEqDiff, Nat.not_lt_zero, Nat.lt_irrefl, decide_true, BEq.rfl, nm1, nm2, nm3, nm4, nm9, ngc, eq_self, List.length_cons, List.length_nil, hq, hl]
      refine okc ?_
      refine m_tour hM hb hp (fun e' w1 w2 => ?_) (fun e' d1 p2 w1 w2 => ?_)
      · exact okm (rl_inv (rl_tour H (fun k hk => up_n _ _ hk) g32 q6 (Or.inr ⟨rfl, by show zb + 4 + 3072 ≤ 110000; omega, q7, q10, f3⟩) w1))
      · exact absurd (ts_eq f4 w2) (by simp)
    · have q7 : q' 7 = 1 := by rw [f2 7 (by omega) (by omega), up_s]
      have q10 : q' 10 = 1 := by rw [f2 10 (by omega) (by omega)]; simp (disch := omega) only [up_s, up_n]
      have q6 : ∀ k, k < 7 → q' k = q k := fun k hk => by rw [f2 k (by omega) (by omega)]; simp (disch := omega) only [up_n]
      have g32 : g' 32 = g 32 := by rw [f1 32 (by omega)]; simp (disch := omega) only [up_n]
      obtain ⟨t1, t2, -⟩ := id f4
      have hm9 : (nI r1 = -9) = False := nm9 (by omega)
      simp (disch := omega) only [W936, r_4, r_La, h60_9_12, r_2, r_Li, h79_303, s_41, s_0, ci_m1, r_90, h60_9_13, r_53, r_53n, r_74, r_30, r_30r, h61_9_13, h79_801, r_5, ci_m9, r_46, h60_8_0, h61_9_15, enR, LG, LSt, LC, nlR, psR, TK, up_s, up_n, up_u, lt_nI, le_nI, eq_nI, true_and, and_true, if_true, if_false, Nat.zero_add, Nat.add_zero, nI_add, ↓reduceIte, Nat.reduceAdd, Nat.reduceMul, Nat.reduceSub, Nat.reduceLT, Nat.reduceLeDiff, Nat.reduceEqDiff, Nat.not_lt_zero, Nat.lt_irrefl, decide_true, BEq.rfl, nm1, nm2, nm3, nm4, nm9, ngc, eq_self, List.length_cons, List.length_nil, hq, hl, hm9, q7, tvl, q10]
      refine okc ?_
      refine m_tour hM hb hp (fun e' w1 w2 => ?_) (fun e' d1 p2 w1 w2 => ?_)
      · exact absurd (ts_eq f4 w2) (by simp)
      · have := ts_eq f4 w2
        cases this
        exact okm (rl_inv (rl_ask0 (rl_tour H (fun k hk => by simp (disch := omega) only [up_n]) g32 q6 (Or.inr ⟨rfl, by show zb + 4 + 3072 ≤ 110000; omega, q7, q10, f3⟩) w1)))
  · have h10 : q 10 ≠ 0 := by omega
    simp (disch := omega) only [W936, r_4, r_La, h60_9_12, r_2, r_Li, h79_303, s_41, s_0, ci_m1, r_90, h60_9_13, r_53, r_53n, r_74, r_30, r_30r, h61_9_13, h79_801, r_5, ci_m9, r_46, h60_8_0, h61_9_15, enR, LG, LSt, LC, nlR, psR, TK, up_s, up_n, up_u, lt_nI, le_nI, eq_nI, true_and, and_true, if_true, if_false, Nat.zero_add, Nat.add_zero, nI_add, ↓reduceIte, Nat.reduceAdd, Nat.reduceMul, Nat.reduceSub, Nat.reduceLT, Nat.reduceLeDiff, Nat.reduceEqDiff, Nat.not_lt_zero, Nat.lt_irrefl, decide_true, BEq.rfl, nm1, nm2, nm3, nm4, nm9, ngc, eq_self, List.length_cons, List.length_nil, hq, hl, c_hasPlace hl hC, hp, z3, tvl]
    refine c_short (p0 := p) hl hC hb hp h10 z5 (fun g' q' f1 f2 f3 f4 => ?_) (fun g' q' r1 p1 f1 f2 f3 f4 => ?_)
    · have q7 : q' 7 = 1 := by rw [f2 7 (by omega) (by omega)]; exact z3
      have q10 : q' 10 = 1 := by rw [f2 10 (by omega) (by omega)]; exact z4
      have q6 : ∀ k, k < 7 → q' k = q k := fun k hk => f2 k (by omega) (by omega)
      have g32 : g' 32 = g 32 := f1 32 (by omega)
      simp (disch := omega) only [W936, r_4, r_La, h60_9_12, r_2, r_Li, h79_303, s_41, s_0, ci_m1, r_90, h60_9_13, r_53, r_53n, r_74, r_30, r_30r, h61_9_13, h79_801, r_5, ci_m9, r_46, h60_8_0, h61_9_15, enR, LG, LSt, LC, nlR, psR, TK, up_s, up_n, up_u, lt_nI, le_nI, eq_nI, true_and, and_true, if_true, if_false, Nat.zero_add, Nat.add_zero, nI_add, ↓reduceIte, Nat.reduceAdd, Nat.reduceMul, Nat.reduceSub, Nat.reduceLT, Nat.reduceLeDiff, Nat.reduceEqDiff, Nat.not_lt_zero, Nat.lt_irrefl, decide_true, BEq.rfl, nm1, nm2, nm3, nm4, nm9, ngc, eq_self, List.length_cons, List.length_nil, hq, hl]
      refine okc ?_
      refine m_tour hM hb hp (fun e' w1 w2 => ?_) (fun e' d1 p2 w1 w2 => ?_)
      · exact okm (rl_inv (rl_tour H (fun k hk => rfl) g32 q6 (Or.inr ⟨z1, z2, q7, q10, f3⟩) w1))
      · exact absurd (ts_eq f4 w2) (by simp)
    · have q7 : q' 7 = 1 := by rw [f2 7 (by omega) (by omega)]; exact z3
      have q10 : q' 10 = 1 := by rw [f2 10 (by omega) (by omega)]; exact z4
      have q6 : ∀ k, k < 7 → q' k = q k := fun k hk => f2 k (by omega) (by omega)
      have g32 : g' 32 = g 32 := f1 32 (by omega)
      obtain ⟨t1, t2, -⟩ := id f4
      have hm9 : (nI r1 = -9) = False := nm9 (by omega)
      simp (disch := omega) only [W936, r_4, r_La, h60_9_12, r_2, r_Li, h79_303, s_41, s_0, ci_m1, r_90, h60_9_13, r_53, r_53n, r_74, r_30, r_30r, h61_9_13, h79_801, r_5, ci_m9, r_46, h60_8_0, h61_9_15, enR, LG, LSt, LC, nlR, psR, TK, up_s, up_n, up_u, lt_nI, le_nI, eq_nI, true_and, and_true, if_true, if_false, Nat.zero_add, Nat.add_zero, nI_add, ↓reduceIte, Nat.reduceAdd, Nat.reduceMul, Nat.reduceSub, Nat.reduceLT, Nat.reduceLeDiff, Nat.reduceEqDiff, Nat.not_lt_zero, Nat.lt_irrefl, decide_true, BEq.rfl, nm1, nm2, nm3, nm4, nm9, ngc, eq_self, List.length_cons, List.length_nil, hq, hl, hm9, q7, tvl, q10]
      refine okc ?_
      refine m_tour hM hb hp (fun e' w1 w2 => ?_) (fun e' d1 p2 w1 w2 => ?_)
      · exact absurd (ts_eq f4 w2) (by simp)
      · have := ts_eq f4 w2
        cases this
        exact okm (rl_inv (rl_ask0 (rl_tour H (fun k hk => up_n _ _ hk) g32 q6 (Or.inr ⟨z1, z2, q7, q10, f3⟩) w1)))
end

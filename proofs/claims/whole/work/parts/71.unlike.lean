/-! unlike -/
section
variable {t d : Nat} {z : AZ} {X : Nat × (Nat → Int32)} {C : CT} {M : MT} {s : Nat → Int32} {v : Nat → Int64} {g : Nat → Nat → Int32} {w : Nat → Nat → Int64} {q : Nat → Nat} {ct : Nat → Int32} {cn : Nat → Int32} {cc : Nat → Nat → Int32} {di : Nat → Nat → Int32} {dr : Nat → Nat → Int32} {df : Nat → Nat → Int32} {li : Nat → Nat → Int32} {la : Nat → Nat → Nat → Int32} {sf : Nat → Nat → Int32} {sl : Nat → Nat → Int32} {a : Nat → Int32} {b : Nat → Int64} {e : Nat → Nat → Int32} {o : Nat → Nat → Int64} {B : Nat → Bool} {n : Nat → Nat} {P N W : Nat} {K O T J : Nat → Nat} {l : Nat} {Ds : Nat → Nat} {Dr Df Dp : Nat → Nat → Nat} {KB : Nat → Bool}
variable {Q : Option Value → AZ → AH → Prop} {L : Nat → Nat → Nat}
/-- a frame for all that asks of likeness -/
theorem rl_fr {s' : Nat → Int32} {g' : Nat → Nat → Int32} {sf' sl' : Nat → Nat → Int32} {a' : Nat → Int32} {e' : Nat → Nat → Int32} {mk : Nat} (H : RL t z s v g w q ct cn cc di dr df li la sf sl a b e o B n P N W K O T J l Ds Dr Df Dp KB) (hs : ∀ k, k = 14 ∨ k = 15 ∨ k = 18 → s' k = s k) (hg : g' 32 = g 32) (hsf : sf' 0 = sf 0) (hsl : sl' 0 = sl 0) (ha : ∀ k, k < 30 → a' k = a k) (he : ∀ k, 68 ≤ k → k < 79 → k ≠ 74 → e' k = e k) (hM : MLn a' (e' 74) P N W K O T J) (h30 : a' 30 = nI mk) (hmk : mk ≤ 1000 * (t + 1)) (h84 : ∀ w, w < 16384 → ∃ v, v ≤ mk ∧ e' 84 w = nI v) : RL (t + 1) z (s') v (g') w q ct cn cc di dr df li la (sf') (sl') (a') b (e') o B n P N W K O T J l Ds Dr Df Dp KB := by
  obtain ⟨⟨h1, h11, h12, h13, h14⟩, h2, h3, h4, h5, h6, h7⟩ := H
  refine ⟨?_, ?_, ?_, ?_, h5, h6, mk, h30, hmk, h84⟩
  · refine ⟨?_, ?_, h12, h13, ?_⟩
    · rw [hs 18 (by decide), ha 0 (by decide)]; exact h1
    · rw [hs 15 (by decide), ha 2 (by decide)]; exact h11
    · rw [hg, he 68 (by decide) (by decide) (by decide)]; exact h14
  · rw [he 69 (by decide) (by decide) (by decide), he 70 (by decide) (by decide) (by decide), he 72 (by decide) (by decide) (by decide), he 73 (by decide) (by decide) (by decide)]; exact h2
  · obtain ⟨f1, f2, f3, f4, f5, f6, -, f8⟩ := h3
    refine ⟨f1, f2, f3, f4, f5, ?_, hM, ?_⟩
    · rw [hs 14 (by decide)]; exact f6
    · rw [hsf, hsl]; exact f8
  · rw [ha 17 (by decide), ha 18 (by decide), he 75 (by decide) (by decide) (by decide), he 76 (by decide) (by decide) (by decide), he 77 (by decide) (by decide) (by decide), he 78 (by decide) (by decide) (by decide)]; exact h4
theorem mln_fr {a' T T' : Nat → Int32} {T0 : Nat → Nat} (h : MLn a T P N W K O T0 J) (ha : ∀ k, k < 30 → a' k = a k) (hT : T' = T) : MLn a' T' P N W K O T0 J := by
  subst hT
  obtain ⟨h1, h2, h3, h4⟩ := h
  exact ⟨(ha 10 (by decide)).trans h1, (ha 11 (by decide)).trans h2, (ha 12 (by decide)).trans h3, h4⟩
theorem lp_un44 (hl : l < 2) (hq : q 0 = l) (hC : CLn (li l) (la l) P N K O T J) (hP : P ≤ 7) :
    ∀ (j p : Nat), p + j = P → Wp (d + 5) 931 44 [some (.ref 0), some (.int (nI (cnt (fun p => decide (g 26 p = nI p)) p))), some (.int (nI (sto (fun p => decide (g 26 p = nI 0)) p))), some (.int (nI p))] [] z (Hp X (s, v, g, w, q, ct, cn, cc, di, dr, df, li, la, sf, sl) M) Q = Q (some (.int (nI (cnt (fun p => decide (g 26 p = nI p)) P)))) z (Hp X (va_up s 15 (nI (sto (fun p => decide (g 26 p = nI 0)) P)), v, g, w, q, ct, cn, cc, di, dr, df, li, la, sf, sl) M) := by
  have h0 := hC.1
  intro j
  induction j with
  | zero =>
    intro p hj
    have hj : p = P := by omega
    subst hj
    rw [W931_44]
    simp (disch := omega) only [W931, r_4, r_La, h60_9_12, h60_3_4, s_41, s_0, ci_m4, r_90, h60_9_9, h60_9_5, h60_4_0, h79_402, ci_0, r_5, r_2, r_Li, r_49, r_47, s_8, r_In, ci_1, r_18, r_16, r_52, h61_9_15, h64_26, enR, LG, LSt, LC, nlR, psR, TK, up_s, up_n, up_u, lt_nI, le_nI, eq_nI, true_and, and_true, if_true, if_false, Nat.zero_add, Nat.add_zero, nI_add, ↓reduceIte, Nat.reduceAdd, Nat.reduceMul, Nat.reduceSub, Nat.reduceLT, Nat.reduceLeDiff, Nat.reduceEqDiff, Nat.not_lt_zero, Nat.lt_irrefl, decide_true, BEq.rfl, nm1, nm2, nm3, nm4, nm9, ngc, eq_self, List.length_cons, List.length_nil, hq, hl, h0]
  | succ j ih =>
    intro p hj
    have h1 : p < P := by omega
    have h7 : p < 7 := by omega
    have h31 : p < 31 := by omega
    rw [← ih (p + 1) (by omega), W931_44, cnt_succ, sto_succ]
    by_cases e1 : g 26 p = nI p
    · rw [if_pos (by simpa using e1)]
      by_cases e2 : g 26 p = nI 0
      · rw [if_pos (by simpa using e2)]
        have hp0 : p = 0 := (nI_eq (by omega) (by omega)).mp (e1.symm.trans e2)
        simp (disch := omega) only [W931, r_4, r_La, h60_9_12, h60_3_4, s_41, s_0, ci_m4, r_90, h60_9_9, h60_9_5, h60_4_0, h79_402, ci_0, r_5, r_2, r_Li, r_49, r_47, s_8, r_In, ci_1, r_18, r_16, r_52, h61_9_15, h64_26, enR, LG, LSt, LC, nlR, psR, TK, up_s, up_n, up_u, lt_nI, le_nI, eq_nI, true_and, and_true, if_true, if_false, Nat.zero_add, Nat.add_zero, nI_add, ↓reduceIte, Nat.reduceAdd, Nat.reduceMul, Nat.reduceSub, Nat.reduceLT, Nat.reduceLeDiff, Nat.reduceEqDiff, Nat.not_lt_zero, Nat.lt_irrefl, decide_true, BEq.rfl, nm1, nm2, nm3, nm4, nm9, ngc, eq_self, List.length_cons, List.length_nil, hq, hl, h0, h1, h7, h31, e1, e2, nI_bit, nI_or]
        rw [if_pos hp0]
      · rw [if_neg (by simpa using e2)]
        have hp0 : ¬ p = 0 := fun h => by subst h; exact e2 e1
        simp (disch := omega) only [W931, r_4, r_La, h60_9_12, h60_3_4, s_41, s_0, ci_m4, r_90, h60_9_9, h60_9_5, h60_4_0, h79_402, ci_0, r_5, r_2, r_Li, r_49, r_47, s_8, r_In, ci_1, r_18, r_16, r_52, h61_9_15, h64_26, enR, LG, LSt, LC, nlR, psR, TK, up_s, up_n, up_u, lt_nI, le_nI, eq_nI, true_and, and_true, if_true, if_false, Nat.zero_add, Nat.add_zero, nI_add, ↓reduceIte, Nat.reduceAdd, Nat.reduceMul, Nat.reduceSub, Nat.reduceLT, Nat.reduceLeDiff, Nat.reduceEqDiff, Nat.not_lt_zero, Nat.lt_irrefl, decide_true, BEq.rfl, nm1, nm2, nm3, nm4, nm9, ngc, eq_self, List.length_cons, List.length_nil, hq, hl, h0, h1, h7, h31, e1, e2, nI_bit, nI_or, hp0]
    · rw [if_neg (by simpa using e1)]
      by_cases e2 : g 26 p = nI 0
      · rw [if_pos (by simpa using e2)]
        have hp0 : ¬ 0 = p := fun h => by subst h; exact e1 e2
        simp (disch := omega) only [W931, r_4, r_La, h60_9_12, h60_3_4, s_41, s_0, ci_m4, r_90, h60_9_9, h60_9_5, h60_4_0, h79_402, ci_0, r_5, r_2, r_Li, r_49, r_47, s_8, r_In, ci_1, r_18, r_16, r_52, h61_9_15, h64_26, enR, LG, LSt, LC, nlR, psR, TK, up_s, up_n, up_u, lt_nI, le_nI, eq_nI, true_and, and_true, if_true, if_false, Nat.zero_add, Nat.add_zero, nI_add, ↓reduceIte, Nat.reduceAdd, Nat.reduceMul, Nat.reduceSub, Nat.reduceLT, Nat.reduceLeDiff, Nat.reduceEqDiff, Nat.not_lt_zero, Nat.lt_irrefl, decide_true, BEq.rfl, nm1, nm2, nm3, nm4, nm9, ngc, eq_self, List.length_cons, List.length_nil, hq, hl, h0, h1, h7, h31, e1, e2, nI_bit, nI_or, hp0]
      · rw [if_neg (by simpa using e2)]
        simp (disch := omega) only [W931, r_4, r_La, h60_9_12, h60_3_4, s_41, s_0, ci_m4, r_90, h60_9_9, h60_9_5, h60_4_0, h79_402, ci_0, r_5, r_2, r_Li, r_49, r_47, s_8, r_In, ci_1, r_18, r_16, r_52, h61_9_15, h64_26, enR, LG, LSt, LC, nlR, psR, TK, up_s, up_n, up_u, lt_nI, le_nI, eq_nI, true_and, and_true, if_true, if_false, Nat.zero_add, Nat.add_zero, nI_add, ↓reduceIte, Nat.reduceAdd, Nat.reduceMul, Nat.reduceSub, Nat.reduceLT, Nat.reduceLeDiff, Nat.reduceEqDiff, Nat.not_lt_zero, Nat.lt_irrefl, decide_true, BEq.rfl, nm1, nm2, nm3, nm4, nm9, ngc, eq_self, List.length_cons, List.length_nil, hq, hl, h0, h1, h7, h31, e1, e2, nI_bit, nI_or]
theorem lp_un34 {p m0 : Nat} {hb mb : Nat → Bool} (hP7 : P ≤ 7) (hp : p < P) (hm0 : m0 + 100 < 2147483648) (hNX : NX L P (e 83)) (hst : ∀ S v, stp L S v < 2 ^ P) (hhb : hb p = true ↔ ∀ q, q < p → ¬ alk L q p) (hmb : mb p = true ↔ alk L 0 p)
    (hQ : ∀ (a' : Nat → Int32) (e' : Nat → Nat → Int32) (mk : Nat), FRa a a' → FRe e e' → a' 30 = nI mk → mk ≤ m0 + 8 * (p + 1) → (∀ w, w < 16384 → ∃ v, v ≤ mk ∧ e' 84 w = nI v) → Wp (d + 4) 1067 20 [some (.ref 67), some (.int (nI (cnt hb (p + 1)))), some (.int (nI (sto mb (p + 1)))), some (.int (nI (p + 1)))] [] z (Hp X C (a', b, e', o)) Q) :
    ∀ (j q0 : Nat) (a' : Nat → Int32) (e' : Nat → Nat → Int32) (mk : Nat) (β : Bool), q0 + j = p → FRa a a' → FRe e e' → a' 30 = nI mk → mk ≤ m0 + 8 * p + q0 → (∀ w, w < 16384 → ∃ v, v ≤ mk ∧ e' 84 w = nI v) → (β = true ↔ ∀ r, r < q0 → ¬ alk L r p) → Wp (d + 4) 1067 34 [some (.ref 67), some (.int (nI (cnt hb p))), some (.int (nI (sto mb p))), some (.int (nI p)), some (.int (bI β)), some (.int (nI q0))] [] z (Hp X C (a', b, e', o)) Q := by
  intro j
  induction j with
  | zero =>
    intro q0 a' e' mk β hj ha he h30 hmk h84 hβ
    have hj : q0 = p := by omega
    subst hj
    have hβ2 : β = hb q0 := by
      cases h1 : hb q0 <;> cases h2 : β
      · rfl
      · exact absurd (hhb.mpr (hβ.mp h2)) (by rw [h1]; decide)
      · exact absurd (hβ.mpr (hhb.mp h1)) (by rw [h2]; decide)
      · rfl
    subst hβ2
    have h31 : q0 < 31 := by omega
    have h83 : NX L P (e' 83) := by rw [he 83 (by decide) (by decide)]; exact hNX
    have hQ2 := hQ
    rw [cnt_succ, sto_succ] at hQ2
    rw [W1067_34]
    cases h1 : hb q0 with
    | true =>
      rw [if_pos h1] at hQ2
      simp (disch := omega) only [W1067, r_4, r_La, h60_10_10, s_41, s_0, ci_m4, r_90, h79_1064, ci_0, r_5, r_2, r_Li, r_49, ci_1, s_40, h79_1065, ci_m9, r_46, r_52, s_8, r_In, r_10, r_47, r_18, r_16, h79_1003, enR, LG, LSt, LC, nlR, psR, TK, up_s, up_n, up_u, lt_nI, le_nI, eq_nI, true_and, and_true, if_true, if_false, Nat.zero_add, Nat.add_zero, nI_add, ↓reduceIte, Nat.reduceAdd, Nat.reduceMul, Nat.reduceSub, Nat.reduceLT, Nat.reduceLeDiff, Nat.reduceEqDiff, Nat.not_lt_zero, Nat.lt_irrefl, decide_true, BEq.rfl, nm1, nm2, nm3, nm4, nm9, ngc, eq_self, List.length_cons, List.length_nil, bI]
      refine m_apartOf (L := L) (a := a') (e := e') hP7 (show mk + 1 < 2147483648 by omega) (show 0 < P by omega) hp h83 hst h30 h84 (fun a2 e2 out f1 f2 f3 f4 f5 f6 => ?_)
      have h9 := tdo9 (out := out) (fun m y h => (f6 m y h).1)
      have fa : FRa a a2 := fun k k1 k2 => (f1 k k1 k2).trans (ha k k1 k2)
      have fe : FRe e e2 := fun k k1 k2 => (f2 k k1 k2).trans (he k k1 k2)
      by_cases ho : out = none
      · rw [if_pos (hmb.mpr ((tres_none f4).mp ho))] at hQ2
        simp (disch := omega) only [W1067, r_4, r_La, h60_10_10, s_41, s_0, ci_m4, r_90, h79_1064, ci_0, r_5, r_2, r_Li, r_49, ci_1, s_40, h79_1065, ci_m9, r_46, r_52, s_8, r_In, r_10, r_47, r_18, r_16, h79_1003, enR, LG, LSt, LC, nlR, psR, TK, up_s, up_n, up_u, lt_nI, le_nI, eq_nI, true_and, and_true, if_true, if_false, Nat.zero_add, Nat.add_zero, nI_add, ↓reduceIte, Nat.reduceAdd, Nat.reduceMul, Nat.reduceSub, Nat.reduceLT, Nat.reduceLeDiff, Nat.reduceEqDiff, Nat.not_lt_zero, Nat.lt_irrefl, decide_true, BEq.rfl, nm1, nm2, nm3, nm4, nm9, ngc, eq_self, List.length_cons, List.length_nil, h9, ho, h31, nI_bit, nI_or]
        exact hQ2 a2 e2 (mk + 1) fa fe f5 (by omega) f3
      · rw [if_neg (fun h => ho ((tres_none f4).mpr (hmb.mp h)))] at hQ2
        simp (disch := omega) only [W1067, r_4, r_La, h60_10_10, s_41, s_0, ci_m4, r_90, h79_1064, ci_0, r_5, r_2, r_Li, r_49, ci_1, s_40, h79_1065, ci_m9, r_46, r_52, s_8, r_In, r_10, r_47, r_18, r_16, h79_1003, enR, LG, LSt, LC, nlR, psR, TK, up_s, up_n, up_u, lt_nI, le_nI, eq_nI, true_and, and_true, if_true, if_false, Nat.zero_add, Nat.add_zero, nI_add, ↓reduceIte, Nat.reduceAdd, Nat.reduceMul, Nat.reduceSub, Nat.reduceLT, Nat.reduceLeDiff, Nat.reduceEqDiff, Nat.not_lt_zero, Nat.lt_irrefl, decide_true, BEq.rfl, nm1, nm2, nm3, nm4, nm9, ngc, eq_self, List.length_cons, List.length_nil, h9, ho, h31, nI_or, Nat.or_zero]
        exact hQ2 a2 e2 (mk + 1) fa fe f5 (by omega) f3
    | false =>
      rw [if_neg (by rw [h1]; decide)] at hQ2
      simp (disch := omega) only [W1067, r_4, r_La, h60_10_10, s_41, s_0, ci_m4, r_90, h79_1064, ci_0, r_5, r_2, r_Li, r_49, ci_1, s_40, h79_1065, ci_m9, r_46, r_52, s_8, r_In, r_10, r_47, r_18, r_16, h79_1003, enR, LG, LSt, LC, nlR, psR, TK, up_s, up_n, up_u, lt_nI, le_nI, eq_nI, true_and, and_true, if_true, if_false, Nat.zero_add, Nat.add_zero, nI_add, ↓reduceIte, Nat.reduceAdd, Nat.reduceMul, Nat.reduceSub, Nat.reduceLT, Nat.reduceLeDiff, Nat.reduceEqDiff, Nat.not_lt_zero, Nat.lt_irrefl, decide_true, BEq.rfl, nm1, nm2, nm3, nm4, nm9, ngc, eq_self, List.length_cons, List.length_nil, bI]
      refine m_apartOf (L := L) (a := a') (e := e') hP7 (show mk + 1 < 2147483648 by omega) (show 0 < P by omega) hp h83 hst h30 h84 (fun a2 e2 out f1 f2 f3 f4 f5 f6 => ?_)
      have h9 := tdo9 (out := out) (fun m y h => (f6 m y h).1)
      have fa : FRa a a2 := fun k k1 k2 => (f1 k k1 k2).trans (ha k k1 k2)
      have fe : FRe e e2 := fun k k1 k2 => (f2 k k1 k2).trans (he k k1 k2)
      by_cases ho : out = none
      · rw [if_pos (hmb.mpr ((tres_none f4).mp ho))] at hQ2
        simp (disch := omega) only [W1067, r_4, r_La, h60_10_10, s_41, s_0, ci_m4, r_90, h79_1064, ci_0, r_5, r_2, r_Li, r_49, ci_1, s_40, h79_1065, ci_m9, r_46, r_52, s_8, r_In, r_10, r_47, r_18, r_16, h79_1003, enR, LG, LSt, LC, nlR, psR, TK, up_s, up_n, up_u, lt_nI, le_nI, eq_nI, true_and, and_true, if_true, if_false, Nat.zero_add, Nat.add_zero, nI_add, ↓reduceIte, Nat.reduceAdd, Nat.reduceMul, Nat.reduceSub, Nat.reduceLT, Nat.reduceLeDiff, Nat.reduceEqDiff, Nat.not_lt_zero, Nat.lt_irrefl, decide_true, BEq.rfl, nm1, nm2, nm3, nm4, nm9, ngc, eq_self, List.length_cons, List.length_nil, h9, ho, h31, nI_bit, nI_or]
        exact hQ2 a2 e2 (mk + 1) fa fe f5 (by omega) f3
      · rw [if_neg (fun h => ho ((tres_none f4).mpr (hmb.mp h)))] at hQ2
        simp (disch := omega) only [W1067, r_4, r_La, h60_10_10, s_41, s_0, ci_m4, r_90, h79_1064, ci_0, r_5, r_2, r_Li, r_49, ci_1, s_40, h79_1065, ci_m9, r_46, r_52, s_8, r_In, r_10, r_47, r_18, r_16, h79_1003, enR, LG, LSt, LC, nlR, psR, TK, up_s, up_n, up_u, lt_nI, le_nI, eq_nI, true_and, and_true, if_true, if_false, Nat.zero_add, Nat.add_zero, nI_add, ↓reduceIte, Nat.reduceAdd, Nat.reduceMul, Nat.reduceSub, Nat.reduceLT, Nat.reduceLeDiff, Nat.reduceEqDiff, Nat.not_lt_zero, Nat.lt_irrefl, decide_true, BEq.rfl, nm1, nm2, nm3, nm4, nm9, ngc, eq_self, List.length_cons, List.length_nil, h9, ho, h31, nI_or, Nat.or_zero]
        exact hQ2 a2 e2 (mk + 1) fa fe f5 (by omega) f3
  | succ j ih =>
    intro q0 a' e' mk β hj ha he h30 hmk h84 hβ
    have h1 : q0 < p := by omega
    have h83 : NX L P (e' 83) := by rw [he 83 (by decide) (by decide)]; exact hNX
    rw [W1067_34]
    cases β with
    | false =>
      simp (disch := omega) only [W1067, r_4, r_La, h60_10_10, s_41, s_0, ci_m4, r_90, h79_1064, ci_0, r_5, r_2, r_Li, r_49, ci_1, s_40, h79_1065, ci_m9, r_46, r_52, s_8, r_In, r_10, r_47, r_18, r_16, h79_1003, enR, LG, LSt, LC, nlR, psR, TK, up_s, up_n, up_u, lt_nI, le_nI, eq_nI, true_and, and_true, if_true, if_false, Nat.zero_add, Nat.add_zero, nI_add, ↓reduceIte, Nat.reduceAdd, Nat.reduceMul, Nat.reduceSub, Nat.reduceLT, Nat.reduceLeDiff, Nat.reduceEqDiff, Nat.not_lt_zero, Nat.lt_irrefl, decide_true, BEq.rfl, nm1, nm2, nm3, nm4, nm9, ngc, eq_self, List.length_cons, List.length_nil, bI, h1]
      refine ih (q0 + 1) a' e' mk false (by omega) ha he h30 (by omega) h84 (iff_of_false (by decide) (fun h => ?_))
      exact absurd (hβ.mpr (fun r hr => h r (by omega))) (by decide)
    | true =>
      simp (disch := omega) only [W1067, r_4, r_La, h60_10_10, s_41, s_0, ci_m4, r_90, h79_1064, ci_0, r_5, r_2, r_Li, r_49, ci_1, s_40, h79_1065, ci_m9, r_46, r_52, s_8, r_In, r_10, r_47, r_18, r_16, h79_1003, enR, LG, LSt, LC, nlR, psR, TK, up_s, up_n, up_u, lt_nI, le_nI, eq_nI, true_and, and_true, if_true, if_false, Nat.zero_add, Nat.add_zero, nI_add, ↓reduceIte, Nat.reduceAdd, Nat.reduceMul, Nat.reduceSub, Nat.reduceLT, Nat.reduceLeDiff, Nat.reduceEqDiff, Nat.not_lt_zero, Nat.lt_irrefl, decide_true, BEq.rfl, nm1, nm2, nm3, nm4, nm9, ngc, eq_self, List.length_cons, List.length_nil, bI, h1]
      refine m_apartOf (L := L) (a := a') (e := e') hP7 (show mk + 1 < 2147483648 by omega) hp (show q0 < P by omega) h83 hst h30 h84 (fun a2 e2 out f1 f2 f3 f4 f5 f6 => ?_)
      have h9 := tdo9 (out := out) (fun m y h => (f6 m y h).1)
      have fa : FRa a a2 := fun k k1 k2 => (f1 k k1 k2).trans (ha k k1 k2)
      have fe : FRe e e2 := fun k k1 k2 => (f2 k k1 k2).trans (he k k1 k2)
      by_cases ho : out = none
      · have hal := (tres_none f4).mp ho
        simp (disch := omega) only [W1067, r_4, r_La, h60_10_10, s_41, s_0, ci_m4, r_90, h79_1064, ci_0, r_5, r_2, r_Li, r_49, ci_1, s_40, h79_1065, ci_m9, r_46, r_52, s_8, r_In, r_10, r_47, r_18, r_16, h79_1003, enR, LG, LSt, LC, nlR, psR, TK, up_s, up_n, up_u, lt_nI, le_nI, eq_nI, true_and, and_true, if_true, if_false, Nat.zero_add, Nat.add_zero, nI_add, ↓reduceIte, Nat.reduceAdd, Nat.reduceMul, Nat.reduceSub, Nat.reduceLT, Nat.reduceLeDiff, Nat.reduceEqDiff, Nat.not_lt_zero, Nat.lt_irrefl, decide_true, BEq.rfl, nm1, nm2, nm3, nm4, nm9, ngc, eq_self, List.length_cons, List.length_nil, h9, ho]
        exact ih (q0 + 1) a2 e2 (mk + 1) false (by omega) fa fe f5 (by omega) f3 (iff_of_false (by decide) (fun h => h q0 (by omega) (alk_s hal)))
      · have hal : ¬ alk L p q0 := fun h => ho ((tres_none f4).mpr h)
        simp (disch := omega) only [W1067, r_4, r_La, h60_10_10, s_41, s_0, ci_m4, r_90, h79_1064, ci_0, r_5, r_2, r_Li, r_49, ci_1, s_40, h79_1065, ci_m9, r_46, r_52, s_8, r_In, r_10, r_47, r_18, r_16, h79_1003, enR, LG, LSt, LC, nlR, psR, TK, up_s, up_n, up_u, lt_nI, le_nI, eq_nI, true_and, and_true, if_true, if_false, Nat.zero_add, Nat.add_zero, nI_add, ↓reduceIte, Nat.reduceAdd, Nat.reduceMul, Nat.reduceSub, Nat.reduceLT, Nat.reduceLeDiff, Nat.reduceEqDiff, Nat.not_lt_zero, Nat.lt_irrefl, decide_true, BEq.rfl, nm1, nm2, nm3, nm4, nm9, ngc, eq_self, List.length_cons, List.length_nil, h9, ho]
        refine ih (q0 + 1) a2 e2 (mk + 1) true (by omega) fa fe f5 (by omega) f3 (iff_of_true rfl (fun r hr => ?_))
        by_cases hrq : r = q0
        · subst hrq; exact fun h => hal (alk_s h)
        · exact hβ.mp rfl r (by omega)
theorem lp_un20 {m0 : Nat} {hb mb : Nat → Bool} (hM : MLn a (e 74) P N W K O T J) (hP7 : P ≤ 7) (hm0 : m0 + 100 < 2147483648) (hNX : NX L P (e 83)) (hst : ∀ S v, stp L S v < 2 ^ P) (hhb : ∀ p, p < P → (hb p = true ↔ ∀ q, q < p → ¬ alk L q p)) (hmb : ∀ p, p < P → (mb p = true ↔ alk L 0 p))
    (hQ : ∀ (a' : Nat → Int32) (e' : Nat → Nat → Int32) (mk : Nat), FRa a a' → FRe e e' → a' 30 = nI mk → mk ≤ m0 + 8 * P → (∀ w, w < 16384 → ∃ v, v ≤ mk ∧ e' 84 w = nI v) → Q (some (.int (nI (cnt hb P)))) z (Hp X C (va_up a' 2 (nI (sto mb P)), b, e', o))) :
    ∀ (j p : Nat) (a' : Nat → Int32) (e' : Nat → Nat → Int32) (mk : Nat), p + j = P → FRa a a' → FRe e e' → a' 30 = nI mk → mk ≤ m0 + 8 * p → (∀ w, w < 16384 → ∃ v, v ≤ mk ∧ e' 84 w = nI v) → Wp (d + 4) 1067 20 [some (.ref 67), some (.int (nI (cnt hb p))), some (.int (nI (sto mb p))), some (.int (nI p))] [] z (Hp X C (a', b, e', o)) Q := by
  intro j
  induction j with
  | zero =>
    intro p a' e' mk hj ha he h30 hmk h84
    have hj : p = P := by omega
    subst hj
    have h10 : a' 10 = nI p := by rw [ha 10 (by decide) (by decide)]; exact hM.1
    rw [W1067_20]
    simp (disch := omega) only [W1067, r_4, r_La, h60_10_10, s_41, s_0, ci_m4, r_90, h79_1064, ci_0, r_5, r_2, r_Li, r_49, ci_1, s_40, h79_1065, ci_m9, r_46, r_52, s_8, r_In, r_10, r_47, r_18, r_16, h79_1003, enR, LG, LSt, LC, nlR, psR, TK, up_s, up_n, up_u, lt_nI, le_nI, eq_nI, true_and, and_true, if_true, if_false, Nat.zero_add, Nat.add_zero, nI_add, ↓reduceIte, Nat.reduceAdd, Nat.reduceMul, Nat.reduceSub, Nat.reduceLT, Nat.reduceLeDiff, Nat.reduceEqDiff, Nat.not_lt_zero, Nat.lt_irrefl, decide_true, BEq.rfl, nm1, nm2, nm3, nm4, nm9, ngc, eq_self, List.length_cons, List.length_nil, h10, m_ask]
    exact hQ a' e' mk ha he h30 hmk h84
  | succ j ih =>
    intro p a' e' mk hj ha he h30 hmk h84
    have h1 : p < P := by omega
    have h10 : a' 10 = nI P := by rw [ha 10 (by decide) (by decide)]; exact hM.1
    rw [W1067_20]
    simp (disch := omega) only [W1067, r_4, r_La, h60_10_10, s_41, s_0, ci_m4, r_90, h79_1064, ci_0, r_5, r_2, r_Li, r_49, ci_1, s_40, h79_1065, ci_m9, r_46, r_52, s_8, r_In, r_10, r_47, r_18, r_16, h79_1003, enR, LG, LSt, LC, nlR, psR, TK, up_s, up_n, up_u, lt_nI, le_nI, eq_nI, true_and, and_true, if_true, if_false, Nat.zero_add, Nat.add_zero, nI_add, ↓reduceIte, Nat.reduceAdd, Nat.reduceMul, Nat.reduceSub, Nat.reduceLT, Nat.reduceLeDiff, Nat.reduceEqDiff, Nat.not_lt_zero, Nat.lt_irrefl, decide_true, BEq.rfl, nm1, nm2, nm3, nm4, nm9, ngc, eq_self, List.length_cons, List.length_nil, h10, h1]
    exact lp_un34 (hb := hb) (mb := mb) hP7 h1 hm0 hNX hst (hhb p h1) (hmb p h1) (fun a2 e2 mk2 f1 f2 f3 f4 f5 => ih (p + 1) a2 e2 mk2 (by omega) f1 f2 f3 f4 f5) p 0 a' e' mk true (by omega) ha he h30 (by omega) h84 (iff_of_true rfl (fun r hr => absurd hr (by omega)))
theorem op_unlike (H : RL t z s v g w q ct cn cc di dr df li la sf sl a b e o B n P N W K O T J l Ds Dr Df Dp KB) (ht : t < 1000000) : OPI (d + 20) 931 1067 [] t z X (s, v, g, w, q, ct, cn, cc, di, dr, df, li, la, sf, sl) (a, b, e, o) := by
  obtain ⟨hb, hl, hq, hC, hs, hM, hS⟩ := rl_land H
  have hP := hb.1
  have h7 := pow_le7 hP
  have h0 := hC.1
  have h10 := hM.1
  unfold OPI
  rw [cw_wp]
  by_cases hP0 : P = 0
  · subst hP0
    simp (disch := omega) only [W931, r_4, r_La, h60_9_12, h60_3_4, s_41, s_0, ci_m4, r_90, h60_9_9, h60_9_5, h60_4_0, h79_402, ci_0, r_5, r_2, r_Li, r_49, r_47, s_8, r_In, ci_1, r_18, r_16, r_52, h61_9_15, h64_26, enR, LG, LSt, LC, nlR, psR, TK, up_s, up_n, up_u, lt_nI, le_nI, eq_nI, true_and, and_true, if_true, if_false, Nat.zero_add, Nat.add_zero, nI_add, ↓reduceIte, Nat.reduceAdd, Nat.reduceMul, Nat.reduceSub, Nat.reduceLT, Nat.reduceLeDiff, Nat.reduceEqDiff, Nat.not_lt_zero, Nat.lt_irrefl, decide_true, BEq.rfl, nm1, nm2, nm3, nm4, nm9, ngc, eq_self, List.length_cons, List.length_nil, hq, hl, h0]
    refine okc ?_
    rw [cw_wp]
    simp (disch := omega) only [W1067, r_4, r_La, h60_10_10, s_41, s_0, ci_m4, r_90, h79_1064, ci_0, r_5, r_2, r_Li, r_49, ci_1, s_40, h79_1065, ci_m9, r_46, r_52, s_8, r_In, r_10, r_47, r_18, r_16, h79_1003, enR, LG, LSt, LC, nlR, psR, TK, up_s, up_n, up_u, lt_nI, le_nI, eq_nI, true_and, and_true, if_true, if_false, Nat.zero_add, Nat.add_zero, nI_add, ↓reduceIte, Nat.reduceAdd, Nat.reduceMul, Nat.reduceSub, Nat.reduceLT, Nat.reduceLeDiff, Nat.reduceEqDiff, Nat.not_lt_zero, Nat.lt_irrefl, decide_true, BEq.rfl, nm1, nm2, nm3, nm4, nm9, ngc, eq_self, List.length_cons, List.length_nil, h10]
    exact okm (rl_inv (rl_t H))
  obtain ⟨mk, k30, kmk, k84⟩ := id H.2.2.2.2.2.2
  simp (disch := omega) only [W931, r_4, r_La, h60_9_12, h60_3_4, s_41, s_0, ci_m4, r_90, h60_9_9, h60_9_5, h60_4_0, h79_402, ci_0, r_5, r_2, r_Li, r_49, r_47, s_8, r_In, ci_1, r_18, r_16, r_52, h61_9_15, h64_26, enR, LG, LSt, LC, nlR, psR, TK, up_s, up_n, up_u, lt_nI, le_nI, eq_nI, true_and, and_true, if_true, if_false, Nat.zero_add, Nat.add_zero, nI_add, ↓reduceIte, Nat.reduceAdd, Nat.reduceMul, Nat.reduceSub, Nat.reduceLT, Nat.reduceLeDiff, Nat.reduceEqDiff, Nat.not_lt_zero, Nat.lt_irrefl, decide_true, BEq.rfl, nm1, nm2, nm3, nm4, nm9, ngc, eq_self, List.length_cons, List.length_nil, hq, hl, h0, hP0]
  refine c_group_26 (show 0 < 2 by decide) (sen_SL hb hS) hP (fun s' g' f1 f2 f3 => ?_)
  simp (disch := omega) only [W931, r_4, r_La, h60_9_12, h60_3_4, s_41, s_0, ci_m4, r_90, h60_9_9, h60_9_5, h60_4_0, h79_402, ci_0, r_5, r_2, r_Li, r_49, r_47, s_8, r_In, ci_1, r_18, r_16, r_52, h61_9_15, h64_26, enR, LG, LSt, LC, nlR, psR, TK, up_s, up_n, up_u, lt_nI, le_nI, eq_nI, true_and, and_true, if_true, if_false, Nat.zero_add, Nat.add_zero, nI_add, ↓reduceIte, Nat.reduceAdd, Nat.reduceMul, Nat.reduceSub, Nat.reduceLT, Nat.reduceLeDiff, Nat.reduceEqDiff, Nat.not_lt_zero, Nat.lt_irrefl, decide_true, BEq.rfl, nm1, nm2, nm3, nm4, nm9, ngc, eq_self, List.length_cons, List.length_nil]
  refine Eq.mpr (lp_un44 (g := g') (s := s') hl hq hC hP P 0 (by omega)) ?_
  refine okc ?_
  rw [cw_wp]
  simp (disch := omega) only [W1067, r_4, r_La, h60_10_10, s_41, s_0, ci_m4, r_90, h79_1064, ci_0, r_5, r_2, r_Li, r_49, ci_1, s_40, h79_1065, ci_m9, r_46, r_52, s_8, r_In, r_10, r_47, r_18, r_16, h79_1003, enR, LG, LSt, LC, nlR, psR, TK, up_s, up_n, up_u, lt_nI, le_nI, eq_nI, true_and, and_true, if_true, if_false, Nat.zero_add, Nat.add_zero, nI_add, ↓reduceIte, Nat.reduceAdd, Nat.reduceMul, Nat.reduceSub, Nat.reduceLT, Nat.reduceLeDiff, Nat.reduceEqDiff, Nat.not_lt_zero, Nat.lt_irrefl, decide_true, BEq.rfl, nm1, nm2, nm3, nm4, nm9, ngc, eq_self, List.length_cons, List.length_nil, h10, hP0]
  refine m_setNext hM hb (fun γ hγ => ?_)
  simp (disch := omega) only [W1067, r_4, r_La, h60_10_10, s_41, s_0, ci_m4, r_90, h79_1064, ci_0, r_5, r_2, r_Li, r_49, ci_1, s_40, h79_1065, ci_m9, r_46, r_52, s_8, r_In, r_10, r_47, r_18, r_16, h79_1003, enR, LG, LSt, LC, nlR, psR, TK, up_s, up_n, up_u, lt_nI, le_nI, eq_nI, true_and, and_true, if_true, if_false, Nat.zero_add, Nat.add_zero, nI_add, ↓reduceIte, Nat.reduceAdd, Nat.reduceMul, Nat.reduceSub, Nat.reduceLT, Nat.reduceLeDiff, Nat.reduceEqDiff, Nat.not_lt_zero, Nat.lt_irrefl, decide_true, BEq.rfl, nm1, nm2, nm3, nm4, nm9, ngc, eq_self, List.length_cons, List.length_nil]
  refine lp_un20 (L := lds N (fe W K J) K O T) (m0 := mk) (hb := fun p => decide (g' 26 p = nI p)) (mb := fun p => decide (g' 26 p = nI 0)) (e := va_up e 83 γ) hM hP (by omega) (by exact hγ) (fun S v => stp_lt hb) (fun p hp => ?_) (fun p hp => ?_) (fun a' e' mk' r1 r2 r3 r4 r5 => ?_) P 0 a _ mk (by omega) (fun _ _ _ => rfl) (fun _ _ _ => rfl) k30 (by omega) (by exact k84)
  · obtain ⟨r, g1, g2, g3, g4⟩ := f3 p hp
    simp only [decide_eq_true_eq, g2]
    rw [nI_eq (by omega) (by omega)]
    constructor
    · rintro rfl; exact g4
    · intro h
      by_cases hr : r < p
      · exact absurd g3 (h r hr)
      · omega
  · obtain ⟨r, g1, g2, g3, g4⟩ := f3 p hp
    simp only [decide_eq_true_eq, g2]
    rw [nI_eq (by omega) (by omega)]
    constructor
    · rintro rfl; exact g3
    · intro h
      by_cases hr : r = 0
      · exact hr
      · exact absurd h (g4 0 (by omega))
  · have ha' : ∀ k, k < 30 → a' k = a k := fun k hk => r1 k (by omega) (by omega)
    exact okm (rl_inv (rl_ask0 (rl_fr (mk := mk') H (fun k hk => f1 k (by omega) (by omega)) (f2 32 (by decide) (by decide) (by decide) (by decide)) rfl rfl ha' (fun k k1 k2 k3 => (r2 k (by omega) (by omega)).trans (up_n _ _ (by omega))) (mln_fr hM ha' ((r2 74 (by decide) (by decide)).trans (up_n _ _ (by decide)))) r3 (by omega) r5)))
end

/-! mark; feels -/
section
variable {d : Nat} {z : AZ} {f : AH} {Q : Option Value → AZ → AH → Prop} {X : Nat × (Nat → Int32)} {C : CT} {a : Nat → Int32} {b : Nat → Int64} {e : Nat → Nat → Int32} {o : Nat → Nat → Int64} {P N W : Nat} {K O T J : Nat → Nat}
theorem lp_mmark1 {i : Nat} (h : MLn a (e 74) P N W K O T J) (hb : LB P N W K O T J) (hi : i < N) : ∀ (j k c : Nat), k + j = N → c ≤ k → (Wp (d + 2) 1036 39 [some (.ref 67), some (.int (nI i)), some (.int (nI 1)), some (.int (nI c)), some (.int (nI k))] [] z (Hp X C (a, b, e, o)) Q ↔ Q (some (.int (nI (J i / W)))) z (Hp X C (a, b, e, o))) := by
  have hN := hb.2.1
  have hP := hb.1
  have h11 := h.2.1
  have h12 := h.2.2.1
  have hW1 := hb.2.2.1
  have hW3 := hb.2.2.2.1
  have hW0 : ¬ W = 0 := by omega
  obtain ⟨b1, b2, b3, b4⟩ := hb.2.2.2.2 i hi
  obtain ⟨e1, e2, e3, e4⟩ := h.2.2.2 i hi
  intro j
  induction j with
  | zero =>
    intro k c hk _
    have hk : k = N := by omega
    subst hk
    rw [W1036_39]
    simp (disch := omega) only [W1036, r_4, r_La, r_2, r_Li, h79_1030, s_40, s_0, ci_1, ci_5, h80_1001, s_41, ci_m1, r_90, h79_1031, ci_3, h79_1002, ci_0, r_5, h60_10_11, r_49, ci_2, r_47, r_46, h79_1032, h79_1021, h79_1035, r_52, r_10, s_8, r_In, h60_10_12, s_13, ci_4, enR, LG, LSt, LC, nlR, psR, TK, up_s, up_n, up_u, lt_nI, le_nI, eq_nI, true_and, and_true, if_true, if_false, Nat.zero_add, Nat.add_zero, nI_add, ↓reduceIte, Nat.reduceAdd, Nat.reduceMul, Nat.reduceSub, Nat.reduceLT, Nat.reduceLeDiff, Nat.reduceEqDiff, Nat.not_lt_zero, Nat.lt_irrefl, decide_true, BEq.rfl, nm1, nm2, nm3, nm4, nm9, ngc, eq_self, List.length_cons, List.length_nil, h11, h12, m_of, e3, e4, nI_div, hW0, not_false_eq_true, foldu]
  | succ j ih =>
    intro k c hk hc
    have h1 : k < N := by omega
    obtain ⟨f1, f2, f3, f4⟩ := h.2.2.2 k h1
    obtain ⟨g1, g2, g3, g4⟩ := hb.2.2.2.2 k h1
    have hf := fe_lt hb h1
    have hf2 := fe_lt hb hi
    rw [W1036_39]
    simp (disch := omega) only [W1036, r_4, r_La, r_2, r_Li, h79_1030, s_40, s_0, ci_1, ci_5, h80_1001, s_41, ci_m1, r_90, h79_1031, ci_3, h79_1002, ci_0, r_5, h60_10_11, r_49, ci_2, r_47, r_46, h79_1032, h79_1021, h79_1035, r_52, r_10, s_8, r_In, h60_10_12, s_13, ci_4, enR, LG, LSt, LC, nlR, psR, TK, up_s, up_n, up_u, lt_nI, le_nI, eq_nI, true_and, and_true, if_true, if_false, Nat.zero_add, Nat.add_zero, nI_add, ↓reduceIte, Nat.reduceAdd, Nat.reduceMul, Nat.reduceSub, Nat.reduceLT, Nat.reduceLeDiff, Nat.reduceEqDiff, Nat.not_lt_zero, Nat.lt_irrefl, decide_true, BEq.rfl, nm1, nm2, nm3, nm4, nm9, ngc, eq_self, List.length_cons, List.length_nil, h11, h1]
    exact ih (k + 1) c (by omega) (by omega)
theorem lp_mmark2 {i : Nat} (h : MLn a (e 74) P N W K O T J) (hb : LB P N W K O T J) (hi : i < N) : ∀ (j k c : Nat), k + j = N → c ≤ k → (Wp (d + 2) 1036 39 [some (.ref 67), some (.int (nI i)), some (.int (nI 2)), some (.int (nI c)), some (.int (nI k))] [] z (Hp X C (a, b, e, o)) Q ↔ Q (some (.int (nI (foldu (cnb (fun k => decide (k ≠ i) && decide (fe W K J k = fe W K J i))) k j c)))) z (Hp X C (a, b, e, o))) := by
  have hN := hb.2.1
  have hP := hb.1
  have h11 := h.2.1
  have h12 := h.2.2.1
  have hW1 := hb.2.2.1
  have hW3 := hb.2.2.2.1
  have hW0 : ¬ W = 0 := by omega
  obtain ⟨b1, b2, b3, b4⟩ := hb.2.2.2.2 i hi
  obtain ⟨e1, e2, e3, e4⟩ := h.2.2.2 i hi
  intro j
  induction j with
  | zero =>
    intro k c hk _
    have hk : k = N := by omega
    subst hk
    rw [W1036_39]
    simp (disch := omega) only [W1036, r_4, r_La, r_2, r_Li, h79_1030, s_40, s_0, ci_1, ci_5, h80_1001, s_41, ci_m1, r_90, h79_1031, ci_3, h79_1002, ci_0, r_5, h60_10_11, r_49, ci_2, r_47, r_46, h79_1032, h79_1021, h79_1035, r_52, r_10, s_8, r_In, h60_10_12, s_13, ci_4, enR, LG, LSt, LC, nlR, psR, TK, up_s, up_n, up_u, lt_nI, le_nI, eq_nI, true_and, and_true, if_true, if_false, Nat.zero_add, Nat.add_zero, nI_add, ↓reduceIte, Nat.reduceAdd, Nat.reduceMul, Nat.reduceSub, Nat.reduceLT, Nat.reduceLeDiff, Nat.reduceEqDiff, Nat.not_lt_zero, Nat.lt_irrefl, decide_true, BEq.rfl, nm1, nm2, nm3, nm4, nm9, ngc, eq_self, List.length_cons, List.length_nil, h11, h12, m_of, e3, e4, nI_div, hW0, not_false_eq_true, foldu]
  | succ j ih =>
    intro k c hk hc
    have h1 : k < N := by omega
    obtain ⟨f1, f2, f3, f4⟩ := h.2.2.2 k h1
    obtain ⟨g1, g2, g3, g4⟩ := hb.2.2.2.2 k h1
    have hf := fe_lt hb h1
    have hf2 := fe_lt hb hi
    rw [W1036_39]
    by_cases q1 : k = i
    · subst q1
      simp (disch := omega) only [W1036, r_4, r_La, r_2, r_Li, h79_1030, s_40, s_0, ci_1, ci_5, h80_1001, s_41, ci_m1, r_90, h79_1031, ci_3, h79_1002, ci_0, r_5, h60_10_11, r_49, ci_2, r_47, r_46, h79_1032, h79_1021, h79_1035, r_52, r_10, s_8, r_In, h60_10_12, s_13, ci_4, enR, LG, LSt, LC, nlR, psR, TK, up_s, up_n, up_u, lt_nI, le_nI, eq_nI, true_and, and_true, if_true, if_false, Nat.zero_add, Nat.add_zero, nI_add, ↓reduceIte, Nat.reduceAdd, Nat.reduceMul, Nat.reduceSub, Nat.reduceLT, Nat.reduceLeDiff, Nat.reduceEqDiff, Nat.not_lt_zero, Nat.lt_irrefl, decide_true, BEq.rfl, nm1, nm2, nm3, nm4, nm9, ngc, eq_self, List.length_cons, List.length_nil, h11, h1, foldu]
      rw [ih (k + 1) c (by omega) (by omega)]
      simp only [cnb, ne_eq, not_true_eq_false, foldu, cnb, decide_true, decide_false, Bool.true_and, Bool.false_and, Bool.and_true, Bool.and_false, Bool.false_eq_true, if_false]
    · by_cases q2 : fe W K J k = fe W K J i
      · simp (disch := omega) only [W1036, r_4, r_La, r_2, r_Li, h79_1030, s_40, s_0, ci_1, ci_5, h80_1001, s_41, ci_m1, r_90, h79_1031, ci_3, h79_1002, ci_0, r_5, h60_10_11, r_49, ci_2, r_47, r_46, h79_1032, h79_1021, h79_1035, r_52, r_10, s_8, r_In, h60_10_12, s_13, ci_4, enR, LG, LSt, LC, nlR, psR, TK, up_s, up_n, up_u, lt_nI, le_nI, eq_nI, true_and, and_true, if_true, if_false, Nat.zero_add, Nat.add_zero, nI_add, ↓reduceIte, Nat.reduceAdd, Nat.reduceMul, Nat.reduceSub, Nat.reduceLT, Nat.reduceLeDiff, Nat.reduceEqDiff, Nat.not_lt_zero, Nat.lt_irrefl, decide_true, BEq.rfl, nm1, nm2, nm3, nm4, nm9, ngc, eq_self, List.length_cons, List.length_nil, h11, h1, q1, m_feelOf h hb h1, m_feelOf h hb hi, q2, foldu]
        rw [ih (k + 1) _ (by omega) (by omega)]
        simp only [cnb, ne_eq, q1, q2, not_false_eq_true, foldu, cnb, decide_true, decide_false, Bool.true_and, Bool.false_and, Bool.and_true, Bool.and_false, Bool.false_eq_true, if_true]
      · simp (disch := omega) only [W1036, r_4, r_La, r_2, r_Li, h79_1030, s_40, s_0, ci_1, ci_5, h80_1001, s_41, ci_m1, r_90, h79_1031, ci_3, h79_1002, ci_0, r_5, h60_10_11, r_49, ci_2, r_47, r_46, h79_1032, h79_1021, h79_1035, r_52, r_10, s_8, r_In, h60_10_12, s_13, ci_4, enR, LG, LSt, LC, nlR, psR, TK, up_s, up_n, up_u, lt_nI, le_nI, eq_nI, true_and, and_true, if_true, if_false, Nat.zero_add, Nat.add_zero, nI_add, ↓reduceIte, Nat.reduceAdd, Nat.reduceMul, Nat.reduceSub, Nat.reduceLT, Nat.reduceLeDiff, Nat.reduceEqDiff, Nat.not_lt_zero, Nat.lt_irrefl, decide_true, BEq.rfl, nm1, nm2, nm3, nm4, nm9, ngc, eq_self, List.length_cons, List.length_nil, h11, h1, q1, m_feelOf h hb h1, m_feelOf h hb hi, q2, foldu]
        rw [ih (k + 1) _ (by omega) (by omega)]
        simp only [cnb, ne_eq, q1, q2, not_false_eq_true, foldu, cnb, decide_true, decide_false, Bool.true_and, Bool.false_and, Bool.and_true, Bool.and_false, Bool.false_eq_true, if_false]
theorem lp_mmark3 {i : Nat} (h : MLn a (e 74) P N W K O T J) (hb : LB P N W K O T J) (hi : i < N) : ∀ (j k c : Nat), k + j = N → c ≤ k → (Wp (d + 2) 1036 39 [some (.ref 67), some (.int (nI i)), some (.int (nI 3)), some (.int (nI c)), some (.int (nI k))] [] z (Hp X C (a, b, e, o)) Q ↔ Q (some (.int (nI (foldu (cnb (fun k => decide ((O k = O i ∨ T k = O i) ∨ (O k = T i ∨ T k = T i)))) k j c)))) z (Hp X C (a, b, e, o))) := by
  have hN := hb.2.1
  have hP := hb.1
  have h11 := h.2.1
  have h12 := h.2.2.1
  have hW1 := hb.2.2.1
  have hW3 := hb.2.2.2.1
  have hW0 : ¬ W = 0 := by omega
  obtain ⟨b1, b2, b3, b4⟩ := hb.2.2.2.2 i hi
  obtain ⟨e1, e2, e3, e4⟩ := h.2.2.2 i hi
  intro j
  induction j with
  | zero =>
    intro k c hk _
    have hk : k = N := by omega
    subst hk
    rw [W1036_39]
    simp (disch := omega) only [W1036, r_4, r_La, r_2, r_Li, h79_1030, s_40, s_0, ci_1, ci_5, h80_1001, s_41, ci_m1, r_90, h79_1031, ci_3, h79_1002, ci_0, r_5, h60_10_11, r_49, ci_2, r_47, r_46, h79_1032, h79_1021, h79_1035, r_52, r_10, s_8, r_In, h60_10_12, s_13, ci_4, enR, LG, LSt, LC, nlR, psR, TK, up_s, up_n, up_u, lt_nI, le_nI, eq_nI, true_and, and_true, if_true, if_false, Nat.zero_add, Nat.add_zero, nI_add, ↓reduceIte, Nat.reduceAdd, Nat.reduceMul, Nat.reduceSub, Nat.reduceLT, Nat.reduceLeDiff, Nat.reduceEqDiff, Nat.not_lt_zero, Nat.lt_irrefl, decide_true, BEq.rfl, nm1, nm2, nm3, nm4, nm9, ngc, eq_self, List.length_cons, List.length_nil, h11, h12, m_of, e3, e4, nI_div, hW0, not_false_eq_true, foldu]
  | succ j ih =>
    intro k c hk hc
    have h1 : k < N := by omega
    obtain ⟨f1, f2, f3, f4⟩ := h.2.2.2 k h1
    obtain ⟨g1, g2, g3, g4⟩ := hb.2.2.2.2 k h1
    have hf := fe_lt hb h1
    have hf2 := fe_lt hb hi
    rw [W1036_39]
    have t1 := fun (Q : Option Value → AZ → AH → Prop) => m_touches (d := d) (z := z) (Q := Q) (X := X) (C := C) (b := b) (o := o) (p := O i) h hb h1 (by omega)
    have t2 := fun (Q : Option Value → AZ → AH → Prop) => m_touches (d := d) (z := z) (Q := Q) (X := X) (C := C) (b := b) (o := o) (p := T i) h hb h1 (by omega)
    by_cases q1 : O k = O i ∨ T k = O i
    · simp (disch := omega) only [W1036, r_4, r_La, r_2, r_Li, h79_1030, s_40, s_0, ci_1, ci_5, h80_1001, s_41, ci_m1, r_90, h79_1031, ci_3, h79_1002, ci_0, r_5, h60_10_11, r_49, ci_2, r_47, r_46, h79_1032, h79_1021, h79_1035, r_52, r_10, s_8, r_In, h60_10_12, s_13, ci_4, enR, LG, LSt, LC, nlR, psR, TK, up_s, up_n, up_u, lt_nI, le_nI, eq_nI, true_and, and_true, if_true, if_false, Nat.zero_add, Nat.add_zero, nI_add, ↓reduceIte, Nat.reduceAdd, Nat.reduceMul, Nat.reduceSub, Nat.reduceLT, Nat.reduceLeDiff, Nat.reduceEqDiff, Nat.not_lt_zero, Nat.lt_irrefl, decide_true, BEq.rfl, nm1, nm2, nm3, nm4, nm9, ngc, eq_self, List.length_cons, List.length_nil, h11, h1, m_of, e2, e3, t1, t2, q1, foldu]
      rw [ih (k + 1) _ (by omega) (by omega)]
      simp only [cnb, q1, true_or, decide_true, if_true]
    · by_cases q2 : O k = T i ∨ T k = T i
      · simp (disch := omega) only [W1036, r_4, r_La, r_2, r_Li, h79_1030, s_40, s_0, ci_1, ci_5, h80_1001, s_41, ci_m1, r_90, h79_1031, ci_3, h79_1002, ci_0, r_5, h60_10_11, r_49, ci_2, r_47, r_46, h79_1032, h79_1021, h79_1035, r_52, r_10, s_8, r_In, h60_10_12, s_13, ci_4, enR, LG, LSt, LC, nlR, psR, TK, up_s, up_n, up_u, lt_nI, le_nI, eq_nI, true_and, and_true, if_true, if_false, Nat.zero_add, Nat.add_zero, nI_add, ↓reduceIte, Nat.reduceAdd, Nat.reduceMul, Nat.reduceSub, Nat.reduceLT, Nat.reduceLeDiff, Nat.reduceEqDiff, Nat.not_lt_zero, Nat.lt_irrefl, decide_true, BEq.rfl, nm1, nm2, nm3, nm4, nm9, ngc, eq_self, List.length_cons, List.length_nil, h11, h1, m_of, e2, e3, t1, t2, q1, q2, foldu]
        rw [ih (k + 1) _ (by omega) (by omega)]
        simp only [cnb, q1, q2, or_true, decide_true, if_true]
      · simp (disch := omega) only [W1036, r_4, r_La, r_2, r_Li, h79_1030, s_40, s_0, ci_1, ci_5, h80_1001, s_41, ci_m1, r_90, h79_1031, ci_3, h79_1002, ci_0, r_5, h60_10_11, r_49, ci_2, r_47, r_46, h79_1032, h79_1021, h79_1035, r_52, r_10, s_8, r_In, h60_10_12, s_13, ci_4, enR, LG, LSt, LC, nlR, psR, TK, up_s, up_n, up_u, lt_nI, le_nI, eq_nI, true_and, and_true, if_true, if_false, Nat.zero_add, Nat.add_zero, nI_add, ↓reduceIte, Nat.reduceAdd, Nat.reduceMul, Nat.reduceSub, Nat.reduceLT, Nat.reduceLeDiff, Nat.reduceEqDiff, Nat.not_lt_zero, Nat.lt_irrefl, decide_true, BEq.rfl, nm1, nm2, nm3, nm4, nm9, ngc, eq_self, List.length_cons, List.length_nil, h11, h1, m_of, e2, e3, t1, t2, q1, q2, foldu]
        rw [ih (k + 1) _ (by omega) (by omega)]
        simp only [cnb, q1, q2, or_self, decide_false, Bool.false_eq_true, if_false]
theorem lp_mmark4 {i : Nat} (h : MLn a (e 74) P N W K O T J) (hb : LB P N W K O T J) (hi : i < N) : ∀ (j k c : Nat), k + j = N → c ≤ k → (Wp (d + 2) 1036 39 [some (.ref 67), some (.int (nI i)), some (.int (nI 4)), some (.int (nI c)), some (.int (nI k))] [] z (Hp X C (a, b, e, o)) Q ↔ Q (some (.int (nI (T i)))) z (Hp X C (a, b, e, o))) := by
  have hN := hb.2.1
  have hP := hb.1
  have h11 := h.2.1
  have h12 := h.2.2.1
  have hW1 := hb.2.2.1
  have hW3 := hb.2.2.2.1
  have hW0 : ¬ W = 0 := by omega
  obtain ⟨b1, b2, b3, b4⟩ := hb.2.2.2.2 i hi
  obtain ⟨e1, e2, e3, e4⟩ := h.2.2.2 i hi
  intro j
  induction j with
  | zero =>
    intro k c hk _
    have hk : k = N := by omega
    subst hk
    rw [W1036_39]
    simp (disch := omega) only [W1036, r_4, r_La, r_2, r_Li, h79_1030, s_40, s_0, ci_1, ci_5, h80_1001, s_41, ci_m1, r_90, h79_1031, ci_3, h79_1002, ci_0, r_5, h60_10_11, r_49, ci_2, r_47, r_46, h79_1032, h79_1021, h79_1035, r_52, r_10, s_8, r_In, h60_10_12, s_13, ci_4, enR, LG, LSt, LC, nlR, psR, TK, up_s, up_n, up_u, lt_nI, le_nI, eq_nI, true_and, and_true, if_true, if_false, Nat.zero_add, Nat.add_zero, nI_add, ↓reduceIte, Nat.reduceAdd, Nat.reduceMul, Nat.reduceSub, Nat.reduceLT, Nat.reduceLeDiff, Nat.reduceEqDiff, Nat.not_lt_zero, Nat.lt_irrefl, decide_true, BEq.rfl, nm1, nm2, nm3, nm4, nm9, ngc, eq_self, List.length_cons, List.length_nil, h11, h12, m_of, e3, e4, nI_div, hW0, not_false_eq_true, foldu]
  | succ j ih =>
    intro k c hk hc
    have h1 : k < N := by omega
    obtain ⟨f1, f2, f3, f4⟩ := h.2.2.2 k h1
    obtain ⟨g1, g2, g3, g4⟩ := hb.2.2.2.2 k h1
    have hf := fe_lt hb h1
    have hf2 := fe_lt hb hi
    rw [W1036_39]
    simp (disch := omega) only [W1036, r_4, r_La, r_2, r_Li, h79_1030, s_40, s_0, ci_1, ci_5, h80_1001, s_41, ci_m1, r_90, h79_1031, ci_3, h79_1002, ci_0, r_5, h60_10_11, r_49, ci_2, r_47, r_46, h79_1032, h79_1021, h79_1035, r_52, r_10, s_8, r_In, h60_10_12, s_13, ci_4, enR, LG, LSt, LC, nlR, psR, TK, up_s, up_n, up_u, lt_nI, le_nI, eq_nI, true_and, and_true, if_true, if_false, Nat.zero_add, Nat.add_zero, nI_add, ↓reduceIte, Nat.reduceAdd, Nat.reduceMul, Nat.reduceSub, Nat.reduceLT, Nat.reduceLeDiff, Nat.reduceEqDiff, Nat.not_lt_zero, Nat.lt_irrefl, decide_true, BEq.rfl, nm1, nm2, nm3, nm4, nm9, ngc, eq_self, List.length_cons, List.length_nil, h11, h1]
    exact ih (k + 1) c (by omega) (by omega)
theorem lp_mmark5 {i : Nat} (h : MLn a (e 74) P N W K O T J) (hb : LB P N W K O T J) (hi : i < N) : ∀ (j k c : Nat), k + j = N → c ≤ k → (Wp (d + 2) 1036 39 [some (.ref 67), some (.int (nI i)), some (.int (nI 5)), some (.int (nI c)), some (.int (nI k))] [] z (Hp X C (a, b, e, o)) Q ↔ Q (some (.int (nI (foldu (cnb (fun k => decide (K k = 5))) k j c)))) z (Hp X C (a, b, e, o))) := by
  have hN := hb.2.1
  have hP := hb.1
  have h11 := h.2.1
  have h12 := h.2.2.1
  have hW1 := hb.2.2.1
  have hW3 := hb.2.2.2.1
  have hW0 : ¬ W = 0 := by omega
  obtain ⟨b1, b2, b3, b4⟩ := hb.2.2.2.2 i hi
  obtain ⟨e1, e2, e3, e4⟩ := h.2.2.2 i hi
  intro j
  induction j with
  | zero =>
    intro k c hk _
    have hk : k = N := by omega
    subst hk
    rw [W1036_39]
    simp (disch := omega) only [W1036, r_4, r_La, r_2, r_Li, h79_1030, s_40, s_0, ci_1, ci_5, h80_1001, s_41, ci_m1, r_90, h79_1031, ci_3, h79_1002, ci_0, r_5, h60_10_11, r_49, ci_2, r_47, r_46, h79_1032, h79_1021, h79_1035, r_52, r_10, s_8, r_In, h60_10_12, s_13, ci_4, enR, LG, LSt, LC, nlR, psR, TK, up_s, up_n, up_u, lt_nI, le_nI, eq_nI, true_and, and_true, if_true, if_false, Nat.zero_add, Nat.add_zero, nI_add, ↓reduceIte, Nat.reduceAdd, Nat.reduceMul, Nat.reduceSub, Nat.reduceLT, Nat.reduceLeDiff, Nat.reduceEqDiff, Nat.not_lt_zero, Nat.lt_irrefl, decide_true, BEq.rfl, nm1, nm2, nm3, nm4, nm9, ngc, eq_self, List.length_cons, List.length_nil, h11, h12, m_of, e3, e4, nI_div, hW0, not_false_eq_true, foldu]
  | succ j ih =>
    intro k c hk hc
    have h1 : k < N := by omega
    obtain ⟨f1, f2, f3, f4⟩ := h.2.2.2 k h1
    obtain ⟨g1, g2, g3, g4⟩ := hb.2.2.2.2 k h1
    have hf := fe_lt hb h1
    have hf2 := fe_lt hb hi
    rw [W1036_39]
    by_cases q1 : K k = 5
    · simp (disch := omega) only [W1036, r_4, r_La, r_2, r_Li, h79_1030, s_40, s_0, ci_1, ci_5, h80_1001, s_41, ci_m1, r_90, h79_1031, ci_3, h79_1002, ci_0, r_5, h60_10_11, r_49, ci_2, r_47, r_46, h79_1032, h79_1021, h79_1035, r_52, r_10, s_8, r_In, h60_10_12, s_13, ci_4, enR, LG, LSt, LC, nlR, psR, TK, up_s, up_n, up_u, lt_nI, le_nI, eq_nI, true_and, and_true, if_true, if_false, Nat.zero_add, Nat.add_zero, nI_add, ↓reduceIte, Nat.reduceAdd, Nat.reduceMul, Nat.reduceSub, Nat.reduceLT, Nat.reduceLeDiff, Nat.reduceEqDiff, Nat.not_lt_zero, Nat.lt_irrefl, decide_true, BEq.rfl, nm1, nm2, nm3, nm4, nm9, ngc, eq_self, List.length_cons, List.length_nil, h11, h1, m_of, f1, q1, foldu]
      rw [ih (k + 1) _ (by omega) (by omega)]
      simp only [cnb, q1, decide_true, if_true]
    · simp (disch := omega) only [W1036, r_4, r_La, r_2, r_Li, h79_1030, s_40, s_0, ci_1, ci_5, h80_1001, s_41, ci_m1, r_90, h79_1031, ci_3, h79_1002, ci_0, r_5, h60_10_11, r_49, ci_2, r_47, r_46, h79_1032, h79_1021, h79_1035, r_52, r_10, s_8, r_In, h60_10_12, s_13, ci_4, enR, LG, LSt, LC, nlR, psR, TK, up_s, up_n, up_u, lt_nI, le_nI, eq_nI, true_and, and_true, if_true, if_false, Nat.zero_add, Nat.add_zero, nI_add, ↓reduceIte, Nat.reduceAdd, Nat.reduceMul, Nat.reduceSub, Nat.reduceLT, Nat.reduceLeDiff, Nat.reduceEqDiff, Nat.not_lt_zero, Nat.lt_irrefl, decide_true, BEq.rfl, nm1, nm2, nm3, nm4, nm9, ngc, eq_self, List.length_cons, List.length_nil, h11, h1, m_of, f1, q1, foldu]
      rw [ih (k + 1) _ (by omega) (by omega)]
      simp only [cnb, q1, decide_false, Bool.false_eq_true, if_false]
end
theorem cnt_less {F : Nat → Nat} {i : Nat} : ∀ N, i < N → cnt (fun k => decide (F k = F i)) N = cnt (fun k => decide (k ≠ i) && decide (F k = F i)) N + 1 := by
  have h0 : ∀ N, N ≤ i → cnt (fun k => decide (F k = F i)) N = cnt (fun k => decide (k ≠ i) && decide (F k = F i)) N := fun N hN => cnt_congr (fun j hj => by simp; omega)
  intro N
  induction N with
  | zero => intro h; omega
  | succ N ih =>
    intro h
    rw [cnt_succ, cnt_succ]
    by_cases hi : N = i
    · subst hi
      rw [h0 N (Nat.le_refl _)]
      simp
    · rw [ih (by omega)]
      by_cases h2 : F N = F i
      · simp [h2, hi]
      · simp [h2]
section
variable {t d : Nat} {z : AZ} {X : Nat × (Nat → Int32)} {C : CT} {M : MT} {s : Nat → Int32} {v : Nat → Int64} {g : Nat → Nat → Int32} {w : Nat → Nat → Int64} {q : Nat → Nat} {ct : Nat → Int32} {cn : Nat → Int32} {cc : Nat → Nat → Int32} {di : Nat → Nat → Int32} {dr : Nat → Nat → Int32} {df : Nat → Nat → Int32} {li : Nat → Nat → Int32} {la : Nat → Nat → Nat → Int32} {sf : Nat → Nat → Int32} {sl : Nat → Nat → Int32} {a : Nat → Int32} {b : Nat → Int64} {e : Nat → Nat → Int32} {o : Nat → Nat → Int64} {B : Nat → Bool} {n : Nat → Nat} {P N W : Nat} {K O T J : Nat → Nat} {l : Nat} {Ds : Nat → Nat} {Dr Df Dp : Nat → Nat → Nat} {KB : Nat → Bool}
theorem op_mark {x y : Int32} (H : RL t z s v g w q ct cn cc di dr df li la sf sl a b e o B n P N W K O T J l Ds Dr Df Dp KB) : OPI (d + 20) 912 1036 [.int x, .int y] t z X (s, v, g, w, q, ct, cn, cc, di, dr, df, li, la, sf, sl) (a, b, e, o) := by
  obtain ⟨hb, hl, hq, hC, hs, hM, hS⟩ := rl_land H
  have hN := hb.2.1
  unfold OPI
  rw [cw_wp]
  rcases ixN x (show N ≤ 80 by omega) with h | ⟨h1, h2, h3⟩ | ⟨i, hi, rfl⟩
  · simp (disch := omega) only [W912, r_4, r_La, h60_9_12, r_2, r_Li, h79_304, s_40, s_0, ci_1, r_48, ci_5, r_51, ci_m1, r_90, h79_310, s_41, ci_3, h79_951, r_54, h60_3_3, h60_9_14, h80_963, h60_9_5, h60_6_0, h60_3_5, h79_610, r_11, h79_312, h60_3_2, h79_311, h64_la2, h64_la3, h64_sf, enR, LG, LSt, LC, nlR, psR, TK, up_s, up_n, up_u, lt_nI, le_nI, eq_nI, true_and, and_true, if_true, if_false, Nat.zero_add, Nat.add_zero, nI_add, ↓reduceIte, Nat.reduceAdd, Nat.reduceMul, Nat.reduceSub, Nat.reduceLT, Nat.reduceLeDiff, Nat.reduceEqDiff, Nat.not_lt_zero, Nat.lt_irrefl, decide_true, BEq.rfl, nm1, nm2, nm3, nm4, nm9, ngc, eq_self, List.length_cons, List.length_nil, hq, hl, c_hasRoad hl hC, h]
    refine okc ?_
    rw [cw_wp]
    simp (disch := omega) only [W1036, r_4, r_La, r_2, r_Li, h79_1030, s_40, s_0, ci_1, ci_5, h80_1001, s_41, ci_m1, r_90, h79_1031, ci_3, h79_1002, ci_0, r_5, h60_10_11, r_49, ci_2, r_47, r_46, h79_1032, h79_1021, h79_1035, r_52, r_10, s_8, r_In, h60_10_12, s_13, ci_4, enR, LG, LSt, LC, nlR, psR, TK, up_s, up_n, up_u, lt_nI, le_nI, eq_nI, true_and, and_true, if_true, if_false, Nat.zero_add, Nat.add_zero, nI_add, ↓reduceIte, Nat.reduceAdd, Nat.reduceMul, Nat.reduceSub, Nat.reduceLT, Nat.reduceLeDiff, Nat.reduceEqDiff, Nat.not_lt_zero, Nat.lt_irrefl, decide_true, BEq.rfl, nm1, nm2, nm3, nm4, nm9, ngc, eq_self, List.length_cons, List.length_nil, m_isRoad hM, h]
    exact okm (rl_inv (rl_t H))
  · simp (disch := omega) only [W912, r_4, r_La, h60_9_12, r_2, r_Li, h79_304, s_40, s_0, ci_1, r_48, ci_5, r_51, ci_m1, r_90, h79_310, s_41, ci_3, h79_951, r_54, h60_3_3, h60_9_14, h80_963, h60_9_5, h60_6_0, h60_3_5, h79_610, r_11, h79_312, h60_3_2, h79_311, h64_la2, h64_la3, h64_sf, enR, LG, LSt, LC, nlR, psR, TK, up_s, up_n, up_u, lt_nI, le_nI, eq_nI, true_and, and_true, if_true, if_false, Nat.zero_add, Nat.add_zero, nI_add, ↓reduceIte, Nat.reduceAdd, Nat.reduceMul, Nat.reduceSub, Nat.reduceLT, Nat.reduceLeDiff, Nat.reduceEqDiff, Nat.not_lt_zero, Nat.lt_irrefl, decide_true, BEq.rfl, nm1, nm2, nm3, nm4, nm9, ngc, eq_self, List.length_cons, List.length_nil, hq, hl, c_hasRoad hl hC, h1, h2]
    refine okc ?_
    rw [cw_wp]
    simp (disch := omega) only [W1036, r_4, r_La, r_2, r_Li, h79_1030, s_40, s_0, ci_1, ci_5, h80_1001, s_41, ci_m1, r_90, h79_1031, ci_3, h79_1002, ci_0, r_5, h60_10_11, r_49, ci_2, r_47, r_46, h79_1032, h79_1021, h79_1035, r_52, r_10, s_8, r_In, h60_10_12, s_13, ci_4, enR, LG, LSt, LC, nlR, psR, TK, up_s, up_n, up_u, lt_nI, le_nI, eq_nI, true_and, and_true, if_true, if_false, Nat.zero_add, Nat.add_zero, nI_add, ↓reduceIte, Nat.reduceAdd, Nat.reduceMul, Nat.reduceSub, Nat.reduceLT, Nat.reduceLeDiff, Nat.reduceEqDiff, Nat.not_lt_zero, Nat.lt_irrefl, decide_true, BEq.rfl, nm1, nm2, nm3, nm4, nm9, ngc, eq_self, List.length_cons, List.length_nil, m_isRoad hM, h1, h3]
    exact okm (rl_inv (rl_t H))
  have hi2 := nsub (show N < 65536 by omega) hi
  have hi10 : i < 10 := by omega
  obtain ⟨b1, b2, b3, b4⟩ := hb.2.2.2.2 i hi
  obtain ⟨e1, e2, e3, e4⟩ := hC.2.2 i hi
  rcases ix y (n := 5) (by decide) with h | ⟨h1, h2, h3⟩ | ⟨k, hk, rfl⟩
  · have q1 : y < nI 1 := Int32.lt_trans h (by decide +kernel)
    simp (disch := omega) only [W912, r_4, r_La, h60_9_12, r_2, r_Li, h79_304, s_40, s_0, ci_1, r_48, ci_5, r_51, ci_m1, r_90, h79_310, s_41, ci_3, h79_951, r_54, h60_3_3, h60_9_14, h80_963, h60_9_5, h60_6_0, h60_3_5, h79_610, r_11, h79_312, h60_3_2, h79_311, h64_la2, h64_la3, h64_sf, enR, LG, LSt, LC, nlR, psR, TK, up_s, up_n, up_u, lt_nI, le_nI, eq_nI, true_and, and_true, if_true, if_false, Nat.zero_add, Nat.add_zero, nI_add, ↓reduceIte, Nat.reduceAdd, Nat.reduceMul, Nat.reduceSub, Nat.reduceLT, Nat.reduceLeDiff, Nat.reduceEqDiff, Nat.not_lt_zero, Nat.lt_irrefl, decide_true, BEq.rfl, nm1, nm2, nm3, nm4, nm9, ngc, eq_self, List.length_cons, List.length_nil, hq, hl, c_hasRoadn hl hC hi hN, q1]
    refine okc ?_
    rw [cw_wp]
    simp (disch := omega) only [W1036, r_4, r_La, r_2, r_Li, h79_1030, s_40, s_0, ci_1, ci_5, h80_1001, s_41, ci_m1, r_90, h79_1031, ci_3, h79_1002, ci_0, r_5, h60_10_11, r_49, ci_2, r_47, r_46, h79_1032, h79_1021, h79_1035, r_52, r_10, s_8, r_In, h60_10_12, s_13, ci_4, enR, LG, LSt, LC, nlR, psR, TK, up_s, up_n, up_u, lt_nI, le_nI, eq_nI, true_and, and_true, if_true, if_false, Nat.zero_add, Nat.add_zero, nI_add, ↓reduceIte, Nat.reduceAdd, Nat.reduceMul, Nat.reduceSub, Nat.reduceLT, Nat.reduceLeDiff, Nat.reduceEqDiff, Nat.not_lt_zero, Nat.lt_irrefl, decide_true, BEq.rfl, nm1, nm2, nm3, nm4, nm9, ngc, eq_self, List.length_cons, List.length_nil, m_isRoad hM, hi2, m_in, q1]
    exact okm (rl_inv (rl_t H))
  · have q4 : ¬ y < nI 1 := fun h => h2 (Int32.lt_trans h (by decide +kernel))
    simp (disch := omega) only [W912, r_4, r_La, h60_9_12, r_2, r_Li, h79_304, s_40, s_0, ci_1, r_48, ci_5, r_51, ci_m1, r_90, h79_310, s_41, ci_3, h79_951, r_54, h60_3_3, h60_9_14, h80_963, h60_9_5, h60_6_0, h60_3_5, h79_610, r_11, h79_312, h60_3_2, h79_311, h64_la2, h64_la3, h64_sf, enR, LG, LSt, LC, nlR, psR, TK, up_s, up_n, up_u, lt_nI, le_nI, eq_nI, true_and, and_true, if_true, if_false, Nat.zero_add, Nat.add_zero, nI_add, ↓reduceIte, Nat.reduceAdd, Nat.reduceMul, Nat.reduceSub, Nat.reduceLT, Nat.reduceLeDiff, Nat.reduceEqDiff, Nat.not_lt_zero, Nat.lt_irrefl, decide_true, BEq.rfl, nm1, nm2, nm3, nm4, nm9, ngc, eq_self, List.length_cons, List.length_nil, hq, hl, c_hasRoadn hl hC hi hN, q4, h3]
    refine okc ?_
    rw [cw_wp]
    simp (disch := omega) only [W1036, r_4, r_La, r_2, r_Li, h79_1030, s_40, s_0, ci_1, ci_5, h80_1001, s_41, ci_m1, r_90, h79_1031, ci_3, h79_1002, ci_0, r_5, h60_10_11, r_49, ci_2, r_47, r_46, h79_1032, h79_1021, h79_1035, r_52, r_10, s_8, r_In, h60_10_12, s_13, ci_4, enR, LG, LSt, LC, nlR, psR, TK, up_s, up_n, up_u, lt_nI, le_nI, eq_nI, true_and, and_true, if_true, if_false, Nat.zero_add, Nat.add_zero, nI_add, ↓reduceIte, Nat.reduceAdd, Nat.reduceMul, Nat.reduceSub, Nat.reduceLT, Nat.reduceLeDiff, Nat.reduceEqDiff, Nat.not_lt_zero, Nat.lt_irrefl, decide_true, BEq.rfl, nm1, nm2, nm3, nm4, nm9, ngc, eq_self, List.length_cons, List.length_nil, m_isRoad hM, hi2, m_in, q4, h3]
    exact okm (rl_inv (rl_t H))
  have hk5 : ¬ 5 < k := by omega
  by_cases hk1 : k < 1
  · simp (disch := omega) only [W912, r_4, r_La, h60_9_12, r_2, r_Li, h79_304, s_40, s_0, ci_1, r_48, ci_5, r_51, ci_m1, r_90, h79_310, s_41, ci_3, h79_951, r_54, h60_3_3, h60_9_14, h80_963, h60_9_5, h60_6_0, h60_3_5, h79_610, r_11, h79_312, h60_3_2, h79_311, h64_la2, h64_la3, h64_sf, enR, LG, LSt, LC, nlR, psR, TK, up_s, up_n, up_u, lt_nI, le_nI, eq_nI, true_and, and_true, if_true, if_false, Nat.zero_add, Nat.add_zero, nI_add, ↓reduceIte, Nat.reduceAdd, Nat.reduceMul, Nat.reduceSub, Nat.reduceLT, Nat.reduceLeDiff, Nat.reduceEqDiff, Nat.not_lt_zero, Nat.lt_irrefl, decide_true, BEq.rfl, nm1, nm2, nm3, nm4, nm9, ngc, eq_self, List.length_cons, List.length_nil, hq, hl, c_hasRoadn hl hC hi hN, hk1]
    refine okc ?_
    rw [cw_wp]
    simp (disch := omega) only [W1036, r_4, r_La, r_2, r_Li, h79_1030, s_40, s_0, ci_1, ci_5, h80_1001, s_41, ci_m1, r_90, h79_1031, ci_3, h79_1002, ci_0, r_5, h60_10_11, r_49, ci_2, r_47, r_46, h79_1032, h79_1021, h79_1035, r_52, r_10, s_8, r_In, h60_10_12, s_13, ci_4, enR, LG, LSt, LC, nlR, psR, TK, up_s, up_n, up_u, lt_nI, le_nI, eq_nI, true_and, and_true, if_true, if_false, Nat.zero_add, Nat.add_zero, nI_add, ↓reduceIte, Nat.reduceAdd, Nat.reduceMul, Nat.reduceSub, Nat.reduceLT, Nat.reduceLeDiff, Nat.reduceEqDiff, Nat.not_lt_zero, Nat.lt_irrefl, decide_true, BEq.rfl, nm1, nm2, nm3, nm4, nm9, ngc, eq_self, List.length_cons, List.length_nil, m_isRoad hM, hi2, m_in, hk1]
    exact okm (rl_inv (rl_t H))
  by_cases hA : isb (K i) k = true
  · have e5 : sf 0 i = nI (fe W K J i) := by rw [hS.1 i hi10, if_pos hi]
    have hf := fe_lt hb hi
    have hW1 := hb.2.2.1
    have hW3 := hb.2.2.2.1
    have hsf : ∀ j, j < N → sf 0 j = nI (fe W K J j) ∧ fe W K J j < 10 := fun j hj => ⟨by rw [hS.1 j (by omega), if_pos hj], fe_lt hb hj⟩
    have h9 := hC.2.1
    have hk2 : k = 1 ∨ k = 2 ∨ k = 3 ∨ k = 4 ∨ k = 5 := by omega
    rcases hk2 with rfl | rfl | rfl | rfl | rfl
    · simp (disch := omega) only [W912, r_4, r_La, h60_9_12, r_2, r_Li, h79_304, s_40, s_0, ci_1, r_48, ci_5, r_51, ci_m1, r_90, h79_310, s_41, ci_3, h79_951, r_54, h60_3_3, h60_9_14, h80_963, h60_9_5, h60_6_0, h60_3_5, h79_610, r_11, h79_312, h60_3_2, h79_311, h64_la2, h64_la3, h64_sf, enR, LG, LSt, LC, nlR, psR, TK, up_s, up_n, up_u, lt_nI, le_nI, eq_nI, true_and, and_true, if_true, if_false, Nat.zero_add, Nat.add_zero, nI_add, ↓reduceIte, Nat.reduceAdd, Nat.reduceMul, Nat.reduceSub, Nat.reduceLT, Nat.reduceLeDiff, Nat.reduceEqDiff, Nat.not_lt_zero, Nat.lt_irrefl, decide_true, BEq.rfl, nm1, nm2, nm3, nm4, nm9, ngc, eq_self, List.length_cons, List.length_nil, hq, hl, hi10, c_hasRoadn hl hC hi hN, c_isOf hl hC hb hi (show 1 < 65536 by decide), hA, sw_1, List.getD_cons_zero, List.getD_cons_succ, and_self, Nat.le_refl, e4, hs, c_shared]
      refine okc ?_
      rw [cw_wp]
      simp (disch := omega) only [W1036, r_4, r_La, r_2, r_Li, h79_1030, s_40, s_0, ci_1, ci_5, h80_1001, s_41, ci_m1, r_90, h79_1031, ci_3, h79_1002, ci_0, r_5, h60_10_11, r_49, ci_2, r_47, r_46, h79_1032, h79_1021, h79_1035, r_52, r_10, s_8, r_In, h60_10_12, s_13, ci_4, enR, LG, LSt, LC, nlR, psR, TK, up_s, up_n, up_u, lt_nI, le_nI, eq_nI, true_and, and_true, if_true, if_false, Nat.zero_add, Nat.add_zero, nI_add, ↓reduceIte, Nat.reduceAdd, Nat.reduceMul, Nat.reduceSub, Nat.reduceLT, Nat.reduceLeDiff, Nat.reduceEqDiff, Nat.not_lt_zero, Nat.lt_irrefl, decide_true, BEq.rfl, nm1, nm2, nm3, nm4, nm9, ngc, eq_self, List.length_cons, List.length_nil, m_isRoad hM, hi2, m_in, m_isA hM hb hi (show 1 < 65536 by decide), hA]
      rw [lp_mmark1 hM hb hi N 0 0 (by omega) (by omega)]
      exact okm (rl_inv (rl_t H))
    · have hp : foldu (pcF (foldu (rbF (fe W K J) (fe W K J i)) 0 N 0)) 0 10 0 = cnt (fun k => decide (k ≠ i) && decide (fe W K J k = fe W K J i)) N + 1 := by
        rw [rb_sto, pc_sto _ hN]
        exact cnt_less N hi
      have hle := cnt_le (fun k => decide (k ≠ i) && decide (fe W K J k = fe W K J i)) N
      simp (disch := omega) only [W912, r_4, r_La, h60_9_12, r_2, r_Li, h79_304, s_40, s_0, ci_1, r_48, ci_5, r_51, ci_m1, r_90, h79_310, s_41, ci_3, h79_951, r_54, h60_3_3, h60_9_14, h80_963, h60_9_5, h60_6_0, h60_3_5, h79_610, r_11, h79_312, h60_3_2, h79_311, h64_la2, h64_la3, h64_sf, enR, LG, LSt, LC, nlR, psR, TK, up_s, up_n, up_u, lt_nI, le_nI, eq_nI, true_and, and_true, if_true, if_false, Nat.zero_add, Nat.add_zero, nI_add, ↓reduceIte, Nat.reduceAdd, Nat.reduceMul, Nat.reduceSub, Nat.reduceLT, Nat.reduceLeDiff, Nat.reduceEqDiff, Nat.not_lt_zero, Nat.lt_irrefl, decide_true, BEq.rfl, nm1, nm2, nm3, nm4, nm9, ngc, eq_self, List.length_cons, List.length_nil, hq, hl, hi10, c_hasRoadn hl hC hi hN, c_isOf hl hC hb hi (show 2 < 65536 by decide), hA, sw_1, List.getD_cons_zero, List.getD_cons_succ, and_self, e5, h9, c_roadsF (show 0 < 2 by omega) hN (show fe W K J i < 65536 by omega) hsf, hp, nI_sub, Nat.add_sub_cancel]
      refine okc ?_
      rw [cw_wp]
      simp (disch := omega) only [W1036, r_4, r_La, r_2, r_Li, h79_1030, s_40, s_0, ci_1, ci_5, h80_1001, s_41, ci_m1, r_90, h79_1031, ci_3, h79_1002, ci_0, r_5, h60_10_11, r_49, ci_2, r_47, r_46, h79_1032, h79_1021, h79_1035, r_52, r_10, s_8, r_In, h60_10_12, s_13, ci_4, enR, LG, LSt, LC, nlR, psR, TK, up_s, up_n, up_u, lt_nI, le_nI, eq_nI, true_and, and_true, if_true, if_false, Nat.zero_add, Nat.add_zero, nI_add, ↓reduceIte, Nat.reduceAdd, Nat.reduceMul, Nat.reduceSub, Nat.reduceLT, Nat.reduceLeDiff, Nat.reduceEqDiff, Nat.not_lt_zero, Nat.lt_irrefl, decide_true, BEq.rfl, nm1, nm2, nm3, nm4, nm9, ngc, eq_self, List.length_cons, List.length_nil, m_isRoad hM, hi2, m_in, m_isA hM hb hi (show 2 < 65536 by decide), hA]
      rw [lp_mmark2 hM hb hi N 0 0 (by omega) (by omega)]
      exact okm (rl_inv (rl_t H))
    · have hp : foldu (raeF O T i) 0 N 0 = cnt (fun k => decide ((O k = O i ∨ T k = O i) ∨ (O k = T i ∨ T k = T i))) N := foldu_congr _ _ _ (fun j c _ _ => by
        show raeF O T i j c = cnb _ j c
        unfold raeF cnb
        simp only [decide_eq_true_eq])
      simp (disch := omega) only [W912, r_4, r_La, h60_9_12, r_2, r_Li, h79_304, s_40, s_0, ci_1, r_48, ci_5, r_51, ci_m1, r_90, h79_310, s_41, ci_3, h79_951, r_54, h60_3_3, h60_9_14, h80_963, h60_9_5, h60_6_0, h60_3_5, h79_610, r_11, h79_312, h60_3_2, h79_311, h64_la2, h64_la3, h64_sf, enR, LG, LSt, LC, nlR, psR, TK, up_s, up_n, up_u, lt_nI, le_nI, eq_nI, true_and, and_true, if_true, if_false, Nat.zero_add, Nat.add_zero, nI_add, ↓reduceIte, Nat.reduceAdd, Nat.reduceMul, Nat.reduceSub, Nat.reduceLT, Nat.reduceLeDiff, Nat.reduceEqDiff, Nat.not_lt_zero, Nat.lt_irrefl, decide_true, BEq.rfl, nm1, nm2, nm3, nm4, nm9, ngc, eq_self, List.length_cons, List.length_nil, hq, hl, hi10, c_hasRoadn hl hC hi hN, c_isOf hl hC hb hi (show 3 < 65536 by decide), hA, sw_1, List.getD_cons_zero, List.getD_cons_succ, and_self, c_roadsAt hl hC hb hi, hp]
      refine okc ?_
      rw [cw_wp]
      simp (disch := omega) only [W1036, r_4, r_La, r_2, r_Li, h79_1030, s_40, s_0, ci_1, ci_5, h80_1001, s_41, ci_m1, r_90, h79_1031, ci_3, h79_1002, ci_0, r_5, h60_10_11, r_49, ci_2, r_47, r_46, h79_1032, h79_1021, h79_1035, r_52, r_10, s_8, r_In, h60_10_12, s_13, ci_4, enR, LG, LSt, LC, nlR, psR, TK, up_s, up_n, up_u, lt_nI, le_nI, eq_nI, true_and, and_true, if_true, if_false, Nat.zero_add, Nat.add_zero, nI_add, ↓reduceIte, Nat.reduceAdd, Nat.reduceMul, Nat.reduceSub, Nat.reduceLT, Nat.reduceLeDiff, Nat.reduceEqDiff, Nat.not_lt_zero, Nat.lt_irrefl, decide_true, BEq.rfl, nm1, nm2, nm3, nm4, nm9, ngc, eq_self, List.length_cons, List.length_nil, m_isRoad hM, hi2, m_in, m_isA hM hb hi (show 3 < 65536 by decide), hA]
      rw [lp_mmark3 hM hb hi N 0 0 (by omega) (by omega)]
      exact okm (rl_inv (rl_t H))
    · simp (disch := omega) only [W912, r_4, r_La, h60_9_12, r_2, r_Li, h79_304, s_40, s_0, ci_1, r_48, ci_5, r_51, ci_m1, r_90, h79_310, s_41, ci_3, h79_951, r_54, h60_3_3, h60_9_14, h80_963, h60_9_5, h60_6_0, h60_3_5, h79_610, r_11, h79_312, h60_3_2, h79_311, h64_la2, h64_la3, h64_sf, enR, LG, LSt, LC, nlR, psR, TK, up_s, up_n, up_u, lt_nI, le_nI, eq_nI, true_and, and_true, if_true, if_false, Nat.zero_add, Nat.add_zero, nI_add, ↓reduceIte, Nat.reduceAdd, Nat.reduceMul, Nat.reduceSub, Nat.reduceLT, Nat.reduceLeDiff, Nat.reduceEqDiff, Nat.not_lt_zero, Nat.lt_irrefl, decide_true, BEq.rfl, nm1, nm2, nm3, nm4, nm9, ngc, eq_self, List.length_cons, List.length_nil, hq, hl, hi10, c_hasRoadn hl hC hi hN, c_isOf hl hC hb hi (show 4 < 65536 by decide), hA, sw_1, List.getD_cons_zero, List.getD_cons_succ, and_self, e3]
      refine okc ?_
      rw [cw_wp]
      simp (disch := omega) only [W1036, r_4, r_La, r_2, r_Li, h79_1030, s_40, s_0, ci_1, ci_5, h80_1001, s_41, ci_m1, r_90, h79_1031, ci_3, h79_1002, ci_0, r_5, h60_10_11, r_49, ci_2, r_47, r_46, h79_1032, h79_1021, h79_1035, r_52, r_10, s_8, r_In, h60_10_12, s_13, ci_4, enR, LG, LSt, LC, nlR, psR, TK, up_s, up_n, up_u, lt_nI, le_nI, eq_nI, true_and, and_true, if_true, if_false, Nat.zero_add, Nat.add_zero, nI_add, ↓reduceIte, Nat.reduceAdd, Nat.reduceMul, Nat.reduceSub, Nat.reduceLT, Nat.reduceLeDiff, Nat.reduceEqDiff, Nat.not_lt_zero, Nat.lt_irrefl, decide_true, BEq.rfl, nm1, nm2, nm3, nm4, nm9, ngc, eq_self, List.length_cons, List.length_nil, m_isRoad hM, hi2, m_in, m_isA hM hb hi (show 4 < 65536 by decide), hA]
      rw [lp_mmark4 hM hb hi N 0 0 (by omega) (by omega)]
      exact okm (rl_inv (rl_t H))
    · have hp : foldu (rofF K 5) 0 N 0 = cnt (fun k => decide (K k = 5)) N := foldu_congr _ _ _ (fun j c _ _ => by
        show rofF K 5 j c = cnb _ j c
        unfold rofF cnb isb
        simp)
      simp (disch := omega) only [W912, r_4, r_La, h60_9_12, r_2, r_Li, h79_304, s_40, s_0, ci_1, r_48, ci_5, r_51, ci_m1, r_90, h79_310, s_41, ci_3, h79_951, r_54, h60_3_3, h60_9_14, h80_963, h60_9_5, h60_6_0, h60_3_5, h79_610, r_11, h79_312, h60_3_2, h79_311, h64_la2, h64_la3, h64_sf, enR, LG, LSt, LC, nlR, psR, TK, up_s, up_n, up_u, lt_nI, le_nI, eq_nI, true_and, and_true, if_true, if_false, Nat.zero_add, Nat.add_zero, nI_add, ↓reduceIte, Nat.reduceAdd, Nat.reduceMul, Nat.reduceSub, Nat.reduceLT, Nat.reduceLeDiff, Nat.reduceEqDiff, Nat.not_lt_zero, Nat.lt_irrefl, decide_true, BEq.rfl, nm1, nm2, nm3, nm4, nm9, ngc, eq_self, List.length_cons, List.length_nil, hq, hl, hi10, c_hasRoadn hl hC hi hN, c_isOf hl hC hb hi (show 5 < 65536 by decide), hA, sw_1, List.getD_cons_zero, List.getD_cons_succ, and_false, c_roadsOf hl hC hb (show 5 < 65536 by decide), hp]
      refine okc ?_
      rw [cw_wp]
      simp (disch := omega) only [W1036, r_4, r_La, r_2, r_Li, h79_1030, s_40, s_0, ci_1, ci_5, h80_1001, s_41, ci_m1, r_90, h79_1031, ci_3, h79_1002, ci_0, r_5, h60_10_11, r_49, ci_2, r_47, r_46, h79_1032, h79_1021, h79_1035, r_52, r_10, s_8, r_In, h60_10_12, s_13, ci_4, enR, LG, LSt, LC, nlR, psR, TK, up_s, up_n, up_u, lt_nI, le_nI, eq_nI, true_and, and_true, if_true, if_false, Nat.zero_add, Nat.add_zero, nI_add, ↓reduceIte, Nat.reduceAdd, Nat.reduceMul, Nat.reduceSub, Nat.reduceLT, Nat.reduceLeDiff, Nat.reduceEqDiff, Nat.not_lt_zero, Nat.lt_irrefl, decide_true, BEq.rfl, nm1, nm2, nm3, nm4, nm9, ngc, eq_self, List.length_cons, List.length_nil, m_isRoad hM, hi2, m_in, m_isA hM hb hi (show 5 < 65536 by decide), hA]
      rw [lp_mmark5 hM hb hi N 0 0 (by omega) (by omega)]
      exact okm (rl_inv (rl_t H))
  · simp (disch := omega) only [W912, r_4, r_La, h60_9_12, r_2, r_Li, h79_304, s_40, s_0, ci_1, r_48, ci_5, r_51, ci_m1, r_90, h79_310, s_41, ci_3, h79_951, r_54, h60_3_3, h60_9_14, h80_963, h60_9_5, h60_6_0, h60_3_5, h79_610, r_11, h79_312, h60_3_2, h79_311, h64_la2, h64_la3, h64_sf, enR, LG, LSt, LC, nlR, psR, TK, up_s, up_n, up_u, lt_nI, le_nI, eq_nI, true_and, and_true, if_true, if_false, Nat.zero_add, Nat.add_zero, nI_add, ↓reduceIte, Nat.reduceAdd, Nat.reduceMul, Nat.reduceSub, Nat.reduceLT, Nat.reduceLeDiff, Nat.reduceEqDiff, Nat.not_lt_zero, Nat.lt_irrefl, decide_true, BEq.rfl, nm1, nm2, nm3, nm4, nm9, ngc, eq_self, List.length_cons, List.length_nil, hq, hl, c_hasRoadn hl hC hi hN, hk1, hk5, c_isOf hl hC hb hi (show k < 65536 by omega), hA, c_found, Bool.false_eq_true]
    refine okc ?_
    rw [cw_wp]
    simp (disch := omega) only [W1036, r_4, r_La, r_2, r_Li, h79_1030, s_40, s_0, ci_1, ci_5, h80_1001, s_41, ci_m1, r_90, h79_1031, ci_3, h79_1002, ci_0, r_5, h60_10_11, r_49, ci_2, r_47, r_46, h79_1032, h79_1021, h79_1035, r_52, r_10, s_8, r_In, h60_10_12, s_13, ci_4, enR, LG, LSt, LC, nlR, psR, TK, up_s, up_n, up_u, lt_nI, le_nI, eq_nI, true_and, and_true, if_true, if_false, Nat.zero_add, Nat.add_zero, nI_add, ↓reduceIte, Nat.reduceAdd, Nat.reduceMul, Nat.reduceSub, Nat.reduceLT, Nat.reduceLeDiff, Nat.reduceEqDiff, Nat.not_lt_zero, Nat.lt_irrefl, decide_true, BEq.rfl, nm1, nm2, nm3, nm4, nm9, ngc, eq_self, List.length_cons, List.length_nil, m_isRoad hM, hi2, m_in, hk1, hk5, m_isA hM hb hi (show k < 65536 by omega), hA, m_meet, Bool.false_eq_true]
    exact okm (rl_inv (rl_found (k := 3) (by decide) H))
end

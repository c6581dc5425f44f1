/-! count: the class's and the model's -/
def tlsf (P N : Nat) (K : Nat → Nat) (m : Nat) (KB B : Nat → Bool) (k : Nat) : Nat := if k = 0 then P else if k = 1 then N else if k = 2 then m else if k = 3 then cnt (fun i => isb (K i) 1) N else if k = 4 then cnt (fun i => isb (K i) 2) N else if k = 5 then cnt KB 3 else if k = 6 then cnt B 6 else cnt (fun t => B (6 + t)) 4
theorem cnt_and {p : Nat → Bool} {n m : Nat} (h : n ≤ m) : cnt (fun k => decide (k < n) && p k) m = cnt p n := by
  rw [cnt_ext h (fun j hj => by simp; omega)]
  exact cnt_congr (fun j hj => by simp [hj])
section
variable {d : Nat} {z : AZ} {f : AH} {Q : Option Value → AZ → AH → Prop} {X : Nat × (Nat → Int32)} {C : CT} {a : Nat → Int32} {b : Nat → Int64} {e : Nat → Nat → Int32} {o : Nat → Nat → Int64} {P N W : Nat} {K O T J : Nat → Nat} {B : Nat → Bool}
theorem lp_tells3 (h : MLn a (e 74) P N W K O T J) (hb : LB P N W K O T J) (h0 : a 11 = nI N) (hN : N ≤ 10) : ∀ (p k c : Nat), k + p = 10 → c ≤ k → (Wp (d + 2) 1084 4 [some (.ref 67), some (.int (nI 3)), some (.int (nI c)), some (.int (nI k))] [] z (Hp X C (a, b, e, o)) Q ↔ Q (some (.int (nI (foldu (cnb (fun k => decide (k < N) && isb (K k) 1)) k p c)))) z (Hp X C (a, b, e, o))) := by
  intro p
  induction p with
  | zero =>
    intro k c hk _
    have hk : k = 10 := by omega
    subst hk
    rw [W1084_4]
    simp (disch := omega) only [W1084, s_0, ci_0, r_5, r_2, r_Li, ci_10, r_49, ci_3, r_47, r_4, r_La, h60_10_11, ci_1, h79_1031, s_41, ci_4, ci_2, ci_5, h60_10_22, ci_82, r_12, ci_m9, ci_6, h60_10_5, s_43, ci_7, h60_10_8, s_42, r_52, r_10, s_8, r_In, h60_10_10, h60_10_18, r_90, h64_69, h64_72, h64_78, enR, LG, LSt, LC, nlR, psR, TK, up_s, up_n, up_u, lt_nI, le_nI, eq_nI, true_and, and_true, if_true, if_false, Nat.zero_add, Nat.add_zero, nI_add, ↓reduceIte, Nat.reduceAdd, Nat.reduceMul, Nat.reduceSub, Nat.reduceLT, Nat.reduceLeDiff, Nat.reduceEqDiff, Nat.not_lt_zero, Nat.lt_irrefl, decide_true, BEq.rfl, nm1, nm2, nm3, nm4, nm9, ngc, eq_self, List.length_cons, List.length_nil, foldu]
  | succ p ih =>
    intro k c hk hc
    have h1 : k < 10 := by omega
    rw [W1084_4]
    by_cases h2 : k < N
    · by_cases h3 : isb (K k) 1 = true
      · simp (disch := omega) only [W1084, s_0, ci_0, r_5, r_2, r_Li, ci_10, r_49, ci_3, r_47, r_4, r_La, h60_10_11, ci_1, h79_1031, s_41, ci_4, ci_2, ci_5, h60_10_22, ci_82, r_12, ci_m9, ci_6, h60_10_5, s_43, ci_7, h60_10_8, s_42, r_52, r_10, s_8, r_In, h60_10_10, h60_10_18, r_90, h64_69, h64_72, h64_78, enR, LG, LSt, LC, nlR, psR, TK, up_s, up_n, up_u, lt_nI, le_nI, eq_nI, true_and, and_true, if_true, if_false, Nat.zero_add, Nat.add_zero, nI_add, ↓reduceIte, Nat.reduceAdd, Nat.reduceMul, Nat.reduceSub, Nat.reduceLT, Nat.reduceLeDiff, Nat.reduceEqDiff, Nat.not_lt_zero, Nat.lt_irrefl, decide_true, BEq.rfl, nm1, nm2, nm3, nm4, nm9, ngc, eq_self, List.length_cons, List.length_nil, h0, h1, h2, h3, m_isA h hb h2 (show 1 < 65536 by decide), foldu, cnb, decide_false, Bool.true_and, Bool.false_and, Bool.false_eq_true]
        exact ih (k + 1) _ (by omega) (by omega)
      · simp (disch := omega) only [W1084, s_0, ci_0, r_5, r_2, r_Li, ci_10, r_49, ci_3, r_47, r_4, r_La, h60_10_11, ci_1, h79_1031, s_41, ci_4, ci_2, ci_5, h60_10_22, ci_82, r_12, ci_m9, ci_6, h60_10_5, s_43, ci_7, h60_10_8, s_42, r_52, r_10, s_8, r_In, h60_10_10, h60_10_18, r_90, h64_69, h64_72, h64_78, enR, LG, LSt, LC, nlR, psR, TK, up_s, up_n, up_u, lt_nI, le_nI, eq_nI, true_and, and_true, if_true, if_false, Nat.zero_add, Nat.add_zero, nI_add, ↓reduceIte, Nat.reduceAdd, Nat.reduceMul, Nat.reduceSub, Nat.reduceLT, Nat.reduceLeDiff, Nat.reduceEqDiff, Nat.not_lt_zero, Nat.lt_irrefl, decide_true, BEq.rfl, nm1, nm2, nm3, nm4, nm9, ngc, eq_self, List.length_cons, List.length_nil, h0, h1, h2, h3, m_isA h hb h2 (show 1 < 65536 by decide), foldu, cnb, decide_false, Bool.true_and, Bool.false_and, Bool.false_eq_true]
        exact ih (k + 1) _ (by omega) (by omega)
    · simp (disch := omega) only [W1084, s_0, ci_0, r_5, r_2, r_Li, ci_10, r_49, ci_3, r_47, r_4, r_La, h60_10_11, ci_1, h79_1031, s_41, ci_4, ci_2, ci_5, h60_10_22, ci_82, r_12, ci_m9, ci_6, h60_10_5, s_43, ci_7, h60_10_8, s_42, r_52, r_10, s_8, r_In, h60_10_10, h60_10_18, r_90, h64_69, h64_72, h64_78, enR, LG, LSt, LC, nlR, psR, TK, up_s, up_n, up_u, lt_nI, le_nI, eq_nI, true_and, and_true, if_true, if_false, Nat.zero_add, Nat.add_zero, nI_add, ↓reduceIte, Nat.reduceAdd, Nat.reduceMul, Nat.reduceSub, Nat.reduceLT, Nat.reduceLeDiff, Nat.reduceEqDiff, Nat.not_lt_zero, Nat.lt_irrefl, decide_true, BEq.rfl, nm1, nm2, nm3, nm4, nm9, ngc, eq_self, List.length_cons, List.length_nil, h0, h1, h2, foldu, cnb, decide_false, Bool.true_and, Bool.false_and, Bool.false_eq_true]
      exact ih (k + 1) _ (by omega) (by omega)
theorem lp_tells4 (h : MLn a (e 74) P N W K O T J) (hb : LB P N W K O T J) (h0 : a 11 = nI N) (hN : N ≤ 10) : ∀ (p k c : Nat), k + p = 10 → c ≤ k → (Wp (d + 2) 1084 4 [some (.ref 67), some (.int (nI 4)), some (.int (nI c)), some (.int (nI k))] [] z (Hp X C (a, b, e, o)) Q ↔ Q (some (.int (nI (foldu (cnb (fun k => decide (k < N) && isb (K k) 2)) k p c)))) z (Hp X C (a, b, e, o))) := by
  intro p
  induction p with
  | zero =>
    intro k c hk _
    have hk : k = 10 := by omega
    subst hk
    rw [W1084_4]
    simp (disch := omega) only [W1084, s_0, ci_0, r_5, r_2, r_Li, ci_10, r_49, ci_3, r_47, r_4, r_La, h60_10_11, ci_1, h79_1031, s_41, ci_4, ci_2, ci_5, h60_10_22, ci_82, r_12, ci_m9, ci_6, h60_10_5, s_43, ci_7, h60_10_8, s_42, r_52, r_10, s_8, r_In, h60_10_10, h60_10_18, r_90, h64_69, h64_72, h64_78, enR, LG, LSt, LC, nlR, psR, TK, up_s, up_n, up_u, lt_nI, le_nI, eq_nI, true_and, and_true, if_true, if_false, Nat.zero_add, Nat.add_zero, nI_add, ↓reduceIte, Nat.reduceAdd, Nat.reduceMul, Nat.reduceSub, Nat.reduceLT, Nat.reduceLeDiff, Nat.reduceEqDiff, Nat.not_lt_zero, Nat.lt_irrefl, decide_true, BEq.rfl, nm1, nm2, nm3, nm4, nm9, ngc, eq_self, List.length_cons, List.length_nil, foldu]
  | succ p ih =>
    intro k c hk hc
    have h1 : k < 10 := by omega
    rw [W1084_4]
    by_cases h2 : k < N
    · by_cases h3 : isb (K k) 2 = true
      · simp (disch := omega) only [W1084, s_0, ci_0, r_5, r_2, r_Li, ci_10, r_49, ci_3, r_47, r_4, r_La, h60_10_11, ci_1, h79_1031, s_41, ci_4, ci_2, ci_5, h60_10_22, ci_82, r_12, ci_m9, ci_6, h60_10_5, s_43, ci_7, h60_10_8, s_42, r_52, r_10, s_8, r_In, h60_10_10, h60_10_18, r_90, h64_69, h64_72, h64_78, enR, LG, LSt, LC, nlR, psR, TK, up_s, up_n, up_u, lt_nI, le_nI, eq_nI, true_and, and_true, if_true, if_false, Nat.zero_add, Nat.add_zero, nI_add, ↓reduceIte, Nat.reduceAdd, Nat.reduceMul, Nat.reduceSub, Nat.reduceLT, Nat.reduceLeDiff, Nat.reduceEqDiff, Nat.not_lt_zero, Nat.lt_irrefl, decide_true, BEq.rfl, nm1, nm2, nm3, nm4, nm9, ngc, eq_self, List.length_cons, List.length_nil, h0, h1, h2, h3, m_isA h hb h2 (show 2 < 65536 by decide), foldu, cnb, decide_false, Bool.true_and, Bool.false_and, Bool.false_eq_true]
        exact ih (k + 1) _ (by omega) (by omega)
      · simp (disch := omega) only [W1084, s_0, ci_0, r_5, r_2, r_Li, ci_10, r_49, ci_3, r_47, r_4, r_La, h60_10_11, ci_1, h79_1031, s_41, ci_4, ci_2, ci_5, h60_10_22, ci_82, r_12, ci_m9, ci_6, h60_10_5, s_43, ci_7, h60_10_8, s_42, r_52, r_10, s_8, r_In, h60_10_10, h60_10_18, r_90, h64_69, h64_72, h64_78, enR, LG, LSt, LC, nlR, psR, TK, up_s, up_n, up_u, lt_nI, le_nI, eq_nI, true_and, and_true, if_true, if_false, Nat.zero_add, Nat.add_zero, nI_add, ↓reduceIte, Nat.reduceAdd, Nat.reduceMul, Nat.reduceSub, Nat.reduceLT, Nat.reduceLeDiff, Nat.reduceEqDiff, Nat.not_lt_zero, Nat.lt_irrefl, decide_true, BEq.rfl, nm1, nm2, nm3, nm4, nm9, ngc, eq_self, List.length_cons, List.length_nil, h0, h1, h2, h3, m_isA h hb h2 (show 2 < 65536 by decide), foldu, cnb, decide_false, Bool.true_and, Bool.false_and, Bool.false_eq_true]
        exact ih (k + 1) _ (by omega) (by omega)
    · simp (disch := omega) only [W1084, s_0, ci_0, r_5, r_2, r_Li, ci_10, r_49, ci_3, r_47, r_4, r_La, h60_10_11, ci_1, h79_1031, s_41, ci_4, ci_2, ci_5, h60_10_22, ci_82, r_12, ci_m9, ci_6, h60_10_5, s_43, ci_7, h60_10_8, s_42, r_52, r_10, s_8, r_In, h60_10_10, h60_10_18, r_90, h64_69, h64_72, h64_78, enR, LG, LSt, LC, nlR, psR, TK, up_s, up_n, up_u, lt_nI, le_nI, eq_nI, true_and, and_true, if_true, if_false, Nat.zero_add, Nat.add_zero, nI_add, ↓reduceIte, Nat.reduceAdd, Nat.reduceMul, Nat.reduceSub, Nat.reduceLT, Nat.reduceLeDiff, Nat.reduceEqDiff, Nat.not_lt_zero, Nat.lt_irrefl, decide_true, BEq.rfl, nm1, nm2, nm3, nm4, nm9, ngc, eq_self, List.length_cons, List.length_nil, h0, h1, h2, foldu, cnb, decide_false, Bool.true_and, Bool.false_and, Bool.false_eq_true]
      exact ih (k + 1) _ (by omega) (by omega)
theorem lp_tells5 (hB : ∀ k, k < 3 → (B k = true ∧ ∃ m, m ≤ 80 ∧ e 78 (82 * k) = nI m) ∨ (B k = false ∧ e 78 (82 * k) = -9)) : ∀ (p k c : Nat), k + p = 10 → c ≤ k → (Wp (d + 2) 1084 4 [some (.ref 67), some (.int (nI 5)), some (.int (nI c)), some (.int (nI k))] [] z (Hp X C (a, b, e, o)) Q ↔ Q (some (.int (nI (foldu (cnb (fun k => decide (k < 3) && B k)) k p c)))) z (Hp X C (a, b, e, o))) := by
  intro p
  induction p with
  | zero =>
    intro k c hk _
    have hk : k = 10 := by omega
    subst hk
    rw [W1084_4]
    simp (disch := omega) only [W1084, s_0, ci_0, r_5, r_2, r_Li, ci_10, r_49, ci_3, r_47, r_4, r_La, h60_10_11, ci_1, h79_1031, s_41, ci_4, ci_2, ci_5, h60_10_22, ci_82, r_12, ci_m9, ci_6, h60_10_5, s_43, ci_7, h60_10_8, s_42, r_52, r_10, s_8, r_In, h60_10_10, h60_10_18, r_90, h64_69, h64_72, h64_78, enR, LG, LSt, LC, nlR, psR, TK, up_s, up_n, up_u, lt_nI, le_nI, eq_nI, true_and, and_true, if_true, if_false, Nat.zero_add, Nat.add_zero, nI_add, ↓reduceIte, Nat.reduceAdd, Nat.reduceMul, Nat.reduceSub, Nat.reduceLT, Nat.reduceLeDiff, Nat.reduceEqDiff, Nat.not_lt_zero, Nat.lt_irrefl, decide_true, BEq.rfl, nm1, nm2, nm3, nm4, nm9, ngc, eq_self, List.length_cons, List.length_nil, foldu]
  | succ p ih =>
    intro k c hk hc
    have h1 : k < 10 := by omega
    rw [W1084_4]
    by_cases h2 : k < 3
    · rcases hB k h2 with ⟨h3, m, hm, h4⟩ | ⟨h3, h4⟩
      · simp (disch := omega) only [W1084, s_0, ci_0, r_5, r_2, r_Li, ci_10, r_49, ci_3, r_47, r_4, r_La, h60_10_11, ci_1, h79_1031, s_41, ci_4, ci_2, ci_5, h60_10_22, ci_82, r_12, ci_m9, ci_6, h60_10_5, s_43, ci_7, h60_10_8, s_42, r_52, r_10, s_8, r_In, h60_10_10, h60_10_18, r_90, h64_69, h64_72, h64_78, enR, LG, LSt, LC, nlR, psR, TK, up_s, up_n, up_u, lt_nI, le_nI, eq_nI, true_and, and_true, if_true, if_false, Nat.zero_add, Nat.add_zero, nI_add, ↓reduceIte, Nat.reduceAdd, Nat.reduceMul, Nat.reduceSub, Nat.reduceLT, Nat.reduceLeDiff, Nat.reduceEqDiff, Nat.not_lt_zero, Nat.lt_irrefl, decide_true, BEq.rfl, nm1, nm2, nm3, nm4, nm9, ngc, eq_self, List.length_cons, List.length_nil, h1, h2, h3, h4, nI_mul, foldu, cnb, decide_false, Bool.true_and, Bool.false_and, Bool.false_eq_true]
        exact ih (k + 1) _ (by omega) (by omega)
      · simp (disch := omega) only [W1084, s_0, ci_0, r_5, r_2, r_Li, ci_10, r_49, ci_3, r_47, r_4, r_La, h60_10_11, ci_1, h79_1031, s_41, ci_4, ci_2, ci_5, h60_10_22, ci_82, r_12, ci_m9, ci_6, h60_10_5, s_43, ci_7, h60_10_8, s_42, r_52, r_10, s_8, r_In, h60_10_10, h60_10_18, r_90, h64_69, h64_72, h64_78, enR, LG, LSt, LC, nlR, psR, TK, up_s, up_n, up_u, lt_nI, le_nI, eq_nI, true_and, and_true, if_true, if_false, Nat.zero_add, Nat.add_zero, nI_add, ↓reduceIte, Nat.reduceAdd, Nat.reduceMul, Nat.reduceSub, Nat.reduceLT, Nat.reduceLeDiff, Nat.reduceEqDiff, Nat.not_lt_zero, Nat.lt_irrefl, decide_true, BEq.rfl, nm1, nm2, nm3, nm4, nm9, ngc, eq_self, List.length_cons, List.length_nil, h1, h2, h3, h4, nI_mul, foldu, cnb, decide_false, Bool.true_and, Bool.false_and, Bool.false_eq_true]
        exact ih (k + 1) _ (by omega) (by omega)
    · simp (disch := omega) only [W1084, s_0, ci_0, r_5, r_2, r_Li, ci_10, r_49, ci_3, r_47, r_4, r_La, h60_10_11, ci_1, h79_1031, s_41, ci_4, ci_2, ci_5, h60_10_22, ci_82, r_12, ci_m9, ci_6, h60_10_5, s_43, ci_7, h60_10_8, s_42, r_52, r_10, s_8, r_In, h60_10_10, h60_10_18, r_90, h64_69, h64_72, h64_78, enR, LG, LSt, LC, nlR, psR, TK, up_s, up_n, up_u, lt_nI, le_nI, eq_nI, true_and, and_true, if_true, if_false, Nat.zero_add, Nat.add_zero, nI_add, ↓reduceIte, Nat.reduceAdd, Nat.reduceMul, Nat.reduceSub, Nat.reduceLT, Nat.reduceLeDiff, Nat.reduceEqDiff, Nat.not_lt_zero, Nat.lt_irrefl, decide_true, BEq.rfl, nm1, nm2, nm3, nm4, nm9, ngc, eq_self, List.length_cons, List.length_nil, h1, h2, foldu, cnb, decide_false, Bool.true_and, Bool.false_and, Bool.false_eq_true]
      exact ih (k + 1) _ (by omega) (by omega)
theorem lp_tells6 (hB : ∀ k, k < 6 → (B k = true ∧ ∃ m, m ≤ 80 ∧ e 69 k = nI m) ∨ (B k = false ∧ e 69 k = -9)) : ∀ (p k c : Nat), k + p = 10 → c ≤ k → (Wp (d + 2) 1084 4 [some (.ref 67), some (.int (nI 6)), some (.int (nI c)), some (.int (nI k))] [] z (Hp X C (a, b, e, o)) Q ↔ Q (some (.int (nI (foldu (cnb (fun k => decide (k < 6) && B k)) k p c)))) z (Hp X C (a, b, e, o))) := by
  intro p
  induction p with
  | zero =>
    intro k c hk _
    have hk : k = 10 := by omega
    subst hk
    rw [W1084_4]
    simp (disch := omega) only [W1084, s_0, ci_0, r_5, r_2, r_Li, ci_10, r_49, ci_3, r_47, r_4, r_La, h60_10_11, ci_1, h79_1031, s_41, ci_4, ci_2, ci_5, h60_10_22, ci_82, r_12, ci_m9, ci_6, h60_10_5, s_43, ci_7, h60_10_8, s_42, r_52, r_10, s_8, r_In, h60_10_10, h60_10_18, r_90, h64_69, h64_72, h64_78, enR, LG, LSt, LC, nlR, psR, TK, up_s, up_n, up_u, lt_nI, le_nI, eq_nI, true_and, and_true, if_true, if_false, Nat.zero_add, Nat.add_zero, nI_add, ↓reduceIte, Nat.reduceAdd, Nat.reduceMul, Nat.reduceSub, Nat.reduceLT, Nat.reduceLeDiff, Nat.reduceEqDiff, Nat.not_lt_zero, Nat.lt_irrefl, decide_true, BEq.rfl, nm1, nm2, nm3, nm4, nm9, ngc, eq_self, List.length_cons, List.length_nil, foldu]
  | succ p ih =>
    intro k c hk hc
    have h1 : k < 10 := by omega
    rw [W1084_4]
    by_cases h2 : k < 6
    · rcases hB k h2 with ⟨h3, m, hm, h4⟩ | ⟨h3, h4⟩
      · simp (disch := omega) only [W1084, s_0, ci_0, r_5, r_2, r_Li, ci_10, r_49, ci_3, r_47, r_4, r_La, h60_10_11, ci_1, h79_1031, s_41, ci_4, ci_2, ci_5, h60_10_22, ci_82, r_12, ci_m9, ci_6, h60_10_5, s_43, ci_7, h60_10_8, s_42, r_52, r_10, s_8, r_In, h60_10_10, h60_10_18, r_90, h64_69, h64_72, h64_78, enR, LG, LSt, LC, nlR, psR, TK, up_s, up_n, up_u, lt_nI, le_nI, eq_nI, true_and, and_true, if_true, if_false, Nat.zero_add, Nat.add_zero, nI_add, ↓reduceIte, Nat.reduceAdd, Nat.reduceMul, Nat.reduceSub, Nat.reduceLT, Nat.reduceLeDiff, Nat.reduceEqDiff, Nat.not_lt_zero, Nat.lt_irrefl, decide_true, BEq.rfl, nm1, nm2, nm3, nm4, nm9, ngc, eq_self, List.length_cons, List.length_nil, h1, h2, h3, h4, nI_mul, foldu, cnb, decide_false, Bool.true_and, Bool.false_and, Bool.false_eq_true]
        exact ih (k + 1) _ (by omega) (by omega)
      · simp (disch := omega) only [W1084, s_0, ci_0, r_5, r_2, r_Li, ci_10, r_49, ci_3, r_47, r_4, r_La, h60_10_11, ci_1, h79_1031, s_41, ci_4, ci_2, ci_5, h60_10_22, ci_82, r_12, ci_m9, ci_6, h60_10_5, s_43, ci_7, h60_10_8, s_42, r_52, r_10, s_8, r_In, h60_10_10, h60_10_18, r_90, h64_69, h64_72, h64_78, enR, LG, LSt, LC, nlR, psR, TK, up_s, up_n, up_u, lt_nI, le_nI, eq_nI, true_and, and_true, if_true, if_false, Nat.zero_add, Nat.add_zero, nI_add, ↓reduceIte, Nat.reduceAdd, Nat.reduceMul, Nat.reduceSub, Nat.reduceLT, Nat.reduceLeDiff, Nat.reduceEqDiff, Nat.not_lt_zero, Nat.lt_irrefl, decide_true, BEq.rfl, nm1, nm2, nm3, nm4, nm9, ngc, eq_self, List.length_cons, List.length_nil, h1, h2, h3, h4, nI_mul, foldu, cnb, decide_false, Bool.true_and, Bool.false_and, Bool.false_eq_true]
        exact ih (k + 1) _ (by omega) (by omega)
    · simp (disch := omega) only [W1084, s_0, ci_0, r_5, r_2, r_Li, ci_10, r_49, ci_3, r_47, r_4, r_La, h60_10_11, ci_1, h79_1031, s_41, ci_4, ci_2, ci_5, h60_10_22, ci_82, r_12, ci_m9, ci_6, h60_10_5, s_43, ci_7, h60_10_8, s_42, r_52, r_10, s_8, r_In, h60_10_10, h60_10_18, r_90, h64_69, h64_72, h64_78, enR, LG, LSt, LC, nlR, psR, TK, up_s, up_n, up_u, lt_nI, le_nI, eq_nI, true_and, and_true, if_true, if_false, Nat.zero_add, Nat.add_zero, nI_add, ↓reduceIte, Nat.reduceAdd, Nat.reduceMul, Nat.reduceSub, Nat.reduceLT, Nat.reduceLeDiff, Nat.reduceEqDiff, Nat.not_lt_zero, Nat.lt_irrefl, decide_true, BEq.rfl, nm1, nm2, nm3, nm4, nm9, ngc, eq_self, List.length_cons, List.length_nil, h1, h2, foldu, cnb, decide_false, Bool.true_and, Bool.false_and, Bool.false_eq_true]
      exact ih (k + 1) _ (by omega) (by omega)
theorem lp_tells7 (hB : ∀ k, k < 4 → (B k = true ∧ ∃ m, m ≤ 80 ∧ e 72 k = nI m) ∨ (B k = false ∧ e 72 k = -9)) : ∀ (p k c : Nat), k + p = 10 → c ≤ k → (Wp (d + 2) 1084 4 [some (.ref 67), some (.int (nI 7)), some (.int (nI c)), some (.int (nI k))] [] z (Hp X C (a, b, e, o)) Q ↔ Q (some (.int (nI (foldu (cnb (fun k => decide (k < 4) && B k)) k p c)))) z (Hp X C (a, b, e, o))) := by
  intro p
  induction p with
  | zero =>
    intro k c hk _
    have hk : k = 10 := by omega
    subst hk
    rw [W1084_4]
    simp (disch := omega) only [W1084, s_0, ci_0, r_5, r_2, r_Li, ci_10, r_49, ci_3, r_47, r_4, r_La, h60_10_11, ci_1, h79_1031, s_41, ci_4, ci_2, ci_5, h60_10_22, ci_82, r_12, ci_m9, ci_6, h60_10_5, s_43, ci_7, h60_10_8, s_42, r_52, r_10, s_8, r_In, h60_10_10, h60_10_18, r_90, h64_69, h64_72, h64_78, enR, LG, LSt, LC, nlR, psR, TK, up_s, up_n, up_u, lt_nI, le_nI, eq_nI, true_and, and_true, if_true, if_false, Nat.zero_add, Nat.add_zero, nI_add, ↓reduceIte, Nat.reduceAdd, Nat.reduceMul, Nat.reduceSub, Nat.reduceLT, Nat.reduceLeDiff, Nat.reduceEqDiff, Nat.not_lt_zero, Nat.lt_irrefl, decide_true, BEq.rfl, nm1, nm2, nm3, nm4, nm9, ngc, eq_self, List.length_cons, List.length_nil, foldu]
  | succ p ih =>
    intro k c hk hc
    have h1 : k < 10 := by omega
    rw [W1084_4]
    by_cases h2 : k < 4
    · rcases hB k h2 with ⟨h3, m, hm, h4⟩ | ⟨h3, h4⟩
      · simp (disch := omega) only [W1084, s_0, ci_0, r_5, r_2, r_Li, ci_10, r_49, ci_3, r_47, r_4, r_La, h60_10_11, ci_1, h79_1031, s_41, ci_4, ci_2, ci_5, h60_10_22, ci_82, r_12, ci_m9, ci_6, h60_10_5, s_43, ci_7, h60_10_8, s_42, r_52, r_10, s_8, r_In, h60_10_10, h60_10_18, r_90, h64_69, h64_72, h64_78, enR, LG, LSt, LC, nlR, psR, TK, up_s, up_n, up_u, lt_nI, le_nI, eq_nI, true_and, and_true, if_true, if_false, Nat.zero_add, Nat.add_zero, nI_add, ↓reduceIte, Nat.reduceAdd, Nat.reduceMul, Nat.reduceSub, Nat.reduceLT, Nat.reduceLeDiff, Nat.reduceEqDiff, Nat.not_lt_zero, Nat.lt_irrefl, decide_true, BEq.rfl, nm1, nm2, nm3, nm4, nm9, ngc, eq_self, List.length_cons, List.length_nil, h1, h2, h3, h4, nI_mul, foldu, cnb, decide_false, Bool.true_and, Bool.false_and, Bool.false_eq_true]
        exact ih (k + 1) _ (by omega) (by omega)
      · simp (disch := omega) only [W1084, s_0, ci_0, r_5, r_2, r_Li, ci_10, r_49, ci_3, r_47, r_4, r_La, h60_10_11, ci_1, h79_1031, s_41, ci_4, ci_2, ci_5, h60_10_22, ci_82, r_12, ci_m9, ci_6, h60_10_5, s_43, ci_7, h60_10_8, s_42, r_52, r_10, s_8, r_In, h60_10_10, h60_10_18, r_90, h64_69, h64_72, h64_78, enR, LG, LSt, LC, nlR, psR, TK, up_s, up_n, up_u, lt_nI, le_nI, eq_nI, true_and, and_true, if_true, if_false, Nat.zero_add, Nat.add_zero, nI_add, ↓reduceIte, Nat.reduceAdd, Nat.reduceMul, Nat.reduceSub, Nat.reduceLT, Nat.reduceLeDiff, Nat.reduceEqDiff, Nat.not_lt_zero, Nat.lt_irrefl, decide_true, BEq.rfl, nm1, nm2, nm3, nm4, nm9, ngc, eq_self, List.length_cons, List.length_nil, h1, h2, h3, h4, nI_mul, foldu, cnb, decide_false, Bool.true_and, Bool.false_and, Bool.false_eq_true]
        exact ih (k + 1) _ (by omega) (by omega)
    · simp (disch := omega) only [W1084, s_0, ci_0, r_5, r_2, r_Li, ci_10, r_49, ci_3, r_47, r_4, r_La, h60_10_11, ci_1, h79_1031, s_41, ci_4, ci_2, ci_5, h60_10_22, ci_82, r_12, ci_m9, ci_6, h60_10_5, s_43, ci_7, h60_10_8, s_42, r_52, r_10, s_8, r_In, h60_10_10, h60_10_18, r_90, h64_69, h64_72, h64_78, enR, LG, LSt, LC, nlR, psR, TK, up_s, up_n, up_u, lt_nI, le_nI, eq_nI, true_and, and_true, if_true, if_false, Nat.zero_add, Nat.add_zero, nI_add, ↓reduceIte, Nat.reduceAdd, Nat.reduceMul, Nat.reduceSub, Nat.reduceLT, Nat.reduceLeDiff, Nat.reduceEqDiff, Nat.not_lt_zero, Nat.lt_irrefl, decide_true, BEq.rfl, nm1, nm2, nm3, nm4, nm9, ngc, eq_self, List.length_cons, List.length_nil, h1, h2, foldu, cnb, decide_false, Bool.true_and, Bool.false_and, Bool.false_eq_true]
      exact ih (k + 1) _ (by omega) (by omega)
theorem lp_tells0 {y : Nat} (hy : y < 3) (hN : N ≤ 10) (h0 : a 11 = nI N) : ∀ (p k : Nat), k + p = 10 → (Wp (d + 2) 1084 4 [some (.ref 67), some (.int (nI y)), some (.int (nI 0)), some (.int (nI k))] [] z (Hp X C (a, b, e, o)) Q ↔ Q (some (.int (if y = 0 then a 10 else if y = 1 then nI N else a 18))) z (Hp X C (a, b, e, o))) := by
  have y3 : (y = 3) = False := eq_false (by omega)
  have y4 : (y = 4) = False := eq_false (by omega)
  have y5 : (y = 5) = False := eq_false (by omega)
  have y6 : (y = 6) = False := eq_false (by omega)
  have y7 : (y = 7) = False := eq_false (by omega)
  intro p
  induction p with
  | zero =>
    intro k hk
    have hk : k = 10 := by omega
    subst hk
    rw [W1084_4]
    by_cases h1 : y = 0
    · simp (disch := omega) only [W1084, s_0, ci_0, r_5, r_2, r_Li, ci_10, r_49, ci_3, r_47, r_4, r_La, h60_10_11, ci_1, h79_1031, s_41, ci_4, ci_2, ci_5, h60_10_22, ci_82, r_12, ci_m9, ci_6, h60_10_5, s_43, ci_7, h60_10_8, s_42, r_52, r_10, s_8, r_In, h60_10_10, h60_10_18, r_90, h64_69, h64_72, h64_78, enR, LG, LSt, LC, nlR, psR, TK, up_s, up_n, up_u, lt_nI, le_nI, eq_nI, true_and, and_true, if_true, if_false, Nat.zero_add, Nat.add_zero, nI_add, ↓reduceIte, Nat.reduceAdd, Nat.reduceMul, Nat.reduceSub, Nat.reduceLT, Nat.reduceLeDiff, Nat.reduceEqDiff, Nat.not_lt_zero, Nat.lt_irrefl, decide_true, BEq.rfl, nm1, nm2, nm3, nm4, nm9, ngc, eq_self, List.length_cons, List.length_nil, h1]
    · by_cases h2 : y = 1
      · simp (disch := omega) only [W1084, s_0, ci_0, r_5, r_2, r_Li, ci_10, r_49, ci_3, r_47, r_4, r_La, h60_10_11, ci_1, h79_1031, s_41, ci_4, ci_2, ci_5, h60_10_22, ci_82, r_12, ci_m9, ci_6, h60_10_5, s_43, ci_7, h60_10_8, s_42, r_52, r_10, s_8, r_In, h60_10_10, h60_10_18, r_90, h64_69, h64_72, h64_78, enR, LG, LSt, LC, nlR, psR, TK, up_s, up_n, up_u, lt_nI, le_nI, eq_nI, true_and, and_true, if_true, if_false, Nat.zero_add, Nat.add_zero, nI_add, ↓reduceIte, Nat.reduceAdd, Nat.reduceMul, Nat.reduceSub, Nat.reduceLT, Nat.reduceLeDiff, Nat.reduceEqDiff, Nat.not_lt_zero, Nat.lt_irrefl, decide_true, BEq.rfl, nm1, nm2, nm3, nm4, nm9, ngc, eq_self, List.length_cons, List.length_nil, h1, h2, h0, show ((1 : Nat) = 0) = False from eq_false (by decide)]
      · simp (disch := omega) only [W1084, s_0, ci_0, r_5, r_2, r_Li, ci_10, r_49, ci_3, r_47, r_4, r_La, h60_10_11, ci_1, h79_1031, s_41, ci_4, ci_2, ci_5, h60_10_22, ci_82, r_12, ci_m9, ci_6, h60_10_5, s_43, ci_7, h60_10_8, s_42, r_52, r_10, s_8, r_In, h60_10_10, h60_10_18, r_90, h64_69, h64_72, h64_78, enR, LG, LSt, LC, nlR, psR, TK, up_s, up_n, up_u, lt_nI, le_nI, eq_nI, true_and, and_true, if_true, if_false, Nat.zero_add, Nat.add_zero, nI_add, ↓reduceIte, Nat.reduceAdd, Nat.reduceMul, Nat.reduceSub, Nat.reduceLT, Nat.reduceLeDiff, Nat.reduceEqDiff, Nat.not_lt_zero, Nat.lt_irrefl, decide_true, BEq.rfl, nm1, nm2, nm3, nm4, nm9, ngc, eq_self, List.length_cons, List.length_nil, h1, h2, show (y = 2) = True from eq_true (by omega)]
  | succ p ih =>
    intro k hk
    have h1 : k < 10 := by omega
    rw [W1084_4]
    simp (disch := omega) only [W1084, s_0, ci_0, r_5, r_2, r_Li, ci_10, r_49, ci_3, r_47, r_4, r_La, h60_10_11, ci_1, h79_1031, s_41, ci_4, ci_2, ci_5, h60_10_22, ci_82, r_12, ci_m9, ci_6, h60_10_5, s_43, ci_7, h60_10_8, s_42, r_52, r_10, s_8, r_In, h60_10_10, h60_10_18, r_90, h64_69, h64_72, h64_78, enR, LG, LSt, LC, nlR, psR, TK, up_s, up_n, up_u, lt_nI, le_nI, eq_nI, true_and, and_true, if_true, if_false, Nat.zero_add, Nat.add_zero, nI_add, ↓reduceIte, Nat.reduceAdd, Nat.reduceMul, Nat.reduceSub, Nat.reduceLT, Nat.reduceLeDiff, Nat.reduceEqDiff, Nat.not_lt_zero, Nat.lt_irrefl, decide_true, BEq.rfl, nm1, nm2, nm3, nm4, nm9, ngc, eq_self, List.length_cons, List.length_nil, h1, y3, y4, y5, y6, y7]
    exact ih (k + 1) (by omega)
end
section
variable {t d : Nat} {z : AZ} {X : Nat × (Nat → Int32)} {C : CT} {M : MT} {s : Nat → Int32} {v : Nat → Int64} {g : Nat → Nat → Int32} {w : Nat → Nat → Int64} {q : Nat → Nat} {ct : Nat → Int32} {cn : Nat → Int32} {cc : Nat → Nat → Int32} {di : Nat → Nat → Int32} {dr : Nat → Nat → Int32} {df : Nat → Nat → Int32} {li : Nat → Nat → Int32} {la : Nat → Nat → Nat → Int32} {sf : Nat → Nat → Int32} {sl : Nat → Nat → Int32} {a : Nat → Int32} {b : Nat → Int64} {e : Nat → Nat → Int32} {o : Nat → Nat → Int64} {B : Nat → Bool} {n : Nat → Nat} {P N W : Nat} {K O T J : Nat → Nat} {l : Nat} {Ds : Nat → Nat} {Dr Df Dp : Nat → Nat → Nat} {KB : Nat → Bool}
theorem m_tells {y : Nat} {Q : Option Value → AZ → AH → Prop} (H : RL t z s v g w q ct cn cc di dr df li la sf sl a b e o B n P N W K O T J l Ds Dr Df Dp KB) (hy : y < 8) : Cw (d + 3) 1084 [.ref 67, .int (nI y)] z (Hp X C (a, b, e, o)) Q ↔ Q (some (.int (nI (tlsf P N K (Ds 0) KB B y)))) z (Hp X C (a, b, e, o)) := by
  obtain ⟨hb, hl, hq, hC, hs, hM, hS⟩ := rl_land H
  have hN := hb.2.1
  have h10 := hM.1
  have h11 := hM.2.1
  have h18 := H.2.2.2.1.2.2.1.2.1
  rw [cw_wp]
  by_cases h3 : y < 3
  · simp (disch := omega) only [W1084, s_0, ci_0, r_5, r_2, r_Li, ci_10, r_49, ci_3, r_47, r_4, r_La, h60_10_11, ci_1, h79_1031, s_41, ci_4, ci_2, ci_5, h60_10_22, ci_82, r_12, ci_m9, ci_6, h60_10_5, s_43, ci_7, h60_10_8, s_42, r_52, r_10, s_8, r_In, h60_10_10, h60_10_18, r_90, h64_69, h64_72, h64_78, enR, LG, LSt, LC, nlR, psR, TK, up_s, up_n, up_u, lt_nI, le_nI, eq_nI, true_and, and_true, if_true, if_false, Nat.zero_add, Nat.add_zero, nI_add, ↓reduceIte, Nat.reduceAdd, Nat.reduceMul, Nat.reduceSub, Nat.reduceLT, Nat.reduceLeDiff, Nat.reduceEqDiff, Nat.not_lt_zero, Nat.lt_irrefl, decide_true, BEq.rfl, nm1, nm2, nm3, nm4, nm9, ngc, eq_self, List.length_cons, List.length_nil]
    rw [lp_tells0 h3 hN h11 10 0 (by omega)]
    have : (if y = 0 then a 10 else if y = 1 then nI N else a 18) = nI (tlsf P N K (Ds 0) KB B y) := by
      unfold tlsf
      by_cases q0 : y = 0
      · rw [if_pos q0, if_pos q0, h10]
      · by_cases q1 : y = 1
        · rw [if_neg q0, if_pos q1, if_neg q0, if_pos q1]
        · rw [if_neg q0, if_neg q1, if_neg q0, if_neg q1, if_pos (show y = 2 by omega), h18]
    rw [this]
  · have hy2 : y = 3 ∨ y = 4 ∨ y = 5 ∨ y = 6 ∨ y = 7 := by omega
    rcases hy2 with rfl | rfl | rfl | rfl | rfl
    · simp (disch := omega) only [W1084, s_0, ci_0, r_5, r_2, r_Li, ci_10, r_49, ci_3, r_47, r_4, r_La, h60_10_11, ci_1, h79_1031, s_41, ci_4, ci_2, ci_5, h60_10_22, ci_82, r_12, ci_m9, ci_6, h60_10_5, s_43, ci_7, h60_10_8, s_42, r_52, r_10, s_8, r_In, h60_10_10, h60_10_18, r_90, h64_69, h64_72, h64_78, enR, LG, LSt, LC, nlR, psR, TK, up_s, up_n, up_u, lt_nI, le_nI, eq_nI, true_and, and_true, if_true, if_false, Nat.zero_add, Nat.add_zero, nI_add, ↓reduceIte, Nat.reduceAdd, Nat.reduceMul, Nat.reduceSub, Nat.reduceLT, Nat.reduceLeDiff, Nat.reduceEqDiff, Nat.not_lt_zero, Nat.lt_irrefl, decide_true, BEq.rfl, nm1, nm2, nm3, nm4, nm9, ngc, eq_self, List.length_cons, List.length_nil]
      rw [lp_tells3 hM hb h11 hN 10 0 0 (by omega) (by omega), show foldu (cnb (fun k => decide (k < N) && isb (K k) 1)) 0 10 0 = tlsf P N K (Ds 0) KB B 3 from cnt_and hN]
    · simp (disch := omega) only [W1084, s_0, ci_0, r_5, r_2, r_Li, ci_10, r_49, ci_3, r_47, r_4, r_La, h60_10_11, ci_1, h79_1031, s_41, ci_4, ci_2, ci_5, h60_10_22, ci_82, r_12, ci_m9, ci_6, h60_10_5, s_43, ci_7, h60_10_8, s_42, r_52, r_10, s_8, r_In, h60_10_10, h60_10_18, r_90, h64_69, h64_72, h64_78, enR, LG, LSt, LC, nlR, psR, TK, up_s, up_n, up_u, lt_nI, le_nI, eq_nI, true_and, and_true, if_true, if_false, Nat.zero_add, Nat.add_zero, nI_add, ↓reduceIte, Nat.reduceAdd, Nat.reduceMul, Nat.reduceSub, Nat.reduceLT, Nat.reduceLeDiff, Nat.reduceEqDiff, Nat.not_lt_zero, Nat.lt_irrefl, decide_true, BEq.rfl, nm1, nm2, nm3, nm4, nm9, ngc, eq_self, List.length_cons, List.length_nil]
      rw [lp_tells4 hM hb h11 hN 10 0 0 (by omega) (by omega), show foldu (cnb (fun k => decide (k < N) && isb (K k) 2)) 0 10 0 = tlsf P N K (Ds 0) KB B 4 from cnt_and hN]
    · simp (disch := omega) only [W1084, s_0, ci_0, r_5, r_2, r_Li, ci_10, r_49, ci_3, r_47, r_4, r_La, h60_10_11, ci_1, h79_1031, s_41, ci_4, ci_2, ci_5, h60_10_22, ci_82, r_12, ci_m9, ci_6, h60_10_5, s_43, ci_7, h60_10_8, s_42, r_52, r_10, s_8, r_In, h60_10_10, h60_10_18, r_90, h64_69, h64_72, h64_78, enR, LG, LSt, LC, nlR, psR, TK, up_s, up_n, up_u, lt_nI, le_nI, eq_nI, true_and, and_true, if_true, if_false, Nat.zero_add, Nat.add_zero, nI_add, ↓reduceIte, Nat.reduceAdd, Nat.reduceMul, Nat.reduceSub, Nat.reduceLT, Nat.reduceLeDiff, Nat.reduceEqDiff, Nat.not_lt_zero, Nat.lt_irrefl, decide_true, BEq.rfl, nm1, nm2, nm3, nm4, nm9, ngc, eq_self, List.length_cons, List.length_nil]
      rw [lp_tells5 (B := KB) (fun k hk => ?_) 10 0 0 (by omega) (by omega), show foldu (cnb (fun k => decide (k < 3) && KB k)) 0 10 0 = tlsf P N K (Ds 0) KB B 5 from cnt_and (by decide)]
      obtain ⟨g1, g2, g3⟩ := H.2.2.2.1.2.2.2 k hk
      cases hB : KB k with
      | false => exact Or.inr ⟨rfl, g2 hB⟩
      | true =>
        obtain ⟨-, hV, -, hK⟩ := g3 hB
        exact Or.inl ⟨rfl, Ds (1 + k), by have := hV.1; omega, hK.1⟩
    · simp (disch := omega) only [W1084, s_0, ci_0, r_5, r_2, r_Li, ci_10, r_49, ci_3, r_47, r_4, r_La, h60_10_11, ci_1, h79_1031, s_41, ci_4, ci_2, ci_5, h60_10_22, ci_82, r_12, ci_m9, ci_6, h60_10_5, s_43, ci_7, h60_10_8, s_42, r_52, r_10, s_8, r_In, h60_10_10, h60_10_18, r_90, h64_69, h64_72, h64_78, enR, LG, LSt, LC, nlR, psR, TK, up_s, up_n, up_u, lt_nI, le_nI, eq_nI, true_and, and_true, if_true, if_false, Nat.zero_add, Nat.add_zero, nI_add, ↓reduceIte, Nat.reduceAdd, Nat.reduceMul, Nat.reduceSub, Nat.reduceLT, Nat.reduceLeDiff, Nat.reduceEqDiff, Nat.not_lt_zero, Nat.lt_irrefl, decide_true, BEq.rfl, nm1, nm2, nm3, nm4, nm9, ngc, eq_self, List.length_cons, List.length_nil]
      rw [lp_tells6 (B := B) (fun k hk => ?_) 10 0 0 (by omega) (by omega), show foldu (cnb (fun k => decide (k < 6) && B k)) 0 10 0 = tlsf P N K (Ds 0) KB B 6 from cnt_and (by decide)]
      rcases rl_r H hk with ⟨q1, q2, q3, q4, q5⟩ | ⟨q1, q2, q3, q4, q5, q6⟩
      · exact Or.inr ⟨q1, q5⟩
      · exact Or.inl ⟨q1, n k, by omega, q5⟩
    · simp (disch := omega) only [W1084, s_0, ci_0, r_5, r_2, r_Li, ci_10, r_49, ci_3, r_47, r_4, r_La, h60_10_11, ci_1, h79_1031, s_41, ci_4, ci_2, ci_5, h60_10_22, ci_82, r_12, ci_m9, ci_6, h60_10_5, s_43, ci_7, h60_10_8, s_42, r_52, r_10, s_8, r_In, h60_10_10, h60_10_18, r_90, h64_69, h64_72, h64_78, enR, LG, LSt, LC, nlR, psR, TK, up_s, up_n, up_u, lt_nI, le_nI, eq_nI, true_and, and_true, if_true, if_false, Nat.zero_add, Nat.add_zero, nI_add, ↓reduceIte, Nat.reduceAdd, Nat.reduceMul, Nat.reduceSub, Nat.reduceLT, Nat.reduceLeDiff, Nat.reduceEqDiff, Nat.not_lt_zero, Nat.lt_irrefl, decide_true, BEq.rfl, nm1, nm2, nm3, nm4, nm9, ngc, eq_self, List.length_cons, List.length_nil]
      rw [lp_tells7 (B := fun t => B (6 + t)) (fun k hk => ?_) 10 0 0 (by omega) (by omega), show foldu (cnb (fun k => decide (k < 4) && B (6 + k))) 0 10 0 = tlsf P N K (Ds 0) KB B 7 from cnt_and (by decide)]
      rcases rl_x H hk with ⟨q1, q2, q3, q4, q5⟩ | ⟨q1, q2, q3, q4, q5, q6⟩
      · exact Or.inr ⟨q1, q5⟩
      · exact Or.inl ⟨q1, n (6 + k), by omega, q5⟩
theorem c_count {y : Nat} {Q : Option Value → AZ → AH → Prop} (H : RL t z s v g w q ct cn cc di dr df li la sf sl a b e o B n P N W K O T J l Ds Dr Df Dp KB) (hy : y < 8) : Cw (d + 4) 944 [.ref 0, .int (nI y)] z (Hp X (s, v, g, w, q, ct, cn, cc, di, dr, df, li, la, sf, sl) M) Q ↔ Q (some (.int (nI (tlsf P N K (Ds 0) KB B y)))) z (Hp X (s, v, g, w, q, ct, cn, cc, di, dr, df, li, la, sf, sl) M) := by
  obtain ⟨hb, hl, hq, hC, hs, hM, hS⟩ := rl_land H
  have h0 := hC.1
  have h9 := hC.2.1
  have c5 := H.2.2.2.1.2.1.2.2.1
  have k3 : ∀ k, k < 3 → di (1 + k) 2 = if KB k = true then nI 1 else nI 0 := fun k hk => (H.2.2.2.1.2.2.2 k hk).1
  have k6 : ∀ k, k < 6 → ct k = if B k = true then nI 1 else nI 0 := fun k hk => (H.2.1.1 k (by omega)).1
  have k4 : ∀ k, k < 4 → ct (6 + k) = if B (6 + k) = true then nI 1 else nI 0 := fun k hk => (H.2.1.1 (6 + k) (by omega)).1
  rw [cw_wp]
  have hy2 : y = 0 ∨ y = 1 ∨ y = 2 ∨ y = 3 ∨ y = 4 ∨ y = 5 ∨ y = 6 ∨ y = 7 := by omega
  rcases hy2 with rfl | rfl | rfl | rfl | rfl | rfl | rfl | rfl
  · simp (disch := omega) only [W944, r_2, r_Li, r_54, r_4, r_La, h60_9_12, h60_3_4, r_90, h60_3_5, h60_9_3, h60_2_5, s_0, ci_1, h79_311, ci_2, h79_960, h60_9_0, h80_961, h60_9_1, ci_m1, enR, LG, LSt, LC, nlR, psR, TK, up_s, up_n, up_u, lt_nI, le_nI, eq_nI, true_and, and_true, if_true, if_false, Nat.zero_add, Nat.add_zero, nI_add, ↓reduceIte, Nat.reduceAdd, Nat.reduceMul, Nat.reduceSub, Nat.reduceLT, Nat.reduceLeDiff, Nat.reduceEqDiff, Nat.not_lt_zero, Nat.lt_irrefl, decide_true, BEq.rfl, nm1, nm2, nm3, nm4, nm9, ngc, eq_self, List.length_cons, List.length_nil, sw_n, List.getD_cons_zero, List.getD_cons_succ, hq, hl, h0]
    exact Iff.rfl
  · simp (disch := omega) only [W944, r_2, r_Li, r_54, r_4, r_La, h60_9_12, h60_3_4, r_90, h60_3_5, h60_9_3, h60_2_5, s_0, ci_1, h79_311, ci_2, h79_960, h60_9_0, h80_961, h60_9_1, ci_m1, enR, LG, LSt, LC, nlR, psR, TK, up_s, up_n, up_u, lt_nI, le_nI, eq_nI, true_and, and_true, if_true, if_false, Nat.zero_add, Nat.add_zero, nI_add, ↓reduceIte, Nat.reduceAdd, Nat.reduceMul, Nat.reduceSub, Nat.reduceLT, Nat.reduceLeDiff, Nat.reduceEqDiff, Nat.not_lt_zero, Nat.lt_irrefl, decide_true, BEq.rfl, nm1, nm2, nm3, nm4, nm9, ngc, eq_self, List.length_cons, List.length_nil, sw_n, List.getD_cons_zero, List.getD_cons_succ, hq, hl, h9]
    exact Iff.rfl
  · simp (disch := omega) only [W944, r_2, r_Li, r_54, r_4, r_La, h60_9_12, h60_3_4, r_90, h60_3_5, h60_9_3, h60_2_5, s_0, ci_1, h79_311, ci_2, h79_960, h60_9_0, h80_961, h60_9_1, ci_m1, enR, LG, LSt, LC, nlR, psR, TK, up_s, up_n, up_u, lt_nI, le_nI, eq_nI, true_and, and_true, if_true, if_false, Nat.zero_add, Nat.add_zero, nI_add, ↓reduceIte, Nat.reduceAdd, Nat.reduceMul, Nat.reduceSub, Nat.reduceLT, Nat.reduceLeDiff, Nat.reduceEqDiff, Nat.not_lt_zero, Nat.lt_irrefl, decide_true, BEq.rfl, nm1, nm2, nm3, nm4, nm9, ngc, eq_self, List.length_cons, List.length_nil, sw_n, List.getD_cons_zero, List.getD_cons_succ, c5]
    exact Iff.rfl
  · simp (disch := omega) only [W944, r_2, r_Li, r_54, r_4, r_La, h60_9_12, h60_3_4, r_90, h60_3_5, h60_9_3, h60_2_5, s_0, ci_1, h79_311, ci_2, h79_960, h60_9_0, h80_961, h60_9_1, ci_m1, enR, LG, LSt, LC, nlR, psR, TK, up_s, up_n, up_u, lt_nI, le_nI, eq_nI, true_and, and_true, if_true, if_false, Nat.zero_add, Nat.add_zero, nI_add, ↓reduceIte, Nat.reduceAdd, Nat.reduceMul, Nat.reduceSub, Nat.reduceLT, Nat.reduceLeDiff, Nat.reduceEqDiff, Nat.not_lt_zero, Nat.lt_irrefl, decide_true, BEq.rfl, nm1, nm2, nm3, nm4, nm9, ngc, eq_self, List.length_cons, List.length_nil, sw_n, List.getD_cons_zero, List.getD_cons_succ, hq, c_roadsOf hl hC hb]
    exact Iff.rfl
  · simp (disch := omega) only [W944, r_2, r_Li, r_54, r_4, r_La, h60_9_12, h60_3_4, r_90, h60_3_5, h60_9_3, h60_2_5, s_0, ci_1, h79_311, ci_2, h79_960, h60_9_0, h80_961, h60_9_1, ci_m1, enR, LG, LSt, LC, nlR, psR, TK, up_s, up_n, up_u, lt_nI, le_nI, eq_nI, true_and, and_true, if_true, if_false, Nat.zero_add, Nat.add_zero, nI_add, ↓reduceIte, Nat.reduceAdd, Nat.reduceMul, Nat.reduceSub, Nat.reduceLT, Nat.reduceLeDiff, Nat.reduceEqDiff, Nat.not_lt_zero, Nat.lt_irrefl, decide_true, BEq.rfl, nm1, nm2, nm3, nm4, nm9, ngc, eq_self, List.length_cons, List.length_nil, sw_n, List.getD_cons_zero, List.getD_cons_succ, hq, c_roadsOf hl hC hb]
    exact Iff.rfl
  · simp (disch := omega) only [W944, r_2, r_Li, r_54, r_4, r_La, h60_9_12, h60_3_4, r_90, h60_3_5, h60_9_3, h60_2_5, s_0, ci_1, h79_311, ci_2, h79_960, h60_9_0, h80_961, h60_9_1, ci_m1, enR, LG, LSt, LC, nlR, psR, TK, up_s, up_n, up_u, lt_nI, le_nI, eq_nI, true_and, and_true, if_true, if_false, Nat.zero_add, Nat.add_zero, nI_add, ↓reduceIte, Nat.reduceAdd, Nat.reduceMul, Nat.reduceSub, Nat.reduceLT, Nat.reduceLeDiff, Nat.reduceEqDiff, Nat.not_lt_zero, Nat.lt_irrefl, decide_true, BEq.rfl, nm1, nm2, nm3, nm4, nm9, ngc, eq_self, List.length_cons, List.length_nil, sw_n, List.getD_cons_zero, List.getD_cons_succ, c_kept k3]
    exact Iff.rfl
  · simp (disch := omega) only [W944, r_2, r_Li, r_54, r_4, r_La, h60_9_12, h60_3_4, r_90, h60_3_5, h60_9_3, h60_2_5, s_0, ci_1, h79_311, ci_2, h79_960, h60_9_0, h80_961, h60_9_1, ci_m1, enR, LG, LSt, LC, nlR, psR, TK, up_s, up_n, up_u, lt_nI, le_nI, eq_nI, true_and, and_true, if_true, if_false, Nat.zero_add, Nat.add_zero, nI_add, ↓reduceIte, Nat.reduceAdd, Nat.reduceMul, Nat.reduceSub, Nat.reduceLT, Nat.reduceLeDiff, Nat.reduceEqDiff, Nat.not_lt_zero, Nat.lt_irrefl, decide_true, BEq.rfl, nm1, nm2, nm3, nm4, nm9, ngc, eq_self, List.length_cons, List.length_nil, sw_n, List.getD_cons_zero, List.getD_cons_succ, c_cells1 k6]
    exact Iff.rfl
  · simp (disch := omega) only [W944, r_2, r_Li, r_54, r_4, r_La, h60_9_12, h60_3_4, r_90, h60_3_5, h60_9_3, h60_2_5, s_0, ci_1, h79_311, ci_2, h79_960, h60_9_0, h80_961, h60_9_1, ci_m1, enR, LG, LSt, LC, nlR, psR, TK, up_s, up_n, up_u, lt_nI, le_nI, eq_nI, true_and, and_true, if_true, if_false, Nat.zero_add, Nat.add_zero, nI_add, ↓reduceIte, Nat.reduceAdd, Nat.reduceMul, Nat.reduceSub, Nat.reduceLT, Nat.reduceLeDiff, Nat.reduceEqDiff, Nat.not_lt_zero, Nat.lt_irrefl, decide_true, BEq.rfl, nm1, nm2, nm3, nm4, nm9, ngc, eq_self, List.length_cons, List.length_nil, sw_n, List.getD_cons_zero, List.getD_cons_succ, c_cells2 k4]
    exact Iff.rfl
theorem op_count {x : Int32} (H : RL t z s v g w q ct cn cc di dr df li la sf sl a b e o B n P N W K O T J l Ds Dr Df Dp KB) : OPI (d + 20) 944 1085 [.int x] t z X (s, v, g, w, q, ct, cn, cc, di, dr, df, li, la, sf, sl) (a, b, e, o) := by
  unfold OPI
  rcases ix x (n := 7) (by decide) with h | ⟨q1, q2, q3⟩ | ⟨k, hk, rfl⟩
  · have h1 : sw 0 [48, 56, 64, 72, 81, 90, 95, 103] 111 x = 111 := by
      unfold sw
      have := Int32.lt_iff_toInt_lt.mp h
      rw [nI_toInt (by decide)] at this
      rw [if_pos (Or.inl (by omega))]
    rw [cw_wp]
    simp (disch := omega) only [W944, r_2, r_Li, r_54, r_4, r_La, h60_9_12, h60_3_4, r_90, h60_3_5, h60_9_3, h60_2_5, s_0, ci_1, h79_311, ci_2, h79_960, h60_9_0, h80_961, h60_9_1, ci_m1, enR, LG, LSt, LC, nlR, psR, TK, up_s, up_n, up_u, lt_nI, le_nI, eq_nI, true_and, and_true, if_true, if_false, Nat.zero_add, Nat.add_zero, nI_add, ↓reduceIte, Nat.reduceAdd, Nat.reduceMul, Nat.reduceSub, Nat.reduceLT, Nat.reduceLeDiff, Nat.reduceEqDiff, Nat.not_lt_zero, Nat.lt_irrefl, decide_true, BEq.rfl, nm1, nm2, nm3, nm4, nm9, ngc, eq_self, List.length_cons, List.length_nil, h1]
    refine okc ?_
    rw [cw_wp]
    simp (disch := omega) only [W1085, r_2, r_Li, s_0, ci_0, ci_7, h80_1001, s_40, r_4, r_La, h79_1084, r_52, ci_m1, r_90, enR, LG, LSt, LC, nlR, psR, TK, up_s, up_n, up_u, lt_nI, le_nI, eq_nI, true_and, and_true, if_true, if_false, Nat.zero_add, Nat.add_zero, nI_add, ↓reduceIte, Nat.reduceAdd, Nat.reduceMul, Nat.reduceSub, Nat.reduceLT, Nat.reduceLeDiff, Nat.reduceEqDiff, Nat.not_lt_zero, Nat.lt_irrefl, decide_true, BEq.rfl, nm1, nm2, nm3, nm4, nm9, ngc, eq_self, List.length_cons, List.length_nil, m_in, h]
    exact okm (rl_inv (rl_t H))
  · have h1 : sw 0 [48, 56, 64, 72, 81, 90, 95, 103] 111 x = 111 := by
      unfold sw
      have := Int32.lt_iff_toInt_lt.mp q3
      rw [nI_toInt (by decide)] at this
      rw [if_pos (Or.inr (by simp; omega))]
    rw [cw_wp]
    simp (disch := omega) only [W944, r_2, r_Li, r_54, r_4, r_La, h60_9_12, h60_3_4, r_90, h60_3_5, h60_9_3, h60_2_5, s_0, ci_1, h79_311, ci_2, h79_960, h60_9_0, h80_961, h60_9_1, ci_m1, enR, LG, LSt, LC, nlR, psR, TK, up_s, up_n, up_u, lt_nI, le_nI, eq_nI, true_and, and_true, if_true, if_false, Nat.zero_add, Nat.add_zero, nI_add, ↓reduceIte, Nat.reduceAdd, Nat.reduceMul, Nat.reduceSub, Nat.reduceLT, Nat.reduceLeDiff, Nat.reduceEqDiff, Nat.not_lt_zero, Nat.lt_irrefl, decide_true, BEq.rfl, nm1, nm2, nm3, nm4, nm9, ngc, eq_self, List.length_cons, List.length_nil, h1]
    refine okc ?_
    rw [cw_wp]
    simp (disch := omega) only [W1085, r_2, r_Li, s_0, ci_0, ci_7, h80_1001, s_40, r_4, r_La, h79_1084, r_52, ci_m1, r_90, enR, LG, LSt, LC, nlR, psR, TK, up_s, up_n, up_u, lt_nI, le_nI, eq_nI, true_and, and_true, if_true, if_false, Nat.zero_add, Nat.add_zero, nI_add, ↓reduceIte, Nat.reduceAdd, Nat.reduceMul, Nat.reduceSub, Nat.reduceLT, Nat.reduceLeDiff, Nat.reduceEqDiff, Nat.not_lt_zero, Nat.lt_irrefl, decide_true, BEq.rfl, nm1, nm2, nm3, nm4, nm9, ngc, eq_self, List.length_cons, List.length_nil, m_in, q1, q3]
    exact okm (rl_inv (rl_t H))
  · have h7 : ¬ 7 < k := by omega
    rw [c_count H (show k < 8 by omega)]
    refine okc ?_
    rw [cw_wp]
    simp (disch := omega) only [W1085, r_2, r_Li, s_0, ci_0, ci_7, h80_1001, s_40, r_4, r_La, h79_1084, r_52, ci_m1, r_90, enR, LG, LSt, LC, nlR, psR, TK, up_s, up_n, up_u, lt_nI, le_nI, eq_nI, true_and, and_true, if_true, if_false, Nat.zero_add, Nat.add_zero, nI_add, ↓reduceIte, Nat.reduceAdd, Nat.reduceMul, Nat.reduceSub, Nat.reduceLT, Nat.reduceLeDiff, Nat.reduceEqDiff, Nat.not_lt_zero, Nat.lt_irrefl, decide_true, BEq.rfl, nm1, nm2, nm3, nm4, nm9, ngc, eq_self, List.length_cons, List.length_nil, m_in, h7, m_tells H (show k < 8 by omega)]
    exact okm (rl_inv (rl_t H))
end

/-! the start of the two objects (printed by wip/gen82.py) -/
section
variable {d x n m : Nat} {f : AH} {Q : Option Value → AZ → AH → Prop}
theorem i_500 (hx : x < n) (hf : f x = .inr (5, [.null, .null, .int 0])) (hQ : ∀ f1 : AH, (∀ k, k < n → k ≠ x → f1 k = f k) → (∀ k, n + 5 ≤ k → f1 k = f k) → f1 x = .inr (5, [.ref n, .null, .int 0]) → f1 n = .inr (3, [.ref (n + 1), .ref (n + 2), .ref (n + 3), .ref (n + 4), .int 0, .int 0]) → (∀ k, n < k → k < n + 5 → f1 k = .inl (0, 10, .inl fun _ => 0)) → Q none (n + 5, m + 46) f1) : Cw (d + 2) 500 [.ref x] (n, m) f Q := by
  rw [cw_wp]
  simp (disch := omega) only [W500, r_4, r_La, s_82, r_74, r_30, r_30r, r_93, r_61, r_Gu, pf_o, okR, CK, up_s, up_n, List.set_cons_zero, List.set_cons_succ, List.length_cons, List.length_nil, Nat.reduceAdd, Nat.reduceLT, and_self, enR, LG, LSt, LC, nlR, psR, TK, up_u, lt_nI, le_nI, eq_nI, true_and, and_true, if_true, if_false, Nat.zero_add, Nat.add_zero, nI_add, ↓reduceIte, Nat.reduceMul, Nat.reduceSub, Nat.reduceLeDiff, Nat.reduceEqDiff, Nat.not_lt_zero, Nat.lt_irrefl, decide_true, BEq.rfl, nm1, nm2, nm3, nm4, nm9, ngc, eq_self, r_60, r_72, r_73, r_65, r_69, r_79_1, r_79_2, Ca, CD, rce_o, enL, Int.reduceToNat, Nat.reduceDiv, gf_o, r_Gv, is_n, qs_3, qs_4, List.getElem?_cons_succ, List.getElem?_cons_zero, nI_mul, hf, hx]
  refine (i_300 (by omega) (up_s _ _ _)).mpr ?_
  simp (disch := omega) only [W500, r_4, r_La, s_82, r_74, r_30, r_30r, r_93, r_61, r_Gu, pf_o, okR, CK, up_s, up_n, List.set_cons_zero, List.set_cons_succ, List.length_cons, List.length_nil, Nat.reduceAdd, Nat.reduceLT, and_self, enR, LG, LSt, LC, nlR, psR, TK, up_u, lt_nI, le_nI, eq_nI, true_and, and_true, if_true, if_false, Nat.zero_add, Nat.add_zero, nI_add, ↓reduceIte, Nat.reduceMul, Nat.reduceSub, Nat.reduceLeDiff, Nat.reduceEqDiff, Nat.not_lt_zero, Nat.lt_irrefl, decide_true, BEq.rfl, nm1, nm2, nm3, nm4, nm9, ngc, eq_self, r_60, r_72, r_73, r_65, r_69, r_79_1, r_79_2, Ca, CD, rce_o, enL, Int.reduceToNat, Nat.reduceDiv, gf_o, r_Gv, is_n, qs_3, qs_4, List.getElem?_cons_succ, List.getElem?_cons_zero, nI_mul, hf, hx, Nat.add_assoc]
  refine hQ _ (fun k h1 h2 => ?_) (fun k h1 => ?_) ?_ ?_ (fun k h1 h2 => ?_)
  · simp (disch := omega) only [up_n]
  · simp (disch := omega) only [up_n]
  · exact up_s _ _ _
  · simp (disch := omega) only [up_n, up_s]
  · rcases (show k = n + 1 ∨ k = n + 2 ∨ k = n + 3 ∨ k = n + 4 by omega) with rfl | rfl | rfl | rfl <;> simp (disch := omega) only [up_n, up_s]
def el_900 (k : Nat) : AE := match k with
  | 0 => .inr (9, [.ref 1, .ref 2, .ref 3, .ref 9, .ref 12, .ref 13, .ref 16, .ref 19, .ref 22, .ref 25, .ref 31, .ref 32, .ref 33, .null, .int (nI 1), .int 0, .long 0, .long (lN 1), .int 0])
  | 1 => .inl (3, 6, .inr (.inr (.inr (.inr (va_up (va_up (va_up (va_up (va_up (va_up (fun _ => none) 0 (some 38)) 1 (some 40)) 2 (some 42)) 3 (some 44)) 4 (some 46)) 5 (some 48))))))
  | 2 => .inl (3, 4, .inr (.inr (.inr (.inr (va_up (va_up (va_up (va_up (fun _ => none) 0 (some 50)) 1 (some 52)) 2 (some 54)) 3 (some 56))))))
  | 3 => .inr (5, [.ref 4, .null, .int 0])
  | 4 => .inr (3, [.ref 5, .ref 6, .ref 7, .ref 8, .int 0, .int 0])
  | 5 => .inl (0, 10, .inl fun _ => 0)
  | 6 => .inl (0, 10, .inl fun _ => 0)
  | 7 => .inl (0, 10, .inl fun _ => 0)
  | 8 => .inl (0, 10, .inl fun _ => 0)
  | 9 => .inr (2, [.ref 10, .ref 11, .int 0, .int 0, .int 0, .int 0])
  | 10 => .inl (0, 40, .inl fun _ => 0)
  | 11 => .inl (0, 40, .inl fun _ => 0)
  | 12 => .inl (4, 3, .inr (.inr (.inr (.inr (va_up (va_up (va_up (fun _ => none) 0 (some 58)) 1 (some 61)) 2 (some 64))))))
  | 13 => .inr (6, [.ref 14, .ref 15])
  | 14 => .inl (0, 10, .inl fun _ => 0)
  | 15 => .inl (0, 70, .inl fun _ => 0)
  | 16 => .inr (6, [.ref 17, .ref 18])
  | 17 => .inl (0, 10, .inl fun _ => 0)
  | 18 => .inl (0, 70, .inl fun _ => 0)
  | 19 => .inr (7, [.ref 20, .ref 21])
  | 20 => .inl (1, 7, .inr (.inl fun _ => 0))
  | 21 => .inl (1, 7, .inr (.inl fun _ => 0))
  | 22 => .inr (1, [.ref 23, .ref 24])
  | 23 => .inl (0, 7, .inl fun _ => 0)
  | 24 => .inl (0, 7, .inl fun _ => 0)
  | 25 => .inr (4, [.ref 26, .ref 27, .int 0, .ref 28, .ref 29, .ref 30, .int 0])
  | 26 => .inl (0, 7, .inl fun _ => 0)
  | 27 => .inl (0, 7, .inl fun _ => 0)
  | 28 => .inl (0, 128, .inl fun _ => 0)
  | 29 => .inl (0, 128, .inl fun _ => 0)
  | 30 => .inl (0, 128, .inl fun _ => 0)
  | 31 => .inl (0, 40, .inl fun _ => 0)
  | 32 => .inl (0, 6, .inl fun _ => 0)
  | 33 => .inr (3, [.ref 34, .ref 35, .ref 36, .ref 37, .int 0, .int 0])
  | 34 => .inl (0, 10, .inl fun _ => 0)
  | 35 => .inl (0, 10, .inl fun _ => 0)
  | 36 => .inl (0, 10, .inl fun _ => 0)
  | 37 => .inl (0, 10, .inl fun _ => 0)
  | 38 => .inr (0, [.ref 39, .int 0, .int 0])
  | 39 => .inl (0, 40, .inl fun _ => 0)
  | 40 => .inr (0, [.ref 41, .int 0, .int 0])
  | 41 => .inl (0, 40, .inl fun _ => 0)
  | 42 => .inr (0, [.ref 43, .int 0, .int 0])
  | 43 => .inl (0, 40, .inl fun _ => 0)
  | 44 => .inr (0, [.ref 45, .int 0, .int 0])
  | 45 => .inl (0, 40, .inl fun _ => 0)
  | 46 => .inr (0, [.ref 47, .int 0, .int 0])
  | 47 => .inl (0, 40, .inl fun _ => 0)
  | 48 => .inr (0, [.ref 49, .int 0, .int 0])
  | 49 => .inl (0, 40, .inl fun _ => 0)
  | 50 => .inr (0, [.ref 51, .int 0, .int 0])
  | 51 => .inl (0, 80, .inl fun _ => 0)
  | 52 => .inr (0, [.ref 53, .int 0, .int 0])
  | 53 => .inl (0, 80, .inl fun _ => 0)
  | 54 => .inr (0, [.ref 55, .int 0, .int 0])
  | 55 => .inl (0, 80, .inl fun _ => 0)
  | 56 => .inr (0, [.ref 57, .int 0, .int 0])
  | 57 => .inl (0, 80, .inl fun _ => 0)
  | 58 => .inr (2, [.ref 59, .ref 60, .int 0, .int 0, .int 0, .int 0])
  | 59 => .inl (0, 40, .inl fun _ => 0)
  | 60 => .inl (0, 40, .inl fun _ => 0)
  | 61 => .inr (2, [.ref 62, .ref 63, .int 0, .int 0, .int 0, .int 0])
  | 62 => .inl (0, 40, .inl fun _ => 0)
  | 63 => .inl (0, 40, .inl fun _ => 0)
  | 64 => .inr (2, [.ref 65, .ref 66, .int 0, .int 0, .int 0, .int 0])
  | 65 => .inl (0, 40, .inl fun _ => 0)
  | 66 => .inl (0, 40, .inl fun _ => 0)
  | _ => vd
theorem i_900 (hQ : ∀ f1 : AH, (∀ k, k < 67 → f1 k = el_900 k) → (∀ k, 67 ≤ k → f1 k = f k) → Q none (67, 1708) f1) : Cw (d + 3) 900 [.ref 0] (1, 19) (va_up f 0 (.inr (9, [.null, .null, .null, .null, .null, .null, .null, .null, .null, .null, .null, .null, .null, .null, .int 0, .int 0, .long 0, .long 0, .int 0]))) Q := by
  rw [cw_wp]
  simp (disch := omega) only [W900, r_4, r_La, s_82, s_0, ci_6, r_73, ci_4, r_74, r_30, r_30r, ci_3, ci_40, r_72, ci_1, s_1, cl_1, ci_0, r_5, r_2, r_Li, r_49, s_8, r_In, r_52, ci_80, r_93, r_61, r_Gu, pf_o, okR, CK, up_s, up_n, List.set_cons_zero, List.set_cons_succ, List.length_cons, List.length_nil, Nat.reduceAdd, Nat.reduceLT, and_self, enR, LG, LSt, LC, nlR, psR, TK, up_u, lt_nI, le_nI, eq_nI, true_and, and_true, if_true, if_false, Nat.zero_add, Nat.add_zero, nI_add, ↓reduceIte, Nat.reduceMul, Nat.reduceSub, Nat.reduceLeDiff, Nat.reduceEqDiff, Nat.not_lt_zero, Nat.lt_irrefl, decide_true, BEq.rfl, nm1, nm2, nm3, nm4, nm9, ngc, eq_self, r_60, r_65, r_69, r_79_1, r_79_2, Ca, CD, rce_o, enL, Int.reduceToNat, Nat.reduceDiv, gf_o, r_Gv, is_n, qs_3, qs_4, List.getElem?_cons_succ, List.getElem?_cons_zero, nI_mul]
  refine i_500 (by omega) (up_s _ _ _) (fun f1 g1 g2 g3 g4 g5 => ?_)
  have g0 : f1 0 = .inr (9, [.ref 1, .ref 2, .null, .null, .null, .null, .null, .null, .null, .null, .null, .null, .null, .null, .int 0, .int 0, .long 0, .long 0, .int 0]) := by rw [g1 0 (by omega) (by omega)]; simp (disch := omega) only [up_n, up_s]
  have g01 : f1 1 = .inl (3, 6, .inr (.inr (.inr (.inr (fun _ => none))))) := by rw [g1 1 (by omega) (by omega)]; simp (disch := omega) only [up_n, up_s]
  have g02 : f1 2 = .inl (3, 4, .inr (.inr (.inr (.inr (fun _ => none))))) := by rw [g1 2 (by omega) (by omega)]; simp (disch := omega) only [up_n, up_s]
  simp (disch := omega) only [W900, r_4, r_La, s_82, s_0, ci_6, r_73, ci_4, r_74, r_30, r_30r, ci_3, ci_40, r_72, ci_1, s_1, cl_1, ci_0, r_5, r_2, r_Li, r_49, s_8, r_In, r_52, ci_80, r_93, r_61, r_Gu, pf_o, okR, CK, up_s, up_n, List.set_cons_zero, List.set_cons_succ, List.length_cons, List.length_nil, Nat.reduceAdd, Nat.reduceLT, and_self, enR, LG, LSt, LC, nlR, psR, TK, up_u, lt_nI, le_nI, eq_nI, true_and, and_true, if_true, if_false, Nat.zero_add, Nat.add_zero, nI_add, ↓reduceIte, Nat.reduceMul, Nat.reduceSub, Nat.reduceLeDiff, Nat.reduceEqDiff, Nat.not_lt_zero, Nat.lt_irrefl, decide_true, BEq.rfl, nm1, nm2, nm3, nm4, nm9, ngc, eq_self, r_60, r_65, r_69, r_79_1, r_79_2, Ca, CD, rce_o, enL, Int.reduceToNat, Nat.reduceDiv, gf_o, r_Gv, is_n, qs_3, qs_4, List.getElem?_cons_succ, List.getElem?_cons_zero, nI_mul, g0, g01, g02]
  refine (i_200 (x := 9) (n := 10) (by omega) (up_s _ _ _)).mpr ?_
  simp (disch := omega) only [W900, r_4, r_La, s_82, s_0, ci_6, r_73, ci_4, r_74, r_30, r_30r, ci_3, ci_40, r_72, ci_1, s_1, cl_1, ci_0, r_5, r_2, r_Li, r_49, s_8, r_In, r_52, ci_80, r_93, r_61, r_Gu, pf_o, okR, CK, up_s, up_n, List.set_cons_zero, List.set_cons_succ, List.length_cons, List.length_nil, Nat.reduceAdd, Nat.reduceLT, and_self, enR, LG, LSt, LC, nlR, psR, TK, up_u, lt_nI, le_nI, eq_nI, true_and, and_true, if_true, if_false, Nat.zero_add, Nat.add_zero, nI_add, ↓reduceIte, Nat.reduceMul, Nat.reduceSub, Nat.reduceLeDiff, Nat.reduceEqDiff, Nat.not_lt_zero, Nat.lt_irrefl, decide_true, BEq.rfl, nm1, nm2, nm3, nm4, nm9, ngc, eq_self, r_60, r_65, r_69, r_79_1, r_79_2, Ca, CD, rce_o, enL, Int.reduceToNat, Nat.reduceDiv, gf_o, r_Gv, is_n, qs_3, qs_4, List.getElem?_cons_succ, List.getElem?_cons_zero, nI_mul, g0, g01, g02]
  refine (i_600 (x := 13) (n := 14) (by omega) (up_s _ _ _)).mpr ?_
  simp (disch := omega) only [W900, r_4, r_La, s_82, s_0, ci_6, r_73, ci_4, r_74, r_30, r_30r, ci_3, ci_40, r_72, ci_1, s_1, cl_1, ci_0, r_5, r_2, r_Li, r_49, s_8, r_In, r_52, ci_80, r_93, r_61, r_Gu, pf_o, okR, CK, up_s, up_n, List.set_cons_zero, List.set_cons_succ, List.length_cons, List.length_nil, Nat.reduceAdd, Nat.reduceLT, and_self, enR, LG, LSt, LC, nlR, psR, TK, up_u, lt_nI, le_nI, eq_nI, true_and, and_true, if_true, if_false, Nat.zero_add, Nat.add_zero, nI_add, ↓reduceIte, Nat.reduceMul, Nat.reduceSub, Nat.reduceLeDiff, Nat.reduceEqDiff, Nat.not_lt_zero, Nat.lt_irrefl, decide_true, BEq.rfl, nm1, nm2, nm3, nm4, nm9, ngc, eq_self, r_60, r_65, r_69, r_79_1, r_79_2, Ca, CD, rce_o, enL, Int.reduceToNat, Nat.reduceDiv, gf_o, r_Gv, is_n, qs_3, qs_4, List.getElem?_cons_succ, List.getElem?_cons_zero, nI_mul, g0, g01, g02]
  refine (i_600 (x := 16) (n := 17) (by omega) (up_s _ _ _)).mpr ?_
  simp (disch := omega) only [W900, r_4, r_La, s_82, s_0, ci_6, r_73, ci_4, r_74, r_30, r_30r, ci_3, ci_40, r_72, ci_1, s_1, cl_1, ci_0, r_5, r_2, r_Li, r_49, s_8, r_In, r_52, ci_80, r_93, r_61, r_Gu, pf_o, okR, CK, up_s, up_n, List.set_cons_zero, List.set_cons_succ, List.length_cons, List.length_nil, Nat.reduceAdd, Nat.reduceLT, and_self, enR, LG, LSt, LC, nlR, psR, TK, up_u, lt_nI, le_nI, eq_nI, true_and, and_true, if_true, if_false, Nat.zero_add, Nat.add_zero, nI_add, ↓reduceIte, Nat.reduceMul, Nat.reduceSub, Nat.reduceLeDiff, Nat.reduceEqDiff, Nat.not_lt_zero, Nat.lt_irrefl, decide_true, BEq.rfl, nm1, nm2, nm3, nm4, nm9, ngc, eq_self, r_60, r_65, r_69, r_79_1, r_79_2, Ca, CD, rce_o, enL, Int.reduceToNat, Nat.reduceDiv, gf_o, r_Gv, is_n, qs_3, qs_4, List.getElem?_cons_succ, List.getElem?_cons_zero, nI_mul, g0, g01, g02]
  refine (i_700 (x := 19) (n := 20) (by omega) (up_s _ _ _)).mpr ?_
  simp (disch := omega) only [W900, r_4, r_La, s_82, s_0, ci_6, r_73, ci_4, r_74, r_30, r_30r, ci_3, ci_40, r_72, ci_1, s_1, cl_1, ci_0, r_5, r_2, r_Li, r_49, s_8, r_In, r_52, ci_80, r_93, r_61, r_Gu, pf_o, okR, CK, up_s, up_n, List.set_cons_zero, List.set_cons_succ, List.length_cons, List.length_nil, Nat.reduceAdd, Nat.reduceLT, and_self, enR, LG, LSt, LC, nlR, psR, TK, up_u, lt_nI, le_nI, eq_nI, true_and, and_true, if_true, if_false, Nat.zero_add, Nat.add_zero, nI_add, ↓reduceIte, Nat.reduceMul, Nat.reduceSub, Nat.reduceLeDiff, Nat.reduceEqDiff, Nat.not_lt_zero, Nat.lt_irrefl, decide_true, BEq.rfl, nm1, nm2, nm3, nm4, nm9, ngc, eq_self, r_60, r_65, r_69, r_79_1, r_79_2, Ca, CD, rce_o, enL, Int.reduceToNat, Nat.reduceDiv, gf_o, r_Gv, is_n, qs_3, qs_4, List.getElem?_cons_succ, List.getElem?_cons_zero, nI_mul, g0, g01, g02]
  refine (i_100 (x := 22) (n := 23) (by omega) (up_s _ _ _)).mpr ?_
  simp (disch := omega) only [W900, r_4, r_La, s_82, s_0, ci_6, r_73, ci_4, r_74, r_30, r_30r, ci_3, ci_40, r_72, ci_1, s_1, cl_1, ci_0, r_5, r_2, r_Li, r_49, s_8, r_In, r_52, ci_80, r_93, r_61, r_Gu, pf_o, okR, CK, up_s, up_n, List.set_cons_zero, List.set_cons_succ, List.length_cons, List.length_nil, Nat.reduceAdd, Nat.reduceLT, and_self, enR, LG, LSt, LC, nlR, psR, TK, up_u, lt_nI, le_nI, eq_nI, true_and, and_true, if_true, if_false, Nat.zero_add, Nat.add_zero, nI_add, ↓reduceIte, Nat.reduceMul, Nat.reduceSub, Nat.reduceLeDiff, Nat.reduceEqDiff, Nat.not_lt_zero, Nat.lt_irrefl, decide_true, BEq.rfl, nm1, nm2, nm3, nm4, nm9, ngc, eq_self, r_60, r_65, r_69, r_79_1, r_79_2, Ca, CD, rce_o, enL, Int.reduceToNat, Nat.reduceDiv, gf_o, r_Gv, is_n, qs_3, qs_4, List.getElem?_cons_succ, List.getElem?_cons_zero, nI_mul, g0, g01, g02]
  refine (i_400 (x := 25) (n := 26) (by omega) (up_s _ _ _)).mpr ?_
  simp (disch := omega) only [W900, r_4, r_La, s_82, s_0, ci_6, r_73, ci_4, r_74, r_30, r_30r, ci_3, ci_40, r_72, ci_1, s_1, cl_1, ci_0, r_5, r_2, r_Li, r_49, s_8, r_In, r_52, ci_80, r_93, r_61, r_Gu, pf_o, okR, CK, up_s, up_n, List.set_cons_zero, List.set_cons_succ, List.length_cons, List.length_nil, Nat.reduceAdd, Nat.reduceLT, and_self, enR, LG, LSt, LC, nlR, psR, TK, up_u, lt_nI, le_nI, eq_nI, true_and, and_true, if_true, if_false, Nat.zero_add, Nat.add_zero, nI_add, ↓reduceIte, Nat.reduceMul, Nat.reduceSub, Nat.reduceLeDiff, Nat.reduceEqDiff, Nat.not_lt_zero, Nat.lt_irrefl, decide_true, BEq.rfl, nm1, nm2, nm3, nm4, nm9, ngc, eq_self, r_60, r_65, r_69, r_79_1, r_79_2, Ca, CD, rce_o, enL, Int.reduceToNat, Nat.reduceDiv, gf_o, r_Gv, is_n, qs_3, qs_4, List.getElem?_cons_succ, List.getElem?_cons_zero, nI_mul, g0, g01, g02]
  refine (i_300 (x := 33) (n := 34) (by omega) (up_s _ _ _)).mpr ?_
  simp (disch := omega) only [W900, r_4, r_La, s_82, s_0, ci_6, r_73, ci_4, r_74, r_30, r_30r, ci_3, ci_40, r_72, ci_1, s_1, cl_1, ci_0, r_5, r_2, r_Li, r_49, s_8, r_In, r_52, ci_80, r_93, r_61, r_Gu, pf_o, okR, CK, up_s, up_n, List.set_cons_zero, List.set_cons_succ, List.length_cons, List.length_nil, Nat.reduceAdd, Nat.reduceLT, and_self, enR, LG, LSt, LC, nlR, psR, TK, up_u, lt_nI, le_nI, eq_nI, true_and, and_true, if_true, if_false, Nat.zero_add, Nat.add_zero, nI_add, ↓reduceIte, Nat.reduceMul, Nat.reduceSub, Nat.reduceLeDiff, Nat.reduceEqDiff, Nat.not_lt_zero, Nat.lt_irrefl, decide_true, BEq.rfl, nm1, nm2, nm3, nm4, nm9, ngc, eq_self, r_60, r_65, r_69, r_79_1, r_79_2, Ca, CD, rce_o, enL, Int.reduceToNat, Nat.reduceDiv, gf_o, r_Gv, is_n, qs_3, qs_4, List.getElem?_cons_succ, List.getElem?_cons_zero, nI_mul, g0, g01, g02]
  rw [W900_145]
  simp (disch := omega) only [W900, r_4, r_La, s_82, s_0, ci_6, r_73, ci_4, r_74, r_30, r_30r, ci_3, ci_40, r_72, ci_1, s_1, cl_1, ci_0, r_5, r_2, r_Li, r_49, s_8, r_In, r_52, ci_80, r_93, r_61, r_Gu, pf_o, okR, CK, up_s, up_n, List.set_cons_zero, List.set_cons_succ, List.length_cons, List.length_nil, Nat.reduceAdd, Nat.reduceLT, and_self, enR, LG, LSt, LC, nlR, psR, TK, up_u, lt_nI, le_nI, eq_nI, true_and, and_true, if_true, if_false, Nat.zero_add, Nat.add_zero, nI_add, ↓reduceIte, Nat.reduceMul, Nat.reduceSub, Nat.reduceLeDiff, Nat.reduceEqDiff, Nat.not_lt_zero, Nat.lt_irrefl, decide_true, BEq.rfl, nm1, nm2, nm3, nm4, nm9, ngc, eq_self, r_60, r_65, r_69, r_79_1, r_79_2, Ca, CD, rce_o, enL, Int.reduceToNat, Nat.reduceDiv, gf_o, r_Gv, is_n, qs_3, qs_4, List.getElem?_cons_succ, List.getElem?_cons_zero, nI_mul, g0, g01, g02]
  refine (i_0 (x := 38) (n := 39) (k := 40) (by omega) (by omega) (up_s _ _ _)).mpr ?_
  simp (disch := omega) only [W900, r_4, r_La, s_82, s_0, ci_6, r_73, ci_4, r_74, r_30, r_30r, ci_3, ci_40, r_72, ci_1, s_1, cl_1, ci_0, r_5, r_2, r_Li, r_49, s_8, r_In, r_52, ci_80, r_93, r_61, r_Gu, pf_o, okR, CK, up_s, up_n, List.set_cons_zero, List.set_cons_succ, List.length_cons, List.length_nil, Nat.reduceAdd, Nat.reduceLT, and_self, enR, LG, LSt, LC, nlR, psR, TK, up_u, lt_nI, le_nI, eq_nI, true_and, and_true, if_true, if_false, Nat.zero_add, Nat.add_zero, nI_add, ↓reduceIte, Nat.reduceMul, Nat.reduceSub, Nat.reduceLeDiff, Nat.reduceEqDiff, Nat.not_lt_zero, Nat.lt_irrefl, decide_true, BEq.rfl, nm1, nm2, nm3, nm4, nm9, ngc, eq_self, r_60, r_65, r_69, r_79_1, r_79_2, Ca, CD, rce_o, enL, Int.reduceToNat, Nat.reduceDiv, gf_o, r_Gv, is_n, qs_3, qs_4, List.getElem?_cons_succ, List.getElem?_cons_zero, nI_mul, g0, g01, g02]
  rw [W900_145]
  simp (disch := omega) only [W900, r_4, r_La, s_82, s_0, ci_6, r_73, ci_4, r_74, r_30, r_30r, ci_3, ci_40, r_72, ci_1, s_1, cl_1, ci_0, r_5, r_2, r_Li, r_49, s_8, r_In, r_52, ci_80, r_93, r_61, r_Gu, pf_o, okR, CK, up_s, up_n, List.set_cons_zero, List.set_cons_succ, List.length_cons, List.length_nil, Nat.reduceAdd, Nat.reduceLT, and_self, enR, LG, LSt, LC, nlR, psR, TK, up_u, lt_nI, le_nI, eq_nI, true_and, and_true, if_true, if_false, Nat.zero_add, Nat.add_zero, nI_add, ↓reduceIte, Nat.reduceMul, Nat.reduceSub, Nat.reduceLeDiff, Nat.reduceEqDiff, Nat.not_lt_zero, Nat.lt_irrefl, decide_true, BEq.rfl, nm1, nm2, nm3, nm4, nm9, ngc, eq_self, r_60, r_65, r_69, r_79_1, r_79_2, Ca, CD, rce_o, enL, Int.reduceToNat, Nat.reduceDiv, gf_o, r_Gv, is_n, qs_3, qs_4, List.getElem?_cons_succ, List.getElem?_cons_zero, nI_mul, g0, g01, g02]
  refine (i_0 (x := 40) (n := 41) (k := 40) (by omega) (by omega) (up_s _ _ _)).mpr ?_
  simp (disch := omega) only [W900, r_4, r_La, s_82, s_0, ci_6, r_73, ci_4, r_74, r_30, r_30r, ci_3, ci_40, r_72, ci_1, s_1, cl_1, ci_0, r_5, r_2, r_Li, r_49, s_8, r_In, r_52, ci_80, r_93, r_61, r_Gu, pf_o, okR, CK, up_s, up_n, List.set_cons_zero, List.set_cons_succ, List.length_cons, List.length_nil, Nat.reduceAdd, Nat.reduceLT, and_self, enR, LG, LSt, LC, nlR, psR, TK, up_u, lt_nI, le_nI, eq_nI, true_and, and_true, if_true, if_false, Nat.zero_add, Nat.add_zero, nI_add, ↓reduceIte, Nat.reduceMul, Nat.reduceSub, Nat.reduceLeDiff, Nat.reduceEqDiff, Nat.not_lt_zero, Nat.lt_irrefl, decide_true, BEq.rfl, nm1, nm2, nm3, nm4, nm9, ngc, eq_self, r_60, r_65, r_69, r_79_1, r_79_2, Ca, CD, rce_o, enL, Int.reduceToNat, Nat.reduceDiv, gf_o, r_Gv, is_n, qs_3, qs_4, List.getElem?_cons_succ, List.getElem?_cons_zero, nI_mul, g0, g01, g02]
  rw [W900_145]
  simp (disch := omega) only [W900, r_4, r_La, s_82, s_0, ci_6, r_73, ci_4, r_74, r_30, r_30r, ci_3, ci_40, r_72, ci_1, s_1, cl_1, ci_0, r_5, r_2, r_Li, r_49, s_8, r_In, r_52, ci_80, r_93, r_61, r_Gu, pf_o, okR, CK, up_s, up_n, List.set_cons_zero, List.set_cons_succ, List.length_cons, List.length_nil, Nat.reduceAdd, Nat.reduceLT, and_self, enR, LG, LSt, LC, nlR, psR, TK, up_u, lt_nI, le_nI, eq_nI, true_and, and_true, if_true, if_false, Nat.zero_add, Nat.add_zero, nI_add, ↓reduceIte, Nat.reduceMul, Nat.reduceSub, Nat.reduceLeDiff, Nat.reduceEqDiff, Nat.not_lt_zero, Nat.lt_irrefl, decide_true, BEq.rfl, nm1, nm2, nm3, nm4, nm9, ngc, eq_self, r_60, r_65, r_69, r_79_1, r_79_2, Ca, CD, rce_o, enL, Int.reduceToNat, Nat.reduceDiv, gf_o, r_Gv, is_n, qs_3, qs_4, List.getElem?_cons_succ, List.getElem?_cons_zero, nI_mul, g0, g01, g02]
  refine (i_0 (x := 42) (n := 43) (k := 40) (by omega) (by omega) (up_s _ _ _)).mpr ?_
  simp (disch := omega) only [W900, r_4, r_La, s_82, s_0, ci_6, r_73, ci_4, r_74, r_30, r_30r, ci_3, ci_40, r_72, ci_1, s_1, cl_1, ci_0, r_5, r_2, r_Li, r_49, s_8, r_In, r_52, ci_80, r_93, r_61, r_Gu, pf_o, okR, CK, up_s, up_n, List.set_cons_zero, List.set_cons_succ, List.length_cons, List.length_nil, Nat.reduceAdd, Nat.reduceLT, and_self, enR, LG, LSt, LC, nlR, psR, TK, up_u, lt_nI, le_nI, eq_nI, true_and, and_true, if_true, if_false, Nat.zero_add, Nat.add_zero, nI_add, ↓reduceIte, Nat.reduceMul, Nat.reduceSub, Nat.reduceLeDiff, Nat.reduceEqDiff, Nat.not_lt_zero, Nat.lt_irrefl, decide_true, BEq.rfl, nm1, nm2, nm3, nm4, nm9, ngc, eq_self, r_60, r_65, r_69, r_79_1, r_79_2, Ca, CD, rce_o, enL, Int.reduceToNat, Nat.reduceDiv, gf_o, r_Gv, is_n, qs_3, qs_4, List.getElem?_cons_succ, List.getElem?_cons_zero, nI_mul, g0, g01, g02]
  rw [W900_145]
  simp (disch := omega) only [W900, r_4, r_La, s_82, s_0, ci_6, r_73, ci_4, r_74, r_30, r_30r, ci_3, ci_40, r_72, ci_1, s_1, cl_1, ci_0, r_5, r_2, r_Li, r_49, s_8, r_In, r_52, ci_80, r_93, r_61, r_Gu, pf_o, okR, CK, up_s, up_n, List.set_cons_zero, List.set_cons_succ, List.length_cons, List.length_nil, Nat.reduceAdd, Nat.reduceLT, and_self, enR, LG, LSt, LC, nlR, psR, TK, up_u, lt_nI, le_nI, eq_nI, true_and, and_true, if_true, if_false, Nat.zero_add, Nat.add_zero, nI_add, ↓reduceIte, Nat.reduceMul, Nat.reduceSub, Nat.reduceLeDiff, Nat.reduceEqDiff, Nat.not_lt_zero, Nat.lt_irrefl, decide_true, BEq.rfl, nm1, nm2, nm3, nm4, nm9, ngc, eq_self, r_60, r_65, r_69, r_79_1, r_79_2, Ca, CD, rce_o, enL, Int.reduceToNat, Nat.reduceDiv, gf_o, r_Gv, is_n, qs_3, qs_4, List.getElem?_cons_succ, List.getElem?_cons_zero, nI_mul, g0, g01, g02]
  refine (i_0 (x := 44) (n := 45) (k := 40) (by omega) (by omega) (up_s _ _ _)).mpr ?_
  simp (disch := omega) only [W900, r_4, r_La, s_82, s_0, ci_6, r_73, ci_4, r_74, r_30, r_30r, ci_3, ci_40, r_72, ci_1, s_1, cl_1, ci_0, r_5, r_2, r_Li, r_49, s_8, r_In, r_52, ci_80, r_93, r_61, r_Gu, pf_o, okR, CK, up_s, up_n, List.set_cons_zero, List.set_cons_succ, List.length_cons, List.length_nil, Nat.reduceAdd, Nat.reduceLT, and_self, enR, LG, LSt, LC, nlR, psR, TK, up_u, lt_nI, le_nI, eq_nI, true_and, and_true, if_true, if_false, Nat.zero_add, Nat.add_zero, nI_add, ↓reduceIte, Nat.reduceMul, Nat.reduceSub, Nat.reduceLeDiff, Nat.reduceEqDiff, Nat.not_lt_zero, Nat.lt_irrefl, decide_true, BEq.rfl, nm1, nm2, nm3, nm4, nm9, ngc, eq_self, r_60, r_65, r_69, r_79_1, r_79_2, Ca, CD, rce_o, enL, Int.reduceToNat, Nat.reduceDiv, gf_o, r_Gv, is_n, qs_3, qs_4, List.getElem?_cons_succ, List.getElem?_cons_zero, nI_mul, g0, g01, g02]
  rw [W900_145]
  simp (disch := omega) only [W900, r_4, r_La, s_82, s_0, ci_6, r_73, ci_4, r_74, r_30, r_30r, ci_3, ci_40, r_72, ci_1, s_1, cl_1, ci_0, r_5, r_2, r_Li, r_49, s_8, r_In, r_52, ci_80, r_93, r_61, r_Gu, pf_o, okR, CK, up_s, up_n, List.set_cons_zero, List.set_cons_succ, List.length_cons, List.length_nil, Nat.reduceAdd, Nat.reduceLT, and_self, enR, LG, LSt, LC, nlR, psR, TK, up_u, lt_nI, le_nI, eq_nI, true_and, and_true, if_true, if_false, Nat.zero_add, Nat.add_zero, nI_add, ↓reduceIte, Nat.reduceMul, Nat.reduceSub, Nat.reduceLeDiff, Nat.reduceEqDiff, Nat.not_lt_zero, Nat.lt_irrefl, decide_true, BEq.rfl, nm1, nm2, nm3, nm4, nm9, ngc, eq_self, r_60, r_65, r_69, r_79_1, r_79_2, Ca, CD, rce_o, enL, Int.reduceToNat, Nat.reduceDiv, gf_o, r_Gv, is_n, qs_3, qs_4, List.getElem?_cons_succ, List.getElem?_cons_zero, nI_mul, g0, g01, g02]
  refine (i_0 (x := 46) (n := 47) (k := 40) (by omega) (by omega) (up_s _ _ _)).mpr ?_
  simp (disch := omega) only [W900, r_4, r_La, s_82, s_0, ci_6, r_73, ci_4, r_74, r_30, r_30r, ci_3, ci_40, r_72, ci_1, s_1, cl_1, ci_0, r_5, r_2, r_Li, r_49, s_8, r_In, r_52, ci_80, r_93, r_61, r_Gu, pf_o, okR, CK, up_s, up_n, List.set_cons_zero, List.set_cons_succ, List.length_cons, List.length_nil, Nat.reduceAdd, Nat.reduceLT, and_self, enR, LG, LSt, LC, nlR, psR, TK, up_u, lt_nI, le_nI, eq_nI, true_and, and_true, if_true, if_false, Nat.zero_add, Nat.add_zero, nI_add, ↓reduceIte, Nat.reduceMul, Nat.reduceSub, Nat.reduceLeDiff, Nat.reduceEqDiff, Nat.not_lt_zero, Nat.lt_irrefl, decide_true, BEq.rfl, nm1, nm2, nm3, nm4, nm9, ngc, eq_self, r_60, r_65, r_69, r_79_1, r_79_2, Ca, CD, rce_o, enL, Int.reduceToNat, Nat.reduceDiv, gf_o, r_Gv, is_n, qs_3, qs_4, List.getElem?_cons_succ, List.getElem?_cons_zero, nI_mul, g0, g01, g02]
  rw [W900_145]
  simp (disch := omega) only [W900, r_4, r_La, s_82, s_0, ci_6, r_73, ci_4, r_74, r_30, r_30r, ci_3, ci_40, r_72, ci_1, s_1, cl_1, ci_0, r_5, r_2, r_Li, r_49, s_8, r_In, r_52, ci_80, r_93, r_61, r_Gu, pf_o, okR, CK, up_s, up_n, List.set_cons_zero, List.set_cons_succ, List.length_cons, List.length_nil, Nat.reduceAdd, Nat.reduceLT, and_self, enR, LG, LSt, LC, nlR, psR, TK, up_u, lt_nI, le_nI, eq_nI, true_and, and_true, if_true, if_false, Nat.zero_add, Nat.add_zero, nI_add, ↓reduceIte, Nat.reduceMul, Nat.reduceSub, Nat.reduceLeDiff, Nat.reduceEqDiff, Nat.not_lt_zero, Nat.lt_irrefl, decide_true, BEq.rfl, nm1, nm2, nm3, nm4, nm9, ngc, eq_self, r_60, r_65, r_69, r_79_1, r_79_2, Ca, CD, rce_o, enL, Int.reduceToNat, Nat.reduceDiv, gf_o, r_Gv, is_n, qs_3, qs_4, List.getElem?_cons_succ, List.getElem?_cons_zero, nI_mul, g0, g01, g02]
  refine (i_0 (x := 48) (n := 49) (k := 40) (by omega) (by omega) (up_s _ _ _)).mpr ?_
  simp (disch := omega) only [W900, r_4, r_La, s_82, s_0, ci_6, r_73, ci_4, r_74, r_30, r_30r, ci_3, ci_40, r_72, ci_1, s_1, cl_1, ci_0, r_5, r_2, r_Li, r_49, s_8, r_In, r_52, ci_80, r_93, r_61, r_Gu, pf_o, okR, CK, up_s, up_n, List.set_cons_zero, List.set_cons_succ, List.length_cons, List.length_nil, Nat.reduceAdd, Nat.reduceLT, and_self, enR, LG, LSt, LC, nlR, psR, TK, up_u, lt_nI, le_nI, eq_nI, true_and, and_true, if_true, if_false, Nat.zero_add, Nat.add_zero, nI_add, ↓reduceIte, Nat.reduceMul, Nat.reduceSub, Nat.reduceLeDiff, Nat.reduceEqDiff, Nat.not_lt_zero, Nat.lt_irrefl, decide_true, BEq.rfl, nm1, nm2, nm3, nm4, nm9, ngc, eq_self, r_60, r_65, r_69, r_79_1, r_79_2, Ca, CD, rce_o, enL, Int.reduceToNat, Nat.reduceDiv, gf_o, r_Gv, is_n, qs_3, qs_4, List.getElem?_cons_succ, List.getElem?_cons_zero, nI_mul, g0, g01, g02]
  rw [W900_145]
  simp (disch := omega) only [W900, r_4, r_La, s_82, s_0, ci_6, r_73, ci_4, r_74, r_30, r_30r, ci_3, ci_40, r_72, ci_1, s_1, cl_1, ci_0, r_5, r_2, r_Li, r_49, s_8, r_In, r_52, ci_80, r_93, r_61, r_Gu, pf_o, okR, CK, up_s, up_n, List.set_cons_zero, List.set_cons_succ, List.length_cons, List.length_nil, Nat.reduceAdd, Nat.reduceLT, and_self, enR, LG, LSt, LC, nlR, psR, TK, up_u, lt_nI, le_nI, eq_nI, true_and, and_true, if_true, if_false, Nat.zero_add, Nat.add_zero, nI_add, ↓reduceIte, Nat.reduceMul, Nat.reduceSub, Nat.reduceLeDiff, Nat.reduceEqDiff, Nat.not_lt_zero, Nat.lt_irrefl, decide_true, BEq.rfl, nm1, nm2, nm3, nm4, nm9, ngc, eq_self, r_60, r_65, r_69, r_79_1, r_79_2, Ca, CD, rce_o, enL, Int.reduceToNat, Nat.reduceDiv, gf_o, r_Gv, is_n, qs_3, qs_4, List.getElem?_cons_succ, List.getElem?_cons_zero, nI_mul, g0, g01, g02]
  rw [W900_174]
  simp (disch := omega) only [W900, r_4, r_La, s_82, s_0, ci_6, r_73, ci_4, r_74, r_30, r_30r, ci_3, ci_40, r_72, ci_1, s_1, cl_1, ci_0, r_5, r_2, r_Li, r_49, s_8, r_In, r_52, ci_80, r_93, r_61, r_Gu, pf_o, okR, CK, up_s, up_n, List.set_cons_zero, List.set_cons_succ, List.length_cons, List.length_nil, Nat.reduceAdd, Nat.reduceLT, and_self, enR, LG, LSt, LC, nlR, psR, TK, up_u, lt_nI, le_nI, eq_nI, true_and, and_true, if_true, if_false, Nat.zero_add, Nat.add_zero, nI_add, ↓reduceIte, Nat.reduceMul, Nat.reduceSub, Nat.reduceLeDiff, Nat.reduceEqDiff, Nat.not_lt_zero, Nat.lt_irrefl, decide_true, BEq.rfl, nm1, nm2, nm3, nm4, nm9, ngc, eq_self, r_60, r_65, r_69, r_79_1, r_79_2, Ca, CD, rce_o, enL, Int.reduceToNat, Nat.reduceDiv, gf_o, r_Gv, is_n, qs_3, qs_4, List.getElem?_cons_succ, List.getElem?_cons_zero, nI_mul, g0, g01, g02]
  refine (i_0 (x := 50) (n := 51) (k := 80) (by omega) (by omega) (up_s _ _ _)).mpr ?_
  simp (disch := omega) only [W900, r_4, r_La, s_82, s_0, ci_6, r_73, ci_4, r_74, r_30, r_30r, ci_3, ci_40, r_72, ci_1, s_1, cl_1, ci_0, r_5, r_2, r_Li, r_49, s_8, r_In, r_52, ci_80, r_93, r_61, r_Gu, pf_o, okR, CK, up_s, up_n, List.set_cons_zero, List.set_cons_succ, List.length_cons, List.length_nil, Nat.reduceAdd, Nat.reduceLT, and_self, enR, LG, LSt, LC, nlR, psR, TK, up_u, lt_nI, le_nI, eq_nI, true_and, and_true, if_true, if_false, Nat.zero_add, Nat.add_zero, nI_add, ↓reduceIte, Nat.reduceMul, Nat.reduceSub, Nat.reduceLeDiff, Nat.reduceEqDiff, Nat.not_lt_zero, Nat.lt_irrefl, decide_true, BEq.rfl, nm1, nm2, nm3, nm4, nm9, ngc, eq_self, r_60, r_65, r_69, r_79_1, r_79_2, Ca, CD, rce_o, enL, Int.reduceToNat, Nat.reduceDiv, gf_o, r_Gv, is_n, qs_3, qs_4, List.getElem?_cons_succ, List.getElem?_cons_zero, nI_mul, g0, g01, g02]
  rw [W900_174]
  simp (disch := omega) only [W900, r_4, r_La, s_82, s_0, ci_6, r_73, ci_4, r_74, r_30, r_30r, ci_3, ci_40, r_72, ci_1, s_1, cl_1, ci_0, r_5, r_2, r_Li, r_49, s_8, r_In, r_52, ci_80, r_93, r_61, r_Gu, pf_o, okR, CK, up_s, up_n, List.set_cons_zero, List.set_cons_succ, List.length_cons, List.length_nil, Nat.reduceAdd, Nat.reduceLT, and_self, enR, LG, LSt, LC, nlR, psR, TK, up_u, lt_nI, le_nI, eq_nI, true_and, and_true, if_true, if_false, Nat.zero_add, Nat.add_zero, nI_add, ↓reduceIte, Nat.reduceMul, Nat.reduceSub, Nat.reduceLeDiff, Nat.reduceEqDiff, Nat.not_lt_zero, Nat.lt_irrefl, decide_true, BEq.rfl, nm1, nm2, nm3, nm4, nm9, ngc, eq_self, r_60, r_65, r_69, r_79_1, r_79_2, Ca, CD, rce_o, enL, Int.reduceToNat, Nat.reduceDiv, gf_o, r_Gv, is_n, qs_3, qs_4, List.getElem?_cons_succ, List.getElem?_cons_zero, nI_mul, g0, g01, g02]
  refine (i_0 (x := 52) (n := 53) (k := 80) (by omega) (by omega) (up_s _ _ _)).mpr ?_
  simp (disch := omega) only [W900, r_4, r_La, s_82, s_0, ci_6, r_73, ci_4, r_74, r_30, r_30r, ci_3, ci_40, r_72, ci_1, s_1, cl_1, ci_0, r_5, r_2, r_Li, r_49, s_8, r_In, r_52, ci_80, r_93, r_61, r_Gu, pf_o, okR, CK, up_s, up_n, List.set_cons_zero, List.set_cons_succ, List.length_cons, List.length_nil, Nat.reduceAdd, Nat.reduceLT, and_self, enR, LG, LSt, LC, nlR, psR, TK, up_u, lt_nI, le_nI, eq_nI, true_and, and_true, if_true, if_false, Nat.zero_add, Nat.add_zero, nI_add, ↓reduceIte, Nat.reduceMul, Nat.reduceSub, Nat.reduceLeDiff, Nat.reduceEqDiff, Nat.not_lt_zero, Nat.lt_irrefl, decide_true, BEq.rfl, nm1, nm2, nm3, nm4, nm9, ngc, eq_self, r_60, r_65, r_69, r_79_1, r_79_2, Ca, CD, rce_o, enL, Int.reduceToNat, Nat.reduceDiv, gf_o, r_Gv, is_n, qs_3, qs_4, List.getElem?_cons_succ, List.getElem?_cons_zero, nI_mul, g0, g01, g02]
  rw [W900_174]
  simp (disch := omega) only [W900, r_4, r_La, s_82, s_0, ci_6, r_73, ci_4, r_74, r_30, r_30r, ci_3, ci_40, r_72, ci_1, s_1, cl_1, ci_0, r_5, r_2, r_Li, r_49, s_8, r_In, r_52, ci_80, r_93, r_61, r_Gu, pf_o, okR, CK, up_s, up_n, List.set_cons_zero, List.set_cons_succ, List.length_cons, List.length_nil, Nat.reduceAdd, Nat.reduceLT, and_self, enR, LG, LSt, LC, nlR, psR, TK, up_u, lt_nI, le_nI, eq_nI, true_and, and_true, if_true, if_false, Nat.zero_add, Nat.add_zero, nI_add, ↓reduceIte, Nat.reduceMul, Nat.reduceSub, Nat.reduceLeDiff, Nat.reduceEqDiff, Nat.not_lt_zero, Nat.lt_irrefl, decide_true, BEq.rfl, nm1, nm2, nm3, nm4, nm9, ngc, eq_self, r_60, r_65, r_69, r_79_1, r_79_2, Ca, CD, rce_o, enL, Int.reduceToNat, Nat.reduceDiv, gf_o, r_Gv, is_n, qs_3, qs_4, List.getElem?_cons_succ, List.getElem?_cons_zero, nI_mul, g0, g01, g02]
  refine (i_0 (x := 54) (n := 55) (k := 80) (by omega) (by omega) (up_s _ _ _)).mpr ?_
  simp (disch := omega) only [W900, r_4, r_La, s_82, s_0, ci_6, r_73, ci_4, r_74, r_30, r_30r, ci_3, ci_40, r_72, ci_1, s_1, cl_1, ci_0, r_5, r_2, r_Li, r_49, s_8, r_In, r_52, ci_80, r_93, r_61, r_Gu, pf_o, okR, CK, up_s, up_n, List.set_cons_zero, List.set_cons_succ, List.length_cons, List.length_nil, Nat.reduceAdd, Nat.reduceLT, and_self, enR, LG, LSt, LC, nlR, psR, TK, up_u, lt_nI, le_nI, eq_nI, true_and, and_true, if_true, if_false, Nat.zero_add, Nat.add_zero, nI_add, ↓reduceIte, Nat.reduceMul, Nat.reduceSub, Nat.reduceLeDiff, Nat.reduceEqDiff, Nat.not_lt_zero, Nat.lt_irrefl, decide_true, BEq.rfl, nm1, nm2, nm3, nm4, nm9, ngc, eq_self, r_60, r_65, r_69, r_79_1, r_79_2, Ca, CD, rce_o, enL, Int.reduceToNat, Nat.reduceDiv, gf_o, r_Gv, is_n, qs_3, qs_4, List.getElem?_cons_succ, List.getElem?_cons_zero, nI_mul, g0, g01, g02]
  rw [W900_174]
  simp (disch := omega) only [W900, r_4, r_La, s_82, s_0, ci_6, r_73, ci_4, r_74, r_30, r_30r, ci_3, ci_40, r_72, ci_1, s_1, cl_1, ci_0, r_5, r_2, r_Li, r_49, s_8, r_In, r_52, ci_80, r_93, r_61, r_Gu, pf_o, okR, CK, up_s, up_n, List.set_cons_zero, List.set_cons_succ, List.length_cons, List.length_nil, Nat.reduceAdd, Nat.reduceLT, and_self, enR, LG, LSt, LC, nlR, psR, TK, up_u, lt_nI, le_nI, eq_nI, true_and, and_true, if_true, if_false, Nat.zero_add, Nat.add_zero, nI_add, ↓reduceIte, Nat.reduceMul, Nat.reduceSub, Nat.reduceLeDiff, Nat.reduceEqDiff, Nat.not_lt_zero, Nat.lt_irrefl, decide_true, BEq.rfl, nm1, nm2, nm3, nm4, nm9, ngc, eq_self, r_60, r_65, r_69, r_79_1, r_79_2, Ca, CD, rce_o, enL, Int.reduceToNat, Nat.reduceDiv, gf_o, r_Gv, is_n, qs_3, qs_4, List.getElem?_cons_succ, List.getElem?_cons_zero, nI_mul, g0, g01, g02]
  refine (i_0 (x := 56) (n := 57) (k := 80) (by omega) (by omega) (up_s _ _ _)).mpr ?_
  simp (disch := omega) only [W900, r_4, r_La, s_82, s_0, ci_6, r_73, ci_4, r_74, r_30, r_30r, ci_3, ci_40, r_72, ci_1, s_1, cl_1, ci_0, r_5, r_2, r_Li, r_49, s_8, r_In, r_52, ci_80, r_93, r_61, r_Gu, pf_o, okR, CK, up_s, up_n, List.set_cons_zero, List.set_cons_succ, List.length_cons, List.length_nil, Nat.reduceAdd, Nat.reduceLT, and_self, enR, LG, LSt, LC, nlR, psR, TK, up_u, lt_nI, le_nI, eq_nI, true_and, and_true, if_true, if_false, Nat.zero_add, Nat.add_zero, nI_add, ↓reduceIte, Nat.reduceMul, Nat.reduceSub, Nat.reduceLeDiff, Nat.reduceEqDiff, Nat.not_lt_zero, Nat.lt_irrefl, decide_true, BEq.rfl, nm1, nm2, nm3, nm4, nm9, ngc, eq_self, r_60, r_65, r_69, r_79_1, r_79_2, Ca, CD, rce_o, enL, Int.reduceToNat, Nat.reduceDiv, gf_o, r_Gv, is_n, qs_3, qs_4, List.getElem?_cons_succ, List.getElem?_cons_zero, nI_mul, g0, g01, g02]
  rw [W900_174]
  simp (disch := omega) only [W900, r_4, r_La, s_82, s_0, ci_6, r_73, ci_4, r_74, r_30, r_30r, ci_3, ci_40, r_72, ci_1, s_1, cl_1, ci_0, r_5, r_2, r_Li, r_49, s_8, r_In, r_52, ci_80, r_93, r_61, r_Gu, pf_o, okR, CK, up_s, up_n, List.set_cons_zero, List.set_cons_succ, List.length_cons, List.length_nil, Nat.reduceAdd, Nat.reduceLT, and_self, enR, LG, LSt, LC, nlR, psR, TK, up_u, lt_nI, le_nI, eq_nI, true_and, and_true, if_true, if_false, Nat.zero_add, Nat.add_zero, nI_add, ↓reduceIte, Nat.reduceMul, Nat.reduceSub, Nat.reduceLeDiff, Nat.reduceEqDiff, Nat.not_lt_zero, Nat.lt_irrefl, decide_true, BEq.rfl, nm1, nm2, nm3, nm4, nm9, ngc, eq_self, r_60, r_65, r_69, r_79_1, r_79_2, Ca, CD, rce_o, enL, Int.reduceToNat, Nat.reduceDiv, gf_o, r_Gv, is_n, qs_3, qs_4, List.getElem?_cons_succ, List.getElem?_cons_zero, nI_mul, g0, g01, g02]
  rw [W900_202]
  simp (disch := omega) only [W900, r_4, r_La, s_82, s_0, ci_6, r_73, ci_4, r_74, r_30, r_30r, ci_3, ci_40, r_72, ci_1, s_1, cl_1, ci_0, r_5, r_2, r_Li, r_49, s_8, r_In, r_52, ci_80, r_93, r_61, r_Gu, pf_o, okR, CK, up_s, up_n, List.set_cons_zero, List.set_cons_succ, List.length_cons, List.length_nil, Nat.reduceAdd, Nat.reduceLT, and_self, enR, LG, LSt, LC, nlR, psR, TK, up_u, lt_nI, le_nI, eq_nI, true_and, and_true, if_true, if_false, Nat.zero_add, Nat.add_zero, nI_add, ↓reduceIte, Nat.reduceMul, Nat.reduceSub, Nat.reduceLeDiff, Nat.reduceEqDiff, Nat.not_lt_zero, Nat.lt_irrefl, decide_true, BEq.rfl, nm1, nm2, nm3, nm4, nm9, ngc, eq_self, r_60, r_65, r_69, r_79_1, r_79_2, Ca, CD, rce_o, enL, Int.reduceToNat, Nat.reduceDiv, gf_o, r_Gv, is_n, qs_3, qs_4, List.getElem?_cons_succ, List.getElem?_cons_zero, nI_mul, g0, g01, g02]
  refine (i_200 (x := 58) (n := 59) (by omega) (up_s _ _ _)).mpr ?_
  simp (disch := omega) only [W900, r_4, r_La, s_82, s_0, ci_6, r_73, ci_4, r_74, r_30, r_30r, ci_3, ci_40, r_72, ci_1, s_1, cl_1, ci_0, r_5, r_2, r_Li, r_49, s_8, r_In, r_52, ci_80, r_93, r_61, r_Gu, pf_o, okR, CK, up_s, up_n, List.set_cons_zero, List.set_cons_succ, List.length_cons, List.length_nil, Nat.reduceAdd, Nat.reduceLT, and_self, enR, LG, LSt, LC, nlR, psR, TK, up_u, lt_nI, le_nI, eq_nI, true_and, and_true, if_true, if_false, Nat.zero_add, Nat.add_zero, nI_add, ↓reduceIte, Nat.reduceMul, Nat.reduceSub, Nat.reduceLeDiff, Nat.reduceEqDiff, Nat.not_lt_zero, Nat.lt_irrefl, decide_true, BEq.rfl, nm1, nm2, nm3, nm4, nm9, ngc, eq_self, r_60, r_65, r_69, r_79_1, r_79_2, Ca, CD, rce_o, enL, Int.reduceToNat, Nat.reduceDiv, gf_o, r_Gv, is_n, qs_3, qs_4, List.getElem?_cons_succ, List.getElem?_cons_zero, nI_mul, g0, g01, g02]
  rw [W900_202]
  simp (disch := omega) only [W900, r_4, r_La, s_82, s_0, ci_6, r_73, ci_4, r_74, r_30, r_30r, ci_3, ci_40, r_72, ci_1, s_1, cl_1, ci_0, r_5, r_2, r_Li, r_49, s_8, r_In, r_52, ci_80, r_93, r_61, r_Gu, pf_o, okR, CK, up_s, up_n, List.set_cons_zero, List.set_cons_succ, List.length_cons, List.length_nil, Nat.reduceAdd, Nat.reduceLT, and_self, enR, LG, LSt, LC, nlR, psR, TK, up_u, lt_nI, le_nI, eq_nI, true_and, and_true, if_true, if_false, Nat.zero_add, Nat.add_zero, nI_add, ↓reduceIte, Nat.reduceMul, Nat.reduceSub, Nat.reduceLeDiff, Nat.reduceEqDiff, Nat.not_lt_zero, Nat.lt_irrefl, decide_true, BEq.rfl, nm1, nm2, nm3, nm4, nm9, ngc, eq_self, r_60, r_65, r_69, r_79_1, r_79_2, Ca, CD, rce_o, enL, Int.reduceToNat, Nat.reduceDiv, gf_o, r_Gv, is_n, qs_3, qs_4, List.getElem?_cons_succ, List.getElem?_cons_zero, nI_mul, g0, g01, g02]
  refine (i_200 (x := 61) (n := 62) (by omega) (up_s _ _ _)).mpr ?_
  simp (disch := omega) only [W900, r_4, r_La, s_82, s_0, ci_6, r_73, ci_4, r_74, r_30, r_30r, ci_3, ci_40, r_72, ci_1, s_1, cl_1, ci_0, r_5, r_2, r_Li, r_49, s_8, r_In, r_52, ci_80, r_93, r_61, r_Gu, pf_o, okR, CK, up_s, up_n, List.set_cons_zero, List.set_cons_succ, List.length_cons, List.length_nil, Nat.reduceAdd, Nat.reduceLT, and_self, enR, LG, LSt, LC, nlR, psR, TK, up_u, lt_nI, le_nI, eq_nI, true_and, and_true, if_true, if_false, Nat.zero_add, Nat.add_zero, nI_add, ↓reduceIte, Nat.reduceMul, Nat.reduceSub, Nat.reduceLeDiff, Nat.reduceEqDiff, Nat.not_lt_zero, Nat.lt_irrefl, decide_true, BEq.rfl, nm1, nm2, nm3, nm4, nm9, ngc, eq_self, r_60, r_65, r_69, r_79_1, r_79_2, Ca, CD, rce_o, enL, Int.reduceToNat, Nat.reduceDiv, gf_o, r_Gv, is_n, qs_3, qs_4, List.getElem?_cons_succ, List.getElem?_cons_zero, nI_mul, g0, g01, g02]
  rw [W900_202]
  simp (disch := omega) only [W900, r_4, r_La, s_82, s_0, ci_6, r_73, ci_4, r_74, r_30, r_30r, ci_3, ci_40, r_72, ci_1, s_1, cl_1, ci_0, r_5, r_2, r_Li, r_49, s_8, r_In, r_52, ci_80, r_93, r_61, r_Gu, pf_o, okR, CK, up_s, up_n, List.set_cons_zero, List.set_cons_succ, List.length_cons, List.length_nil, Nat.reduceAdd, Nat.reduceLT, and_self, enR, LG, LSt, LC, nlR, psR, TK, up_u, lt_nI, le_nI, eq_nI, true_and, and_true, if_true, if_false, Nat.zero_add, Nat.add_zero, nI_add, ↓reduceIte, Nat.reduceMul, Nat.reduceSub, Nat.reduceLeDiff, Nat.reduceEqDiff, Nat.not_lt_zero, Nat.lt_irrefl, decide_true, BEq.rfl, nm1, nm2, nm3, nm4, nm9, ngc, eq_self, r_60, r_65, r_69, r_79_1, r_79_2, Ca, CD, rce_o, enL, Int.reduceToNat, Nat.reduceDiv, gf_o, r_Gv, is_n, qs_3, qs_4, List.getElem?_cons_succ, List.getElem?_cons_zero, nI_mul, g0, g01, g02]
  refine (i_200 (x := 64) (n := 65) (by omega) (up_s _ _ _)).mpr ?_
  simp (disch := omega) only [W900, r_4, r_La, s_82, s_0, ci_6, r_73, ci_4, r_74, r_30, r_30r, ci_3, ci_40, r_72, ci_1, s_1, cl_1, ci_0, r_5, r_2, r_Li, r_49, s_8, r_In, r_52, ci_80, r_93, r_61, r_Gu, pf_o, okR, CK, up_s, up_n, List.set_cons_zero, List.set_cons_succ, List.length_cons, List.length_nil, Nat.reduceAdd, Nat.reduceLT, and_self, enR, LG, LSt, LC, nlR, psR, TK, up_u, lt_nI, le_nI, eq_nI, true_and, and_true, if_true, if_false, Nat.zero_add, Nat.add_zero, nI_add, ↓reduceIte, Nat.reduceMul, Nat.reduceSub, Nat.reduceLeDiff, Nat.reduceEqDiff, Nat.not_lt_zero, Nat.lt_irrefl, decide_true, BEq.rfl, nm1, nm2, nm3, nm4, nm9, ngc, eq_self, r_60, r_65, r_69, r_79_1, r_79_2, Ca, CD, rce_o, enL, Int.reduceToNat, Nat.reduceDiv, gf_o, r_Gv, is_n, qs_3, qs_4, List.getElem?_cons_succ, List.getElem?_cons_zero, nI_mul, g0, g01, g02]
  rw [W900_202]
  simp (disch := omega) only [W900, r_4, r_La, s_82, s_0, ci_6, r_73, ci_4, r_74, r_30, r_30r, ci_3, ci_40, r_72, ci_1, s_1, cl_1, ci_0, r_5, r_2, r_Li, r_49, s_8, r_In, r_52, ci_80, r_93, r_61, r_Gu, pf_o, okR, CK, up_s, up_n, List.set_cons_zero, List.set_cons_succ, List.length_cons, List.length_nil, Nat.reduceAdd, Nat.reduceLT, and_self, enR, LG, LSt, LC, nlR, psR, TK, up_u, lt_nI, le_nI, eq_nI, true_and, and_true, if_true, if_false, Nat.zero_add, Nat.add_zero, nI_add, ↓reduceIte, Nat.reduceMul, Nat.reduceSub, Nat.reduceLeDiff, Nat.reduceEqDiff, Nat.not_lt_zero, Nat.lt_irrefl, decide_true, BEq.rfl, nm1, nm2, nm3, nm4, nm9, ngc, eq_self, r_60, r_65, r_69, r_79_1, r_79_2, Ca, CD, rce_o, enL, Int.reduceToNat, Nat.reduceDiv, gf_o, r_Gv, is_n, qs_3, qs_4, List.getElem?_cons_succ, List.getElem?_cons_zero, nI_mul, g0, g01, g02]
  refine hQ _ (fun k hk => ?_) (fun k hk => ?_)
  · match k, hk with
    | 0, _ => rfl
    | 1, _ => rfl
    | 2, _ => rfl
    | 3, _ => exact g3
    | 4, _ => exact g4
    | 5, _ => exact g5 5 (by omega) (by omega)
    | 6, _ => exact g5 6 (by omega) (by omega)
    | 7, _ => exact g5 7 (by omega) (by omega)
    | 8, _ => exact g5 8 (by omega) (by omega)
    | 9, _ => rfl
    | 10, _ => rfl
    | 11, _ => rfl
    | 12, _ => rfl
    | 13, _ => rfl
    | 14, _ => rfl
    | 15, _ => rfl
    | 16, _ => rfl
    | 17, _ => rfl
    | 18, _ => rfl
    | 19, _ => rfl
    | 20, _ => rfl
    | 21, _ => rfl
    | 22, _ => rfl
    | 23, _ => rfl
    | 24, _ => rfl
    | 25, _ => rfl
    | 26, _ => rfl
    | 27, _ => rfl
    | 28, _ => rfl
    | 29, _ => rfl
    | 30, _ => rfl
    | 31, _ => rfl
    | 32, _ => rfl
    | 33, _ => rfl
    | 34, _ => rfl
    | 35, _ => rfl
    | 36, _ => rfl
    | 37, _ => rfl
    | 38, _ => rfl
    | 39, _ => rfl
    | 40, _ => rfl
    | 41, _ => rfl
    | 42, _ => rfl
    | 43, _ => rfl
    | 44, _ => rfl
    | 45, _ => rfl
    | 46, _ => rfl
    | 47, _ => rfl
    | 48, _ => rfl
    | 49, _ => rfl
    | 50, _ => rfl
    | 51, _ => rfl
    | 52, _ => rfl
    | 53, _ => rfl
    | 54, _ => rfl
    | 55, _ => rfl
    | 56, _ => rfl
    | 57, _ => rfl
    | 58, _ => rfl
    | 59, _ => rfl
    | 60, _ => rfl
    | 61, _ => rfl
    | 62, _ => rfl
    | 63, _ => rfl
    | 64, _ => rfl
    | 65, _ => rfl
    | 66, _ => rfl
    | n + 67, hk => exact absurd hk (by omega)
  · simp (disch := omega) only [up_n]
    rw [g2 k (by omega)]
    simp (disch := omega) only [up_n]
def el_1000 (k : Nat) : AE := match k with
  | 67 => .inr (10, [.int 0, .ref 68, .int 0, .long 0, .long (lN 1), .ref 69, .ref 70, .ref 71, .ref 72, .ref 73, .int 0, .int 0, .int (nI 1), .ref 74, .int 0, .int 0, .int 0, .int 0, .int 0, .ref 75, .ref 76, .ref 77, .ref 78, .ref 79, .ref 80, .ref 81, .ref 82, .ref 83, .ref 84, .ref 85, .int 0, .int 0, .int 0, .int 0, .ref 86, .ref 87, .ref 88, .long 0])
  | 68 => .inl (0, 6, .inl fun _ => 0)
  | 69 => .inl (0, 6, .inl (upd (upd (upd (upd (upd (upd (fun _ => 0) 0 (-9)) 1 (-9)) 2 (-9)) 3 (-9)) 4 (-9)) 5 (-9)))
  | 70 => .inl (0, 240, .inl fun _ => 0)
  | 71 => .inl (0, 40, .inl fun _ => 0)
  | 72 => .inl (0, 4, .inl (upd (upd (upd (upd (fun _ => 0) 0 (-9)) 1 (-9)) 2 (-9)) 3 (-9)))
  | 73 => .inl (0, 320, .inl fun _ => 0)
  | 74 => .inl (0, 80, .inl fun _ => 0)
  | 75 => .inl (0, 40, .inl fun _ => 0)
  | 76 => .inl (0, 40, .inl fun _ => 0)
  | 77 => .inl (0, 41, .inl fun _ => 0)
  | 78 => .inl (0, 246, .inl (upd (upd (upd (fun _ => 0) 0 (-9)) 82 (-9)) 164 (-9)))
  | 79 => .inl (1, 7, .inr (.inl fun _ => 0))
  | 80 => .inl (1, 7, .inr (.inl fun _ => 0))
  | 81 => .inl (0, 7, .inl fun _ => 0)
  | 82 => .inl (0, 7, .inl fun _ => 0)
  | 83 => .inl (0, 1280, .inl fun _ => 0)
  | 84 => .inl (0, 16384, .inl fun _ => 0)
  | 85 => .inl (0, 16384, .inl fun _ => 0)
  | 86 => .inl (0, 7168, .inl fun _ => 0)
  | 87 => .inl (0, 7168, .inl fun _ => 0)
  | 88 => .inl (2, 49, .inl fun _ => 0)
  | _ => vd
theorem i_1000 (hQ : ∀ f1 : AH, (∀ k, 67 ≤ k → k < 89 → f1 k = el_1000 k) → (∀ k, k < 67 ∨ 89 ≤ k → f1 k = f k) → Q none (89, m + 49524) f1) : Cw (d + 1) 1000 [.ref 67] (68, m) (va_up f 67 (.inr (10, [.int 0, .null, .int 0, .long 0, .long 0, .null, .null, .null, .null, .null, .int 0, .int 0, .int 0, .null, .int 0, .int 0, .int 0, .int 0, .int 0, .null, .null, .null, .null, .null, .null, .null, .null, .null, .null, .null, .int 0, .int 0, .int 0, .int 0, .null, .null, .null, .long 0]))) Q := by
  rw [cw_wp]
  simp (disch := omega) only [W1000, r_4, r_La, s_82, s_0, ci_6, r_72, s_1, cl_1, ci_240, ci_40, ci_4, ci_320, ci_1, ci_80, ci_41, ci_246, ci_7, ci_1280, ci_16384, ci_7168, ci_49, ci_0, r_5, r_2, r_Li, r_49, ci_m9, s_8, r_In, r_52, ci_3, ci_82, r_12, r_93, r_61, r_Gu, pf_o, okR, CK, up_s, up_n, List.set_cons_zero, List.set_cons_succ, List.length_cons, List.length_nil, Nat.reduceAdd, Nat.reduceLT, and_self, enR, LG, LSt, LC, nlR, psR, TK, up_u, lt_nI, le_nI, eq_nI, true_and, and_true, if_true, if_false, Nat.zero_add, Nat.add_zero, nI_add, ↓reduceIte, Nat.reduceMul, Nat.reduceSub, Nat.reduceLeDiff, Nat.reduceEqDiff, Nat.not_lt_zero, Nat.lt_irrefl, decide_true, BEq.rfl, nm1, nm2, nm3, nm4, nm9, ngc, eq_self, r_60, r_73, r_74, r_65, r_69, r_79_1, r_79_2, Ca, CD, rce_o, enL, Int.reduceToNat, Nat.reduceDiv, gf_o, r_Gv, is_n, qs_3, qs_4, List.getElem?_cons_succ, List.getElem?_cons_zero, nI_mul, Nat.add_assoc]
  rw [W1000_191]
  simp (disch := omega) only [W1000, r_4, r_La, s_82, s_0, ci_6, r_72, s_1, cl_1, ci_240, ci_40, ci_4, ci_320, ci_1, ci_80, ci_41, ci_246, ci_7, ci_1280, ci_16384, ci_7168, ci_49, ci_0, r_5, r_2, r_Li, r_49, ci_m9, s_8, r_In, r_52, ci_3, ci_82, r_12, r_93, r_61, r_Gu, pf_o, okR, CK, up_s, up_n, List.set_cons_zero, List.set_cons_succ, List.length_cons, List.length_nil, Nat.reduceAdd, Nat.reduceLT, and_self, enR, LG, LSt, LC, nlR, psR, TK, up_u, lt_nI, le_nI, eq_nI, true_and, and_true, if_true, if_false, Nat.zero_add, Nat.add_zero, nI_add, ↓reduceIte, Nat.reduceMul, Nat.reduceSub, Nat.reduceLeDiff, Nat.reduceEqDiff, Nat.not_lt_zero, Nat.lt_irrefl, decide_true, BEq.rfl, nm1, nm2, nm3, nm4, nm9, ngc, eq_self, r_60, r_73, r_74, r_65, r_69, r_79_1, r_79_2, Ca, CD, rce_o, enL, Int.reduceToNat, Nat.reduceDiv, gf_o, r_Gv, is_n, qs_3, qs_4, List.getElem?_cons_succ, List.getElem?_cons_zero, nI_mul, Nat.add_assoc]
  rw [W1000_191]
  simp (disch := omega) only [W1000, r_4, r_La, s_82, s_0, ci_6, r_72, s_1, cl_1, ci_240, ci_40, ci_4, ci_320, ci_1, ci_80, ci_41, ci_246, ci_7, ci_1280, ci_16384, ci_7168, ci_49, ci_0, r_5, r_2, r_Li, r_49, ci_m9, s_8, r_In, r_52, ci_3, ci_82, r_12, r_93, r_61, r_Gu, pf_o, okR, CK, up_s, up_n, List.set_cons_zero, List.set_cons_succ, List.length_cons, List.length_nil, Nat.reduceAdd, Nat.reduceLT, and_self, enR, LG, LSt, LC, nlR, psR, TK, up_u, lt_nI, le_nI, eq_nI, true_and, and_true, if_true, if_false, Nat.zero_add, Nat.add_zero, nI_add, ↓reduceIte, Nat.reduceMul, Nat.reduceSub, Nat.reduceLeDiff, Nat.reduceEqDiff, Nat.not_lt_zero, Nat.lt_irrefl, decide_true, BEq.rfl, nm1, nm2, nm3, nm4, nm9, ngc, eq_self, r_60, r_73, r_74, r_65, r_69, r_79_1, r_79_2, Ca, CD, rce_o, enL, Int.reduceToNat, Nat.reduceDiv, gf_o, r_Gv, is_n, qs_3, qs_4, List.getElem?_cons_succ, List.getElem?_cons_zero, nI_mul, Nat.add_assoc]
  rw [W1000_191]
  simp (disch := omega) only [W1000, r_4, r_La, s_82, s_0, ci_6, r_72, s_1, cl_1, ci_240, ci_40, ci_4, ci_320, ci_1, ci_80, ci_41, ci_246, ci_7, ci_1280, ci_16384, ci_7168, ci_49, ci_0, r_5, r_2, r_Li, r_49, ci_m9, s_8, r_In, r_52, ci_3, ci_82, r_12, r_93, r_61, r_Gu, pf_o, okR, CK, up_s, up_n, List.set_cons_zero, List.set_cons_succ, List.length_cons, List.length_nil, Nat.reduceAdd, Nat.reduceLT, and_self, enR, LG, LSt, LC, nlR, psR, TK, up_u, lt_nI, le_nI, eq_nI, true_and, and_true, if_true, if_false, Nat.zero_add, Nat.add_zero, nI_add, ↓reduceIte, Nat.reduceMul, Nat.reduceSub, Nat.reduceLeDiff, Nat.reduceEqDiff, Nat.not_lt_zero, Nat.lt_irrefl, decide_true, BEq.rfl, nm1, nm2, nm3, nm4, nm9, ngc, eq_self, r_60, r_73, r_74, r_65, r_69, r_79_1, r_79_2, Ca, CD, rce_o, enL, Int.reduceToNat, Nat.reduceDiv, gf_o, r_Gv, is_n, qs_3, qs_4, List.getElem?_cons_succ, List.getElem?_cons_zero, nI_mul, Nat.add_assoc]
  rw [W1000_191]
  simp (disch := omega) only [W1000, r_4, r_La, s_82, s_0, ci_6, r_72, s_1, cl_1, ci_240, ci_40, ci_4, ci_320, ci_1, ci_80, ci_41, ci_246, ci_7, ci_1280, ci_16384, ci_7168, ci_49, ci_0, r_5, r_2, r_Li, r_49, ci_m9, s_8, r_In, r_52, ci_3, ci_82, r_12, r_93, r_61, r_Gu, pf_o, okR, CK, up_s, up_n, List.set_cons_zero, List.set_cons_succ, List.length_cons, List.length_nil, Nat.reduceAdd, Nat.reduceLT, and_self, enR, LG, LSt, LC, nlR, psR, TK, up_u, lt_nI, le_nI, eq_nI, true_and, and_true, if_true, if_false, Nat.zero_add, Nat.add_zero, nI_add, ↓reduceIte, Nat.reduceMul, Nat.reduceSub, Nat.reduceLeDiff, Nat.reduceEqDiff, Nat.not_lt_zero, Nat.lt_irrefl, decide_true, BEq.rfl, nm1, nm2, nm3, nm4, nm9, ngc, eq_self, r_60, r_73, r_74, r_65, r_69, r_79_1, r_79_2, Ca, CD, rce_o, enL, Int.reduceToNat, Nat.reduceDiv, gf_o, r_Gv, is_n, qs_3, qs_4, List.getElem?_cons_succ, List.getElem?_cons_zero, nI_mul, Nat.add_assoc]
  rw [W1000_191]
  simp (disch := omega) only [W1000, r_4, r_La, s_82, s_0, ci_6, r_72, s_1, cl_1, ci_240, ci_40, ci_4, ci_320, ci_1, ci_80, ci_41, ci_246, ci_7, ci_1280, ci_16384, ci_7168, ci_49, ci_0, r_5, r_2, r_Li, r_49, ci_m9, s_8, r_In, r_52, ci_3, ci_82, r_12, r_93, r_61, r_Gu, pf_o, okR, CK, up_s, up_n, List.set_cons_zero, List.set_cons_succ, List.length_cons, List.length_nil, Nat.reduceAdd, Nat.reduceLT, and_self, enR, LG, LSt, LC, nlR, psR, TK, up_u, lt_nI, le_nI, eq_nI, true_and, and_true, if_true, if_false, Nat.zero_add, Nat.add_zero, nI_add, ↓reduceIte, Nat.reduceMul, Nat.reduceSub, Nat.reduceLeDiff, Nat.reduceEqDiff, Nat.not_lt_zero, Nat.lt_irrefl, decide_true, BEq.rfl, nm1, nm2, nm3, nm4, nm9, ngc, eq_self, r_60, r_73, r_74, r_65, r_69, r_79_1, r_79_2, Ca, CD, rce_o, enL, Int.reduceToNat, Nat.reduceDiv, gf_o, r_Gv, is_n, qs_3, qs_4, List.getElem?_cons_succ, List.getElem?_cons_zero, nI_mul, Nat.add_assoc]
  rw [W1000_191]
  simp (disch := omega) only [W1000, r_4, r_La, s_82, s_0, ci_6, r_72, s_1, cl_1, ci_240, ci_40, ci_4, ci_320, ci_1, ci_80, ci_41, ci_246, ci_7, ci_1280, ci_16384, ci_7168, ci_49, ci_0, r_5, r_2, r_Li, r_49, ci_m9, s_8, r_In, r_52, ci_3, ci_82, r_12, r_93, r_61, r_Gu, pf_o, okR, CK, up_s, up_n, List.set_cons_zero, List.set_cons_succ, List.length_cons, List.length_nil, Nat.reduceAdd, Nat.reduceLT, and_self, enR, LG, LSt, LC, nlR, psR, TK, up_u, lt_nI, le_nI, eq_nI, true_and, and_true, if_true, if_false, Nat.zero_add, Nat.add_zero, nI_add, ↓reduceIte, Nat.reduceMul, Nat.reduceSub, Nat.reduceLeDiff, Nat.reduceEqDiff, Nat.not_lt_zero, Nat.lt_irrefl, decide_true, BEq.rfl, nm1, nm2, nm3, nm4, nm9, ngc, eq_self, r_60, r_73, r_74, r_65, r_69, r_79_1, r_79_2, Ca, CD, rce_o, enL, Int.reduceToNat, Nat.reduceDiv, gf_o, r_Gv, is_n, qs_3, qs_4, List.getElem?_cons_succ, List.getElem?_cons_zero, nI_mul, Nat.add_assoc]
  rw [W1000_191]
  simp (disch := omega) only [W1000, r_4, r_La, s_82, s_0, ci_6, r_72, s_1, cl_1, ci_240, ci_40, ci_4, ci_320, ci_1, ci_80, ci_41, ci_246, ci_7, ci_1280, ci_16384, ci_7168, ci_49, ci_0, r_5, r_2, r_Li, r_49, ci_m9, s_8, r_In, r_52, ci_3, ci_82, r_12, r_93, r_61, r_Gu, pf_o, okR, CK, up_s, up_n, List.set_cons_zero, List.set_cons_succ, List.length_cons, List.length_nil, Nat.reduceAdd, Nat.reduceLT, and_self, enR, LG, LSt, LC, nlR, psR, TK, up_u, lt_nI, le_nI, eq_nI, true_and, and_true, if_true, if_false, Nat.zero_add, Nat.add_zero, nI_add, ↓reduceIte, Nat.reduceMul, Nat.reduceSub, Nat.reduceLeDiff, Nat.reduceEqDiff, Nat.not_lt_zero, Nat.lt_irrefl, decide_true, BEq.rfl, nm1, nm2, nm3, nm4, nm9, ngc, eq_self, r_60, r_73, r_74, r_65, r_69, r_79_1, r_79_2, Ca, CD, rce_o, enL, Int.reduceToNat, Nat.reduceDiv, gf_o, r_Gv, is_n, qs_3, qs_4, List.getElem?_cons_succ, List.getElem?_cons_zero, nI_mul, Nat.add_assoc]
  rw [W1000_213]
  simp (disch := omega) only [W1000, r_4, r_La, s_82, s_0, ci_6, r_72, s_1, cl_1, ci_240, ci_40, ci_4, ci_320, ci_1, ci_80, ci_41, ci_246, ci_7, ci_1280, ci_16384, ci_7168, ci_49, ci_0, r_5, r_2, r_Li, r_49, ci_m9, s_8, r_In, r_52, ci_3, ci_82, r_12, r_93, r_61, r_Gu, pf_o, okR, CK, up_s, up_n, List.set_cons_zero, List.set_cons_succ, List.length_cons, List.length_nil, Nat.reduceAdd, Nat.reduceLT, and_self, enR, LG, LSt, LC, nlR, psR, TK, up_u, lt_nI, le_nI, eq_nI, true_and, and_true, if_true, if_false, Nat.zero_add, Nat.add_zero, nI_add, ↓reduceIte, Nat.reduceMul, Nat.reduceSub, Nat.reduceLeDiff, Nat.reduceEqDiff, Nat.not_lt_zero, Nat.lt_irrefl, decide_true, BEq.rfl, nm1, nm2, nm3, nm4, nm9, ngc, eq_self, r_60, r_73, r_74, r_65, r_69, r_79_1, r_79_2, Ca, CD, rce_o, enL, Int.reduceToNat, Nat.reduceDiv, gf_o, r_Gv, is_n, qs_3, qs_4, List.getElem?_cons_succ, List.getElem?_cons_zero, nI_mul, Nat.add_assoc]
  rw [W1000_213]
  simp (disch := omega) only [W1000, r_4, r_La, s_82, s_0, ci_6, r_72, s_1, cl_1, ci_240, ci_40, ci_4, ci_320, ci_1, ci_80, ci_41, ci_246, ci_7, ci_1280, ci_16384, ci_7168, ci_49, ci_0, r_5, r_2, r_Li, r_49, ci_m9, s_8, r_In, r_52, ci_3, ci_82, r_12, r_93, r_61, r_Gu, pf_o, okR, CK, up_s, up_n, List.set_cons_zero, List.set_cons_succ, List.length_cons, List.length_nil, Nat.reduceAdd, Nat.reduceLT, and_self, enR, LG, LSt, LC, nlR, psR, TK, up_u, lt_nI, le_nI, eq_nI, true_and, and_true, if_true, if_false, Nat.zero_add, Nat.add_zero, nI_add, ↓reduceIte, Nat.reduceMul, Nat.reduceSub, Nat.reduceLeDiff, Nat.reduceEqDiff, Nat.not_lt_zero, Nat.lt_irrefl, decide_true, BEq.rfl, nm1, nm2, nm3, nm4, nm9, ngc, eq_self, r_60, r_73, r_74, r_65, r_69, r_79_1, r_79_2, Ca, CD, rce_o, enL, Int.reduceToNat, Nat.reduceDiv, gf_o, r_Gv, is_n, qs_3, qs_4, List.getElem?_cons_succ, List.getElem?_cons_zero, nI_mul, Nat.add_assoc]
  rw [W1000_213]
  simp (disch := omega) only [W1000, r_4, r_La, s_82, s_0, ci_6, r_72, s_1, cl_1, ci_240, ci_40, ci_4, ci_320, ci_1, ci_80, ci_41, ci_246, ci_7, ci_1280, ci_16384, ci_7168, ci_49, ci_0, r_5, r_2, r_Li, r_49, ci_m9, s_8, r_In, r_52, ci_3, ci_82, r_12, r_93, r_61, r_Gu, pf_o, okR, CK, up_s, up_n, List.set_cons_zero, List.set_cons_succ, List.length_cons, List.length_nil, Nat.reduceAdd, Nat.reduceLT, and_self, enR, LG, LSt, LC, nlR, psR, TK, up_u, lt_nI, le_nI, eq_nI, true_and, and_true, if_true, if_false, Nat.zero_add, Nat.add_zero, nI_add, ↓reduceIte, Nat.reduceMul, Nat.reduceSub, Nat.reduceLeDiff, Nat.reduceEqDiff, Nat.not_lt_zero, Nat.lt_irrefl, decide_true, BEq.rfl, nm1, nm2, nm3, nm4, nm9, ngc, eq_self, r_60, r_73, r_74, r_65, r_69, r_79_1, r_79_2, Ca, CD, rce_o, enL, Int.reduceToNat, Nat.reduceDiv, gf_o, r_Gv, is_n, qs_3, qs_4, List.getElem?_cons_succ, List.getElem?_cons_zero, nI_mul, Nat.add_assoc]
  rw [W1000_213]
  simp (disch := omega) only [W1000, r_4, r_La, s_82, s_0, ci_6, r_72, s_1, cl_1, ci_240, ci_40, ci_4, ci_320, ci_1, ci_80, ci_41, ci_246, ci_7, ci_1280, ci_16384, ci_7168, ci_49, ci_0, r_5, r_2, r_Li, r_49, ci_m9, s_8, r_In, r_52, ci_3, ci_82, r_12, r_93, r_61, r_Gu, pf_o, okR, CK, up_s, up_n, List.set_cons_zero, List.set_cons_succ, List.length_cons, List.length_nil, Nat.reduceAdd, Nat.reduceLT, and_self, enR, LG, LSt, LC, nlR, psR, TK, up_u, lt_nI, le_nI, eq_nI, true_and, and_true, if_true, if_false, Nat.zero_add, Nat.add_zero, nI_add, ↓reduceIte, Nat.reduceMul, Nat.reduceSub, Nat.reduceLeDiff, Nat.reduceEqDiff, Nat.not_lt_zero, Nat.lt_irrefl, decide_true, BEq.rfl, nm1, nm2, nm3, nm4, nm9, ngc, eq_self, r_60, r_73, r_74, r_65, r_69, r_79_1, r_79_2, Ca, CD, rce_o, enL, Int.reduceToNat, Nat.reduceDiv, gf_o, r_Gv, is_n, qs_3, qs_4, List.getElem?_cons_succ, List.getElem?_cons_zero, nI_mul, Nat.add_assoc]
  rw [W1000_213]
  simp (disch := omega) only [W1000, r_4, r_La, s_82, s_0, ci_6, r_72, s_1, cl_1, ci_240, ci_40, ci_4, ci_320, ci_1, ci_80, ci_41, ci_246, ci_7, ci_1280, ci_16384, ci_7168, ci_49, ci_0, r_5, r_2, r_Li, r_49, ci_m9, s_8, r_In, r_52, ci_3, ci_82, r_12, r_93, r_61, r_Gu, pf_o, okR, CK, up_s, up_n, List.set_cons_zero, List.set_cons_succ, List.length_cons, List.length_nil, Nat.reduceAdd, Nat.reduceLT, and_self, enR, LG, LSt, LC, nlR, psR, TK, up_u, lt_nI, le_nI, eq_nI, true_and, and_true, if_true, if_false, Nat.zero_add, Nat.add_zero, nI_add, ↓reduceIte, Nat.reduceMul, Nat.reduceSub, Nat.reduceLeDiff, Nat.reduceEqDiff, Nat.not_lt_zero, Nat.lt_irrefl, decide_true, BEq.rfl, nm1, nm2, nm3, nm4, nm9, ngc, eq_self, r_60, r_73, r_74, r_65, r_69, r_79_1, r_79_2, Ca, CD, rce_o, enL, Int.reduceToNat, Nat.reduceDiv, gf_o, r_Gv, is_n, qs_3, qs_4, List.getElem?_cons_succ, List.getElem?_cons_zero, nI_mul, Nat.add_assoc]
  rw [W1000_234]
  simp (disch := omega) only [W1000, r_4, r_La, s_82, s_0, ci_6, r_72, s_1, cl_1, ci_240, ci_40, ci_4, ci_320, ci_1, ci_80, ci_41, ci_246, ci_7, ci_1280, ci_16384, ci_7168, ci_49, ci_0, r_5, r_2, r_Li, r_49, ci_m9, s_8, r_In, r_52, ci_3, ci_82, r_12, r_93, r_61, r_Gu, pf_o, okR, CK, up_s, up_n, List.set_cons_zero, List.set_cons_succ, List.length_cons, List.length_nil, Nat.reduceAdd, Nat.reduceLT, and_self, enR, LG, LSt, LC, nlR, psR, TK, up_u, lt_nI, le_nI, eq_nI, true_and, and_true, if_true, if_false, Nat.zero_add, Nat.add_zero, nI_add, ↓reduceIte, Nat.reduceMul, Nat.reduceSub, Nat.reduceLeDiff, Nat.reduceEqDiff, Nat.not_lt_zero, Nat.lt_irrefl, decide_true, BEq.rfl, nm1, nm2, nm3, nm4, nm9, ngc, eq_self, r_60, r_73, r_74, r_65, r_69, r_79_1, r_79_2, Ca, CD, rce_o, enL, Int.reduceToNat, Nat.reduceDiv, gf_o, r_Gv, is_n, qs_3, qs_4, List.getElem?_cons_succ, List.getElem?_cons_zero, nI_mul, Nat.add_assoc]
  rw [W1000_234]
  simp (disch := omega) only [W1000, r_4, r_La, s_82, s_0, ci_6, r_72, s_1, cl_1, ci_240, ci_40, ci_4, ci_320, ci_1, ci_80, ci_41, ci_246, ci_7, ci_1280, ci_16384, ci_7168, ci_49, ci_0, r_5, r_2, r_Li, r_49, ci_m9, s_8, r_In, r_52, ci_3, ci_82, r_12, r_93, r_61, r_Gu, pf_o, okR, CK, up_s, up_n, List.set_cons_zero, List.set_cons_succ, List.length_cons, List.length_nil, Nat.reduceAdd, Nat.reduceLT, and_self, enR, LG, LSt, LC, nlR, psR, TK, up_u, lt_nI, le_nI, eq_nI, true_and, and_true, if_true, if_false, Nat.zero_add, Nat.add_zero, nI_add, ↓reduceIte, Nat.reduceMul, Nat.reduceSub, Nat.reduceLeDiff, Nat.reduceEqDiff, Nat.not_lt_zero, Nat.lt_irrefl, decide_true, BEq.rfl, nm1, nm2, nm3, nm4, nm9, ngc, eq_self, r_60, r_73, r_74, r_65, r_69, r_79_1, r_79_2, Ca, CD, rce_o, enL, Int.reduceToNat, Nat.reduceDiv, gf_o, r_Gv, is_n, qs_3, qs_4, List.getElem?_cons_succ, List.getElem?_cons_zero, nI_mul, Nat.add_assoc]
  rw [W1000_234]
  simp (disch := omega) only [W1000, r_4, r_La, s_82, s_0, ci_6, r_72, s_1, cl_1, ci_240, ci_40, ci_4, ci_320, ci_1, ci_80, ci_41, ci_246, ci_7, ci_1280, ci_16384, ci_7168, ci_49, ci_0, r_5, r_2, r_Li, r_49, ci_m9, s_8, r_In, r_52, ci_3, ci_82, r_12, r_93, r_61, r_Gu, pf_o, okR, CK, up_s, up_n, List.set_cons_zero, List.set_cons_succ, List.length_cons, List.length_nil, Nat.reduceAdd, Nat.reduceLT, and_self, enR, LG, LSt, LC, nlR, psR, TK, up_u, lt_nI, le_nI, eq_nI, true_and, and_true, if_true, if_false, Nat.zero_add, Nat.add_zero, nI_add, ↓reduceIte, Nat.reduceMul, Nat.reduceSub, Nat.reduceLeDiff, Nat.reduceEqDiff, Nat.not_lt_zero, Nat.lt_irrefl, decide_true, BEq.rfl, nm1, nm2, nm3, nm4, nm9, ngc, eq_self, r_60, r_73, r_74, r_65, r_69, r_79_1, r_79_2, Ca, CD, rce_o, enL, Int.reduceToNat, Nat.reduceDiv, gf_o, r_Gv, is_n, qs_3, qs_4, List.getElem?_cons_succ, List.getElem?_cons_zero, nI_mul, Nat.add_assoc]
  rw [W1000_234]
  simp (disch := omega) only [W1000, r_4, r_La, s_82, s_0, ci_6, r_72, s_1, cl_1, ci_240, ci_40, ci_4, ci_320, ci_1, ci_80, ci_41, ci_246, ci_7, ci_1280, ci_16384, ci_7168, ci_49, ci_0, r_5, r_2, r_Li, r_49, ci_m9, s_8, r_In, r_52, ci_3, ci_82, r_12, r_93, r_61, r_Gu, pf_o, okR, CK, up_s, up_n, List.set_cons_zero, List.set_cons_succ, List.length_cons, List.length_nil, Nat.reduceAdd, Nat.reduceLT, and_self, enR, LG, LSt, LC, nlR, psR, TK, up_u, lt_nI, le_nI, eq_nI, true_and, and_true, if_true, if_false, Nat.zero_add, Nat.add_zero, nI_add, ↓reduceIte, Nat.reduceMul, Nat.reduceSub, Nat.reduceLeDiff, Nat.reduceEqDiff, Nat.not_lt_zero, Nat.lt_irrefl, decide_true, BEq.rfl, nm1, nm2, nm3, nm4, nm9, ngc, eq_self, r_60, r_73, r_74, r_65, r_69, r_79_1, r_79_2, Ca, CD, rce_o, enL, Int.reduceToNat, Nat.reduceDiv, gf_o, r_Gv, is_n, qs_3, qs_4, List.getElem?_cons_succ, List.getElem?_cons_zero, nI_mul, Nat.add_assoc]
  refine hQ _ (fun k hk hk2 => ?_) (fun k hk => ?_)
  · obtain ⟨i, rfl⟩ : ∃ i, k = 67 + i := ⟨k - 67, by omega⟩
    match i, hk2 with
    | 0, _ => rfl
    | 1, _ => rfl
    | 2, _ => rfl
    | 3, _ => rfl
    | 4, _ => rfl
    | 5, _ => rfl
    | 6, _ => rfl
    | 7, _ => rfl
    | 8, _ => rfl
    | 9, _ => rfl
    | 10, _ => rfl
    | 11, _ => rfl
    | 12, _ => rfl
    | 13, _ => rfl
    | 14, _ => rfl
    | 15, _ => rfl
    | 16, _ => rfl
    | 17, _ => rfl
    | 18, _ => rfl
    | 19, _ => rfl
    | 20, _ => rfl
    | 21, _ => rfl
    | n + 22, hk2 => exact absurd hk2 (by omega)
  · simp (disch := omega) only [up_n]
end
/-! the registers at the start -/
def s_i : Nat → Int32 := fun k => if k = 14 then nI 1 else 0
def v_i : Nat → Int64 := fun k => if k = 17 then lN 1 else 0
def q_i : Nat → Nat := fun k => if k = 0 then 1 else if k = 2 then 99 else if k = 4 then 1 else if k = 6 then 1 else 0
def a_i : Nat → Int32 := fun k => if k = 12 then nI 1 else 0
def b_i : Nat → Int64 := fun k => if k = 4 then lN 1 else 0
def e_i : Nat → Nat → Int32 := va_up (va_up (va_up (fun _ _ => 0) 69 (upd (upd (upd (upd (upd (upd (fun _ => 0) 0 (-9)) 1 (-9)) 2 (-9)) 3 (-9)) 4 (-9)) 5 (-9))) 72 (upd (upd (upd (upd (fun _ => 0) 0 (-9)) 1 (-9)) 2 (-9)) 3 (-9))) 78 (upd (upd (upd (fun _ => 0) 0 (-9)) 82 (-9)) 164 (-9))
def C_i : CT := (s_i, v_i, fun _ _ => 0, fun _ _ => 0, q_i, fun _ => 0, fun _ => 0, fun _ _ => 0, fun _ _ => 0, fun _ _ => 0, fun _ _ => 0, fun _ _ => 0, fun _ _ _ => 0, fun _ _ => 0, fun _ _ => 0)
def M_i : MT := (a_i, b_i, e_i, fun _ _ => 0)
theorem hp_i (L : Nat) (xs : Nat → Int32) {f2 : AH} (h1 : ∀ k, k < 67 → f2 k = el_900 k) (h2 : ∀ k, 67 ≤ k → k < 89 → f2 k = el_1000 k) (h3 : ∀ k, 89 ≤ k → f2 k = f0 L xs k) : f2 = Hp (L, xs) C_i M_i := by
  funext k
  by_cases hk : k < 93
  · rw [hp_lt hk]
    match k, hk with
    | 0, _ => exact h1 0 (by omega)
    | 1, _ => 
      rw [h1 1 (by omega)]
      refine congrArg (fun g => (Sum.inl (3, 6, Sum.inr (Sum.inr (Sum.inr (Sum.inr g)))) : AE)) (funext fun j => ?_)
      by_cases hj : j < 6
      · match j, hj with
        | 0, _ => rfl
        | 1, _ => rfl
        | 2, _ => rfl
        | 3, _ => rfl
        | 4, _ => rfl
        | 5, _ => rfl
      · simp (disch := omega) only [up_n, if_neg hj]
    | 2, _ => 
      rw [h1 2 (by omega)]
      refine congrArg (fun g => (Sum.inl (3, 4, Sum.inr (Sum.inr (Sum.inr (Sum.inr g)))) : AE)) (funext fun j => ?_)
      by_cases hj : j < 4
      · match j, hj with
        | 0, _ => rfl
        | 1, _ => rfl
        | 2, _ => rfl
        | 3, _ => rfl
      · simp (disch := omega) only [up_n, if_neg hj]
    | 3, _ => exact h1 3 (by omega)
    | 4, _ => exact h1 4 (by omega)
    | 5, _ => exact h1 5 (by omega)
    | 6, _ => exact h1 6 (by omega)
    | 7, _ => exact h1 7 (by omega)
    | 8, _ => exact h1 8 (by omega)
    | 9, _ => exact h1 9 (by omega)
    | 10, _ => exact h1 10 (by omega)
    | 11, _ => exact h1 11 (by omega)
    | 12, _ => 
      rw [h1 12 (by omega)]
      refine congrArg (fun g => (Sum.inl (4, 3, Sum.inr (Sum.inr (Sum.inr (Sum.inr g)))) : AE)) (funext fun j => ?_)
      by_cases hj : j < 3
      · match j, hj with
        | 0, _ => rfl
        | 1, _ => rfl
        | 2, _ => rfl
      · simp (disch := omega) only [up_n, if_neg hj]
    | 13, _ => exact h1 13 (by omega)
    | 14, _ => exact h1 14 (by omega)
    | 15, _ => exact h1 15 (by omega)
    | 16, _ => exact h1 16 (by omega)
    | 17, _ => exact h1 17 (by omega)
    | 18, _ => exact h1 18 (by omega)
    | 19, _ => exact h1 19 (by omega)
    | 20, _ => exact h1 20 (by omega)
    | 21, _ => exact h1 21 (by omega)
    | 22, _ => exact h1 22 (by omega)
    | 23, _ => exact h1 23 (by omega)
    | 24, _ => exact h1 24 (by omega)
    | 25, _ => exact h1 25 (by omega)
    | 26, _ => exact h1 26 (by omega)
    | 27, _ => exact h1 27 (by omega)
    | 28, _ => exact h1 28 (by omega)
    | 29, _ => exact h1 29 (by omega)
    | 30, _ => exact h1 30 (by omega)
    | 31, _ => exact h1 31 (by omega)
    | 32, _ => exact h1 32 (by omega)
    | 33, _ => exact h1 33 (by omega)
    | 34, _ => exact h1 34 (by omega)
    | 35, _ => exact h1 35 (by omega)
    | 36, _ => exact h1 36 (by omega)
    | 37, _ => exact h1 37 (by omega)
    | 38, _ => exact h1 38 (by omega)
    | 39, _ => exact h1 39 (by omega)
    | 40, _ => exact h1 40 (by omega)
    | 41, _ => exact h1 41 (by omega)
    | 42, _ => exact h1 42 (by omega)
    | 43, _ => exact h1 43 (by omega)
    | 44, _ => exact h1 44 (by omega)
    | 45, _ => exact h1 45 (by omega)
    | 46, _ => exact h1 46 (by omega)
    | 47, _ => exact h1 47 (by omega)
    | 48, _ => exact h1 48 (by omega)
    | 49, _ => exact h1 49 (by omega)
    | 50, _ => exact h1 50 (by omega)
    | 51, _ => exact h1 51 (by omega)
    | 52, _ => exact h1 52 (by omega)
    | 53, _ => exact h1 53 (by omega)
    | 54, _ => exact h1 54 (by omega)
    | 55, _ => exact h1 55 (by omega)
    | 56, _ => exact h1 56 (by omega)
    | 57, _ => exact h1 57 (by omega)
    | 58, _ => exact h1 58 (by omega)
    | 59, _ => exact h1 59 (by omega)
    | 60, _ => exact h1 60 (by omega)
    | 61, _ => exact h1 61 (by omega)
    | 62, _ => exact h1 62 (by omega)
    | 63, _ => exact h1 63 (by omega)
    | 64, _ => exact h1 64 (by omega)
    | 65, _ => exact h1 65 (by omega)
    | 66, _ => exact h1 66 (by omega)
    | 67, _ => exact h2 67 (by omega) (by omega)
    | 68, _ => exact h2 68 (by omega) (by omega)
    | 69, _ => exact h2 69 (by omega) (by omega)
    | 70, _ => exact h2 70 (by omega) (by omega)
    | 71, _ => exact h2 71 (by omega) (by omega)
    | 72, _ => exact h2 72 (by omega) (by omega)
    | 73, _ => exact h2 73 (by omega) (by omega)
    | 74, _ => exact h2 74 (by omega) (by omega)
    | 75, _ => exact h2 75 (by omega) (by omega)
    | 76, _ => exact h2 76 (by omega) (by omega)
    | 77, _ => exact h2 77 (by omega) (by omega)
    | 78, _ => exact h2 78 (by omega) (by omega)
    | 79, _ => exact h2 79 (by omega) (by omega)
    | 80, _ => exact h2 80 (by omega) (by omega)
    | 81, _ => exact h2 81 (by omega) (by omega)
    | 82, _ => exact h2 82 (by omega) (by omega)
    | 83, _ => exact h2 83 (by omega) (by omega)
    | 84, _ => exact h2 84 (by omega) (by omega)
    | 85, _ => exact h2 85 (by omega) (by omega)
    | 86, _ => exact h2 86 (by omega) (by omega)
    | 87, _ => exact h2 87 (by omega) (by omega)
    | 88, _ => exact h2 88 (by omega) (by omega)
    | 89, _ => exact h3 89 (by omega)
    | 90, _ => exact h3 90 (by omega)
    | 91, _ => exact h3 91 (by omega)
    | 92, _ => exact h3 92 (by omega)
    | n + 93, hk => exact absurd hk (by omega)
  · rw [h3 k (by omega)]
    unfold f0 Hp
    rw [if_neg hk]

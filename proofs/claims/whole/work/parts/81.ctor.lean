/-! the constructors, over any heap (printed by wip/gen81.py) -/
theorem CK : kdf 0 0 = 3 ∧ kdf 1 0 = 3 ∧ kdf 1 1 = 3 ∧ kdf 2 0 = 3 ∧ kdf 2 1 = 3 ∧ kdf 3 0 = 3 ∧ kdf 3 1 = 3 ∧ kdf 3 2 = 3 ∧ kdf 3 3 = 3 ∧ kdf 4 0 = 3 ∧ kdf 4 1 = 3 ∧ kdf 4 3 = 3 ∧ kdf 4 4 = 3 ∧ kdf 4 5 = 3 ∧ kdf 5 0 = 3 ∧ kdf 6 0 = 3 ∧ kdf 6 1 = 3 ∧ kdf 7 0 = 3 ∧ kdf 7 1 = 3 ∧ kdf 8 1 = 3 ∧ kdf 8 2 = 3 ∧ kdf 8 3 = 3 ∧ kdf 9 0 = 3 ∧ kdf 9 1 = 3 ∧ kdf 9 2 = 3 ∧ kdf 9 3 = 3 ∧ kdf 9 4 = 3 ∧ kdf 9 5 = 3 ∧ kdf 9 6 = 3 ∧ kdf 9 7 = 3 ∧ kdf 9 8 = 3 ∧ kdf 9 9 = 3 ∧ kdf 9 10 = 3 ∧ kdf 9 11 = 3 ∧ kdf 9 12 = 3 ∧ kdf 9 13 = 3 ∧ kdf 9 14 = 0 ∧ kdf 9 15 = 0 ∧ kdf 9 16 = 2 ∧ kdf 9 17 = 2 ∧ kdf 9 18 = 0 ∧ kdf 10 0 = 0 ∧ kdf 10 1 = 3 ∧ kdf 10 2 = 0 ∧ kdf 10 3 = 2 ∧ kdf 10 4 = 2 ∧ kdf 10 5 = 3 ∧ kdf 10 6 = 3 ∧ kdf 10 7 = 3 ∧ kdf 10 8 = 3 ∧ kdf 10 9 = 3 ∧ kdf 10 10 = 0 ∧ kdf 10 11 = 0 ∧ kdf 10 12 = 0 ∧ kdf 10 13 = 3 ∧ kdf 10 14 = 0 ∧ kdf 10 15 = 0 ∧ kdf 10 16 = 0 ∧ kdf 10 17 = 0 ∧ kdf 10 18 = 0 ∧ kdf 10 19 = 3 ∧ kdf 10 20 = 3 ∧ kdf 10 21 = 3 ∧ kdf 10 22 = 3 ∧ kdf 10 23 = 3 ∧ kdf 10 24 = 3 ∧ kdf 10 25 = 3 ∧ kdf 10 26 = 3 ∧ kdf 10 27 = 3 ∧ kdf 10 28 = 3 ∧ kdf 10 29 = 3 ∧ kdf 10 30 = 0 ∧ kdf 10 31 = 0 ∧ kdf 10 32 = 0 ∧ kdf 10 33 = 0 ∧ kdf 10 34 = 3 ∧ kdf 10 35 = 3 ∧ kdf 10 36 = 3 ∧ kdf 10 37 = 2 := ⟨rfl, rfl, rfl, rfl, rfl, rfl, rfl, rfl, rfl, rfl, rfl, rfl, rfl, rfl, rfl, rfl, rfl, rfl, rfl, rfl, rfl, rfl, rfl, rfl, rfl, rfl, rfl, rfl, rfl, rfl, rfl, rfl, rfl, rfl, rfl, rfl, rfl, rfl, rfl, rfl, rfl, rfl, rfl, rfl, rfl, rfl, rfl, rfl, rfl, rfl, rfl, rfl, rfl, rfl, rfl, rfl, rfl, rfl, rfl, rfl, rfl, rfl, rfl, rfl, rfl, rfl, rfl, rfl, rfl, rfl, rfl, rfl, rfl, rfl, rfl, rfl, rfl, rfl, rfl⟩
theorem CD : ((kds 0).length = 3 ∧ (kds 0).map dfv = [.null, .int 0, .int 0]) ∧ ((kds 1).length = 2 ∧ (kds 1).map dfv = [.null, .null]) ∧ ((kds 2).length = 6 ∧ (kds 2).map dfv = [.null, .null, .int 0, .int 0, .int 0, .int 0]) ∧ ((kds 3).length = 6 ∧ (kds 3).map dfv = [.null, .null, .null, .null, .int 0, .int 0]) ∧ ((kds 4).length = 7 ∧ (kds 4).map dfv = [.null, .null, .int 0, .null, .null, .null, .int 0]) ∧ ((kds 5).length = 3 ∧ (kds 5).map dfv = [.null, .null, .int 0]) ∧ ((kds 6).length = 2 ∧ (kds 6).map dfv = [.null, .null]) ∧ ((kds 7).length = 2 ∧ (kds 7).map dfv = [.null, .null]) ∧ ((kds 8).length = 4 ∧ (kds 8).map dfv = [.int 0, .null, .null, .null]) ∧ ((kds 9).length = 19 ∧ (kds 9).map dfv = [.null, .null, .null, .null, .null, .null, .null, .null, .null, .null, .null, .null, .null, .null, .int 0, .int 0, .long 0, .long 0, .int 0]) ∧ ((kds 10).length = 38 ∧ (kds 10).map dfv = [.int 0, .null, .int 0, .long 0, .long 0, .null, .null, .null, .null, .null, .int 0, .int 0, .int 0, .null, .int 0, .int 0, .int 0, .int 0, .int 0, .null, .null, .null, .null, .null, .null, .null, .null, .null, .null, .null, .int 0, .int 0, .int 0, .int 0, .null, .null, .null, .long 0]) := ⟨⟨rfl, rfl⟩, ⟨rfl, rfl⟩, ⟨rfl, rfl⟩, ⟨rfl, rfl⟩, ⟨rfl, rfl⟩, ⟨rfl, rfl⟩, ⟨rfl, rfl⟩, ⟨rfl, rfl⟩, ⟨rfl, rfl⟩, ⟨rfl, rfl⟩, ⟨rfl, rfl⟩⟩
theorem va_uc {f : AH} {x n : Nat} {A B : AE} (h : x < n) : va_up (va_up f x A) n B = va_up (va_up f n B) x A := by
  funext j
  by_cases h1 : j = n
  · subst h1; rw [up_s, up_n _ _ (by omega), up_s]
  · rw [up_n _ _ h1]
    by_cases h2 : j = x
    · subst h2; rw [up_s, up_s]
    · rw [up_n _ _ h2, up_n _ _ h2, up_n _ _ h1]
section
variable {d x n m : Nat} {f : AH} {Q : Option Value → AZ → AH → Prop}
theorem i_0 {k : Nat} (hn : k ≤ 65536) (hx : x < n) (hf : f x = .inr (0, [.null, .int 0, .int 0])) : Cw (d + 1) 0 [.ref x, .int (nI k)] (n, m) f Q ↔ Q none (n + 1, m + k) (va_up (va_up f n (.inl (0, k, .inl fun _ => 0))) x (.inr (0, [.ref n, .int 0, .int 0]))) := by
  rw [cw_wp]
  simp (disch := omega) only [W0, r_4, r_La, s_82, r_2, r_Li, s_0, ci_0, s_83, r_72, r_93, r_61, r_Gu, pf_o, okR, CK, up_s, up_n, List.set_cons_zero, List.set_cons_succ, List.length_cons, List.length_nil, Nat.reduceAdd, Nat.reduceLT, and_self, enR, LG, LSt, LC, nlR, psR, TK, up_u, lt_nI, le_nI, eq_nI, true_and, and_true, if_true, if_false, Nat.zero_add, Nat.add_zero, nI_add, ↓reduceIte, Nat.reduceMul, Nat.reduceSub, Nat.reduceLeDiff, Nat.reduceEqDiff, Nat.not_lt_zero, Nat.lt_irrefl, decide_true, BEq.rfl, nm1, nm2, nm3, nm4, nm9, ngc, eq_self, hf, hx, hn, Nat.add_assoc]
theorem i_100 (hx : x < n) (hf : f x = .inr (1, [.null, .null])) : Cw (d + 1) 100 [.ref x] (n, m) f Q ↔ Q none (n + 2, m + 14) (va_up (va_up (va_up f (n + 1) (.inl (0, 7, .inl fun _ => 0))) n (.inl (0, 7, .inl fun _ => 0))) x (.inr (1, [.ref n, .ref (n + 1)]))) := by
  rw [cw_wp]
  simp (disch := omega) only [W100, r_4, r_La, s_82, s_0, ci_7, r_72, r_93, r_61, r_Gu, pf_o, okR, CK, up_s, up_n, List.set_cons_zero, List.set_cons_succ, List.length_cons, List.length_nil, Nat.reduceAdd, Nat.reduceLT, and_self, enR, LG, LSt, LC, nlR, psR, TK, up_u, lt_nI, le_nI, eq_nI, true_and, and_true, if_true, if_false, Nat.zero_add, Nat.add_zero, nI_add, ↓reduceIte, Nat.reduceMul, Nat.reduceSub, Nat.reduceLeDiff, Nat.reduceEqDiff, Nat.not_lt_zero, Nat.lt_irrefl, decide_true, BEq.rfl, nm1, nm2, nm3, nm4, nm9, ngc, eq_self, hf, hx, Nat.add_assoc]
  refine iff_of_eq (congrArg (Q none _) (funext fun j => ?_))
  by_cases h0 : j = x
  · subst h0; simp (disch := omega) only [up_s, up_n]
  by_cases h1 : j = n
  · subst h1; simp (disch := omega) only [up_s, up_n]
  by_cases h2 : j = n + 1
  · subst h2; simp (disch := omega) only [up_s, up_n]
  simp (disch := omega) only [up_n]
theorem i_200 (hx : x < n) (hf : f x = .inr (2, [.null, .null, .int 0, .int 0, .int 0, .int 0])) : Cw (d + 1) 200 [.ref x] (n, m) f Q ↔ Q none (n + 2, m + 80) (va_up (va_up (va_up f (n + 1) (.inl (0, 40, .inl fun _ => 0))) n (.inl (0, 40, .inl fun _ => 0))) x (.inr (2, [.ref n, .ref (n + 1), .int 0, .int 0, .int 0, .int 0]))) := by
  rw [cw_wp]
  simp (disch := omega) only [W200, r_4, r_La, s_82, s_0, ci_40, r_72, r_93, r_61, r_Gu, pf_o, okR, CK, up_s, up_n, List.set_cons_zero, List.set_cons_succ, List.length_cons, List.length_nil, Nat.reduceAdd, Nat.reduceLT, and_self, enR, LG, LSt, LC, nlR, psR, TK, up_u, lt_nI, le_nI, eq_nI, true_and, and_true, if_true, if_false, Nat.zero_add, Nat.add_zero, nI_add, ↓reduceIte, Nat.reduceMul, Nat.reduceSub, Nat.reduceLeDiff, Nat.reduceEqDiff, Nat.not_lt_zero, Nat.lt_irrefl, decide_true, BEq.rfl, nm1, nm2, nm3, nm4, nm9, ngc, eq_self, hf, hx, Nat.add_assoc]
  refine iff_of_eq (congrArg (Q none _) (funext fun j => ?_))
  by_cases h0 : j = x
  · subst h0; simp (disch := omega) only [up_s, up_n]
  by_cases h1 : j = n
  · subst h1; simp (disch := omega) only [up_s, up_n]
  by_cases h2 : j = n + 1
  · subst h2; simp (disch := omega) only [up_s, up_n]
  simp (disch := omega) only [up_n]
theorem i_300 (hx : x < n) (hf : f x = .inr (3, [.null, .null, .null, .null, .int 0, .int 0])) : Cw (d + 1) 300 [.ref x] (n, m) f Q ↔ Q none (n + 4, m + 40) (va_up (va_up (va_up (va_up (va_up f (n + 3) (.inl (0, 10, .inl fun _ => 0))) (n + 2) (.inl (0, 10, .inl fun _ => 0))) (n + 1) (.inl (0, 10, .inl fun _ => 0))) n (.inl (0, 10, .inl fun _ => 0))) x (.inr (3, [.ref n, .ref (n + 1), .ref (n + 2), .ref (n + 3), .int 0, .int 0]))) := by
  rw [cw_wp]
  simp (disch := omega) only [W300, r_4, r_La, s_82, s_0, ci_10, r_72, r_93, r_61, r_Gu, pf_o, okR, CK, up_s, up_n, List.set_cons_zero, List.set_cons_succ, List.length_cons, List.length_nil, Nat.reduceAdd, Nat.reduceLT, and_self, enR, LG, LSt, LC, nlR, psR, TK, up_u, lt_nI, le_nI, eq_nI, true_and, and_true, if_true, if_false, Nat.zero_add, Nat.add_zero, nI_add, ↓reduceIte, Nat.reduceMul, Nat.reduceSub, Nat.reduceLeDiff, Nat.reduceEqDiff, Nat.not_lt_zero, Nat.lt_irrefl, decide_true, BEq.rfl, nm1, nm2, nm3, nm4, nm9, ngc, eq_self, hf, hx, Nat.add_assoc]
  refine iff_of_eq (congrArg (Q none _) (funext fun j => ?_))
  by_cases h0 : j = x
  · subst h0; simp (disch := omega) only [up_s, up_n]
  by_cases h1 : j = n
  · subst h1; simp (disch := omega) only [up_s, up_n]
  by_cases h2 : j = n + 1
  · subst h2; simp (disch := omega) only [up_s, up_n]
  by_cases h3 : j = n + 2
  · subst h3; simp (disch := omega) only [up_s, up_n]
  by_cases h4 : j = n + 3
  · subst h4; simp (disch := omega) only [up_s, up_n]
  simp (disch := omega) only [up_n]
theorem i_400 (hx : x < n) (hf : f x = .inr (4, [.null, .null, .int 0, .null, .null, .null, .int 0])) : Cw (d + 1) 400 [.ref x] (n, m) f Q ↔ Q none (n + 5, m + 398) (va_up (va_up (va_up (va_up (va_up (va_up f (n + 4) (.inl (0, 128, .inl fun _ => 0))) (n + 3) (.inl (0, 128, .inl fun _ => 0))) (n + 2) (.inl (0, 128, .inl fun _ => 0))) (n + 1) (.inl (0, 7, .inl fun _ => 0))) n (.inl (0, 7, .inl fun _ => 0))) x (.inr (4, [.ref n, .ref (n + 1), .int 0, .ref (n + 2), .ref (n + 3), .ref (n + 4), .int 0]))) := by
  rw [cw_wp]
  simp (disch := omega) only [W400, r_4, r_La, s_82, s_0, ci_7, r_72, ci_128, r_93, r_61, r_Gu, pf_o, okR, CK, up_s, up_n, List.set_cons_zero, List.set_cons_succ, List.length_cons, List.length_nil, Nat.reduceAdd, Nat.reduceLT, and_self, enR, LG, LSt, LC, nlR, psR, TK, up_u, lt_nI, le_nI, eq_nI, true_and, and_true, if_true, if_false, Nat.zero_add, Nat.add_zero, nI_add, ↓reduceIte, Nat.reduceMul, Nat.reduceSub, Nat.reduceLeDiff, Nat.reduceEqDiff, Nat.not_lt_zero, Nat.lt_irrefl, decide_true, BEq.rfl, nm1, nm2, nm3, nm4, nm9, ngc, eq_self, hf, hx, Nat.add_assoc]
  refine iff_of_eq (congrArg (Q none _) (funext fun j => ?_))
  by_cases h0 : j = x
  · subst h0; simp (disch := omega) only [up_s, up_n]
  by_cases h1 : j = n
  · subst h1; simp (disch := omega) only [up_s, up_n]
  by_cases h2 : j = n + 1
  · subst h2; simp (disch := omega) only [up_s, up_n]
  by_cases h3 : j = n + 2
  · subst h3; simp (disch := omega) only [up_s, up_n]
  by_cases h4 : j = n + 3
  · subst h4; simp (disch := omega) only [up_s, up_n]
  by_cases h5 : j = n + 4
  · subst h5; simp (disch := omega) only [up_s, up_n]
  simp (disch := omega) only [up_n]
theorem i_600 (hx : x < n) (hf : f x = .inr (6, [.null, .null])) : Cw (d + 1) 600 [.ref x] (n, m) f Q ↔ Q none (n + 2, m + 80) (va_up (va_up (va_up f (n + 1) (.inl (0, 70, .inl fun _ => 0))) n (.inl (0, 10, .inl fun _ => 0))) x (.inr (6, [.ref n, .ref (n + 1)]))) := by
  rw [cw_wp]
  simp (disch := omega) only [W600, r_4, r_La, s_82, s_0, ci_10, r_72, ci_70, r_93, r_61, r_Gu, pf_o, okR, CK, up_s, up_n, List.set_cons_zero, List.set_cons_succ, List.length_cons, List.length_nil, Nat.reduceAdd, Nat.reduceLT, and_self, enR, LG, LSt, LC, nlR, psR, TK, up_u, lt_nI, le_nI, eq_nI, true_and, and_true, if_true, if_false, Nat.zero_add, Nat.add_zero, nI_add, ↓reduceIte, Nat.reduceMul, Nat.reduceSub, Nat.reduceLeDiff, Nat.reduceEqDiff, Nat.not_lt_zero, Nat.lt_irrefl, decide_true, BEq.rfl, nm1, nm2, nm3, nm4, nm9, ngc, eq_self, hf, hx, Nat.add_assoc]
  refine iff_of_eq (congrArg (Q none _) (funext fun j => ?_))
  by_cases h0 : j = x
  · subst h0; simp (disch := omega) only [up_s, up_n]
  by_cases h1 : j = n
  · subst h1; simp (disch := omega) only [up_s, up_n]
  by_cases h2 : j = n + 1
  · subst h2; simp (disch := omega) only [up_s, up_n]
  simp (disch := omega) only [up_n]
theorem i_700 (hx : x < n) (hf : f x = .inr (7, [.null, .null])) : Cw (d + 1) 700 [.ref x] (n, m) f Q ↔ Q none (n + 2, m + 14) (va_up (va_up (va_up f (n + 1) (.inl (1, 7, .inr (.inl fun _ => 0)))) n (.inl (1, 7, .inr (.inl fun _ => 0)))) x (.inr (7, [.ref n, .ref (n + 1)]))) := by
  rw [cw_wp]
  simp (disch := omega) only [W700, r_4, r_La, s_82, s_0, ci_7, r_72, r_93, r_61, r_Gu, pf_o, okR, CK, up_s, up_n, List.set_cons_zero, List.set_cons_succ, List.length_cons, List.length_nil, Nat.reduceAdd, Nat.reduceLT, and_self, enR, LG, LSt, LC, nlR, psR, TK, up_u, lt_nI, le_nI, eq_nI, true_and, and_true, if_true, if_false, Nat.zero_add, Nat.add_zero, nI_add, ↓reduceIte, Nat.reduceMul, Nat.reduceSub, Nat.reduceLeDiff, Nat.reduceEqDiff, Nat.not_lt_zero, Nat.lt_irrefl, decide_true, BEq.rfl, nm1, nm2, nm3, nm4, nm9, ngc, eq_self, hf, hx, Nat.add_assoc]
  refine iff_of_eq (congrArg (Q none _) (funext fun j => ?_))
  by_cases h0 : j = x
  · subst h0; simp (disch := omega) only [up_s, up_n]
  by_cases h1 : j = n
  · subst h1; simp (disch := omega) only [up_s, up_n]
  by_cases h2 : j = n + 1
  · subst h2; simp (disch := omega) only [up_s, up_n]
  simp (disch := omega) only [up_n]
theorem i_800 (hx : x < n) (hf : f x = .inr (8, [.int 0, .null, .null, .null])) : Cw (d + 1) 800 [.ref x] (n, m) f Q ↔ Q none (n + 3, m + 3072) (va_up (va_up (va_up (va_up f (n + 2) (.inl (0, 1024, .inl fun _ => 0))) (n + 1) (.inl (0, 1024, .inl fun _ => 0))) n (.inl (0, 1024, .inl fun _ => 0))) x (.inr (8, [.int 0, .ref n, .ref (n + 1), .ref (n + 2)]))) := by
  rw [cw_wp]
  simp (disch := omega) only [W800, r_4, r_La, s_82, s_0, ci_1024, r_72, r_93, r_61, r_Gu, pf_o, okR, CK, up_s, up_n, List.set_cons_zero, List.set_cons_succ, List.length_cons, List.length_nil, Nat.reduceAdd, Nat.reduceLT, and_self, enR, LG, LSt, LC, nlR, psR, TK, up_u, lt_nI, le_nI, eq_nI, true_and, and_true, if_true, if_false, Nat.zero_add, Nat.add_zero, nI_add, ↓reduceIte, Nat.reduceMul, Nat.reduceSub, Nat.reduceLeDiff, Nat.reduceEqDiff, Nat.not_lt_zero, Nat.lt_irrefl, decide_true, BEq.rfl, nm1, nm2, nm3, nm4, nm9, ngc, eq_self, hf, hx, Nat.add_assoc]
  refine iff_of_eq (congrArg (Q none _) (funext fun j => ?_))
  by_cases h0 : j = x
  · subst h0; simp (disch := omega) only [up_s, up_n]
  by_cases h1 : j = n
  · subst h1; simp (disch := omega) only [up_s, up_n]
  by_cases h2 : j = n + 1
  · subst h2; simp (disch := omega) only [up_s, up_n]
  by_cases h3 : j = n + 2
  · subst h3; simp (disch := omega) only [up_s, up_n]
  simp (disch := omega) only [up_n]
end

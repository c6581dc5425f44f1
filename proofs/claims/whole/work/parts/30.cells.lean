/-! Arrays.fill, bitCount's caller-free helpers, Cells -/
def allb (p : Nat → Bool) : Nat → Nat → Bool
  | _, 0 => true
  | k, q + 1 => p k && allb p (k + 1) q
def foldu {α : Type} (F : Nat → α → α) : Nat → Nat → α → α
  | _, 0, a => a
  | k, q + 1, a => foldu F (k + 1) q (F k a)
/-- an array's places from k to m are x -/
def fil {α : Type} (g : Nat → α) (k m : Nat) (x : α) : Nat → α := fun j => if k ≤ j ∧ j < m then x else g j
theorem fil_done {α : Type} (g : Nat → α) (m : Nat) (x : α) : fil g m m x = g := by
  funext j
  simp only [fil]
  rw [if_neg (by omega)]
theorem fil_upd (g : Nat → Int32) (k m : Nat) (x : Int32) (h : k < m) : fil (upd g k x) (k + 1) m x = fil g k m x := by
  funext j
  simp only [fil, upd]
  by_cases h1 : j = k
  · subst h1
    rw [if_neg (by omega), if_pos rfl, if_pos (by omega)]
  · by_cases h2 : k + 1 ≤ j ∧ j < m
    · rw [if_pos h2, if_pos (by omega)]
    · rw [if_neg h2, if_neg h1, if_neg (by omega)]
theorem fil_updL (g : Nat → Int64) (k m : Nat) (x : Int64) (h : k < m) : fil (vp_updL g k x) (k + 1) m x = fil g k m x := by
  funext j
  simp only [fil, vp_updL]
  by_cases h1 : j = k
  · subst h1
    rw [if_neg (by omega), if_pos rfl, if_pos (by omega)]
  · by_cases h2 : k + 1 ≤ j ∧ j < m
    · rw [if_pos h2, if_pos (by omega)]
    · rw [if_neg h2, if_neg h1, if_neg (by omega)]
theorem up_id {α : Type} {f : Nat → α} {k : Nat} {e : α} (h : f k = e) : va_up f k e = f := by
  funext j
  by_cases hj : j = k
  · subst hj
    rw [up_s, h]
  · rw [up_n _ _ hj]
section
variable {d : Nat} {z : AZ} {Q : Option Value → AZ → AH → Prop} {o v n m : Nat} {th : Int32}
theorem lp_fill {x : Int32} (hm : m ≤ 65536) : ∀ (q k : Nat) (f : AH) (g : Nat → Int32), f v = iA m g → k + q = m → (Wp d 1300 5 [some (.ref v), some (.int x), some (.int (nI k)), some (.int (nI m))] [] z f Q ↔ Q none z (va_up f v (iA m (fil g k m x)))) := by
  intro q
  induction q with
  | zero =>
    intro k f g h hk
    have hk : k = m := by omega
    subst hk
    rw [W1300_5]
    simp (disch := omega) only [W1300, s_0, s_1, r_2, r_3, r_4, r_Li, r_Ll, r_La, r_5, r_6, r_7, s_8, r_In, r_10, r_11, r_12, s_13, s_14, r_15, r_16, r_17, r_18, r_19, r_20, r_21, r_22, r_23, r_24, r_25, r_26, r_27, r_28, r_30, r_30r, r_31, r_32, s_40, s_41, s_42, s_43, s_44, s_45, r_46, r_47, r_48, r_49, r_50, r_51, r_52, r_53, r_53n, r_54, r_Gv, r_Gu, r_60, r_61, r_62, r_63, r_64, r_65, r_66, r_67, r_68, r_69, r_70, r_71, r_72, r_73, r_74, s_Ca, r_79_1, r_79_2, r_79_3, r_79_4, r_79_5, r_79_6, rce_o, Nat.reduceDiv, r_80_0, r_80_1, r_80_2, r_80_3, r_80_4, r_80_5, r_80_6, s_81, s_82, s_83, s_84, r_90, r_91, r_92, r_93, r_94, s_Z0, s_Z1, LG, LSt, LC, nlR, psR, enR, enL, TK, CI, CLL, KD, okR, gf_o, pf_o, al_i, ia_n, ia_9, is_n, la_n, lst_n, za_n, cpy_n, qs_3, qs_4, up_s, up_n, up_u, lt_nI, le_nI, eq_nI, List.length_cons, List.length_nil, List.getElem?_cons_zero, List.getElem?_cons_succ, List.set_cons_zero, List.set_cons_succ, true_and, and_true, if_true, if_false, Nat.zero_add, cw_wp, nI_add, ↓reduceIte, Nat.reduceAdd, Nat.reduceMul, Nat.reduceSub, Nat.reduceLT, Nat.reduceLeDiff, Nat.reduceEqDiff, Int.reduceToNat, Nat.not_lt_zero, Nat.lt_irrefl, decide_true, BEq.rfl, h, Nat.lt_irrefl, fil_done]
    rw [up_id h]
  | succ q ih =>
    intro k f g h hk
    have h1 : k < m := by omega
    rw [W1300_5]
    simp (disch := omega) only [W1300, s_0, s_1, r_2, r_3, r_4, r_Li, r_Ll, r_La, r_5, r_6, r_7, s_8, r_In, r_10, r_11, r_12, s_13, s_14, r_15, r_16, r_17, r_18, r_19, r_20, r_21, r_22, r_23, r_24, r_25, r_26, r_27, r_28, r_30, r_30r, r_31, r_32, s_40, s_41, s_42, s_43, s_44, s_45, r_46, r_47, r_48, r_49, r_50, r_51, r_52, r_53, r_53n, r_54, r_Gv, r_Gu, r_60, r_61, r_62, r_63, r_64, r_65, r_66, r_67, r_68, r_69, r_70, r_71, r_72, r_73, r_74, s_Ca, r_79_1, r_79_2, r_79_3, r_79_4, r_79_5, r_79_6, rce_o, Nat.reduceDiv, r_80_0, r_80_1, r_80_2, r_80_3, r_80_4, r_80_5, r_80_6, s_81, s_82, s_83, s_84, r_90, r_91, r_92, r_93, r_94, s_Z0, s_Z1, LG, LSt, LC, nlR, psR, enR, enL, TK, CI, CLL, KD, okR, gf_o, pf_o, al_i, ia_n, ia_9, is_n, la_n, lst_n, za_n, cpy_n, qs_3, qs_4, up_s, up_n, up_u, lt_nI, le_nI, eq_nI, List.length_cons, List.length_nil, List.getElem?_cons_zero, List.getElem?_cons_succ, List.set_cons_zero, List.set_cons_succ, true_and, and_true, if_true, if_false, Nat.zero_add, cw_wp, nI_add, ↓reduceIte, Nat.reduceAdd, Nat.reduceMul, Nat.reduceSub, Nat.reduceLT, Nat.reduceLeDiff, Nat.reduceEqDiff, Int.reduceToNat, Nat.not_lt_zero, Nat.lt_irrefl, decide_true, BEq.rfl, h, h1]
    rw [ih (k + 1) _ (upd g k x) (up_s _ _ _) (by omega), up_u, fil_upd _ _ _ _ h1]
theorem c_fill {x : Int32} {f : AH} {g : Nat → Int32} (h : f v = iA m g) (hm : m ≤ 65536) : Cw (d + 1) 1300 [.ref v, .int x] z f Q ↔ Q none z (va_up f v (iA m (fil g 0 m x))) := by
  simp (disch := omega) only [W1300, s_0, s_1, r_2, r_3, r_4, r_Li, r_Ll, r_La, r_5, r_6, r_7, s_8, r_In, r_10, r_11, r_12, s_13, s_14, r_15, r_16, r_17, r_18, r_19, r_20, r_21, r_22, r_23, r_24, r_25, r_26, r_27, r_28, r_30, r_30r, r_31, r_32, s_40, s_41, s_42, s_43, s_44, s_45, r_46, r_47, r_48, r_49, r_50, r_51, r_52, r_53, r_53n, r_54, r_Gv, r_Gu, r_60, r_61, r_62, r_63, r_64, r_65, r_66, r_67, r_68, r_69, r_70, r_71, r_72, r_73, r_74, s_Ca, r_79_1, r_79_2, r_79_3, r_79_4, r_79_5, r_79_6, rce_o, Nat.reduceDiv, r_80_0, r_80_1, r_80_2, r_80_3, r_80_4, r_80_5, r_80_6, s_81, s_82, s_83, s_84, r_90, r_91, r_92, r_93, r_94, s_Z0, s_Z1, LG, LSt, LC, nlR, psR, enR, enL, TK, CI, CLL, KD, okR, gf_o, pf_o, al_i, ia_n, ia_9, is_n, la_n, lst_n, za_n, cpy_n, qs_3, qs_4, up_s, up_n, up_u, lt_nI, le_nI, eq_nI, List.length_cons, List.length_nil, List.getElem?_cons_zero, List.getElem?_cons_succ, List.set_cons_zero, List.set_cons_succ, true_and, and_true, if_true, if_false, Nat.zero_add, cw_wp, nI_add, ↓reduceIte, Nat.reduceAdd, Nat.reduceMul, Nat.reduceSub, Nat.reduceLT, Nat.reduceLeDiff, Nat.reduceEqDiff, Int.reduceToNat, Nat.not_lt_zero, Nat.lt_irrefl, decide_true, BEq.rfl, h]
  exact lp_fill hm m 0 f g h (by omega)
theorem lp_fillL {x : Int64} (hm : m ≤ 65536) : ∀ (q k : Nat) (f : AH) (g : Nat → Int64), f v = lA m g → k + q = m → (Wp d 1301 6 [some (.ref v), some (.long x), none, some (.int (nI k)), some (.int (nI m))] [] z f Q ↔ Q none z (va_up f v (lA m (fil g k m x)))) := by
  intro q
  induction q with
  | zero =>
    intro k f g h hk
    have hk : k = m := by omega
    subst hk
    rw [W1301_6]
    simp (disch := omega) only [W1301, s_0, s_1, r_2, r_3, r_4, r_Li, r_Ll, r_La, r_5, r_6, r_7, s_8, r_In, r_10, r_11, r_12, s_13, s_14, r_15, r_16, r_17, r_18, r_19, r_20, r_21, r_22, r_23, r_24, r_25, r_26, r_27, r_28, r_30, r_30r, r_31, r_32, s_40, s_41, s_42, s_43, s_44, s_45, r_46, r_47, r_48, r_49, r_50, r_51, r_52, r_53, r_53n, r_54, r_Gv, r_Gu, r_60, r_61, r_62, r_63, r_64, r_65, r_66, r_67, r_68, r_69, r_70, r_71, r_72, r_73, r_74, s_Ca, r_79_1, r_79_2, r_79_3, r_79_4, r_79_5, r_79_6, rce_o, Nat.reduceDiv, r_80_0, r_80_1, r_80_2, r_80_3, r_80_4, r_80_5, r_80_6, s_81, s_82, s_83, s_84, r_90, r_91, r_92, r_93, r_94, s_Z0, s_Z1, LG, LSt, LC, nlR, psR, enR, enL, TK, CI, CLL, KD, okR, gf_o, pf_o, al_i, ia_n, ia_9, is_n, la_n, lst_n, za_n, cpy_n, qs_3, qs_4, up_s, up_n, up_u, lt_nI, le_nI, eq_nI, List.length_cons, List.length_nil, List.getElem?_cons_zero, List.getElem?_cons_succ, List.set_cons_zero, List.set_cons_succ, true_and, and_true, if_true, if_false, Nat.zero_add, cw_wp, nI_add, ↓reduceIte, Nat.reduceAdd, Nat.reduceMul, Nat.reduceSub, Nat.reduceLT, Nat.reduceLeDiff, Nat.reduceEqDiff, Int.reduceToNat, Nat.not_lt_zero, Nat.lt_irrefl, decide_true, BEq.rfl, h, Nat.lt_irrefl, fil_done]
    rw [up_id h]
  | succ q ih =>
    intro k f g h hk
    have h1 : k < m := by omega
    rw [W1301_6]
    simp (disch := omega) only [W1301, s_0, s_1, r_2, r_3, r_4, r_Li, r_Ll, r_La, r_5, r_6, r_7, s_8, r_In, r_10, r_11, r_12, s_13, s_14, r_15, r_16, r_17, r_18, r_19, r_20, r_21, r_22, r_23, r_24, r_25, r_26, r_27, r_28, r_30, r_30r, r_31, r_32, s_40, s_41, s_42, s_43, s_44, s_45, r_46, r_47, r_48, r_49, r_50, r_51, r_52, r_53, r_53n, r_54, r_Gv, r_Gu, r_60, r_61, r_62, r_63, r_64, r_65, r_66, r_67, r_68, r_69, r_70, r_71, r_72, r_73, r_74, s_Ca, r_79_1, r_79_2, r_79_3, r_79_4, r_79_5, r_79_6, rce_o, Nat.reduceDiv, r_80_0, r_80_1, r_80_2, r_80_3, r_80_4, r_80_5, r_80_6, s_81, s_82, s_83, s_84, r_90, r_91, r_92, r_93, r_94, s_Z0, s_Z1, LG, LSt, LC, nlR, psR, enR, enL, TK, CI, CLL, KD, okR, gf_o, pf_o, al_i, ia_n, ia_9, is_n, la_n, lst_n, za_n, cpy_n, qs_3, qs_4, up_s, up_n, up_u, lt_nI, le_nI, eq_nI, List.length_cons, List.length_nil, List.getElem?_cons_zero, List.getElem?_cons_succ, List.set_cons_zero, List.set_cons_succ, true_and, and_true, if_true, if_false, Nat.zero_add, cw_wp, nI_add, ↓reduceIte, Nat.reduceAdd, Nat.reduceMul, Nat.reduceSub, Nat.reduceLT, Nat.reduceLeDiff, Nat.reduceEqDiff, Int.reduceToNat, Nat.not_lt_zero, Nat.lt_irrefl, decide_true, BEq.rfl, h, h1]
    rw [ih (k + 1) _ (vp_updL g k x) (up_s _ _ _) (by omega), up_u, fil_updL _ _ _ _ h1]
theorem c_fillL {x : Int64} {f : AH} {g : Nat → Int64} (h : f v = lA m g) (hm : m ≤ 65536) : Cw (d + 1) 1301 [.ref v, .long x] z f Q ↔ Q none z (va_up f v (lA m (fil g 0 m x))) := by
  simp (disch := omega) only [W1301, s_0, s_1, r_2, r_3, r_4, r_Li, r_Ll, r_La, r_5, r_6, r_7, s_8, r_In, r_10, r_11, r_12, s_13, s_14, r_15, r_16, r_17, r_18, r_19, r_20, r_21, r_22, r_23, r_24, r_25, r_26, r_27, r_28, r_30, r_30r, r_31, r_32, s_40, s_41, s_42, s_43, s_44, s_45, r_46, r_47, r_48, r_49, r_50, r_51, r_52, r_53, r_53n, r_54, r_Gv, r_Gu, r_60, r_61, r_62, r_63, r_64, r_65, r_66, r_67, r_68, r_69, r_70, r_71, r_72, r_73, r_74, s_Ca, r_79_1, r_79_2, r_79_3, r_79_4, r_79_5, r_79_6, rce_o, Nat.reduceDiv, r_80_0, r_80_1, r_80_2, r_80_3, r_80_4, r_80_5, r_80_6, s_81, s_82, s_83, s_84, r_90, r_91, r_92, r_93, r_94, s_Z0, s_Z1, LG, LSt, LC, nlR, psR, enR, enL, TK, CI, CLL, KD, okR, gf_o, pf_o, al_i, ia_n, ia_9, is_n, la_n, lst_n, za_n, cpy_n, qs_3, qs_4, up_s, up_n, up_u, lt_nI, le_nI, eq_nI, List.length_cons, List.length_nil, List.getElem?_cons_zero, List.getElem?_cons_succ, List.set_cons_zero, List.set_cons_succ, true_and, and_true, if_true, if_false, Nat.zero_add, cw_wp, nI_add, ↓reduceIte, Nat.reduceAdd, Nat.reduceMul, Nat.reduceSub, Nat.reduceLT, Nat.reduceLeDiff, Nat.reduceEqDiff, Int.reduceToNat, Nat.not_lt_zero, Nat.lt_irrefl, decide_true, BEq.rfl, h]
  exact lp_fillL hm m 0 f g h (by omega)
end
theorem max0 (k : Nat) : (if 0 < k then nI k else nI 0) = nI k := by
  by_cases h : 0 < k
  · rw [if_pos h]
  · rw [if_neg h, show k = 0 by omega]
theorem up_x {α : Type} (f : Nat → α) {k j : Nat} (v w : α) (h : k ≠ j) : va_up (va_up f k v) j w = va_up (va_up f j w) k v := by
  funext q
  by_cases h1 : q = j
  · subst h1
    rw [up_s, up_n _ _ (Ne.symm h), up_s]
  · rw [up_n _ _ h1]
    by_cases h2 : q = k
    · subst h2
      rw [up_s, up_s]
    · rw [up_n _ _ h2, up_n _ _ h2, up_n _ _ h1]
section
variable {d : Nat} {z : AZ} {f : AH} {Q : Option Value → AZ → AH → Prop} {o v n m : Nat} {th : Int32} {g : Nat → Int32}
theorem c_has {x : Int32} (h : f o = oB 0 [.ref v, .int th, .int (nI n)]) : Cw (d + 1) 4 [.ref o, .int x] z f Q ↔ Q (some (.int (if x < nI 0 then nI 0 else if x < nI n then nI 1 else nI 0))) z f := by
  simp (disch := omega) only [W4, s_0, s_1, r_2, r_3, r_4, r_Li, r_Ll, r_La, r_5, r_6, r_7, s_8, r_In, r_10, r_11, r_12, s_13, s_14, r_15, r_16, r_17, r_18, r_19, r_20, r_21, r_22, r_23, r_24, r_25, r_26, r_27, r_28, r_30, r_30r, r_31, r_32, s_40, s_41, s_42, s_43, s_44, s_45, r_46, r_47, r_48, r_49, r_50, r_51, r_52, r_53, r_53n, r_54, r_Gv, r_Gu, r_60, r_61, r_62, r_63, r_64, r_65, r_66, r_67, r_68, r_69, r_70, r_71, r_72, r_73, r_74, s_Ca, r_79_1, r_79_2, r_79_3, r_79_4, r_79_5, r_79_6, rce_o, Nat.reduceDiv, r_80_0, r_80_1, r_80_2, r_80_3, r_80_4, r_80_5, r_80_6, s_81, s_82, s_83, s_84, r_90, r_91, r_92, r_93, r_94, s_Z0, s_Z1, LG, LSt, LC, nlR, psR, enR, enL, TK, CI, CLL, KD, okR, gf_o, pf_o, al_i, ia_n, ia_9, is_n, la_n, lst_n, za_n, cpy_n, qs_3, qs_4, up_s, up_n, up_u, lt_nI, le_nI, eq_nI, List.length_cons, List.length_nil, List.getElem?_cons_zero, List.getElem?_cons_succ, List.set_cons_zero, List.set_cons_succ, true_and, and_true, if_true, if_false, Nat.zero_add, cw_wp, nI_add, ↓reduceIte, Nat.reduceAdd, Nat.reduceMul, Nat.reduceSub, Nat.reduceLT, Nat.reduceLeDiff, Nat.reduceEqDiff, Int.reduceToNat, Nat.not_lt_zero, Nat.lt_irrefl, decide_true, BEq.rfl, h]
  by_cases h1 : x < nI 0
  · simp only [h1, if_true]
  · by_cases h2 : x < nI n <;> simp only [h1, h2, if_true, if_false]
theorem c_hasn {k : Nat} (h : f o = oB 0 [.ref v, .int th, .int (nI n)]) (hk : k < 65536) (hn : n ≤ 65536) : Cw (d + 1) 4 [.ref o, .int (nI k)] z f Q ↔ Q (some (.int (if k < n then nI 1 else nI 0))) z f := by
  rw [c_has h]
  simp (disch := omega) only [lt_nI, Nat.not_lt_zero, if_false]
theorem c_valueAt {k : Nat} (h : f o = oB 0 [.ref v, .int th, .int (nI n)]) (hv : f v = iA m g) (hk : k < n) (hn : n ≤ m) (hm : m ≤ 65536) : Cw (d + 2) 5 [.ref o, .int (nI k)] z f Q ↔ Q (some (.int (g k))) z f := by
  rw [cw_wp]
  simp (disch := omega) only [W5, s_0, s_1, r_2, r_3, r_4, r_Li, r_Ll, r_La, r_5, r_6, r_7, s_8, r_In, r_10, r_11, r_12, s_13, s_14, r_15, r_16, r_17, r_18, r_19, r_20, r_21, r_22, r_23, r_24, r_25, r_26, r_27, r_28, r_30, r_30r, r_31, r_32, s_40, s_41, s_42, s_43, s_44, s_45, r_46, r_47, r_48, r_49, r_50, r_51, r_52, r_53, r_53n, r_54, r_Gv, r_Gu, r_60, r_61, r_62, r_63, r_64, r_65, r_66, r_67, r_68, r_69, r_70, r_71, r_72, r_73, r_74, s_Ca, r_79_1, r_79_2, r_79_3, r_79_4, r_79_5, r_79_6, rce_o, Nat.reduceDiv, r_80_0, r_80_1, r_80_2, r_80_3, r_80_4, r_80_5, r_80_6, s_81, s_82, s_83, s_84, r_90, r_91, r_92, r_93, r_94, s_Z0, s_Z1, LG, LSt, LC, nlR, psR, enR, enL, TK, CI, CLL, KD, okR, gf_o, pf_o, al_i, ia_n, ia_9, is_n, la_n, lst_n, za_n, cpy_n, qs_3, qs_4, up_s, up_n, up_u, lt_nI, le_nI, eq_nI, List.length_cons, List.length_nil, List.getElem?_cons_zero, List.getElem?_cons_succ, List.set_cons_zero, List.set_cons_succ, true_and, and_true, if_true, if_false, Nat.zero_add, nI_add, ↓reduceIte, Nat.reduceAdd, Nat.reduceMul, Nat.reduceSub, Nat.reduceLT, Nat.reduceLeDiff, Nat.reduceEqDiff, Int.reduceToNat, Nat.not_lt_zero, Nat.lt_irrefl, decide_true, BEq.rfl, h, hv, c_hasn h, hk]
theorem c_change {k : Nat} {x : Int32} (h : f o = oB 0 [.ref v, .int th, .int (nI n)]) (hv : f v = iA m g) (hk : k < n) (hn : n ≤ m) (hm : m ≤ 65536) : Cw (d + 2) 6 [.ref o, .int (nI k), .int x] z f Q ↔ Q none z (va_up f v (iA m (upd g k x))) := by
  rw [cw_wp]
  simp (disch := omega) only [W6, s_0, s_1, r_2, r_3, r_4, r_Li, r_Ll, r_La, r_5, r_6, r_7, s_8, r_In, r_10, r_11, r_12, s_13, s_14, r_15, r_16, r_17, r_18, r_19, r_20, r_21, r_22, r_23, r_24, r_25, r_26, r_27, r_28, r_30, r_30r, r_31, r_32, s_40, s_41, s_42, s_43, s_44, s_45, r_46, r_47, r_48, r_49, r_50, r_51, r_52, r_53, r_53n, r_54, r_Gv, r_Gu, r_60, r_61, r_62, r_63, r_64, r_65, r_66, r_67, r_68, r_69, r_70, r_71, r_72, r_73, r_74, s_Ca, r_79_1, r_79_2, r_79_3, r_79_4, r_79_5, r_79_6, rce_o, Nat.reduceDiv, r_80_0, r_80_1, r_80_2, r_80_3, r_80_4, r_80_5, r_80_6, s_81, s_82, s_83, s_84, r_90, r_91, r_92, r_93, r_94, s_Z0, s_Z1, LG, LSt, LC, nlR, psR, enR, enL, TK, CI, CLL, KD, okR, gf_o, pf_o, al_i, ia_n, ia_9, is_n, la_n, lst_n, za_n, cpy_n, qs_3, qs_4, up_s, up_n, up_u, lt_nI, le_nI, eq_nI, List.length_cons, List.length_nil, List.getElem?_cons_zero, List.getElem?_cons_succ, List.set_cons_zero, List.set_cons_succ, true_and, and_true, if_true, if_false, Nat.zero_add, nI_add, ↓reduceIte, Nat.reduceAdd, Nat.reduceMul, Nat.reduceSub, Nat.reduceLT, Nat.reduceLeDiff, Nat.reduceEqDiff, Int.reduceToNat, Nat.not_lt_zero, Nat.lt_irrefl, decide_true, BEq.rfl, h, hv, c_hasn h, hk]
theorem c_drop (h : f o = oB 0 [.ref v, .int th, .int (nI n)]) : Cw (d + 1) 3 [.ref o] z f Q ↔ Q none z (va_up f o (oB 0 [.ref v, .int (nI 0), .int (nI 0)])) := by
  simp (disch := omega) only [W3, s_0, s_1, r_2, r_3, r_4, r_Li, r_Ll, r_La, r_5, r_6, r_7, s_8, r_In, r_10, r_11, r_12, s_13, s_14, r_15, r_16, r_17, r_18, r_19, r_20, r_21, r_22, r_23, r_24, r_25, r_26, r_27, r_28, r_30, r_30r, r_31, r_32, s_40, s_41, s_42, s_43, s_44, s_45, r_46, r_47, r_48, r_49, r_50, r_51, r_52, r_53, r_53n, r_54, r_Gv, r_Gu, r_60, r_61, r_62, r_63, r_64, r_65, r_66, r_67, r_68, r_69, r_70, r_71, r_72, r_73, r_74, s_Ca, r_79_1, r_79_2, r_79_3, r_79_4, r_79_5, r_79_6, rce_o, Nat.reduceDiv, r_80_0, r_80_1, r_80_2, r_80_3, r_80_4, r_80_5, r_80_6, s_81, s_82, s_83, s_84, r_90, r_91, r_92, r_93, r_94, s_Z0, s_Z1, LG, LSt, LC, nlR, psR, enR, enL, TK, CI, CLL, KD, okR, gf_o, pf_o, al_i, ia_n, ia_9, is_n, la_n, lst_n, za_n, cpy_n, qs_3, qs_4, up_s, up_n, up_u, lt_nI, le_nI, eq_nI, List.length_cons, List.length_nil, List.getElem?_cons_zero, List.getElem?_cons_succ, List.set_cons_zero, List.set_cons_succ, true_and, and_true, if_true, if_false, Nat.zero_add, cw_wp, nI_add, ↓reduceIte, Nat.reduceAdd, Nat.reduceMul, Nat.reduceSub, Nat.reduceLT, Nat.reduceLeDiff, Nat.reduceEqDiff, Int.reduceToNat, Nat.not_lt_zero, Nat.lt_irrefl, decide_true, BEq.rfl, h]
theorem c_spans {x y : Int32} (h : f o = oB 0 [.ref v, .int th, .int (nI n)]) : Cw (d + 1) 7 [.ref o, .int x, .int y] z f Q ↔ Q (some (.int (if ¬ x < nI 0 ∧ ¬ nI n < x ∧ ¬ nI n - x < y then nI 1 else nI 0))) z f := by
  simp (disch := omega) only [W7, s_0, s_1, r_2, r_3, r_4, r_Li, r_Ll, r_La, r_5, r_6, r_7, s_8, r_In, r_10, r_11, r_12, s_13, s_14, r_15, r_16, r_17, r_18, r_19, r_20, r_21, r_22, r_23, r_24, r_25, r_26, r_27, r_28, r_30, r_30r, r_31, r_32, s_40, s_41, s_42, s_43, s_44, s_45, r_46, r_47, r_48, r_49, r_50, r_51, r_52, r_53, r_53n, r_54, r_Gv, r_Gu, r_60, r_61, r_62, r_63, r_64, r_65, r_66, r_67, r_68, r_69, r_70, r_71, r_72, r_73, r_74, s_Ca, r_79_1, r_79_2, r_79_3, r_79_4, r_79_5, r_79_6, rce_o, Nat.reduceDiv, r_80_0, r_80_1, r_80_2, r_80_3, r_80_4, r_80_5, r_80_6, s_81, s_82, s_83, s_84, r_90, r_91, r_92, r_93, r_94, s_Z0, s_Z1, LG, LSt, LC, nlR, psR, enR, enL, TK, CI, CLL, KD, okR, gf_o, pf_o, al_i, ia_n, ia_9, is_n, la_n, lst_n, za_n, cpy_n, qs_3, qs_4, up_s, up_n, up_u, lt_nI, le_nI, eq_nI, List.length_cons, List.length_nil, List.getElem?_cons_zero, List.getElem?_cons_succ, List.set_cons_zero, List.set_cons_succ, true_and, and_true, if_true, if_false, Nat.zero_add, cw_wp, nI_add, ↓reduceIte, Nat.reduceAdd, Nat.reduceMul, Nat.reduceSub, Nat.reduceLT, Nat.reduceLeDiff, Nat.reduceEqDiff, Int.reduceToNat, Nat.not_lt_zero, Nat.lt_irrefl, decide_true, BEq.rfl, h]
  by_cases h1 : x < nI 0
  · simp only [h1, if_true, not_true, false_and, if_false]
  · by_cases h2 : nI n < x
    · simp only [h1, h2, if_true, not_true, false_and, and_false, if_false]
    · by_cases h3 : nI n - x < y <;> simp only [h1, h2, h3, if_true, not_true, not_false_iff, and_true, and_false, if_false]
theorem c_renew {k : Nat} {x : Int32} (h : f o = oB 0 [.ref v, .int th, .int (nI n)]) (hv : f v = iA m g) (hk : k ≤ m) (hm : m ≤ 65536) : Cw (d + 2) 1 [.ref o, .int (nI k), .int x] z f Q ↔ Q none z (va_up (va_up f v (iA m (fil g 0 m x))) o (oB 0 [.ref v, .int (nI 1), .int (nI k)])) := by
  have hov : o ≠ v := by intro e; rw [e, hv] at h; cases h
  have h1 : ¬ m < k := by omega
  rw [cw_wp]
  simp (disch := omega) only [W1, s_0, s_1, r_2, r_3, r_4, r_Li, r_Ll, r_La, r_5, r_6, r_7, s_8, r_In, r_10, r_11, r_12, s_13, s_14, r_15, r_16, r_17, r_18, r_19, r_20, r_21, r_22, r_23, r_24, r_25, r_26, r_27, r_28, r_30, r_30r, r_31, r_32, s_40, s_41, s_42, s_43, s_44, s_45, r_46, r_47, r_48, r_49, r_50, r_51, r_52, r_53, r_53n, r_54, r_Gv, r_Gu, r_60, r_61, r_62, r_63, r_64, r_65, r_66, r_67, r_68, r_69, r_70, r_71, r_72, r_73, r_74, s_Ca, r_79_1, r_79_2, r_79_3, r_79_4, r_79_5, r_79_6, rce_o, Nat.reduceDiv, r_80_0, r_80_1, r_80_2, r_80_3, r_80_4, r_80_5, r_80_6, s_81, s_82, s_83, s_84, r_90, r_91, r_92, r_93, r_94, s_Z0, s_Z1, LG, LSt, LC, nlR, psR, enR, enL, TK, CI, CLL, KD, okR, gf_o, pf_o, al_i, ia_n, ia_9, is_n, la_n, lst_n, za_n, cpy_n, qs_3, qs_4, up_s, up_n, up_u, lt_nI, le_nI, eq_nI, List.length_cons, List.length_nil, List.getElem?_cons_zero, List.getElem?_cons_succ, List.set_cons_zero, List.set_cons_succ, true_and, and_true, if_true, if_false, Nat.zero_add, nI_add, ↓reduceIte, Nat.reduceAdd, Nat.reduceMul, Nat.reduceSub, Nat.reduceLT, Nat.reduceLeDiff, Nat.reduceEqDiff, Int.reduceToNat, Nat.not_lt_zero, Nat.lt_irrefl, decide_true, BEq.rfl, h, hv, hov, hov.symm, h1]
  rw [c_fill (g := g) (m := m) (by rw [up_n _ _ hov.symm, hv]) hm]
  simp (disch := omega) only [W1, s_0, s_1, r_2, r_3, r_4, r_Li, r_Ll, r_La, r_5, r_6, r_7, s_8, r_In, r_10, r_11, r_12, s_13, s_14, r_15, r_16, r_17, r_18, r_19, r_20, r_21, r_22, r_23, r_24, r_25, r_26, r_27, r_28, r_30, r_30r, r_31, r_32, s_40, s_41, s_42, s_43, s_44, s_45, r_46, r_47, r_48, r_49, r_50, r_51, r_52, r_53, r_53n, r_54, r_Gv, r_Gu, r_60, r_61, r_62, r_63, r_64, r_65, r_66, r_67, r_68, r_69, r_70, r_71, r_72, r_73, r_74, s_Ca, r_79_1, r_79_2, r_79_3, r_79_4, r_79_5, r_79_6, rce_o, Nat.reduceDiv, r_80_0, r_80_1, r_80_2, r_80_3, r_80_4, r_80_5, r_80_6, s_81, s_82, s_83, s_84, r_90, r_91, r_92, r_93, r_94, s_Z0, s_Z1, LG, LSt, LC, nlR, psR, enR, enL, TK, CI, CLL, KD, okR, gf_o, pf_o, al_i, ia_n, ia_9, is_n, la_n, lst_n, za_n, cpy_n, qs_3, qs_4, up_s, up_n, up_u, lt_nI, le_nI, eq_nI, List.length_cons, List.length_nil, List.getElem?_cons_zero, List.getElem?_cons_succ, List.set_cons_zero, List.set_cons_succ, true_and, and_true, if_true, if_false, Nat.zero_add, nI_add, ↓reduceIte, Nat.reduceAdd, Nat.reduceMul, Nat.reduceSub, Nat.reduceLT, Nat.reduceLeDiff, Nat.reduceEqDiff, Int.reduceToNat, Nat.not_lt_zero, Nat.lt_irrefl, decide_true, BEq.rfl, h, hv, hov, hov.symm, h1]
  rw [max0, up_x _ _ _ hov, up_u]
end

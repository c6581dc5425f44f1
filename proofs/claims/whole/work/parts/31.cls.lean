/-! Arrays.fill, System's class: Cells, Land -/
theorem up_x {α : Type} (f : Nat → α) {k j : Nat} (v w : α) (h : k ≠ j) : va_up (va_up f k v) j w = va_up (va_up f j w) k v := by
  funext q
  by_cases h1 : q = j
  · subst h1
    rw [up_s, up_n _ _ (Ne.symm h), up_s]
  · rw [up_n _ _ h1]
    by_cases h2 : q = k
    · subst h2
      rw [up_s, up_s]
    · rw [up_n _ _ h2, up_n _ _ h2, up_n _ _ h1]
section
variable {d : Nat} {z : AZ} {Q : Option Value → AZ → AH → Prop} {v m : Nat}
theorem lp_fill {x : Int32} (hm : m ≤ 65536) : ∀ (q k : Nat) (f : AH) (g : Nat → Int32), f v = iA m g → k + q = m → (Wp d 1300 5 [some (.ref v), some (.int x), some (.int (nI k)), some (.int (nI m))] [] z f Q ↔ Q none z (va_up f v (iA m (fil g k m x)))) := by
  intro q
  induction q with
  | zero =>
    intro k f g h hk
    have hk : k = m := by omega
    subst hk
    rw [W1300_5]
    simp (disch := omega) only [W1300, s_0, ci_0, r_5, r_4, r_La, r_2, r_Li, r_49, s_8, r_In, ci_1, r_52, r_93, enR, LG, LSt, LC, nlR, psR, TK, up_s, up_n, up_u, lt_nI, le_nI, eq_nI, true_and, and_true, if_true, if_false, Nat.zero_add, Nat.add_zero, nI_add, ↓reduceIte, Nat.reduceAdd, Nat.reduceMul, Nat.reduceSub, Nat.reduceLT, Nat.reduceLeDiff, Nat.reduceEqDiff, Nat.not_lt_zero, Nat.lt_irrefl, decide_true, BEq.rfl, nm1, nm2, nm3, nm4, nm9, ngc, eq_self, List.length_cons, List.length_nil, h, fil_done, r_63, r_65, al_i, is_n, r_Gv, r_Gu]
    rw [up_id h]
  | succ q ih =>
    intro k f g h hk
    have h1 : k < m := by omega
    rw [W1300_5]
    simp (disch := omega) only [W1300, s_0, ci_0, r_5, r_4, r_La, r_2, r_Li, r_49, s_8, r_In, ci_1, r_52, r_93, enR, LG, LSt, LC, nlR, psR, TK, up_s, up_n, up_u, lt_nI, le_nI, eq_nI, true_and, and_true, if_true, if_false, Nat.zero_add, Nat.add_zero, nI_add, ↓reduceIte, Nat.reduceAdd, Nat.reduceMul, Nat.reduceSub, Nat.reduceLT, Nat.reduceLeDiff, Nat.reduceEqDiff, Nat.not_lt_zero, Nat.lt_irrefl, decide_true, BEq.rfl, nm1, nm2, nm3, nm4, nm9, ngc, eq_self, List.length_cons, List.length_nil, h, h1, r_63, r_65, al_i, is_n, r_Gv, r_Gu]
    rw [ih (k + 1) _ (upd g k x) (up_s _ _ _) (by omega), up_u, fil_upd _ _ _ _ h1]
theorem c_fill {x : Int32} {f : AH} {g : Nat → Int32} (h : f v = iA m g) (hm : m ≤ 65536) : Cw (d + 1) 1300 [.ref v, .int x] z f Q ↔ Q none z (va_up f v (iA m (fil g 0 m x))) := by
  rw [cw_wp]
  simp (disch := omega) only [W1300, s_0, ci_0, r_5, r_4, r_La, r_2, r_Li, r_49, s_8, r_In, ci_1, r_52, r_93, enR, LG, LSt, LC, nlR, psR, TK, up_s, up_n, up_u, lt_nI, le_nI, eq_nI, true_and, and_true, if_true, if_false, Nat.zero_add, Nat.add_zero, nI_add, ↓reduceIte, Nat.reduceAdd, Nat.reduceMul, Nat.reduceSub, Nat.reduceLT, Nat.reduceLeDiff, Nat.reduceEqDiff, Nat.not_lt_zero, Nat.lt_irrefl, decide_true, BEq.rfl, nm1, nm2, nm3, nm4, nm9, ngc, eq_self, List.length_cons, List.length_nil, h, r_63, r_65, al_i, is_n, r_Gv, r_Gu]
  exact lp_fill hm m 0 f g h (by omega)
theorem lp_fillL {x : Int64} (hm : m ≤ 65536) : ∀ (q k : Nat) (f : AH) (g : Nat → Int64), f v = lA m g → k + q = m → (Wp d 1301 6 [some (.ref v), some (.long x), none, some (.int (nI k)), some (.int (nI m))] [] z f Q ↔ Q none z (va_up f v (lA m (fil g k m x)))) := by
  intro q
  induction q with
  | zero =>
    intro k f g h hk
    have hk : k = m := by omega
    subst hk
    rw [W1301_6]
    simp (disch := omega) only [W1301, s_0, ci_0, r_5, r_4, r_La, r_2, r_Li, r_49, r_3, r_Ll, s_8, r_In, ci_1, r_52, r_93, enR, LG, LSt, LC, nlR, psR, TK, up_s, up_n, up_u, lt_nI, le_nI, eq_nI, true_and, and_true, if_true, if_false, Nat.zero_add, Nat.add_zero, nI_add, ↓reduceIte, Nat.reduceAdd, Nat.reduceMul, Nat.reduceSub, Nat.reduceLT, Nat.reduceLeDiff, Nat.reduceEqDiff, Nat.not_lt_zero, Nat.lt_irrefl, decide_true, BEq.rfl, nm1, nm2, nm3, nm4, nm9, ngc, eq_self, List.length_cons, List.length_nil, h, fil_done, r_63, r_67, al_i, lst_n, r_Gv, r_Gu]
    rw [up_id h]
  | succ q ih =>
    intro k f g h hk
    have h1 : k < m := by omega
    rw [W1301_6]
    simp (disch := omega) only [W1301, s_0, ci_0, r_5, r_4, r_La, r_2, r_Li, r_49, r_3, r_Ll, s_8, r_In, ci_1, r_52, r_93, enR, LG, LSt, LC, nlR, psR, TK, up_s, up_n, up_u, lt_nI, le_nI, eq_nI, true_and, and_true, if_true, if_false, Nat.zero_add, Nat.add_zero, nI_add, ↓reduceIte, Nat.reduceAdd, Nat.reduceMul, Nat.reduceSub, Nat.reduceLT, Nat.reduceLeDiff, Nat.reduceEqDiff, Nat.not_lt_zero, Nat.lt_irrefl, decide_true, BEq.rfl, nm1, nm2, nm3, nm4, nm9, ngc, eq_self, List.length_cons, List.length_nil, h, h1, r_63, r_67, al_i, lst_n, r_Gv, r_Gu]
    rw [ih (k + 1) _ (vp_updL g k x) (up_s _ _ _) (by omega), up_u, fil_updL _ _ _ _ h1]
theorem c_fillL {x : Int64} {f : AH} {g : Nat → Int64} (h : f v = lA m g) (hm : m ≤ 65536) : Cw (d + 1) 1301 [.ref v, .long x] z f Q ↔ Q none z (va_up f v (lA m (fil g 0 m x))) := by
  rw [cw_wp]
  simp (disch := omega) only [W1301, s_0, ci_0, r_5, r_4, r_La, r_2, r_Li, r_49, r_3, r_Ll, s_8, r_In, ci_1, r_52, r_93, enR, LG, LSt, LC, nlR, psR, TK, up_s, up_n, up_u, lt_nI, le_nI, eq_nI, true_and, and_true, if_true, if_false, Nat.zero_add, Nat.add_zero, nI_add, ↓reduceIte, Nat.reduceAdd, Nat.reduceMul, Nat.reduceSub, Nat.reduceLT, Nat.reduceLeDiff, Nat.reduceEqDiff, Nat.not_lt_zero, Nat.lt_irrefl, decide_true, BEq.rfl, nm1, nm2, nm3, nm4, nm9, ngc, eq_self, List.length_cons, List.length_nil, h, r_63, r_67, al_i, lst_n, r_Gv, r_Gu]
  exact lp_fillL hm m 0 f g h (by omega)
end
section
variable {d : Nat} {z : AZ} {f : AH} {Q : Option Value → AZ → AH → Prop} {X : Nat × (Nat → Int32)} {M : MT} {s : Nat → Int32} {v : Nat → Int64} {g : Nat → Nat → Int32} {w : Nat → Nat → Int64} {q ct' : Nat → Nat} {ct cn : Nat → Int32} {cc di dr df li : Nat → Nat → Int32} {la : Nat → Nat → Nat → Int32} {sf sl : Nat → Nat → Int32}
theorem f_cv {c : Nat} {x : Int32} (h : c < 10) : Cw (d + 1) 1300 [.ref (cv c), .int x] z (Hp X (s, v, g, w, q, ct, cn, cc, di, dr, df, li, la, sf, sl) M) Q ↔ Q none z (Hp X (s, v, g, w, q, ct, cn, va_up cc c (fil (cc c) 0 (cap c) x), di, dr, df, li, la, sf, sl) M) := by rw [c_fill (hq_cv h) (cap_le c), hu_cv h]
theorem f_sf {c : Nat} {x : Int32} (h : c < 2) : Cw (d + 1) 1300 [.ref (sfo c), .int x] z (Hp X (s, v, g, w, q, ct, cn, cc, di, dr, df, li, la, sf, sl) M) Q ↔ Q none z (Hp X (s, v, g, w, q, ct, cn, cc, di, dr, df, li, la, va_up sf c (fil (sf c) 0 10 x), sl) M) := by rw [c_fill (hq_sf h) (by decide), hu_sf h]
theorem f_sl {c : Nat} {x : Int32} (h : c < 2) : Cw (d + 1) 1300 [.ref (slo c), .int x] z (Hp X (s, v, g, w, q, ct, cn, cc, di, dr, df, li, la, sf, sl) M) Q ↔ Q none z (Hp X (s, v, g, w, q, ct, cn, cc, di, dr, df, li, la, sf, va_up sl c (fil (sl c) 0 70 x)) M) := by rw [c_fill (hq_sl h) (by decide), hu_sl h]
theorem f_cs {c : Nat} {x : Int32} (h : c < 2) : Cw (d + 1) 1300 [.ref (cst c), .int x] z (Hp X (s, v, g, w, q, ct, cn, cc, di, dr, df, li, la, sf, sl) M) Q ↔ Q none z (Hp X (s, v, va_up g c (fil (g c) 0 7 x), w, q, ct, cn, cc, di, dr, df, li, la, sf, sl) M) := by rw [c_fill (hq_cs h) (by decide), hu_cs h]
theorem f_90 {x : Int32} (hq : q 10 ≠ 0) : Cw (d + 1) 1300 [.ref 90, .int x] z (Hp X (s, v, g, w, q, ct, cn, cc, di, dr, df, li, la, sf, sl) M) Q ↔ Q none z (Hp X (s, v, va_up g 90 (fil (g 90) 0 1024 x), w, q, ct, cn, cc, di, dr, df, li, la, sf, sl) M) := by rw [c_fill (hq_90 hq) (by decide), hu_90 hq]
theorem f_to {c : Nat} {x : Int32} (h : c < 2) (hq : q 10 ≠ 0) : Cw (d + 1) 1300 [.ref (tor c), .int x] z (Hp X (s, v, g, w, q, ct, cn, cc, di, dr, df, li, la, sf, sl) M) Q ↔ Q none z (Hp X (s, v, va_up g (91 + c) (fil (g (91 + c)) 0 1024 x), w, q, ct, cn, cc, di, dr, df, li, la, sf, sl) M) := by rw [c_fill (hq_to h hq) (by decide), hu_tor h hq]
theorem f_ta {c : Nat} {x : Int64} (h : c < 2) : Cw (d + 1) 1301 [.ref (tao c), .long x] z (Hp X (s, v, g, w, q, ct, cn, cc, di, dr, df, li, la, sf, sl) M) Q ↔ Q none z (Hp X (s, v, g, va_up w c (fil (w c) 0 7 x), q, ct, cn, cc, di, dr, df, li, la, sf, sl) M) := by rw [c_fillL (hq_ta h) (by decide), hu_ta h]
-- Cells
theorem c_has {c k n : Nat} (h : c < 10) (hn : cn c = nI n) (hk : k < 65536) (hn2 : n < 65536) : Cw (d + 1) 4 [.ref (co c), .int (nI k)] z (Hp X (s, v, g, w, q, ct, cn, cc, di, dr, df, li, la, sf, sl) M) Q ↔ Q (some (.int (if k < n then nI 1 else nI 0))) z (Hp X (s, v, g, w, q, ct, cn, cc, di, dr, df, li, la, sf, sl) M) := by
  rw [cw_wp]
  by_cases h1 : k < n <;> simp (disch := omega) only [W4, r_2, r_Li, s_42, r_4, r_La, h60_0_2, r_49, s_0, ci_1, r_52, ci_0, r_94, s_Z0, s_Z1, enR, LG, LSt, LC, nlR, psR, TK, up_s, up_n, up_u, lt_nI, le_nI, eq_nI, true_and, and_true, if_true, if_false, Nat.zero_add, Nat.add_zero, nI_add, ↓reduceIte, Nat.reduceAdd, Nat.reduceMul, Nat.reduceSub, Nat.reduceLT, Nat.reduceLeDiff, Nat.reduceEqDiff, Nat.not_lt_zero, Nat.lt_irrefl, decide_true, BEq.rfl, nm1, nm2, nm3, nm4, nm9, ngc, eq_self, List.length_cons, List.length_nil, h, hn, h1]
theorem c_hasx {c n : Nat} {x : Int32} (h : c < 10) (hn : cn c = nI n) : Cw (d + 1) 4 [.ref (co c), .int x] z (Hp X (s, v, g, w, q, ct, cn, cc, di, dr, df, li, la, sf, sl) M) Q ↔ Q (some (.int (if x < nI 0 then nI 0 else if x < nI n then nI 1 else nI 0))) z (Hp X (s, v, g, w, q, ct, cn, cc, di, dr, df, li, la, sf, sl) M) := by
  rw [cw_wp]
  by_cases h1 : x < nI 0
  · simp (disch := omega) only [W4, r_2, r_Li, s_42, r_4, r_La, h60_0_2, r_49, s_0, ci_1, r_52, ci_0, r_94, s_Z0, s_Z1, enR, LG, LSt, LC, nlR, psR, TK, up_s, up_n, up_u, lt_nI, le_nI, eq_nI, true_and, and_true, if_true, if_false, Nat.zero_add, Nat.add_zero, nI_add, ↓reduceIte, Nat.reduceAdd, Nat.reduceMul, Nat.reduceSub, Nat.reduceLT, Nat.reduceLeDiff, Nat.reduceEqDiff, Nat.not_lt_zero, Nat.lt_irrefl, decide_true, BEq.rfl, nm1, nm2, nm3, nm4, nm9, ngc, eq_self, List.length_cons, List.length_nil, h, hn, h1]
  · by_cases h2 : x < nI n <;> simp (disch := omega) only [W4, r_2, r_Li, s_42, r_4, r_La, h60_0_2, r_49, s_0, ci_1, r_52, ci_0, r_94, s_Z0, s_Z1, enR, LG, LSt, LC, nlR, psR, TK, up_s, up_n, up_u, lt_nI, le_nI, eq_nI, true_and, and_true, if_true, if_false, Nat.zero_add, Nat.add_zero, nI_add, ↓reduceIte, Nat.reduceAdd, Nat.reduceMul, Nat.reduceSub, Nat.reduceLT, Nat.reduceLeDiff, Nat.reduceEqDiff, Nat.not_lt_zero, Nat.lt_irrefl, decide_true, BEq.rfl, nm1, nm2, nm3, nm4, nm9, ngc, eq_self, List.length_cons, List.length_nil, h, hn, h1, h2]
theorem c_valueAt {c k n : Nat} (h : c < 10) (hn : cn c = nI n) (hk : k < n) (hm : n ≤ cap c) : Cw (d + 2) 5 [.ref (co c), .int (nI k)] z (Hp X (s, v, g, w, q, ct, cn, cc, di, dr, df, li, la, sf, sl) M) Q ↔ Q (some (.int (cc c k))) z (Hp X (s, v, g, w, q, ct, cn, cc, di, dr, df, li, la, sf, sl) M) := by
  have h9 := cap_le c
  have h8 : cap c ≤ 80 := by unfold cap; split <;> omega
  rw [cw_wp]
  simp (disch := omega) only [W5, r_4, r_La, r_2, r_Li, h79_4, s_40, h60_0_0, r_52, s_0, ci_0, r_90, h64_cv, enR, LG, LSt, LC, nlR, psR, TK, up_s, up_n, up_u, lt_nI, le_nI, eq_nI, true_and, and_true, if_true, if_false, Nat.zero_add, Nat.add_zero, nI_add, ↓reduceIte, Nat.reduceAdd, Nat.reduceMul, Nat.reduceSub, Nat.reduceLT, Nat.reduceLeDiff, Nat.reduceEqDiff, Nat.not_lt_zero, Nat.lt_irrefl, decide_true, BEq.rfl, nm1, nm2, nm3, nm4, nm9, ngc, eq_self, List.length_cons, List.length_nil, h, c_has h hn, hk]
theorem c_change {c k n : Nat} {x : Int32} (h : c < 10) (hn : cn c = nI n) (hk : k < n) (hm : n ≤ cap c) : Cw (d + 2) 6 [.ref (co c), .int (nI k), .int x] z (Hp X (s, v, g, w, q, ct, cn, cc, di, dr, df, li, la, sf, sl) M) Q ↔ Q none z (Hp X (s, v, g, w, q, ct, cn, va_up cc c (upd (cc c) k x), di, dr, df, li, la, sf, sl) M) := by
  have h8 : cap c ≤ 80 := by unfold cap; split <;> omega
  rw [cw_wp]
  simp (disch := omega) only [W6, r_4, r_La, r_2, r_Li, h79_4, s_40, h60_0_0, r_93, h65_cv, enR, LG, LSt, LC, nlR, psR, TK, up_s, up_n, up_u, lt_nI, le_nI, eq_nI, true_and, and_true, if_true, if_false, Nat.zero_add, Nat.add_zero, nI_add, ↓reduceIte, Nat.reduceAdd, Nat.reduceMul, Nat.reduceSub, Nat.reduceLT, Nat.reduceLeDiff, Nat.reduceEqDiff, Nat.not_lt_zero, Nat.lt_irrefl, decide_true, BEq.rfl, nm1, nm2, nm3, nm4, nm9, ngc, eq_self, List.length_cons, List.length_nil, h, c_has h hn, hk]
theorem c_drop {c : Nat} (h : c < 10) : Cw (d + 1) 3 [.ref (co c)] z (Hp X (s, v, g, w, q, ct, cn, cc, di, dr, df, li, la, sf, sl) M) Q ↔ Q none z (Hp X (s, v, g, w, q, va_up ct c (nI 0), va_up cn c (nI 0), cc, di, dr, df, li, la, sf, sl) M) := by
  rw [cw_wp]
  simp (disch := omega) only [W3, r_4, r_La, s_0, ci_0, h61_0_1_0, h61_0_1_1, h61_0_2, r_93, enR, LG, LSt, LC, nlR, psR, TK, up_s, up_n, up_u, lt_nI, le_nI, eq_nI, true_and, and_true, if_true, if_false, Nat.zero_add, Nat.add_zero, nI_add, ↓reduceIte, Nat.reduceAdd, Nat.reduceMul, Nat.reduceSub, Nat.reduceLT, Nat.reduceLeDiff, Nat.reduceEqDiff, Nat.not_lt_zero, Nat.lt_irrefl, decide_true, BEq.rfl, nm1, nm2, nm3, nm4, nm9, ngc, eq_self, List.length_cons, List.length_nil, h]
theorem c_spans {c n : Nat} {x y : Int32} (h : c < 10) (hn : cn c = nI n) : Cw (d + 1) 7 [.ref (co c), .int x, .int y] z (Hp X (s, v, g, w, q, ct, cn, cc, di, dr, df, li, la, sf, sl) M) Q ↔ Q (some (.int (if ¬ x < nI 0 ∧ ¬ nI n < x ∧ ¬ nI n - x < y then nI 1 else nI 0))) z (Hp X (s, v, g, w, q, ct, cn, cc, di, dr, df, li, la, sf, sl) M) := by
  rw [cw_wp]
  by_cases h1 : x < nI 0
  · simp (disch := omega) only [W7, r_2, r_Li, s_42, r_4, r_La, h60_0_2, r_50, r_11, s_0, ci_1, r_52, ci_0, r_94, s_Z0, s_Z1, enR, LG, LSt, LC, nlR, psR, TK, up_s, up_n, up_u, lt_nI, le_nI, eq_nI, true_and, and_true, if_true, if_false, Nat.zero_add, Nat.add_zero, nI_add, ↓reduceIte, Nat.reduceAdd, Nat.reduceMul, Nat.reduceSub, Nat.reduceLT, Nat.reduceLeDiff, Nat.reduceEqDiff, Nat.not_lt_zero, Nat.lt_irrefl, decide_true, BEq.rfl, nm1, nm2, nm3, nm4, nm9, ngc, eq_self, List.length_cons, List.length_nil, h, hn, h1, not_true, false_and]
  · by_cases h2 : nI n < x
    · simp (disch := omega) only [W7, r_2, r_Li, s_42, r_4, r_La, h60_0_2, r_50, r_11, s_0, ci_1, r_52, ci_0, r_94, s_Z0, s_Z1, enR, LG, LSt, LC, nlR, psR, TK, up_s, up_n, up_u, lt_nI, le_nI, eq_nI, true_and, and_true, if_true, if_false, Nat.zero_add, Nat.add_zero, nI_add, ↓reduceIte, Nat.reduceAdd, Nat.reduceMul, Nat.reduceSub, Nat.reduceLT, Nat.reduceLeDiff, Nat.reduceEqDiff, Nat.not_lt_zero, Nat.lt_irrefl, decide_true, BEq.rfl, nm1, nm2, nm3, nm4, nm9, ngc, eq_self, List.length_cons, List.length_nil, h, hn, h1, h2, not_true, false_and, and_false]
    · by_cases h3 : nI n - x < y <;> simp (disch := omega) only [W7, r_2, r_Li, s_42, r_4, r_La, h60_0_2, r_50, r_11, s_0, ci_1, r_52, ci_0, r_94, s_Z0, s_Z1, enR, LG, LSt, LC, nlR, psR, TK, up_s, up_n, up_u, lt_nI, le_nI, eq_nI, true_and, and_true, if_true, if_false, Nat.zero_add, Nat.add_zero, nI_add, ↓reduceIte, Nat.reduceAdd, Nat.reduceMul, Nat.reduceSub, Nat.reduceLT, Nat.reduceLeDiff, Nat.reduceEqDiff, Nat.not_lt_zero, Nat.lt_irrefl, decide_true, BEq.rfl, nm1, nm2, nm3, nm4, nm9, ngc, eq_self, List.length_cons, List.length_nil, h, hn, h1, h2, h3, not_true, not_false_iff, and_false]
theorem c_renew {c k : Nat} {x : Int32} (h : c < 10) (hk : k ≤ cap c) : Cw (d + 2) 1 [.ref (co c), .int (nI k), .int x] z (Hp X (s, v, g, w, q, ct, cn, cc, di, dr, df, li, la, sf, sl) M) Q ↔ Q none z (Hp X (s, v, g, w, q, va_up ct c (nI 1), va_up cn c (nI k), va_up cc c (fil (cc c) 0 (cap c) x), di, dr, df, li, la, sf, sl) M) := by
  have h8 : cap c ≤ 80 := by unfold cap; split <;> omega
  have h1 : ¬ cap c < k := by omega
  rw [cw_wp]
  simp (disch := omega) only [W1, r_4, r_La, s_0, ci_0, r_2, r_Li, h60_0_0, s_84, s_83, h61_0_2, h80_1300, ci_1, h61_0_1_0, h61_0_1_1, r_93, h63_cv, enR, LG, LSt, LC, nlR, psR, TK, up_s, up_n, up_u, lt_nI, le_nI, eq_nI, true_and, and_true, if_true, if_false, Nat.zero_add, Nat.add_zero, nI_add, ↓reduceIte, Nat.reduceAdd, Nat.reduceMul, Nat.reduceSub, Nat.reduceLT, Nat.reduceLeDiff, Nat.reduceEqDiff, Nat.not_lt_zero, Nat.lt_irrefl, decide_true, BEq.rfl, nm1, nm2, nm3, nm4, nm9, ngc, eq_self, List.length_cons, List.length_nil, h, h1, f_cv, max0]
theorem c_takeT {c k : Nat} (h : c < 6) (hk : k ≤ 40) : Cw (d + 3) 2 [.ref (co c), .ref 31, .int (nI k)] z (Hp X (s, v, g, w, q, ct, cn, cc, di, dr, df, li, la, sf, sl) M) Q ↔ Q none z (Hp X (s, v, g, w, q, va_up ct c (nI 1), va_up cn c (nI k), va_up cc c (va_cpy (g 31) (fil (cc c) 0 40 (nI 0)) 0 0 k), di, dr, df, li, la, sf, sl) M) := by
  have h8 : cap c = 40 := if_pos h
  have h1 : ¬ 40 < k := by omega
  rw [cw_wp]
  simp (disch := omega) only [W2, r_4, r_La, r_2, r_Li, s_84, s_0, ci_0, h79_1, h60_0_0, h60_0_2, h81_cc, h81_tc, h81_fc, h81_rr, h81_ff, r_93, h63_cv, enR, LG, LSt, LC, nlR, psR, TK, up_s, up_n, up_u, lt_nI, le_nI, eq_nI, true_and, and_true, if_true, if_false, Nat.zero_add, Nat.add_zero, nI_add, ↓reduceIte, Nat.reduceAdd, Nat.reduceMul, Nat.reduceSub, Nat.reduceLT, Nat.reduceLeDiff, Nat.reduceEqDiff, Nat.not_lt_zero, Nat.lt_irrefl, decide_true, BEq.rfl, nm1, nm2, nm3, nm4, nm9, ngc, eq_self, List.length_cons, List.length_nil, h, h1, h63_31, c_renew, h8]
theorem c_takeF {c k : Nat} (h : c < 6) (hk : k ≤ 40) : Cw (d + 3) 2 [.ref (co c), .ref (dfo 0), .int (nI k)] z (Hp X (s, v, g, w, q, ct, cn, cc, di, dr, df, li, la, sf, sl) M) Q ↔ Q none z (Hp X (s, v, g, w, q, va_up ct c (nI 1), va_up cn c (nI k), va_up cc c (va_cpy (df 0) (fil (cc c) 0 40 (nI 0)) 0 0 k), di, dr, df, li, la, sf, sl) M) := by
  have h8 : cap c = 40 := if_pos h
  have h1 : ¬ 40 < k := by omega
  rw [cw_wp]
  simp (disch := omega) only [W2, r_4, r_La, r_2, r_Li, s_84, s_0, ci_0, h79_1, h60_0_0, h60_0_2, h81_cc, h81_tc, h81_fc, h81_rr, h81_ff, r_93, h63_cv, enR, LG, LSt, LC, nlR, psR, TK, up_s, up_n, up_u, lt_nI, le_nI, eq_nI, true_and, and_true, if_true, if_false, Nat.zero_add, Nat.add_zero, nI_add, ↓reduceIte, Nat.reduceAdd, Nat.reduceMul, Nat.reduceSub, Nat.reduceLT, Nat.reduceLeDiff, Nat.reduceEqDiff, Nat.not_lt_zero, Nat.lt_irrefl, decide_true, BEq.rfl, nm1, nm2, nm3, nm4, nm9, ngc, eq_self, List.length_cons, List.length_nil, h, h1, h63_df, c_renew, h8]
def wth (g : Nat → Int32) (lo hi : Int32) (k : Nat) : Bool := decide (¬ g k < lo ∧ ¬ hi < g k)
theorem lp_within {c n : Nat} {lo hi : Int32} (h : c < 10) (hn : cn c = nI n) (hm : n ≤ cap c) : ∀ (p k : Nat), k + p = n → (Wp d 8 2 [some (.ref (co c)), some (.int lo), some (.int hi), some (.int (nI k))] [] z (Hp X (s, v, g, w, q, ct, cn, cc, di, dr, df, li, la, sf, sl) M) Q ↔ Q (some (.int (if allb (wth (cc c) lo hi) k p = true then nI 1 else nI 0))) z (Hp X (s, v, g, w, q, ct, cn, cc, di, dr, df, li, la, sf, sl) M)) := by
  have h8 : cap c ≤ 80 := by unfold cap; split <;> omega
  intro p
  induction p with
  | zero =>
    intro k hk
    have hk : k = n := by omega
    subst hk
    rw [W8_2]
    simp (disch := omega) only [W8, s_0, ci_0, r_5, r_2, r_Li, r_4, r_La, h60_0_2, r_49, h60_0_0, r_48, r_51, r_94, s_Z0, s_Z1, s_8, r_In, ci_1, r_52, h64_cv, enR, LG, LSt, LC, nlR, psR, TK, up_s, up_n, up_u, lt_nI, le_nI, eq_nI, true_and, and_true, if_true, if_false, Nat.zero_add, Nat.add_zero, nI_add, ↓reduceIte, Nat.reduceAdd, Nat.reduceMul, Nat.reduceSub, Nat.reduceLT, Nat.reduceLeDiff, Nat.reduceEqDiff, Nat.not_lt_zero, Nat.lt_irrefl, decide_true, BEq.rfl, nm1, nm2, nm3, nm4, nm9, ngc, eq_self, List.length_cons, List.length_nil, h, hn, allb]
  | succ p ih =>
    intro k hk
    have h1 : k < n := by omega
    rw [W8_2]
    by_cases h2 : cc c k < lo
    · simp (disch := omega) only [W8, s_0, ci_0, r_5, r_2, r_Li, r_4, r_La, h60_0_2, r_49, h60_0_0, r_48, r_51, r_94, s_Z0, s_Z1, s_8, r_In, ci_1, r_52, h64_cv, enR, LG, LSt, LC, nlR, psR, TK, up_s, up_n, up_u, lt_nI, le_nI, eq_nI, true_and, and_true, if_true, if_false, Nat.zero_add, Nat.add_zero, nI_add, ↓reduceIte, Nat.reduceAdd, Nat.reduceMul, Nat.reduceSub, Nat.reduceLT, Nat.reduceLeDiff, Nat.reduceEqDiff, Nat.not_lt_zero, Nat.lt_irrefl, decide_true, BEq.rfl, nm1, nm2, nm3, nm4, nm9, ngc, eq_self, List.length_cons, List.length_nil, h, hn, h1, h2, allb, wth, not_true, false_and, decide_false, Bool.false_and, Bool.false_eq_true]
    · by_cases h3 : hi < cc c k
      · simp (disch := omega) only [W8, s_0, ci_0, r_5, r_2, r_Li, r_4, r_La, h60_0_2, r_49, h60_0_0, r_48, r_51, r_94, s_Z0, s_Z1, s_8, r_In, ci_1, r_52, h64_cv, enR, LG, LSt, LC, nlR, psR, TK, up_s, up_n, up_u, lt_nI, le_nI, eq_nI, true_and, and_true, if_true, if_false, Nat.zero_add, Nat.add_zero, nI_add, ↓reduceIte, Nat.reduceAdd, Nat.reduceMul, Nat.reduceSub, Nat.reduceLT, Nat.reduceLeDiff, Nat.reduceEqDiff, Nat.not_lt_zero, Nat.lt_irrefl, decide_true, BEq.rfl, nm1, nm2, nm3, nm4, nm9, ngc, eq_self, List.length_cons, List.length_nil, h, hn, h1, h2, h3, allb, wth, not_true, and_false, decide_false, Bool.false_and, Bool.false_eq_true]
      · simp (disch := omega) only [W8, s_0, ci_0, r_5, r_2, r_Li, r_4, r_La, h60_0_2, r_49, h60_0_0, r_48, r_51, r_94, s_Z0, s_Z1, s_8, r_In, ci_1, r_52, h64_cv, enR, LG, LSt, LC, nlR, psR, TK, up_s, up_n, up_u, lt_nI, le_nI, eq_nI, true_and, and_true, if_true, if_false, Nat.zero_add, Nat.add_zero, nI_add, ↓reduceIte, Nat.reduceAdd, Nat.reduceMul, Nat.reduceSub, Nat.reduceLT, Nat.reduceLeDiff, Nat.reduceEqDiff, Nat.not_lt_zero, Nat.lt_irrefl, decide_true, BEq.rfl, nm1, nm2, nm3, nm4, nm9, ngc, eq_self, List.length_cons, List.length_nil, h, hn, h1, h2, h3, allb, wth, not_false_iff, and_self, Bool.true_and]
        exact ih (k + 1) (by omega)
theorem c_within {c n : Nat} {lo hi : Int32} (h : c < 10) (hn : cn c = nI n) (hm : n ≤ cap c) : Cw (d + 1) 8 [.ref (co c), .int lo, .int hi] z (Hp X (s, v, g, w, q, ct, cn, cc, di, dr, df, li, la, sf, sl) M) Q ↔ Q (some (.int (if allb (wth (cc c) lo hi) 0 n = true then nI 1 else nI 0))) z (Hp X (s, v, g, w, q, ct, cn, cc, di, dr, df, li, la, sf, sl) M) := by
  rw [cw_wp]
  simp (disch := omega) only [W8, s_0, ci_0, r_5, r_2, r_Li, r_4, r_La, h60_0_2, r_49, h60_0_0, r_48, r_51, r_94, s_Z0, s_Z1, s_8, r_In, ci_1, r_52, h64_cv, enR, LG, LSt, LC, nlR, psR, TK, up_s, up_n, up_u, lt_nI, le_nI, eq_nI, true_and, and_true, if_true, if_false, Nat.zero_add, Nat.add_zero, nI_add, ↓reduceIte, Nat.reduceAdd, Nat.reduceMul, Nat.reduceSub, Nat.reduceLT, Nat.reduceLeDiff, Nat.reduceEqDiff, Nat.not_lt_zero, Nat.lt_irrefl, decide_true, BEq.rfl, nm1, nm2, nm3, nm4, nm9, ngc, eq_self, List.length_cons, List.length_nil, h]
  exact lp_within h hn hm n 0 (by omega)
def tmF (g : Nat → Int32) (x : Int32) (j a : Nat) : Nat := if g j = x then a + 1 else a
theorem lp_timesOf {c n : Nat} {x : Int32} (h : c < 10) (hn : cn c = nI n) (hm : n ≤ cap c) : ∀ (p k a : Nat), k + p = n → a ≤ k → (Wp d 9 4 [some (.ref (co c)), some (.int x), some (.int (nI a)), some (.int (nI k))] [] z (Hp X (s, v, g, w, q, ct, cn, cc, di, dr, df, li, la, sf, sl) M) Q ↔ Q (some (.int (nI (foldu (tmF (cc c) x) k p a)))) z (Hp X (s, v, g, w, q, ct, cn, cc, di, dr, df, li, la, sf, sl) M)) := by
  have h8 : cap c ≤ 80 := by unfold cap; split <;> omega
  intro p
  induction p with
  | zero =>
    intro k a hk _
    have hk : k = n := by omega
    subst hk
    rw [W9_4]
    simp (disch := omega) only [W9, s_0, ci_0, r_5, r_2, r_Li, r_4, r_La, h60_0_2, r_49, h60_0_0, r_47, s_8, r_In, ci_1, r_52, r_90, h64_cv, enR, LG, LSt, LC, nlR, psR, TK, up_s, up_n, up_u, lt_nI, le_nI, eq_nI, true_and, and_true, if_true, if_false, Nat.zero_add, Nat.add_zero, nI_add, ↓reduceIte, Nat.reduceAdd, Nat.reduceMul, Nat.reduceSub, Nat.reduceLT, Nat.reduceLeDiff, Nat.reduceEqDiff, Nat.not_lt_zero, Nat.lt_irrefl, decide_true, BEq.rfl, nm1, nm2, nm3, nm4, nm9, ngc, eq_self, List.length_cons, List.length_nil, h, hn, foldu]
  | succ p ih =>
    intro k a hk ha
    have h1 : k < n := by omega
    rw [W9_4]
    by_cases h2 : cc c k = x
    · simp (disch := omega) only [W9, s_0, ci_0, r_5, r_2, r_Li, r_4, r_La, h60_0_2, r_49, h60_0_0, r_47, s_8, r_In, ci_1, r_52, r_90, h64_cv, enR, LG, LSt, LC, nlR, psR, TK, up_s, up_n, up_u, lt_nI, le_nI, eq_nI, true_and, and_true, if_true, if_false, Nat.zero_add, Nat.add_zero, nI_add, ↓reduceIte, Nat.reduceAdd, Nat.reduceMul, Nat.reduceSub, Nat.reduceLT, Nat.reduceLeDiff, Nat.reduceEqDiff, Nat.not_lt_zero, Nat.lt_irrefl, decide_true, BEq.rfl, nm1, nm2, nm3, nm4, nm9, ngc, eq_self, List.length_cons, List.length_nil, h, hn, h1, h2, foldu, tmF]
      exact ih (k + 1) (a + 1) (by omega) (by omega)
    · simp (disch := omega) only [W9, s_0, ci_0, r_5, r_2, r_Li, r_4, r_La, h60_0_2, r_49, h60_0_0, r_47, s_8, r_In, ci_1, r_52, r_90, h64_cv, enR, LG, LSt, LC, nlR, psR, TK, up_s, up_n, up_u, lt_nI, le_nI, eq_nI, true_and, and_true, if_true, if_false, Nat.zero_add, Nat.add_zero, nI_add, ↓reduceIte, Nat.reduceAdd, Nat.reduceMul, Nat.reduceSub, Nat.reduceLT, Nat.reduceLeDiff, Nat.reduceEqDiff, Nat.not_lt_zero, Nat.lt_irrefl, decide_true, BEq.rfl, nm1, nm2, nm3, nm4, nm9, ngc, eq_self, List.length_cons, List.length_nil, h, hn, h1, h2, foldu, tmF]
      exact ih (k + 1) a (by omega) (by omega)
theorem c_timesOf {c n : Nat} {x : Int32} (h : c < 10) (hn : cn c = nI n) (hm : n ≤ cap c) : Cw (d + 1) 9 [.ref (co c), .int x] z (Hp X (s, v, g, w, q, ct, cn, cc, di, dr, df, li, la, sf, sl) M) Q ↔ Q (some (.int (nI (foldu (tmF (cc c) x) 0 n 0)))) z (Hp X (s, v, g, w, q, ct, cn, cc, di, dr, df, li, la, sf, sl) M) := by
  rw [cw_wp]
  simp (disch := omega) only [W9, s_0, ci_0, r_5, r_2, r_Li, r_4, r_La, h60_0_2, r_49, h60_0_0, r_47, s_8, r_In, ci_1, r_52, r_90, h64_cv, enR, LG, LSt, LC, nlR, psR, TK, up_s, up_n, up_u, lt_nI, le_nI, eq_nI, true_and, and_true, if_true, if_false, Nat.zero_add, Nat.add_zero, nI_add, ↓reduceIte, Nat.reduceAdd, Nat.reduceMul, Nat.reduceSub, Nat.reduceLT, Nat.reduceLeDiff, Nat.reduceEqDiff, Nat.not_lt_zero, Nat.lt_irrefl, decide_true, BEq.rfl, nm1, nm2, nm3, nm4, nm9, ngc, eq_self, List.length_cons, List.length_nil, h]
  exact lp_timesOf h hn hm n 0 0 (by omega) (by omega)
def smF (g : Nat → Int32) (j : Nat) (a : Int64) : Int64 := a + (g j).toInt64
theorem lp_sum {c n : Nat} (h : c < 10) (hn : cn c = nI n) (hm : n ≤ cap c) : ∀ (p k : Nat) (a : Int64), k + p = n → (Wp d 10 4 [some (.ref (co c)), some (.long a), none, some (.int (nI k))] [] z (Hp X (s, v, g, w, q, ct, cn, cc, di, dr, df, li, la, sf, sl) M) Q ↔ Q (some (.long (foldu (smF (cc c)) k p a))) z (Hp X (s, v, g, w, q, ct, cn, cc, di, dr, df, li, la, sf, sl) M)) := by
  have h8 : cap c ≤ 80 := by unfold cap; split <;> omega
  intro p
  induction p with
  | zero =>
    intro k a hk
    have hk : k = n := by omega
    subst hk
    rw [W10_4]
    simp (disch := omega) only [W10, s_1, cl_0, r_6, s_0, ci_0, r_5, r_2, r_Li, r_4, r_La, h60_0_2, r_49, r_3, r_Ll, h60_0_0, r_26, r_21, s_8, r_In, ci_1, r_52, r_91, h64_cv, enR, LG, LSt, LC, nlR, psR, TK, up_s, up_n, up_u, lt_nI, le_nI, eq_nI, true_and, and_true, if_true, if_false, Nat.zero_add, Nat.add_zero, nI_add, ↓reduceIte, Nat.reduceAdd, Nat.reduceMul, Nat.reduceSub, Nat.reduceLT, Nat.reduceLeDiff, Nat.reduceEqDiff, Nat.not_lt_zero, Nat.lt_irrefl, decide_true, BEq.rfl, nm1, nm2, nm3, nm4, nm9, ngc, eq_self, List.length_cons, List.length_nil, h, hn, foldu]
  | succ p ih =>
    intro k a hk
    have h1 : k < n := by omega
    rw [W10_4]
    simp (disch := omega) only [W10, s_1, cl_0, r_6, s_0, ci_0, r_5, r_2, r_Li, r_4, r_La, h60_0_2, r_49, r_3, r_Ll, h60_0_0, r_26, r_21, s_8, r_In, ci_1, r_52, r_91, h64_cv, enR, LG, LSt, LC, nlR, psR, TK, up_s, up_n, up_u, lt_nI, le_nI, eq_nI, true_and, and_true, if_true, if_false, Nat.zero_add, Nat.add_zero, nI_add, ↓reduceIte, Nat.reduceAdd, Nat.reduceMul, Nat.reduceSub, Nat.reduceLT, Nat.reduceLeDiff, Nat.reduceEqDiff, Nat.not_lt_zero, Nat.lt_irrefl, decide_true, BEq.rfl, nm1, nm2, nm3, nm4, nm9, ngc, eq_self, List.length_cons, List.length_nil, h, hn, h1, foldu]
    exact ih (k + 1) _ (by omega)
theorem c_sum {c n : Nat} (h : c < 10) (hn : cn c = nI n) (hm : n ≤ cap c) : Cw (d + 1) 10 [.ref (co c)] z (Hp X (s, v, g, w, q, ct, cn, cc, di, dr, df, li, la, sf, sl) M) Q ↔ Q (some (.long (foldu (smF (cc c)) 0 n (lN 0)))) z (Hp X (s, v, g, w, q, ct, cn, cc, di, dr, df, li, la, sf, sl) M) := by
  rw [cw_wp]
  simp (disch := omega) only [W10, s_1, cl_0, r_6, s_0, ci_0, r_5, r_2, r_Li, r_4, r_La, h60_0_2, r_49, r_3, r_Ll, h60_0_0, r_26, r_21, s_8, r_In, ci_1, r_52, r_91, h64_cv, enR, LG, LSt, LC, nlR, psR, TK, up_s, up_n, up_u, lt_nI, le_nI, eq_nI, true_and, and_true, if_true, if_false, Nat.zero_add, Nat.add_zero, nI_add, ↓reduceIte, Nat.reduceAdd, Nat.reduceMul, Nat.reduceSub, Nat.reduceLT, Nat.reduceLeDiff, Nat.reduceEqDiff, Nat.not_lt_zero, Nat.lt_irrefl, decide_true, BEq.rfl, nm1, nm2, nm3, nm4, nm9, ngc, eq_self, List.length_cons, List.length_nil, h]
  exact lp_sum h hn hm n 0 (lN 0) (by omega)
def mix64 (h v : Int64) : Int64 := lN 31 * h + v
theorem c_mix {a b : Int64} : Cw (d + 1) 962 [.long a, .long b] z f Q ↔ Q (some (.long (mix64 a b))) z f := by
  rw [cw_wp]
  simp (disch := omega) only [W962, s_1, cl_31, r_3, r_Ll, r_22, r_21, r_91, enR, LG, LSt, LC, nlR, psR, TK, up_s, up_n, up_u, lt_nI, le_nI, eq_nI, true_and, and_true, if_true, if_false, Nat.zero_add, Nat.add_zero, nI_add, ↓reduceIte, Nat.reduceAdd, Nat.reduceMul, Nat.reduceSub, Nat.reduceLT, Nat.reduceLeDiff, Nat.reduceEqDiff, Nat.not_lt_zero, Nat.lt_irrefl, decide_true, BEq.rfl, nm1, nm2, nm3, nm4, nm9, ngc, eq_self, List.length_cons, List.length_nil, mix64]
def mxF (g : Nat → Int32) (j : Nat) (a : Int64) : Int64 := mix64 a (g j).toInt64
theorem lp_mixC {c n : Nat} (h : c < 10) (hn : cn c = nI n) (hm : n ≤ cap c) {a0 : Int64} : ∀ (p k : Nat) (a : Int64), k + p = n → (Wp (d + 1) 11 26 [some (.ref (co c)), some (.long a0), none, some (.long a), none, some (.int (nI k))] [] z (Hp X (s, v, g, w, q, ct, cn, cc, di, dr, df, li, la, sf, sl) M) Q ↔ Q (some (.long (foldu (mxF (cc c)) k p a))) z (Hp X (s, v, g, w, q, ct, cn, cc, di, dr, df, li, la, sf, sl) M)) := by
  have h8 : cap c ≤ 80 := by unfold cap; split <;> omega
  intro p
  induction p with
  | zero =>
    intro k a hk
    have hk : k = n := by omega
    subst hk
    rw [W11_26]
    simp (disch := omega) only [W11, r_3, r_Ll, r_4, r_La, h60_0_1, s_40, h60_0_2, r_26, r_52, s_1, cl_m1, h80_962, r_6, s_0, ci_0, r_5, r_2, r_Li, r_49, h60_0_0, s_8, r_In, ci_1, r_91, h64_cv, enR, LG, LSt, LC, nlR, psR, TK, up_s, up_n, up_u, lt_nI, le_nI, eq_nI, true_and, and_true, if_true, if_false, Nat.zero_add, Nat.add_zero, nI_add, ↓reduceIte, Nat.reduceAdd, Nat.reduceMul, Nat.reduceSub, Nat.reduceLT, Nat.reduceLeDiff, Nat.reduceEqDiff, Nat.not_lt_zero, Nat.lt_irrefl, decide_true, BEq.rfl, nm1, nm2, nm3, nm4, nm9, ngc, eq_self, List.length_cons, List.length_nil, h, hn, foldu]
  | succ p ih =>
    intro k a hk
    have h1 : k < n := by omega
    rw [W11_26]
    simp (disch := omega) only [W11, r_3, r_Ll, r_4, r_La, h60_0_1, s_40, h60_0_2, r_26, r_52, s_1, cl_m1, h80_962, r_6, s_0, ci_0, r_5, r_2, r_Li, r_49, h60_0_0, s_8, r_In, ci_1, r_91, h64_cv, enR, LG, LSt, LC, nlR, psR, TK, up_s, up_n, up_u, lt_nI, le_nI, eq_nI, true_and, and_true, if_true, if_false, Nat.zero_add, Nat.add_zero, nI_add, ↓reduceIte, Nat.reduceAdd, Nat.reduceMul, Nat.reduceSub, Nat.reduceLT, Nat.reduceLeDiff, Nat.reduceEqDiff, Nat.not_lt_zero, Nat.lt_irrefl, decide_true, BEq.rfl, nm1, nm2, nm3, nm4, nm9, ngc, eq_self, List.length_cons, List.length_nil, h, hn, h1, foldu, c_mix]
    exact ih (k + 1) _ (by omega)
theorem c_mixC {c n : Nat} {a0 : Int64} (h : c < 10) (hn : cn c = nI n) (hm : n ≤ cap c) (hth : ct c = nI 0 ∨ ct c = nI 1) : Cw (d + 2) 11 [.ref (co c), .long a0] z (Hp X (s, v, g, w, q, ct, cn, cc, di, dr, df, li, la, sf, sl) M) Q ↔ Q (some (.long (foldu (mxF (cc c)) 0 n (mix64 a0 (if ct c = nI 0 then -1 else (nI n).toInt64))))) z (Hp X (s, v, g, w, q, ct, cn, cc, di, dr, df, li, la, sf, sl) M) := by
  rw [cw_wp]
  rcases hth with h1 | h1
  · simp (disch := omega) only [W11, r_3, r_Ll, r_4, r_La, h60_0_1, s_40, h60_0_2, r_26, r_52, s_1, cl_m1, h80_962, r_6, s_0, ci_0, r_5, r_2, r_Li, r_49, h60_0_0, s_8, r_In, ci_1, r_91, h64_cv, enR, LG, LSt, LC, nlR, psR, TK, up_s, up_n, up_u, lt_nI, le_nI, eq_nI, true_and, and_true, if_true, if_false, Nat.zero_add, Nat.add_zero, nI_add, ↓reduceIte, Nat.reduceAdd, Nat.reduceMul, Nat.reduceSub, Nat.reduceLT, Nat.reduceLeDiff, Nat.reduceEqDiff, Nat.not_lt_zero, Nat.lt_irrefl, decide_true, BEq.rfl, nm1, nm2, nm3, nm4, nm9, ngc, eq_self, List.length_cons, List.length_nil, h, h1, c_mix]
    exact lp_mixC h hn hm n 0 _ (by omega)
  · simp (disch := omega) only [W11, r_3, r_Ll, r_4, r_La, h60_0_1, s_40, h60_0_2, r_26, r_52, s_1, cl_m1, h80_962, r_6, s_0, ci_0, r_5, r_2, r_Li, r_49, h60_0_0, s_8, r_In, ci_1, r_91, h64_cv, enR, LG, LSt, LC, nlR, psR, TK, up_s, up_n, up_u, lt_nI, le_nI, eq_nI, true_and, and_true, if_true, if_false, Nat.zero_add, Nat.add_zero, nI_add, ↓reduceIte, Nat.reduceAdd, Nat.reduceMul, Nat.reduceSub, Nat.reduceLT, Nat.reduceLeDiff, Nat.reduceEqDiff, Nat.not_lt_zero, Nat.lt_irrefl, decide_true, BEq.rfl, nm1, nm2, nm3, nm4, nm9, ngc, eq_self, List.length_cons, List.length_nil, h, h1, hn, c_mix]
    exact lp_mixC h hn hm n 0 _ (by omega)
end
/-! Land -/
/-- the class's LAND -/
def CLn (φ : Nat → Int32) (ψ : Nat → Nat → Int32) (P N : Nat) (K O T J : Nat → Nat) : Prop := φ 0 = nI P ∧ φ 1 = nI N ∧ ∀ i, i < N → ψ 0 i = nI (K i) ∧ ψ 1 i = nI (O i) ∧ ψ 2 i = nI (T i) ∧ ψ 3 i = nI (J i)
section
variable {d : Nat} {z : AZ} {f : AH} {Q : Option Value → AZ → AH → Prop} {X : Nat × (Nat → Int32)} {M : MT} {s : Nat → Int32} {v : Nat → Int64} {g : Nat → Nat → Int32} {w : Nat → Nat → Int64} {q : Nat → Nat} {ct cn : Nat → Int32} {cc di dr df li : Nat → Nat → Int32} {la : Nat → Nat → Nat → Int32} {sf sl : Nat → Nat → Int32} {l P N W : Nat} {K O T J : Nat → Nat}
theorem c_hasPlace {x : Int32} (hl : l < 2) (h : CLn (li l) (la l) P N K O T J) : Cw (d + 1) 303 [.ref (lo l), .int x] z (Hp X (s, v, g, w, q, ct, cn, cc, di, dr, df, li, la, sf, sl) M) Q ↔ Q (some (.int (if x < nI 0 then nI 0 else if x < nI P then nI 1 else nI 0))) z (Hp X (s, v, g, w, q, ct, cn, cc, di, dr, df, li, la, sf, sl) M) := by
  have h0 := h.1
  rw [cw_wp]
  by_cases h1 : x < nI 0
  · simp (disch := omega) only [W303, r_2, r_Li, s_42, r_4, r_La, h60_3_4, r_49, s_0, ci_1, r_52, ci_0, r_94, s_Z0, s_Z1, enR, LG, LSt, LC, nlR, psR, TK, up_s, up_n, up_u, lt_nI, le_nI, eq_nI, true_and, and_true, if_true, if_false, Nat.zero_add, Nat.add_zero, nI_add, ↓reduceIte, Nat.reduceAdd, Nat.reduceMul, Nat.reduceSub, Nat.reduceLT, Nat.reduceLeDiff, Nat.reduceEqDiff, Nat.not_lt_zero, Nat.lt_irrefl, decide_true, BEq.rfl, nm1, nm2, nm3, nm4, nm9, ngc, eq_self, List.length_cons, List.length_nil, hl, h0, h1]
  · by_cases h2 : x < nI P <;> simp (disch := omega) only [W303, r_2, r_Li, s_42, r_4, r_La, h60_3_4, r_49, s_0, ci_1, r_52, ci_0, r_94, s_Z0, s_Z1, enR, LG, LSt, LC, nlR, psR, TK, up_s, up_n, up_u, lt_nI, le_nI, eq_nI, true_and, and_true, if_true, if_false, Nat.zero_add, Nat.add_zero, nI_add, ↓reduceIte, Nat.reduceAdd, Nat.reduceMul, Nat.reduceSub, Nat.reduceLT, Nat.reduceLeDiff, Nat.reduceEqDiff, Nat.not_lt_zero, Nat.lt_irrefl, decide_true, BEq.rfl, nm1, nm2, nm3, nm4, nm9, ngc, eq_self, List.length_cons, List.length_nil, hl, h0, h1, h2]
theorem c_hasRoad {x : Int32} (hl : l < 2) (h : CLn (li l) (la l) P N K O T J) : Cw (d + 1) 304 [.ref (lo l), .int x] z (Hp X (s, v, g, w, q, ct, cn, cc, di, dr, df, li, la, sf, sl) M) Q ↔ Q (some (.int (if x < nI 0 then nI 0 else if x < nI N then nI 1 else nI 0))) z (Hp X (s, v, g, w, q, ct, cn, cc, di, dr, df, li, la, sf, sl) M) := by
  have h0 := h.2.1
  rw [cw_wp]
  by_cases h1 : x < nI 0
  · simp (disch := omega) only [W304, r_2, r_Li, s_42, r_4, r_La, h60_3_5, r_49, s_0, ci_1, r_52, ci_0, r_94, s_Z0, s_Z1, enR, LG, LSt, LC, nlR, psR, TK, up_s, up_n, up_u, lt_nI, le_nI, eq_nI, true_and, and_true, if_true, if_false, Nat.zero_add, Nat.add_zero, nI_add, ↓reduceIte, Nat.reduceAdd, Nat.reduceMul, Nat.reduceSub, Nat.reduceLT, Nat.reduceLeDiff, Nat.reduceEqDiff, Nat.not_lt_zero, Nat.lt_irrefl, decide_true, BEq.rfl, nm1, nm2, nm3, nm4, nm9, ngc, eq_self, List.length_cons, List.length_nil, hl, h0, h1]
  · by_cases h2 : x < nI N <;> simp (disch := omega) only [W304, r_2, r_Li, s_42, r_4, r_La, h60_3_5, r_49, s_0, ci_1, r_52, ci_0, r_94, s_Z0, s_Z1, enR, LG, LSt, LC, nlR, psR, TK, up_s, up_n, up_u, lt_nI, le_nI, eq_nI, true_and, and_true, if_true, if_false, Nat.zero_add, Nat.add_zero, nI_add, ↓reduceIte, Nat.reduceAdd, Nat.reduceMul, Nat.reduceSub, Nat.reduceLT, Nat.reduceLeDiff, Nat.reduceEqDiff, Nat.not_lt_zero, Nat.lt_irrefl, decide_true, BEq.rfl, nm1, nm2, nm3, nm4, nm9, ngc, eq_self, List.length_cons, List.length_nil, hl, h0, h1, h2]
theorem c_hasRoadn {i : Nat} (hl : l < 2) (h : CLn (li l) (la l) P N K O T J) (hi : i < N) (hN : N ≤ 10) : Cw (d + 1) 304 [.ref (lo l), .int (nI i)] z (Hp X (s, v, g, w, q, ct, cn, cc, di, dr, df, li, la, sf, sl) M) Q ↔ Q (some (.int (nI 1))) z (Hp X (s, v, g, w, q, ct, cn, cc, di, dr, df, li, la, sf, sl) M) := by
  rw [c_hasRoad hl h]
  simp (disch := omega) only [lt_nI, Nat.not_lt_zero, if_false, hi, if_true]
theorem c_allPlaces (hl : l < 2) (h : CLn (li l) (la l) P N K O T J) (hP : P ≤ 7) : Cw (d + 1) 305 [.ref (lo l)] z (Hp X (s, v, g, w, q, ct, cn, cc, di, dr, df, li, la, sf, sl) M) Q ↔ Q (some (.int (nI (2 ^ P - 1)))) z (Hp X (s, v, g, w, q, ct, cn, cc, di, dr, df, li, la, sf, sl) M) := by
  have h0 := h.1
  have h2 := Nat.two_pow_pos P
  rw [cw_wp]
  simp (disch := omega) only [W305, s_0, ci_1, r_4, r_La, h60_3_4, r_18, r_11, r_90, enR, LG, LSt, LC, nlR, psR, TK, up_s, up_n, up_u, lt_nI, le_nI, eq_nI, true_and, and_true, if_true, if_false, Nat.zero_add, Nat.add_zero, nI_add, ↓reduceIte, Nat.reduceAdd, Nat.reduceMul, Nat.reduceSub, Nat.reduceLT, Nat.reduceLeDiff, Nat.reduceEqDiff, Nat.not_lt_zero, Nat.lt_irrefl, decide_true, BEq.rfl, nm1, nm2, nm3, nm4, nm9, ngc, eq_self, List.length_cons, List.length_nil, hl, h0, nI_bit, nI_sub]
theorem c_lead {i p : Nat} (hl : l < 2) (h : CLn (li l) (la l) P N K O T J) (hb : LB P N W K O T J) (hi : i < N) (hp : p < 65536) : Cw (d + 2) 306 [.ref (lo l), .int (nI i), .int (nI p)] z (Hp X (s, v, g, w, q, ct, cn, cc, di, dr, df, li, la, sf, sl) M) Q ↔ Q (some (.int (o2i (-1) (ldm K O T i p)))) z (Hp X (s, v, g, w, q, ct, cn, cc, di, dr, df, li, la, sf, sl) M) := by
  obtain ⟨hP, hN, hW1, hW2, hv⟩ := hb
  obtain ⟨b1, b2, b3, b4⟩ := hv i hi
  obtain ⟨e1, e2, e3, e4⟩ := h.2.2 i hi
  rw [cw_wp]
  by_cases q1 : O i = p
  · simp (disch := omega) only [W306, r_4, r_La, r_2, r_Li, h79_304, s_41, s_0, ci_m1, r_90, h60_3_1, r_47, h60_3_2, h60_3_0, ci_4, r_46, r_52, h64_la0, h64_la1, h64_la2, enR, LG, LSt, LC, nlR, psR, TK, up_s, up_n, up_u, lt_nI, le_nI, eq_nI, true_and, and_true, if_true, if_false, Nat.zero_add, Nat.add_zero, nI_add, ↓reduceIte, Nat.reduceAdd, Nat.reduceMul, Nat.reduceSub, Nat.reduceLT, Nat.reduceLeDiff, Nat.reduceEqDiff, Nat.not_lt_zero, Nat.lt_irrefl, decide_true, BEq.rfl, nm1, nm2, nm3, nm4, nm9, ngc, eq_self, List.length_cons, List.length_nil, hl, e1, e2, e3, e4, q1, c_hasRoadn hl h hi hN, ldm, o2i]
  · by_cases q2 : T i = p
    · by_cases q3 : K i = 4
      · simp (disch := omega) only [W306, r_4, r_La, r_2, r_Li, h79_304, s_41, s_0, ci_m1, r_90, h60_3_1, r_47, h60_3_2, h60_3_0, ci_4, r_46, r_52, h64_la0, h64_la1, h64_la2, enR, LG, LSt, LC, nlR, psR, TK, up_s, up_n, up_u, lt_nI, le_nI, eq_nI, true_and, and_true, if_true, if_false, Nat.zero_add, Nat.add_zero, nI_add, ↓reduceIte, Nat.reduceAdd, Nat.reduceMul, Nat.reduceSub, Nat.reduceLT, Nat.reduceLeDiff, Nat.reduceEqDiff, Nat.not_lt_zero, Nat.lt_irrefl, decide_true, BEq.rfl, nm1, nm2, nm3, nm4, nm9, ngc, eq_self, List.length_cons, List.length_nil, hl, e1, e2, e3, e4, q1, q2, q3, c_hasRoadn hl h hi hN, ldm, o2i, ne_eq, not_true, and_false]
      · simp (disch := omega) only [W306, r_4, r_La, r_2, r_Li, h79_304, s_41, s_0, ci_m1, r_90, h60_3_1, r_47, h60_3_2, h60_3_0, ci_4, r_46, r_52, h64_la0, h64_la1, h64_la2, enR, LG, LSt, LC, nlR, psR, TK, up_s, up_n, up_u, lt_nI, le_nI, eq_nI, true_and, and_true, if_true, if_false, Nat.zero_add, Nat.add_zero, nI_add, ↓reduceIte, Nat.reduceAdd, Nat.reduceMul, Nat.reduceSub, Nat.reduceLT, Nat.reduceLeDiff, Nat.reduceEqDiff, Nat.not_lt_zero, Nat.lt_irrefl, decide_true, BEq.rfl, nm1, nm2, nm3, nm4, nm9, ngc, eq_self, List.length_cons, List.length_nil, hl, e1, e2, e3, e4, q1, q2, q3, c_hasRoadn hl h hi hN, ldm, o2i, ne_eq, not_false_iff, and_self]
    · simp (disch := omega) only [W306, r_4, r_La, r_2, r_Li, h79_304, s_41, s_0, ci_m1, r_90, h60_3_1, r_47, h60_3_2, h60_3_0, ci_4, r_46, r_52, h64_la0, h64_la1, h64_la2, enR, LG, LSt, LC, nlR, psR, TK, up_s, up_n, up_u, lt_nI, le_nI, eq_nI, true_and, and_true, if_true, if_false, Nat.zero_add, Nat.add_zero, nI_add, ↓reduceIte, Nat.reduceAdd, Nat.reduceMul, Nat.reduceSub, Nat.reduceLT, Nat.reduceLeDiff, Nat.reduceEqDiff, Nat.not_lt_zero, Nat.lt_irrefl, decide_true, BEq.rfl, nm1, nm2, nm3, nm4, nm9, ngc, eq_self, List.length_cons, List.length_nil, hl, e1, e2, e3, e4, q1, q2, c_hasRoadn hl h hi hN, ldm, o2i, false_and]
def laF (K O T : Nat → Nat) (i S : Nat) : Nat := (if S.testBit (O i) = true then 2 ^ T i else 0) ||| (if S.testBit (T i) = true ∧ K i ≠ 4 then 2 ^ O i else 0)
theorem c_leadAll {i S : Nat} (hl : l < 2) (h : CLn (li l) (la l) P N K O T J) (hb : LB P N W K O T J) (hi : i < N) : Cw (d + 2) 307 [.ref (lo l), .int (nI i), .int (nI S)] z (Hp X (s, v, g, w, q, ct, cn, cc, di, dr, df, li, la, sf, sl) M) Q ↔ Q (some (.int (nI (laF K O T i S)))) z (Hp X (s, v, g, w, q, ct, cn, cc, di, dr, df, li, la, sf, sl) M) := by
  obtain ⟨hP, hN, hW1, hW2, hv⟩ := hb
  obtain ⟨b1, b2, b3, b4⟩ := hv i hi
  obtain ⟨e1, e2, e3, e4⟩ := h.2.2 i hi
  rw [cw_wp]
  by_cases q1 : S.testBit (O i) = true
  · by_cases q2 : S.testBit (T i) = true
    · by_cases q3 : K i = 4
      · simp (disch := omega) only [W307, r_4, r_La, r_2, r_Li, h79_304, s_41, s_0, ci_0, r_90, r_5, ci_1, h60_3_1, r_18, r_15, s_40, h60_3_2, r_16, h60_3_0, ci_4, r_46, h64_la0, h64_la1, h64_la2, enR, LG, LSt, LC, nlR, psR, TK, up_s, up_n, up_u, lt_nI, le_nI, eq_nI, true_and, and_true, if_true, if_false, Nat.zero_add, Nat.add_zero, nI_add, ↓reduceIte, Nat.reduceAdd, Nat.reduceMul, Nat.reduceSub, Nat.reduceLT, Nat.reduceLeDiff, Nat.reduceEqDiff, Nat.not_lt_zero, Nat.lt_irrefl, decide_true, BEq.rfl, nm1, nm2, nm3, nm4, nm9, ngc, eq_self, List.length_cons, List.length_nil, hl, e1, e2, e3, q1, q2, q3, c_hasRoadn hl h hi hN, nI_bit, nI_and, nI_or, bitz, laF, ne_eq, not_true, and_false, Bool.true_eq_false, Nat.zero_or, Nat.or_zero]
      · simp (disch := omega) only [W307, r_4, r_La, r_2, r_Li, h79_304, s_41, s_0, ci_0, r_90, r_5, ci_1, h60_3_1, r_18, r_15, s_40, h60_3_2, r_16, h60_3_0, ci_4, r_46, h64_la0, h64_la1, h64_la2, enR, LG, LSt, LC, nlR, psR, TK, up_s, up_n, up_u, lt_nI, le_nI, eq_nI, true_and, and_true, if_true, if_false, Nat.zero_add, Nat.add_zero, nI_add, ↓reduceIte, Nat.reduceAdd, Nat.reduceMul, Nat.reduceSub, Nat.reduceLT, Nat.reduceLeDiff, Nat.reduceEqDiff, Nat.not_lt_zero, Nat.lt_irrefl, decide_true, BEq.rfl, nm1, nm2, nm3, nm4, nm9, ngc, eq_self, List.length_cons, List.length_nil, hl, e1, e2, e3, q1, q2, q3, c_hasRoadn hl h hi hN, nI_bit, nI_and, nI_or, bitz, laF, ne_eq, not_false_iff, and_self, Bool.true_eq_false, Nat.zero_or, Nat.or_zero]
    · simp (disch := omega) only [W307, r_4, r_La, r_2, r_Li, h79_304, s_41, s_0, ci_0, r_90, r_5, ci_1, h60_3_1, r_18, r_15, s_40, h60_3_2, r_16, h60_3_0, ci_4, r_46, h64_la0, h64_la1, h64_la2, enR, LG, LSt, LC, nlR, psR, TK, up_s, up_n, up_u, lt_nI, le_nI, eq_nI, true_and, and_true, if_true, if_false, Nat.zero_add, Nat.add_zero, nI_add, ↓reduceIte, Nat.reduceAdd, Nat.reduceMul, Nat.reduceSub, Nat.reduceLT, Nat.reduceLeDiff, Nat.reduceEqDiff, Nat.not_lt_zero, Nat.lt_irrefl, decide_true, BEq.rfl, nm1, nm2, nm3, nm4, nm9, ngc, eq_self, List.length_cons, List.length_nil, hl, e1, e2, e3, q1, q2, c_hasRoadn hl h hi hN, nI_bit, nI_and, nI_or, bitz, laF, ne_eq, false_and, Bool.true_eq_false, Nat.zero_or, Nat.or_zero, Bool.false_eq_true]
  · by_cases q2 : S.testBit (T i) = true
    · by_cases q3 : K i = 4
      · simp (disch := omega) only [W307, r_4, r_La, r_2, r_Li, h79_304, s_41, s_0, ci_0, r_90, r_5, ci_1, h60_3_1, r_18, r_15, s_40, h60_3_2, r_16, h60_3_0, ci_4, r_46, h64_la0, h64_la1, h64_la2, enR, LG, LSt, LC, nlR, psR, TK, up_s, up_n, up_u, lt_nI, le_nI, eq_nI, true_and, and_true, if_true, if_false, Nat.zero_add, Nat.add_zero, nI_add, ↓reduceIte, Nat.reduceAdd, Nat.reduceMul, Nat.reduceSub, Nat.reduceLT, Nat.reduceLeDiff, Nat.reduceEqDiff, Nat.not_lt_zero, Nat.lt_irrefl, decide_true, BEq.rfl, nm1, nm2, nm3, nm4, nm9, ngc, eq_self, List.length_cons, List.length_nil, hl, e1, e2, e3, q1, q2, q3, c_hasRoadn hl h hi hN, nI_bit, nI_and, nI_or, bitz, laF, ne_eq, not_true, and_false, Bool.true_eq_false, Nat.zero_or, Nat.or_zero, Bool.false_eq_true]
      · simp (disch := omega) only [W307, r_4, r_La, r_2, r_Li, h79_304, s_41, s_0, ci_0, r_90, r_5, ci_1, h60_3_1, r_18, r_15, s_40, h60_3_2, r_16, h60_3_0, ci_4, r_46, h64_la0, h64_la1, h64_la2, enR, LG, LSt, LC, nlR, psR, TK, up_s, up_n, up_u, lt_nI, le_nI, eq_nI, true_and, and_true, if_true, if_false, Nat.zero_add, Nat.add_zero, nI_add, ↓reduceIte, Nat.reduceAdd, Nat.reduceMul, Nat.reduceSub, Nat.reduceLT, Nat.reduceLeDiff, Nat.reduceEqDiff, Nat.not_lt_zero, Nat.lt_irrefl, decide_true, BEq.rfl, nm1, nm2, nm3, nm4, nm9, ngc, eq_self, List.length_cons, List.length_nil, hl, e1, e2, e3, q1, q2, q3, c_hasRoadn hl h hi hN, nI_bit, nI_and, nI_or, bitz, laF, ne_eq, not_false_iff, and_self, Bool.true_eq_false, Nat.zero_or, Nat.or_zero, Bool.false_eq_true]
    · simp (disch := omega) only [W307, r_4, r_La, r_2, r_Li, h79_304, s_41, s_0, ci_0, r_90, r_5, ci_1, h60_3_1, r_18, r_15, s_40, h60_3_2, r_16, h60_3_0, ci_4, r_46, h64_la0, h64_la1, h64_la2, enR, LG, LSt, LC, nlR, psR, TK, up_s, up_n, up_u, lt_nI, le_nI, eq_nI, true_and, and_true, if_true, if_false, Nat.zero_add, Nat.add_zero, nI_add, ↓reduceIte, Nat.reduceAdd, Nat.reduceMul, Nat.reduceSub, Nat.reduceLT, Nat.reduceLeDiff, Nat.reduceEqDiff, Nat.not_lt_zero, Nat.lt_irrefl, decide_true, BEq.rfl, nm1, nm2, nm3, nm4, nm9, ngc, eq_self, List.length_cons, List.length_nil, hl, e1, e2, e3, q1, q2, c_hasRoadn hl h hi hN, nI_bit, nI_and, nI_or, bitz, laF, ne_eq, false_and, Bool.true_eq_false, Nat.zero_or, Nat.or_zero, Bool.false_eq_true]
/-- ROADS that can be driven from p, PLACES to which they lead -/
def rdsF (K O T : Nat → Nat) (p i s : Nat) : Nat := match ldm K O T i p with
  | none => s
  | some _ => s ||| 2 ^ i
def plsF (K O T : Nat → Nat) (p i s : Nat) : Nat := match ldm K O T i p with
  | none => s
  | some q => s ||| 2 ^ q
theorem lp_roadsFrom {p : Nat} (hl : l < 2) (h : CLn (li l) (la l) P N K O T J) (hb : LB P N W K O T J) (hp : p < 65536) : ∀ (j k s0 : Nat), k + j = N → (Wp (d + 2) 308 4 [some (.ref (lo l)), some (.int (nI p)), some (.int (nI s0)), some (.int (nI k))] [] z (Hp X (s, v, g, w, q, ct, cn, cc, di, dr, df, li, la, sf, sl) M) Q ↔ Q (some (.int (nI (foldu (rdsF K O T p) k j s0)))) z (Hp X (s, v, g, w, q, ct, cn, cc, di, dr, df, li, la, sf, sl) M)) := by
  have hN := hb.2.1
  have hP := hb.1
  have h0 := h.2.1
  intro j
  induction j with
  | zero =>
    intro k s0 hk
    have hk : k = N := by omega
    subst hk
    rw [W308_4]
    simp (disch := omega) only [W308, s_0, ci_0, r_5, r_2, r_Li, r_4, r_La, h60_3_5, r_49, h79_306, ci_m1, r_46, ci_1, r_18, r_16, s_8, r_In, r_52, r_90, enR, LG, LSt, LC, nlR, psR, TK, up_s, up_n, up_u, lt_nI, le_nI, eq_nI, true_and, and_true, if_true, if_false, Nat.zero_add, Nat.add_zero, nI_add, ↓reduceIte, Nat.reduceAdd, Nat.reduceMul, Nat.reduceSub, Nat.reduceLT, Nat.reduceLeDiff, Nat.reduceEqDiff, Nat.not_lt_zero, Nat.lt_irrefl, decide_true, BEq.rfl, nm1, nm2, nm3, nm4, nm9, ngc, eq_self, List.length_cons, List.length_nil, hl, h0, foldu]
  | succ j ih =>
    intro k s0 hk
    have h1 : k < N := by omega
    rw [W308_4]
    cases hd : ldm K O T k p with
    | none =>
      simp (disch := omega) only [W308, s_0, ci_0, r_5, r_2, r_Li, r_4, r_La, h60_3_5, r_49, h79_306, ci_m1, r_46, ci_1, r_18, r_16, s_8, r_In, r_52, r_90, enR, LG, LSt, LC, nlR, psR, TK, up_s, up_n, up_u, lt_nI, le_nI, eq_nI, true_and, and_true, if_true, if_false, Nat.zero_add, Nat.add_zero, nI_add, ↓reduceIte, Nat.reduceAdd, Nat.reduceMul, Nat.reduceSub, Nat.reduceLT, Nat.reduceLeDiff, Nat.reduceEqDiff, Nat.not_lt_zero, Nat.lt_irrefl, decide_true, BEq.rfl, nm1, nm2, nm3, nm4, nm9, ngc, eq_self, List.length_cons, List.length_nil, hl, h0, h1, foldu, rdsF, hd, c_lead hl h hb h1 hp, o2i]
      exact ih (k + 1) _ (by omega)
    | some w =>
      have hw := ldm_lt hb h1 hd
      simp (disch := omega) only [W308, s_0, ci_0, r_5, r_2, r_Li, r_4, r_La, h60_3_5, r_49, h79_306, ci_m1, r_46, ci_1, r_18, r_16, s_8, r_In, r_52, r_90, enR, LG, LSt, LC, nlR, psR, TK, up_s, up_n, up_u, lt_nI, le_nI, eq_nI, true_and, and_true, if_true, if_false, Nat.zero_add, Nat.add_zero, nI_add, ↓reduceIte, Nat.reduceAdd, Nat.reduceMul, Nat.reduceSub, Nat.reduceLT, Nat.reduceLeDiff, Nat.reduceEqDiff, Nat.not_lt_zero, Nat.lt_irrefl, decide_true, BEq.rfl, nm1, nm2, nm3, nm4, nm9, ngc, eq_self, List.length_cons, List.length_nil, hl, h0, h1, foldu, rdsF, hd, c_lead hl h hb h1 hp, o2i, nI_bit, nI_or]
      exact ih (k + 1) _ (by omega)
theorem c_roadsFrom {p : Nat} (hl : l < 2) (h : CLn (li l) (la l) P N K O T J) (hb : LB P N W K O T J) (hp : p < 65536) : Cw (d + 3) 308 [.ref (lo l), .int (nI p)] z (Hp X (s, v, g, w, q, ct, cn, cc, di, dr, df, li, la, sf, sl) M) Q ↔ Q (some (.int (nI (foldu (rdsF K O T p) 0 N 0)))) z (Hp X (s, v, g, w, q, ct, cn, cc, di, dr, df, li, la, sf, sl) M) := by
  rw [cw_wp]
  simp (disch := omega) only [W308, s_0, ci_0, r_5, r_2, r_Li, r_4, r_La, h60_3_5, r_49, h79_306, ci_m1, r_46, ci_1, r_18, r_16, s_8, r_In, r_52, r_90, enR, LG, LSt, LC, nlR, psR, TK, up_s, up_n, up_u, lt_nI, le_nI, eq_nI, true_and, and_true, if_true, if_false, Nat.zero_add, Nat.add_zero, nI_add, ↓reduceIte, Nat.reduceAdd, Nat.reduceMul, Nat.reduceSub, Nat.reduceLT, Nat.reduceLeDiff, Nat.reduceEqDiff, Nat.not_lt_zero, Nat.lt_irrefl, decide_true, BEq.rfl, nm1, nm2, nm3, nm4, nm9, ngc, eq_self, List.length_cons, List.length_nil, hl]
  exact lp_roadsFrom hl h hb hp N 0 _ (by omega)
theorem lp_placesFrom {p : Nat} (hl : l < 2) (h : CLn (li l) (la l) P N K O T J) (hb : LB P N W K O T J) (hp : p < 65536) : ∀ (j k s0 : Nat), k + j = N → (Wp (d + 2) 309 4 [some (.ref (lo l)), some (.int (nI p)), some (.int (nI s0)), some (.int (nI k))] [] z (Hp X (s, v, g, w, q, ct, cn, cc, di, dr, df, li, la, sf, sl) M) Q ↔ Q (some (.int (nI (foldu (plsF K O T p) k j s0)))) z (Hp X (s, v, g, w, q, ct, cn, cc, di, dr, df, li, la, sf, sl) M)) := by
  have hN := hb.2.1
  have hP := hb.1
  have h0 := h.2.1
  intro j
  induction j with
  | zero =>
    intro k s0 hk
    have hk : k = N := by omega
    subst hk
    rw [W309_4]
    simp (disch := omega) only [W309, s_0, ci_0, r_5, r_2, r_Li, r_4, r_La, h60_3_5, r_49, h79_306, ci_m1, r_46, ci_1, r_18, r_16, s_8, r_In, r_52, r_90, enR, LG, LSt, LC, nlR, psR, TK, up_s, up_n, up_u, lt_nI, le_nI, eq_nI, true_and, and_true, if_true, if_false, Nat.zero_add, Nat.add_zero, nI_add, ↓reduceIte, Nat.reduceAdd, Nat.reduceMul, Nat.reduceSub, Nat.reduceLT, Nat.reduceLeDiff, Nat.reduceEqDiff, Nat.not_lt_zero, Nat.lt_irrefl, decide_true, BEq.rfl, nm1, nm2, nm3, nm4, nm9, ngc, eq_self, List.length_cons, List.length_nil, hl, h0, foldu]
  | succ j ih =>
    intro k s0 hk
    have h1 : k < N := by omega
    rw [W309_4]
    cases hd : ldm K O T k p with
    | none =>
      simp (disch := omega) only [W309, s_0, ci_0, r_5, r_2, r_Li, r_4, r_La, h60_3_5, r_49, h79_306, ci_m1, r_46, ci_1, r_18, r_16, s_8, r_In, r_52, r_90, enR, LG, LSt, LC, nlR, psR, TK, up_s, up_n, up_u, lt_nI, le_nI, eq_nI, true_and, and_true, if_true, if_false, Nat.zero_add, Nat.add_zero, nI_add, ↓reduceIte, Nat.reduceAdd, Nat.reduceMul, Nat.reduceSub, Nat.reduceLT, Nat.reduceLeDiff, Nat.reduceEqDiff, Nat.not_lt_zero, Nat.lt_irrefl, decide_true, BEq.rfl, nm1, nm2, nm3, nm4, nm9, ngc, eq_self, List.length_cons, List.length_nil, hl, h0, h1, foldu, plsF, hd, c_lead hl h hb h1 hp, o2i]
      exact ih (k + 1) _ (by omega)
    | some w =>
      have hw := ldm_lt hb h1 hd
      simp (disch := omega) only [W309, s_0, ci_0, r_5, r_2, r_Li, r_4, r_La, h60_3_5, r_49, h79_306, ci_m1, r_46, ci_1, r_18, r_16, s_8, r_In, r_52, r_90, enR, LG, LSt, LC, nlR, psR, TK, up_s, up_n, up_u, lt_nI, le_nI, eq_nI, true_and, and_true, if_true, if_false, Nat.zero_add, Nat.add_zero, nI_add, ↓reduceIte, Nat.reduceAdd, Nat.reduceMul, Nat.reduceSub, Nat.reduceLT, Nat.reduceLeDiff, Nat.reduceEqDiff, Nat.not_lt_zero, Nat.lt_irrefl, decide_true, BEq.rfl, nm1, nm2, nm3, nm4, nm9, ngc, eq_self, List.length_cons, List.length_nil, hl, h0, h1, foldu, plsF, hd, c_lead hl h hb h1 hp, o2i, nI_bit, nI_or]
      exact ih (k + 1) _ (by omega)
theorem c_placesFrom {p : Nat} (hl : l < 2) (h : CLn (li l) (la l) P N K O T J) (hb : LB P N W K O T J) (hp : p < 65536) : Cw (d + 3) 309 [.ref (lo l), .int (nI p)] z (Hp X (s, v, g, w, q, ct, cn, cc, di, dr, df, li, la, sf, sl) M) Q ↔ Q (some (.int (nI (foldu (plsF K O T p) 0 N 0)))) z (Hp X (s, v, g, w, q, ct, cn, cc, di, dr, df, li, la, sf, sl) M) := by
  rw [cw_wp]
  simp (disch := omega) only [W309, s_0, ci_0, r_5, r_2, r_Li, r_4, r_La, h60_3_5, r_49, h79_306, ci_m1, r_46, ci_1, r_18, r_16, s_8, r_In, r_52, r_90, enR, LG, LSt, LC, nlR, psR, TK, up_s, up_n, up_u, lt_nI, le_nI, eq_nI, true_and, and_true, if_true, if_false, Nat.zero_add, Nat.add_zero, nI_add, ↓reduceIte, Nat.reduceAdd, Nat.reduceMul, Nat.reduceSub, Nat.reduceLT, Nat.reduceLeDiff, Nat.reduceEqDiff, Nat.not_lt_zero, Nat.lt_irrefl, decide_true, BEq.rfl, nm1, nm2, nm3, nm4, nm9, ngc, eq_self, List.length_cons, List.length_nil, hl]
  exact lp_placesFrom hl h hb hp N 0 _ (by omega)
theorem c_isOf {i k : Nat} (hl : l < 2) (h : CLn (li l) (la l) P N K O T J) (hb : LB P N W K O T J) (hi : i < N) (hk : k < 65536) : Cw (d + 2) 310 [.ref (lo l), .int (nI i), .int (nI k)] z (Hp X (s, v, g, w, q, ct, cn, cc, di, dr, df, li, la, sf, sl) M) Q ↔ Q (some (.int (if isb (K i) k = true then nI 1 else nI 0))) z (Hp X (s, v, g, w, q, ct, cn, cc, di, dr, df, li, la, sf, sl) M) := by
  obtain ⟨hP, hN, hW1, hW2, hv⟩ := hb
  obtain ⟨b1, b2, b3, b4⟩ := hv i hi
  obtain ⟨e1, e2, e3, e4⟩ := h.2.2 i hi
  rw [cw_wp]
  simp only [isb, decide_eq_true_eq]
  by_cases q1 : k = K i
  · simp (disch := omega) only [W310, r_4, r_La, r_2, r_Li, h79_304, s_41, s_0, ci_0, r_94, s_Z0, s_Z1, h60_3_0, r_5, r_46, ci_1, r_47, ci_5, ci_2, ci_4, r_52, h64_la0, enR, LG, LSt, LC, nlR, psR, TK, up_s, up_n, up_u, lt_nI, le_nI, eq_nI, true_and, and_true, if_true, if_false, Nat.zero_add, Nat.add_zero, nI_add, ↓reduceIte, Nat.reduceAdd, Nat.reduceMul, Nat.reduceSub, Nat.reduceLT, Nat.reduceLeDiff, Nat.reduceEqDiff, Nat.not_lt_zero, Nat.lt_irrefl, decide_true, BEq.rfl, nm1, nm2, nm3, nm4, nm9, ngc, eq_self, List.length_cons, List.length_nil, hl, e1, q1, c_hasRoadn hl h hi hN, true_or]
  · have q1' : ¬ K i = k := fun x => q1 x.symm
    by_cases q2 : k = 1
    · subst q2
      by_cases q3 : K i = 5 <;> simp (disch := omega) only [W310, r_4, r_La, r_2, r_Li, h79_304, s_41, s_0, ci_0, r_94, s_Z0, s_Z1, h60_3_0, r_5, r_46, ci_1, r_47, ci_5, ci_2, ci_4, r_52, h64_la0, enR, LG, LSt, LC, nlR, psR, TK, up_s, up_n, up_u, lt_nI, le_nI, eq_nI, true_and, and_true, if_true, if_false, Nat.zero_add, Nat.add_zero, nI_add, ↓reduceIte, Nat.reduceAdd, Nat.reduceMul, Nat.reduceSub, Nat.reduceLT, Nat.reduceLeDiff, Nat.reduceEqDiff, Nat.not_lt_zero, Nat.lt_irrefl, decide_true, BEq.rfl, nm1, nm2, nm3, nm4, nm9, ngc, eq_self, List.length_cons, List.length_nil, hl, e1, q1, q1', q3, c_hasRoadn hl h hi hN, or_true, or_false, true_or, false_or, and_self, false_and, and_false, or_self]
    · by_cases q3 : k = 2
      · subst q3
        by_cases q4 : K i = 4 <;> simp (disch := omega) only [W310, r_4, r_La, r_2, r_Li, h79_304, s_41, s_0, ci_0, r_94, s_Z0, s_Z1, h60_3_0, r_5, r_46, ci_1, r_47, ci_5, ci_2, ci_4, r_52, h64_la0, enR, LG, LSt, LC, nlR, psR, TK, up_s, up_n, up_u, lt_nI, le_nI, eq_nI, true_and, and_true, if_true, if_false, Nat.zero_add, Nat.add_zero, nI_add, ↓reduceIte, Nat.reduceAdd, Nat.reduceMul, Nat.reduceSub, Nat.reduceLT, Nat.reduceLeDiff, Nat.reduceEqDiff, Nat.not_lt_zero, Nat.lt_irrefl, decide_true, BEq.rfl, nm1, nm2, nm3, nm4, nm9, ngc, eq_self, List.length_cons, List.length_nil, hl, e1, q1, q1', q4, c_hasRoadn hl h hi hN, or_true, or_false, true_or, false_or, and_self, false_and, and_false, or_self]
      · simp (disch := omega) only [W310, r_4, r_La, r_2, r_Li, h79_304, s_41, s_0, ci_0, r_94, s_Z0, s_Z1, h60_3_0, r_5, r_46, ci_1, r_47, ci_5, ci_2, ci_4, r_52, h64_la0, enR, LG, LSt, LC, nlR, psR, TK, up_s, up_n, up_u, lt_nI, le_nI, eq_nI, true_and, and_true, if_true, if_false, Nat.zero_add, Nat.add_zero, nI_add, ↓reduceIte, Nat.reduceAdd, Nat.reduceMul, Nat.reduceSub, Nat.reduceLT, Nat.reduceLeDiff, Nat.reduceEqDiff, Nat.not_lt_zero, Nat.lt_irrefl, decide_true, BEq.rfl, nm1, nm2, nm3, nm4, nm9, ngc, eq_self, List.length_cons, List.length_nil, hl, e1, q1, q1', q2, q3, c_hasRoadn hl h hi hN, or_true, or_false, true_or, false_or, and_self, false_and, and_false, or_self]
def rofF (K : Nat → Nat) (k i c : Nat) : Nat := if isb (K i) k = true then c + 1 else c
theorem lp_roadsOf {y : Nat} (hl : l < 2) (h : CLn (li l) (la l) P N K O T J) (hb : LB P N W K O T J) (hy : y < 65536) : ∀ (j k c : Nat), k + j = N → c ≤ k → (Wp (d + 2) 311 4 [some (.ref (lo l)), some (.int (nI y)), some (.int (nI c)), some (.int (nI k))] [] z (Hp X (s, v, g, w, q, ct, cn, cc, di, dr, df, li, la, sf, sl) M) Q ↔ Q (some (.int (nI (foldu (rofF K y) k j c)))) z (Hp X (s, v, g, w, q, ct, cn, cc, di, dr, df, li, la, sf, sl) M)) := by
  have hN := hb.2.1
  have h0 := h.2.1
  intro j
  induction j with
  | zero =>
    intro k c hk _
    have hk : k = N := by omega
    subst hk
    rw [W311_4]
    simp (disch := omega) only [W311, s_0, ci_0, r_5, r_2, r_Li, r_4, r_La, h60_3_5, r_49, h79_310, s_40, s_8, r_In, ci_1, r_52, r_90, enR, LG, LSt, LC, nlR, psR, TK, up_s, up_n, up_u, lt_nI, le_nI, eq_nI, true_and, and_true, if_true, if_false, Nat.zero_add, Nat.add_zero, nI_add, ↓reduceIte, Nat.reduceAdd, Nat.reduceMul, Nat.reduceSub, Nat.reduceLT, Nat.reduceLeDiff, Nat.reduceEqDiff, Nat.not_lt_zero, Nat.lt_irrefl, decide_true, BEq.rfl, nm1, nm2, nm3, nm4, nm9, ngc, eq_self, List.length_cons, List.length_nil, hl, h0, foldu]
  | succ j ih =>
    intro k c hk hc
    have h1 : k < N := by omega
    rw [W311_4]
    by_cases h2 : isb (K k) y = true
    · simp (disch := omega) only [W311, s_0, ci_0, r_5, r_2, r_Li, r_4, r_La, h60_3_5, r_49, h79_310, s_40, s_8, r_In, ci_1, r_52, r_90, enR, LG, LSt, LC, nlR, psR, TK, up_s, up_n, up_u, lt_nI, le_nI, eq_nI, true_and, and_true, if_true, if_false, Nat.zero_add, Nat.add_zero, nI_add, ↓reduceIte, Nat.reduceAdd, Nat.reduceMul, Nat.reduceSub, Nat.reduceLT, Nat.reduceLeDiff, Nat.reduceEqDiff, Nat.not_lt_zero, Nat.lt_irrefl, decide_true, BEq.rfl, nm1, nm2, nm3, nm4, nm9, ngc, eq_self, List.length_cons, List.length_nil, hl, h0, h1, h2, foldu, rofF, c_isOf hl h hb h1 hy]
      exact ih (k + 1) _ (by omega) (by omega)
    · simp (disch := omega) only [W311, s_0, ci_0, r_5, r_2, r_Li, r_4, r_La, h60_3_5, r_49, h79_310, s_40, s_8, r_In, ci_1, r_52, r_90, enR, LG, LSt, LC, nlR, psR, TK, up_s, up_n, up_u, lt_nI, le_nI, eq_nI, true_and, and_true, if_true, if_false, Nat.zero_add, Nat.add_zero, nI_add, ↓reduceIte, Nat.reduceAdd, Nat.reduceMul, Nat.reduceSub, Nat.reduceLT, Nat.reduceLeDiff, Nat.reduceEqDiff, Nat.not_lt_zero, Nat.lt_irrefl, decide_true, BEq.rfl, nm1, nm2, nm3, nm4, nm9, ngc, eq_self, List.length_cons, List.length_nil, hl, h0, h1, h2, foldu, rofF, c_isOf hl h hb h1 hy, Bool.false_eq_true]
      exact ih (k + 1) _ (by omega) (by omega)
theorem c_roadsOf {y : Nat} (hl : l < 2) (h : CLn (li l) (la l) P N K O T J) (hb : LB P N W K O T J) (hy : y < 65536) : Cw (d + 3) 311 [.ref (lo l), .int (nI y)] z (Hp X (s, v, g, w, q, ct, cn, cc, di, dr, df, li, la, sf, sl) M) Q ↔ Q (some (.int (nI (foldu (rofF K y) 0 N 0)))) z (Hp X (s, v, g, w, q, ct, cn, cc, di, dr, df, li, la, sf, sl) M) := by
  rw [cw_wp]
  simp (disch := omega) only [W311, s_0, ci_0, r_5, r_2, r_Li, r_4, r_La, h60_3_5, r_49, h79_310, s_40, s_8, r_In, ci_1, r_52, r_90, enR, LG, LSt, LC, nlR, psR, TK, up_s, up_n, up_u, lt_nI, le_nI, eq_nI, true_and, and_true, if_true, if_false, Nat.zero_add, Nat.add_zero, nI_add, ↓reduceIte, Nat.reduceAdd, Nat.reduceMul, Nat.reduceSub, Nat.reduceLT, Nat.reduceLeDiff, Nat.reduceEqDiff, Nat.not_lt_zero, Nat.lt_irrefl, decide_true, BEq.rfl, nm1, nm2, nm3, nm4, nm9, ngc, eq_self, List.length_cons, List.length_nil, hl]
  exact lp_roadsOf hl h hb hy N 0 0 (by omega) (by omega)
theorem c_touches {i p : Nat} (hl : l < 2) (h : CLn (li l) (la l) P N K O T J) (hb : LB P N W K O T J) (hi : i < N) (hp : p < 65536) : Cw (d + 2) 313 [.ref (lo l), .int (nI i), .int (nI p)] z (Hp X (s, v, g, w, q, ct, cn, cc, di, dr, df, li, la, sf, sl) M) Q ↔ Q (some (.int (if O i = p ∨ T i = p then nI 1 else nI 0))) z (Hp X (s, v, g, w, q, ct, cn, cc, di, dr, df, li, la, sf, sl) M) := by
  obtain ⟨hP, hN, hW1, hW2, hv⟩ := hb
  obtain ⟨b1, b2, b3, b4⟩ := hv i hi
  obtain ⟨e1, e2, e3, e4⟩ := h.2.2 i hi
  rw [cw_wp]
  by_cases q1 : O i = p
  · simp (disch := omega) only [W313, r_4, r_La, r_2, r_Li, h79_304, s_40, h60_3_1, r_46, h60_3_2, r_47, s_0, ci_1, r_52, ci_0, r_94, s_Z0, s_Z1, h64_la1, h64_la2, enR, LG, LSt, LC, nlR, psR, TK, up_s, up_n, up_u, lt_nI, le_nI, eq_nI, true_and, and_true, if_true, if_false, Nat.zero_add, Nat.add_zero, nI_add, ↓reduceIte, Nat.reduceAdd, Nat.reduceMul, Nat.reduceSub, Nat.reduceLT, Nat.reduceLeDiff, Nat.reduceEqDiff, Nat.not_lt_zero, Nat.lt_irrefl, decide_true, BEq.rfl, nm1, nm2, nm3, nm4, nm9, ngc, eq_self, List.length_cons, List.length_nil, hl, e2, e3, q1, c_hasRoadn hl h hi hN, true_or]
  · by_cases q2 : T i = p <;> simp (disch := omega) only [W313, r_4, r_La, r_2, r_Li, h79_304, s_40, h60_3_1, r_46, h60_3_2, r_47, s_0, ci_1, r_52, ci_0, r_94, s_Z0, s_Z1, h64_la1, h64_la2, enR, LG, LSt, LC, nlR, psR, TK, up_s, up_n, up_u, lt_nI, le_nI, eq_nI, true_and, and_true, if_true, if_false, Nat.zero_add, Nat.add_zero, nI_add, ↓reduceIte, Nat.reduceAdd, Nat.reduceMul, Nat.reduceSub, Nat.reduceLT, Nat.reduceLeDiff, Nat.reduceEqDiff, Nat.not_lt_zero, Nat.lt_irrefl, decide_true, BEq.rfl, nm1, nm2, nm3, nm4, nm9, ngc, eq_self, List.length_cons, List.length_nil, hl, e2, e3, q1, q2, c_hasRoadn hl h hi hN, or_true, or_self, or_false]
def raeF (O T : Nat → Nat) (y i c : Nat) : Nat := if (O i = O y ∨ T i = O y) ∨ (O i = T y ∨ T i = T y) then c + 1 else c
theorem lp_roadsAt {y : Nat} (hl : l < 2) (h : CLn (li l) (la l) P N K O T J) (hb : LB P N W K O T J) (hy : y < N) : ∀ (j k c : Nat), k + j = N → c ≤ k → (Wp (d + 2) 312 14 [some (.ref (lo l)), some (.int (nI y)), some (.int (nI c)), some (.int (nI k))] [] z (Hp X (s, v, g, w, q, ct, cn, cc, di, dr, df, li, la, sf, sl) M) Q ↔ Q (some (.int (nI (foldu (raeF O T y) k j c)))) z (Hp X (s, v, g, w, q, ct, cn, cc, di, dr, df, li, la, sf, sl) M)) := by
  have hN := hb.2.1
  have hP := hb.1
  have h0 := h.2.1
  obtain ⟨b1, b2, b3, b4⟩ := hb.2.2.2.2 y hy
  obtain ⟨e1, e2, e3, e4⟩ := h.2.2 y hy
  intro j
  induction j with
  | zero =>
    intro k c hk _
    have hk : k = N := by omega
    subst hk
    rw [W312_14]
    simp (disch := omega) only [W312, r_4, r_La, r_2, r_Li, h79_304, s_41, s_0, ci_0, r_90, r_5, h60_3_5, r_49, h60_3_1, h79_313, h60_3_2, s_40, s_8, r_In, ci_1, r_52, h64_la1, h64_la2, enR, LG, LSt, LC, nlR, psR, TK, up_s, up_n, up_u, lt_nI, le_nI, eq_nI, true_and, and_true, if_true, if_false, Nat.zero_add, Nat.add_zero, nI_add, ↓reduceIte, Nat.reduceAdd, Nat.reduceMul, Nat.reduceSub, Nat.reduceLT, Nat.reduceLeDiff, Nat.reduceEqDiff, Nat.not_lt_zero, Nat.lt_irrefl, decide_true, BEq.rfl, nm1, nm2, nm3, nm4, nm9, ngc, eq_self, List.length_cons, List.length_nil, hl, h0, foldu]
  | succ j ih =>
    intro k c hk hc
    have h1 : k < N := by omega
    have t1 := fun (Q : Option Value → AZ → AH → Prop) => c_touches (d := d) (z := z) (Q := Q) (X := X) (M := M) (s := s) (v := v) (g := g) (w := w) (q := q) (ct := ct) (cn := cn) (cc := cc) (di := di) (dr := dr) (df := df) (sf := sf) (sl := sl) (p := O y) hl h hb h1 (by omega)
    have t2 := fun (Q : Option Value → AZ → AH → Prop) => c_touches (d := d) (z := z) (Q := Q) (X := X) (M := M) (s := s) (v := v) (g := g) (w := w) (q := q) (ct := ct) (cn := cn) (cc := cc) (di := di) (dr := dr) (df := df) (sf := sf) (sl := sl) (p := T y) hl h hb h1 (by omega)
    rw [W312_14]
    by_cases h2 : O k = O y ∨ T k = O y
    · simp (disch := omega) only [W312, r_4, r_La, r_2, r_Li, h79_304, s_41, s_0, ci_0, r_90, r_5, h60_3_5, r_49, h60_3_1, h79_313, h60_3_2, s_40, s_8, r_In, ci_1, r_52, h64_la1, h64_la2, enR, LG, LSt, LC, nlR, psR, TK, up_s, up_n, up_u, lt_nI, le_nI, eq_nI, true_and, and_true, if_true, if_false, Nat.zero_add, Nat.add_zero, nI_add, ↓reduceIte, Nat.reduceAdd, Nat.reduceMul, Nat.reduceSub, Nat.reduceLT, Nat.reduceLeDiff, Nat.reduceEqDiff, Nat.not_lt_zero, Nat.lt_irrefl, decide_true, BEq.rfl, nm1, nm2, nm3, nm4, nm9, ngc, eq_self, List.length_cons, List.length_nil, hl, h0, h1, h2, e2, e3, foldu, raeF, t1, t2, true_or]
      exact ih (k + 1) _ (by omega) (by omega)
    · by_cases h3 : O k = T y ∨ T k = T y
      · simp (disch := omega) only [W312, r_4, r_La, r_2, r_Li, h79_304, s_41, s_0, ci_0, r_90, r_5, h60_3_5, r_49, h60_3_1, h79_313, h60_3_2, s_40, s_8, r_In, ci_1, r_52, h64_la1, h64_la2, enR, LG, LSt, LC, nlR, psR, TK, up_s, up_n, up_u, lt_nI, le_nI, eq_nI, true_and, and_true, if_true, if_false, Nat.zero_add, Nat.add_zero, nI_add, ↓reduceIte, Nat.reduceAdd, Nat.reduceMul, Nat.reduceSub, Nat.reduceLT, Nat.reduceLeDiff, Nat.reduceEqDiff, Nat.not_lt_zero, Nat.lt_irrefl, decide_true, BEq.rfl, nm1, nm2, nm3, nm4, nm9, ngc, eq_self, List.length_cons, List.length_nil, hl, h0, h1, h2, h3, e2, e3, foldu, raeF, t1, t2, or_true]
        exact ih (k + 1) _ (by omega) (by omega)
      · simp (disch := omega) only [W312, r_4, r_La, r_2, r_Li, h79_304, s_41, s_0, ci_0, r_90, r_5, h60_3_5, r_49, h60_3_1, h79_313, h60_3_2, s_40, s_8, r_In, ci_1, r_52, h64_la1, h64_la2, enR, LG, LSt, LC, nlR, psR, TK, up_s, up_n, up_u, lt_nI, le_nI, eq_nI, true_and, and_true, if_true, if_false, Nat.zero_add, Nat.add_zero, nI_add, ↓reduceIte, Nat.reduceAdd, Nat.reduceMul, Nat.reduceSub, Nat.reduceLT, Nat.reduceLeDiff, Nat.reduceEqDiff, Nat.not_lt_zero, Nat.lt_irrefl, decide_true, BEq.rfl, nm1, nm2, nm3, nm4, nm9, ngc, eq_self, List.length_cons, List.length_nil, hl, h0, h1, h2, h3, e2, e3, foldu, raeF, t1, t2, or_self]
        exact ih (k + 1) _ (by omega) (by omega)
theorem c_roadsAt {y : Nat} (hl : l < 2) (h : CLn (li l) (la l) P N K O T J) (hb : LB P N W K O T J) (hy : y < N) : Cw (d + 3) 312 [.ref (lo l), .int (nI y)] z (Hp X (s, v, g, w, q, ct, cn, cc, di, dr, df, li, la, sf, sl) M) Q ↔ Q (some (.int (nI (foldu (raeF O T y) 0 N 0)))) z (Hp X (s, v, g, w, q, ct, cn, cc, di, dr, df, li, la, sf, sl) M) := by
  have hN := hb.2.1
  rw [cw_wp]
  simp (disch := omega) only [W312, r_4, r_La, r_2, r_Li, h79_304, s_41, s_0, ci_0, r_90, r_5, h60_3_5, r_49, h60_3_1, h79_313, h60_3_2, s_40, s_8, r_In, ci_1, r_52, h64_la1, h64_la2, enR, LG, LSt, LC, nlR, psR, TK, up_s, up_n, up_u, lt_nI, le_nI, eq_nI, true_and, and_true, if_true, if_false, Nat.zero_add, Nat.add_zero, nI_add, ↓reduceIte, Nat.reduceAdd, Nat.reduceMul, Nat.reduceSub, Nat.reduceLT, Nat.reduceLeDiff, Nat.reduceEqDiff, Nat.not_lt_zero, Nat.lt_irrefl, decide_true, BEq.rfl, nm1, nm2, nm3, nm4, nm9, ngc, eq_self, List.length_cons, List.length_nil, hl, c_hasRoadn hl h hy hN]
  exact lp_roadsAt hl h hb hy N 0 0 (by omega) (by omega)
theorem c_canPave {i : Nat} (hl : l < 2) (h : CLn (li l) (la l) P N K O T J) (hb : LB P N W K O T J) (hi : i < N) : Cw (d + 2) 314 [.ref (lo l), .int (nI i)] z (Hp X (s, v, g, w, q, ct, cn, cc, di, dr, df, li, la, sf, sl) M) Q ↔ Q (some (.int (if K i = 0 ∨ K i = 2 then nI 1 else nI 0))) z (Hp X (s, v, g, w, q, ct, cn, cc, di, dr, df, li, la, sf, sl) M) := by
  obtain ⟨hP, hN, hW1, hW2, hv⟩ := hb
  obtain ⟨b1, b2, b3, b4⟩ := hv i hi
  obtain ⟨e1, e2, e3, e4⟩ := h.2.2 i hi
  rw [cw_wp]
  by_cases q1 : K i = 0
  · simp (disch := omega) only [W314, r_4, r_La, r_2, r_Li, h79_304, s_40, h60_3_0, s_0, ci_2, r_47, ci_1, r_52, ci_0, r_94, s_Z0, s_Z1, h64_la0, enR, LG, LSt, LC, nlR, psR, TK, up_s, up_n, up_u, lt_nI, le_nI, eq_nI, true_and, and_true, if_true, if_false, Nat.zero_add, Nat.add_zero, nI_add, ↓reduceIte, Nat.reduceAdd, Nat.reduceMul, Nat.reduceSub, Nat.reduceLT, Nat.reduceLeDiff, Nat.reduceEqDiff, Nat.not_lt_zero, Nat.lt_irrefl, decide_true, BEq.rfl, nm1, nm2, nm3, nm4, nm9, ngc, eq_self, List.length_cons, List.length_nil, hl, e1, q1, c_hasRoadn hl h hi hN, true_or]
  · by_cases q2 : K i = 2 <;> simp (disch := omega) only [W314, r_4, r_La, r_2, r_Li, h79_304, s_40, h60_3_0, s_0, ci_2, r_47, ci_1, r_52, ci_0, r_94, s_Z0, s_Z1, h64_la0, enR, LG, LSt, LC, nlR, psR, TK, up_s, up_n, up_u, lt_nI, le_nI, eq_nI, true_and, and_true, if_true, if_false, Nat.zero_add, Nat.add_zero, nI_add, ↓reduceIte, Nat.reduceAdd, Nat.reduceMul, Nat.reduceSub, Nat.reduceLT, Nat.reduceLeDiff, Nat.reduceEqDiff, Nat.not_lt_zero, Nat.lt_irrefl, decide_true, BEq.rfl, nm1, nm2, nm3, nm4, nm9, ngc, eq_self, List.length_cons, List.length_nil, hl, e1, q1, q2, c_hasRoadn hl h hi hN, or_true, or_self, or_false]
theorem c_shared {x y : Nat} (hx : x < 65536) (hy0 : 0 < y) (hy : y < 65536) : Cw (d + 1) 963 [.int (nI x), .int (nI y)] z f Q ↔ Q (some (.int (nI (x / y)))) z f := by
  have h1 : ¬ y = 0 := by omega
  rw [cw_wp]
  simp (disch := omega) only [W963, r_2, r_Li, s_45, s_13, r_52, r_90, enR, LG, LSt, LC, nlR, psR, TK, up_s, up_n, up_u, lt_nI, le_nI, eq_nI, true_and, and_true, if_true, if_false, Nat.zero_add, Nat.add_zero, nI_add, ↓reduceIte, Nat.reduceAdd, Nat.reduceMul, Nat.reduceSub, Nat.reduceLT, Nat.reduceLeDiff, Nat.reduceEqDiff, Nat.not_lt_zero, Nat.lt_irrefl, decide_true, BEq.rfl, nm1, nm2, nm3, nm4, nm9, ngc, eq_self, List.length_cons, List.length_nil, h1, hy0, nI_div, not_false_eq_true]
theorem c_feelOf {i : Nat} (hl : l < 2) (h : CLn (li l) (la l) P N K O T J) (hb : LB P N W K O T J) (hi : i < N) : Cw (d + 2) 315 [.ref (lo l), .int (nI i), .int (nI W)] z (Hp X (s, v, g, w, q, ct, cn, cc, di, dr, df, li, la, sf, sl) M) Q ↔ Q (some (.int (nI (fe W K J i)))) z (Hp X (s, v, g, w, q, ct, cn, cc, di, dr, df, li, la, sf, sl) M) := by
  obtain ⟨-, hN, hW1, hW2, hv⟩ := hb
  obtain ⟨b1, b2, b3, b4⟩ := hv i hi
  obtain ⟨e1, e2, e3, e4⟩ := h.2.2 i hi
  rw [cw_wp]
  have hK : K i = 0 ∨ K i = 1 ∨ K i = 2 ∨ K i = 3 ∨ K i = 4 ∨ K i = 5 := by omega
  rcases hK with q | q | q | q | q | q
  · simp (disch := omega) only [W315, r_4, r_La, r_2, r_Li, h79_304, s_41, s_0, ci_0, r_90, h60_3_0, r_54, ci_2, h60_3_3, r_12, ci_9, s_84, h80_963, ci_1, h64_la0, h64_la3, enR, LG, LSt, LC, nlR, psR, TK, up_s, up_n, up_u, lt_nI, le_nI, eq_nI, true_and, and_true, if_true, if_false, Nat.zero_add, Nat.add_zero, nI_add, ↓reduceIte, Nat.reduceAdd, Nat.reduceMul, Nat.reduceSub, Nat.reduceLT, Nat.reduceLeDiff, Nat.reduceEqDiff, Nat.not_lt_zero, Nat.lt_irrefl, decide_true, BEq.rfl, nm1, nm2, nm3, nm4, nm9, ngc, eq_self, List.length_cons, List.length_nil, hl, e1, e4, q, c_hasRoadn hl h hi hN, c_shared, sw_1, fe, List.getD_cons_zero, List.getD_cons_succ, false_and]
  · simp (disch := omega) only [W315, r_4, r_La, r_2, r_Li, h79_304, s_41, s_0, ci_0, r_90, h60_3_0, r_54, ci_2, h60_3_3, r_12, ci_9, s_84, h80_963, ci_1, h64_la0, h64_la3, enR, LG, LSt, LC, nlR, psR, TK, up_s, up_n, up_u, lt_nI, le_nI, eq_nI, true_and, and_true, if_true, if_false, Nat.zero_add, Nat.add_zero, nI_add, ↓reduceIte, Nat.reduceAdd, Nat.reduceMul, Nat.reduceSub, Nat.reduceLT, Nat.reduceLeDiff, Nat.reduceEqDiff, Nat.not_lt_zero, Nat.lt_irrefl, decide_true, BEq.rfl, nm1, nm2, nm3, nm4, nm9, ngc, eq_self, List.length_cons, List.length_nil, hl, e1, e4, q, c_hasRoadn hl h hi hN, c_shared, sw_1, fe, List.getD_cons_zero, List.getD_cons_succ, Nat.le_refl, and_self]
  · by_cases h9 : 9 < 2 * J i <;> simp (disch := omega) only [W315, r_4, r_La, r_2, r_Li, h79_304, s_41, s_0, ci_0, r_90, h60_3_0, r_54, ci_2, h60_3_3, r_12, ci_9, s_84, h80_963, ci_1, h64_la0, h64_la3, enR, LG, LSt, LC, nlR, psR, TK, up_s, up_n, up_u, lt_nI, le_nI, eq_nI, true_and, and_true, if_true, if_false, Nat.zero_add, Nat.add_zero, nI_add, ↓reduceIte, Nat.reduceAdd, Nat.reduceMul, Nat.reduceSub, Nat.reduceLT, Nat.reduceLeDiff, Nat.reduceEqDiff, Nat.not_lt_zero, Nat.lt_irrefl, decide_true, BEq.rfl, nm1, nm2, nm3, nm4, nm9, ngc, eq_self, List.length_cons, List.length_nil, hl, e1, e4, q, h9, c_hasRoadn hl h hi hN, c_shared, sw_1, fe, nI_mul, List.getD_cons_zero, List.getD_cons_succ, and_self]
  · simp (disch := omega) only [W315, r_4, r_La, r_2, r_Li, h79_304, s_41, s_0, ci_0, r_90, h60_3_0, r_54, ci_2, h60_3_3, r_12, ci_9, s_84, h80_963, ci_1, h64_la0, h64_la3, enR, LG, LSt, LC, nlR, psR, TK, up_s, up_n, up_u, lt_nI, le_nI, eq_nI, true_and, and_true, if_true, if_false, Nat.zero_add, Nat.add_zero, nI_add, ↓reduceIte, Nat.reduceAdd, Nat.reduceMul, Nat.reduceSub, Nat.reduceLT, Nat.reduceLeDiff, Nat.reduceEqDiff, Nat.not_lt_zero, Nat.lt_irrefl, decide_true, BEq.rfl, nm1, nm2, nm3, nm4, nm9, ngc, eq_self, List.length_cons, List.length_nil, hl, e1, e4, q, c_hasRoadn hl h hi hN, c_shared, sw_1, fe, List.getD_cons_zero, List.getD_cons_succ, and_self]
  · by_cases h9 : 9 < 2 * J i <;> simp (disch := omega) only [W315, r_4, r_La, r_2, r_Li, h79_304, s_41, s_0, ci_0, r_90, h60_3_0, r_54, ci_2, h60_3_3, r_12, ci_9, s_84, h80_963, ci_1, h64_la0, h64_la3, enR, LG, LSt, LC, nlR, psR, TK, up_s, up_n, up_u, lt_nI, le_nI, eq_nI, true_and, and_true, if_true, if_false, Nat.zero_add, Nat.add_zero, nI_add, ↓reduceIte, Nat.reduceAdd, Nat.reduceMul, Nat.reduceSub, Nat.reduceLT, Nat.reduceLeDiff, Nat.reduceEqDiff, Nat.not_lt_zero, Nat.lt_irrefl, decide_true, BEq.rfl, nm1, nm2, nm3, nm4, nm9, ngc, eq_self, List.length_cons, List.length_nil, hl, e1, e4, q, h9, c_hasRoadn hl h hi hN, c_shared, sw_1, fe, nI_mul, List.getD_cons_zero, List.getD_cons_succ, and_self]
  · simp (disch := omega) only [W315, r_4, r_La, r_2, r_Li, h79_304, s_41, s_0, ci_0, r_90, h60_3_0, r_54, ci_2, h60_3_3, r_12, ci_9, s_84, h80_963, ci_1, h64_la0, h64_la3, enR, LG, LSt, LC, nlR, psR, TK, up_s, up_n, up_u, lt_nI, le_nI, eq_nI, true_and, and_true, if_true, if_false, Nat.zero_add, Nat.add_zero, nI_add, ↓reduceIte, Nat.reduceAdd, Nat.reduceMul, Nat.reduceSub, Nat.reduceLT, Nat.reduceLeDiff, Nat.reduceEqDiff, Nat.not_lt_zero, Nat.lt_irrefl, decide_true, BEq.rfl, nm1, nm2, nm3, nm4, nm9, ngc, eq_self, List.length_cons, List.length_nil, hl, e1, e4, q, c_hasRoadn hl h hi hN, c_shared, sw_1, fe, List.getD_cons_zero, List.getD_cons_succ, and_self]
end

/-! the model's small methods -/
/-- the PLACE to which ROAD i leads from PLACE p; what ROAD i feels like -/
def ldm (K O T : Nat → Nat) (i p : Nat) : Option Nat := if O i = p then some (T i) else if T i = p ∧ K i ≠ 4 then some (O i) else none
def fe (W : Nat) (K J : Nat → Nat) (i : Nat) : Nat := if K i = 0 then J i / W else if K i = 1 then 0 else if K i = 3 then 9 else if K i = 5 then 1 else (if 9 < 2 * J i then 9 else 2 * J i) / W
def o2i (dn : Int32) : Option Nat → Int32
  | some q => nI q
  | none => dn
def isb (k c : Nat) : Bool := decide (k = c ∨ (c = 1 ∧ k = 5) ∨ (c = 2 ∧ k = 4))
/-- the model's LAND -/
def MLn (a : Nat → Int32) (t : Nat → Int32) (P N W : Nat) (K O T J : Nat → Nat) : Prop := a 10 = nI P ∧ a 11 = nI N ∧ a 12 = nI W ∧ ∀ i, i < N → t (4 * i) = nI (K i) ∧ t (4 * i + 1) = nI (O i) ∧ t (4 * i + 2) = nI (T i) ∧ t (4 * i + 3) = nI (J i)
def LB (P N W : Nat) (K O T J : Nat → Nat) : Prop := P ≤ 7 ∧ N ≤ 10 ∧ 1 ≤ W ∧ W ≤ 3 ∧ ∀ i, i < N → K i < 6 ∧ O i < P ∧ T i < P ∧ J i < 10
theorem ldm_lt {P N W : Nat} {K O T J : Nat → Nat} {i p q : Nat} (hb : LB P N W K O T J) (hi : i < N) (h : ldm K O T i p = some q) : q < P := by
  obtain ⟨-, -, -, -, hv⟩ := hb
  obtain ⟨-, b2, b3, -⟩ := hv i hi
  unfold ldm at h
  split at h
  · cases h; exact b3
  · split at h
    · cases h; exact b2
    · cases h
theorem fe_lt {P N W : Nat} {K O T J : Nat → Nat} {i : Nat} (hb : LB P N W K O T J) (hi : i < N) : fe W K J i < 10 := by
  obtain ⟨-, -, h1, h2, hv⟩ := hb
  obtain ⟨-, -, -, b4⟩ := hv i hi
  have h3 : J i / W ≤ J i := Nat.div_le_self _ _
  unfold fe
  split
  · omega
  · split
    · omega
    · split
      · omega
      · split
        · omega
        · split
          · have : 9 / W ≤ 9 := Nat.div_le_self _ _
            omega
          · have : 2 * J i / W ≤ 2 * J i := Nat.div_le_self _ _
            omega
section
variable {d : Nat} {z : AZ} {f : AH} {Q : Option Value → AZ → AH → Prop} {X : Nat × (Nat → Int32)} {C : CT} {a : Nat → Int32} {b : Nat → Int64} {e : Nat → Nat → Int32} {o : Nat → Nat → Int64} {P N W : Nat} {K O T J : Nat → Nat}
theorem m_in {x lo hi : Int32} : Cw (d + 1) 1001 [.int x, .int lo, .int hi] z f Q ↔ Q (some (.int (if x < lo then nI 0 else if hi < x then nI 0 else nI 1))) z f := by
  rw [cw_wp]
  by_cases h1 : x < lo
  · simp (disch := omega) only [W1001, r_2, r_Li, r_48, r_50, s_0, ci_1, r_52, ci_0, r_94, s_Z0, s_Z1, enR, LG, LSt, LC, nlR, psR, TK, up_s, up_n, up_u, lt_nI, le_nI, eq_nI, true_and, and_true, if_true, if_false, Nat.zero_add, Nat.add_zero, nI_add, ↓reduceIte, Nat.reduceAdd, Nat.reduceMul, Nat.reduceSub, Nat.reduceLT, Nat.reduceLeDiff, Nat.reduceEqDiff, Nat.not_lt_zero, Nat.lt_irrefl, decide_true, BEq.rfl, nm1, nm2, nm3, nm4, nm9, ngc, eq_self, List.length_cons, List.length_nil, h1]
  · by_cases h2 : hi < x <;> simp (disch := omega) only [W1001, r_2, r_Li, r_48, r_50, s_0, ci_1, r_52, ci_0, r_94, s_Z0, s_Z1, enR, LG, LSt, LC, nlR, psR, TK, up_s, up_n, up_u, lt_nI, le_nI, eq_nI, true_and, and_true, if_true, if_false, Nat.zero_add, Nat.add_zero, nI_add, ↓reduceIte, Nat.reduceAdd, Nat.reduceMul, Nat.reduceSub, Nat.reduceLT, Nat.reduceLeDiff, Nat.reduceEqDiff, Nat.not_lt_zero, Nat.lt_irrefl, decide_true, BEq.rfl, nm1, nm2, nm3, nm4, nm9, ngc, eq_self, List.length_cons, List.length_nil, h1, h2]
theorem m_meet {k : Nat} (hk : k < 6) : Cw (d + 1) 1002 [.ref 67, .int (nI k)] z (Hp X C (a, b, e, o)) Q ↔ Q (some (.int (-3))) z (Hp X C (va_up a 0 (nI k), b, va_up e 68 (upd (e 68) k (e 68 k + nI 1)), o)) := by
  rw [cw_wp]
  simp (disch := omega) only [W1002, r_4, r_La, r_2, r_Li, h61_10_0, h60_10_1, r_31, s_0, ci_1, r_10, ci_m3, r_90, h64_68, h65_68, enR, LG, LSt, LC, nlR, psR, TK, up_s, up_n, up_u, lt_nI, le_nI, eq_nI, true_and, and_true, if_true, if_false, Nat.zero_add, Nat.add_zero, nI_add, ↓reduceIte, Nat.reduceAdd, Nat.reduceMul, Nat.reduceSub, Nat.reduceLT, Nat.reduceLeDiff, Nat.reduceEqDiff, Nat.not_lt_zero, Nat.lt_irrefl, decide_true, BEq.rfl, nm1, nm2, nm3, nm4, nm9, ngc, eq_self, List.length_cons, List.length_nil, hk]
theorem m_ask {x y : Int32} : Cw (d + 1) 1003 [.ref 67, .int x, .int y] z (Hp X C (a, b, e, o)) Q ↔ Q (some (.int y)) z (Hp X C (va_up a 2 x, b, e, o)) := by
  rw [cw_wp]
  simp (disch := omega) only [W1003, r_4, r_La, r_2, r_Li, h61_10_2, r_90, enR, LG, LSt, LC, nlR, psR, TK, up_s, up_n, up_u, lt_nI, le_nI, eq_nI, true_and, and_true, if_true, if_false, Nat.zero_add, Nat.add_zero, nI_add, ↓reduceIte, Nat.reduceAdd, Nat.reduceMul, Nat.reduceSub, Nat.reduceLT, Nat.reduceLeDiff, Nat.reduceEqDiff, Nat.not_lt_zero, Nat.lt_irrefl, decide_true, BEq.rfl, nm1, nm2, nm3, nm4, nm9, ngc, eq_self, List.length_cons, List.length_nil]
theorem m_tellU {x : Int64} {y : Int32} : Cw (d + 1) 1004 [.ref 67, .long x, .int y] z (Hp X C (a, b, e, o)) Q ↔ Q (some (.int y)) z (Hp X C (a, vp_updL (vp_updL b 3 x) 4 (lN 1), e, o)) := by
  rw [cw_wp]
  simp (disch := omega) only [W1004, r_4, r_La, r_3, r_Ll, h61_10_3, s_1, cl_1, h61_10_4, r_2, r_Li, r_90, enR, LG, LSt, LC, nlR, psR, TK, up_s, up_n, up_u, lt_nI, le_nI, eq_nI, true_and, and_true, if_true, if_false, Nat.zero_add, Nat.add_zero, nI_add, ↓reduceIte, Nat.reduceAdd, Nat.reduceMul, Nat.reduceSub, Nat.reduceLT, Nat.reduceLeDiff, Nat.reduceEqDiff, Nat.not_lt_zero, Nat.lt_irrefl, decide_true, BEq.rfl, nm1, nm2, nm3, nm4, nm9, ngc, eq_self, List.length_cons, List.length_nil]
theorem m_has {s k : Nat} (hs : s < 2147483648) (hk : k < 31) : Cw (d + 1) 1005 [.int (nI s), .int (nI k)] z f Q ↔ Q (some (.int (if s.testBit k = true then nI 1 else nI 0))) z f := by
  rw [cw_wp]
  by_cases h : s.testBit k = true <;> simp (disch := omega) only [W1005, r_2, r_Li, r_19, s_0, ci_1, r_15, r_47, r_52, ci_0, r_94, s_Z0, s_Z1, enR, LG, LSt, LC, nlR, psR, TK, up_s, up_n, up_u, lt_nI, le_nI, eq_nI, true_and, and_true, if_true, if_false, Nat.zero_add, Nat.add_zero, nI_add, ↓reduceIte, Nat.reduceAdd, Nat.reduceMul, Nat.reduceSub, Nat.reduceLT, Nat.reduceLeDiff, Nat.reduceEqDiff, Nat.not_lt_zero, Nat.lt_irrefl, decide_true, BEq.rfl, nm1, nm2, nm3, nm4, nm9, ngc, eq_self, List.length_cons, List.length_nil, nI_shr, nI_and, bith, h, Bool.false_eq_true]
def pcF (s k c : Nat) : Nat := c + s / 2 ^ k % 2
theorem lp_sizeOf {s : Nat} (hs : s < 2147483648) : ∀ (q k c : Nat), k + q = 10 → c ≤ k → (Wp d 1006 4 [some (.int (nI s)), some (.int (nI c)), some (.int (nI k))] [] z f Q ↔ Q (some (.int (nI (foldu (pcF s) k q c)))) z f) := by
  intro q
  induction q with
  | zero =>
    intro k c hk _
    have hk : k = 10 := by omega
    subst hk
    rw [W1006_4]
    simp (disch := omega) only [W1006, s_0, ci_0, r_5, r_2, r_Li, ci_10, r_49, r_19, ci_1, r_15, r_10, s_8, r_In, r_52, r_90, enR, LG, LSt, LC, nlR, psR, TK, up_s, up_n, up_u, lt_nI, le_nI, eq_nI, true_and, and_true, if_true, if_false, Nat.zero_add, Nat.add_zero, nI_add, ↓reduceIte, Nat.reduceAdd, Nat.reduceMul, Nat.reduceSub, Nat.reduceLT, Nat.reduceLeDiff, Nat.reduceEqDiff, Nat.not_lt_zero, Nat.lt_irrefl, decide_true, BEq.rfl, nm1, nm2, nm3, nm4, nm9, ngc, eq_self, List.length_cons, List.length_nil, foldu]
  | succ q ih =>
    intro k c hk hc
    have h1 : k < 10 := by omega
    have h2 : s / 2 ^ k % 2 < 2 := Nat.mod_lt _ (by decide)
    rw [W1006_4]
    simp (disch := omega) only [W1006, s_0, ci_0, r_5, r_2, r_Li, ci_10, r_49, r_19, ci_1, r_15, r_10, s_8, r_In, r_52, r_90, enR, LG, LSt, LC, nlR, psR, TK, up_s, up_n, up_u, lt_nI, le_nI, eq_nI, true_and, and_true, if_true, if_false, Nat.zero_add, Nat.add_zero, nI_add, ↓reduceIte, Nat.reduceAdd, Nat.reduceMul, Nat.reduceSub, Nat.reduceLT, Nat.reduceLeDiff, Nat.reduceEqDiff, Nat.not_lt_zero, Nat.lt_irrefl, decide_true, BEq.rfl, nm1, nm2, nm3, nm4, nm9, ngc, eq_self, List.length_cons, List.length_nil, h1, nI_shr, nI_and, Nat.and_one_is_mod, foldu, pcF]
    exact ih (k + 1) _ (by omega) (by omega)
theorem m_sizeOf {s : Nat} (hs : s < 2147483648) : Cw (d + 1) 1006 [.int (nI s)] z f Q ↔ Q (some (.int (nI (foldu (pcF s) 0 10 0)))) z f := by
  rw [cw_wp]
  simp (disch := omega) only [W1006, s_0, ci_0, r_5, r_2, r_Li, ci_10, r_49, r_19, ci_1, r_15, r_10, s_8, r_In, r_52, r_90, enR, LG, LSt, LC, nlR, psR, TK, up_s, up_n, up_u, lt_nI, le_nI, eq_nI, true_and, and_true, if_true, if_false, Nat.zero_add, Nat.add_zero, nI_add, ↓reduceIte, Nat.reduceAdd, Nat.reduceMul, Nat.reduceSub, Nat.reduceLT, Nat.reduceLeDiff, Nat.reduceEqDiff, Nat.not_lt_zero, Nat.lt_irrefl, decide_true, BEq.rfl, nm1, nm2, nm3, nm4, nm9, ngc, eq_self, List.length_cons, List.length_nil]
  exact lp_sizeOf hs 10 0 0 (by omega) (by omega)
theorem m_of {i k : Nat} (h : 4 * i + k < 80) : Cw (d + 1) 1021 [.ref 67, .int (nI i), .int (nI k)] z (Hp X C (a, b, e, o)) Q ↔ Q (some (.int (e 74 (4 * i + k)))) z (Hp X C (a, b, e, o)) := by
  rw [cw_wp]
  simp (disch := omega) only [W1021, r_4, r_La, h60_10_13, s_0, ci_4, r_2, r_Li, r_12, r_10, r_90, h64_74, enR, LG, LSt, LC, nlR, psR, TK, up_s, up_n, up_u, lt_nI, le_nI, eq_nI, true_and, and_true, if_true, if_false, Nat.zero_add, Nat.add_zero, nI_add, ↓reduceIte, Nat.reduceAdd, Nat.reduceMul, Nat.reduceSub, Nat.reduceLT, Nat.reduceLeDiff, Nat.reduceEqDiff, Nat.not_lt_zero, Nat.lt_irrefl, decide_true, BEq.rfl, nm1, nm2, nm3, nm4, nm9, ngc, eq_self, List.length_cons, List.length_nil, nI_mul, h]
theorem m_rowAt {r k : Nat} (h : 40 * r + k < 240) : Cw (d + 1) 1011 [.ref 67, .int (nI r), .int (nI k)] z (Hp X C (a, b, e, o)) Q ↔ Q (some (.int (e 70 (40 * r + k)))) z (Hp X C (a, b, e, o)) := by
  rw [cw_wp]
  simp (disch := omega) only [W1011, r_4, r_La, h60_10_6, s_0, ci_40, r_2, r_Li, r_12, r_10, r_90, h64_70, enR, LG, LSt, LC, nlR, psR, TK, up_s, up_n, up_u, lt_nI, le_nI, eq_nI, true_and, and_true, if_true, if_false, Nat.zero_add, Nat.add_zero, nI_add, ↓reduceIte, Nat.reduceAdd, Nat.reduceMul, Nat.reduceSub, Nat.reduceLT, Nat.reduceLeDiff, Nat.reduceEqDiff, Nat.not_lt_zero, Nat.lt_irrefl, decide_true, BEq.rfl, nm1, nm2, nm3, nm4, nm9, ngc, eq_self, List.length_cons, List.length_nil, nI_mul, h]
theorem m_setRow {r k : Nat} {x : Int32} (h : 40 * r + k < 240) : Cw (d + 1) 1012 [.ref 67, .int (nI r), .int (nI k), .int x] z (Hp X C (a, b, e, o)) Q ↔ Q none z (Hp X C (a, b, va_up e 70 (upd (e 70) (40 * r + k) x), o)) := by
  rw [cw_wp]
  simp (disch := omega) only [W1012, r_4, r_La, h60_10_6, s_0, ci_40, r_2, r_Li, r_12, r_10, r_93, h65_70, enR, LG, LSt, LC, nlR, psR, TK, up_s, up_n, up_u, lt_nI, le_nI, eq_nI, true_and, and_true, if_true, if_false, Nat.zero_add, Nat.add_zero, nI_add, ↓reduceIte, Nat.reduceAdd, Nat.reduceMul, Nat.reduceSub, Nat.reduceLT, Nat.reduceLeDiff, Nat.reduceEqDiff, Nat.not_lt_zero, Nat.lt_irrefl, decide_true, BEq.rfl, nm1, nm2, nm3, nm4, nm9, ngc, eq_self, List.length_cons, List.length_nil, nI_mul, h]
theorem m_isRow {x : Int32} : Cw (d + 2) 1007 [.int x] z f Q ↔ Q (some (.int (if x < nI 0 then nI 0 else if nI 5 < x then nI 0 else nI 1))) z f := by
  rw [cw_wp]
  by_cases h1 : x < nI 0
  · simp (disch := omega) only [W1007, r_2, r_Li, s_0, ci_0, ci_5, h80_1001, r_94, s_Z0, s_Z1, enR, LG, LSt, LC, nlR, psR, TK, up_s, up_n, up_u, lt_nI, le_nI, eq_nI, true_and, and_true, if_true, if_false, Nat.zero_add, Nat.add_zero, nI_add, ↓reduceIte, Nat.reduceAdd, Nat.reduceMul, Nat.reduceSub, Nat.reduceLT, Nat.reduceLeDiff, Nat.reduceEqDiff, Nat.not_lt_zero, Nat.lt_irrefl, decide_true, BEq.rfl, nm1, nm2, nm3, nm4, nm9, ngc, eq_self, List.length_cons, List.length_nil, m_in, h1]
  · by_cases h2 : nI 5 < x <;> simp (disch := omega) only [W1007, r_2, r_Li, s_0, ci_0, ci_5, h80_1001, r_94, s_Z0, s_Z1, enR, LG, LSt, LC, nlR, psR, TK, up_s, up_n, up_u, lt_nI, le_nI, eq_nI, true_and, and_true, if_true, if_false, Nat.zero_add, Nat.add_zero, nI_add, ↓reduceIte, Nat.reduceAdd, Nat.reduceMul, Nat.reduceSub, Nat.reduceLT, Nat.reduceLeDiff, Nat.reduceEqDiff, Nat.not_lt_zero, Nat.lt_irrefl, decide_true, BEq.rfl, nm1, nm2, nm3, nm4, nm9, ngc, eq_self, List.length_cons, List.length_nil, m_in, h1, h2]
theorem m_isText {x : Int32} : Cw (d + 2) 1008 [.int x] z f Q ↔ Q (some (.int (if x < nI 0 then nI 0 else if nI 3 < x then nI 0 else nI 1))) z f := by
  rw [cw_wp]
  by_cases h1 : x < nI 0
  · simp (disch := omega) only [W1008, r_2, r_Li, s_0, ci_0, ci_3, h80_1001, r_94, s_Z0, s_Z1, enR, LG, LSt, LC, nlR, psR, TK, up_s, up_n, up_u, lt_nI, le_nI, eq_nI, true_and, and_true, if_true, if_false, Nat.zero_add, Nat.add_zero, nI_add, ↓reduceIte, Nat.reduceAdd, Nat.reduceMul, Nat.reduceSub, Nat.reduceLT, Nat.reduceLeDiff, Nat.reduceEqDiff, Nat.not_lt_zero, Nat.lt_irrefl, decide_true, BEq.rfl, nm1, nm2, nm3, nm4, nm9, ngc, eq_self, List.length_cons, List.length_nil, m_in, h1]
  · by_cases h2 : nI 3 < x <;> simp (disch := omega) only [W1008, r_2, r_Li, s_0, ci_0, ci_3, h80_1001, r_94, s_Z0, s_Z1, enR, LG, LSt, LC, nlR, psR, TK, up_s, up_n, up_u, lt_nI, le_nI, eq_nI, true_and, and_true, if_true, if_false, Nat.zero_add, Nat.add_zero, nI_add, ↓reduceIte, Nat.reduceAdd, Nat.reduceMul, Nat.reduceSub, Nat.reduceLT, Nat.reduceLeDiff, Nat.reduceEqDiff, Nat.not_lt_zero, Nat.lt_irrefl, decide_true, BEq.rfl, nm1, nm2, nm3, nm4, nm9, ngc, eq_self, List.length_cons, List.length_nil, m_in, h1, h2]
theorem m_isPlace {x : Int32} (h : MLn a (e 74) P N W K O T J) : Cw (d + 2) 1029 [.ref 67, .int x] z (Hp X C (a, b, e, o)) Q ↔ Q (some (.int (if x < nI 0 then nI 0 else if nI P - nI 1 < x then nI 0 else nI 1))) z (Hp X C (a, b, e, o)) := by
  rw [cw_wp]
  simp (disch := omega) only [W1029, r_2, r_Li, s_0, ci_0, r_4, r_La, h60_10_10, ci_1, r_11, h80_1001, r_94, s_Z0, s_Z1, enR, LG, LSt, LC, nlR, psR, TK, up_s, up_n, up_u, lt_nI, le_nI, eq_nI, true_and, and_true, if_true, if_false, Nat.zero_add, Nat.add_zero, nI_add, ↓reduceIte, Nat.reduceAdd, Nat.reduceMul, Nat.reduceSub, Nat.reduceLT, Nat.reduceLeDiff, Nat.reduceEqDiff, Nat.not_lt_zero, Nat.lt_irrefl, decide_true, BEq.rfl, nm1, nm2, nm3, nm4, nm9, ngc, eq_self, List.length_cons, List.length_nil, m_in, h.1]
  by_cases h1 : x < nI 0
  · simp (disch := omega) only [W1029, r_2, r_Li, s_0, ci_0, r_4, r_La, h60_10_10, ci_1, r_11, h80_1001, r_94, s_Z0, s_Z1, enR, LG, LSt, LC, nlR, psR, TK, up_s, up_n, up_u, lt_nI, le_nI, eq_nI, true_and, and_true, if_true, if_false, Nat.zero_add, Nat.add_zero, nI_add, ↓reduceIte, Nat.reduceAdd, Nat.reduceMul, Nat.reduceSub, Nat.reduceLT, Nat.reduceLeDiff, Nat.reduceEqDiff, Nat.not_lt_zero, Nat.lt_irrefl, decide_true, BEq.rfl, nm1, nm2, nm3, nm4, nm9, ngc, eq_self, List.length_cons, List.length_nil, h1]
  · by_cases h2 : nI P - nI 1 < x <;> simp (disch := omega) only [W1029, r_2, r_Li, s_0, ci_0, r_4, r_La, h60_10_10, ci_1, r_11, h80_1001, r_94, s_Z0, s_Z1, enR, LG, LSt, LC, nlR, psR, TK, up_s, up_n, up_u, lt_nI, le_nI, eq_nI, true_and, and_true, if_true, if_false, Nat.zero_add, Nat.add_zero, nI_add, ↓reduceIte, Nat.reduceAdd, Nat.reduceMul, Nat.reduceSub, Nat.reduceLT, Nat.reduceLeDiff, Nat.reduceEqDiff, Nat.not_lt_zero, Nat.lt_irrefl, decide_true, BEq.rfl, nm1, nm2, nm3, nm4, nm9, ngc, eq_self, List.length_cons, List.length_nil, h1, h2]
theorem m_isRoad {x : Int32} (h : MLn a (e 74) P N W K O T J) : Cw (d + 2) 1030 [.ref 67, .int x] z (Hp X C (a, b, e, o)) Q ↔ Q (some (.int (if x < nI 0 then nI 0 else if nI N - nI 1 < x then nI 0 else nI 1))) z (Hp X C (a, b, e, o)) := by
  rw [cw_wp]
  simp (disch := omega) only [W1030, r_2, r_Li, s_0, ci_0, r_4, r_La, h60_10_11, ci_1, r_11, h80_1001, r_94, s_Z0, s_Z1, enR, LG, LSt, LC, nlR, psR, TK, up_s, up_n, up_u, lt_nI, le_nI, eq_nI, true_and, and_true, if_true, if_false, Nat.zero_add, Nat.add_zero, nI_add, ↓reduceIte, Nat.reduceAdd, Nat.reduceMul, Nat.reduceSub, Nat.reduceLT, Nat.reduceLeDiff, Nat.reduceEqDiff, Nat.not_lt_zero, Nat.lt_irrefl, decide_true, BEq.rfl, nm1, nm2, nm3, nm4, nm9, ngc, eq_self, List.length_cons, List.length_nil, m_in, h.2.1]
  by_cases h1 : x < nI 0
  · simp (disch := omega) only [W1030, r_2, r_Li, s_0, ci_0, r_4, r_La, h60_10_11, ci_1, r_11, h80_1001, r_94, s_Z0, s_Z1, enR, LG, LSt, LC, nlR, psR, TK, up_s, up_n, up_u, lt_nI, le_nI, eq_nI, true_and, and_true, if_true, if_false, Nat.zero_add, Nat.add_zero, nI_add, ↓reduceIte, Nat.reduceAdd, Nat.reduceMul, Nat.reduceSub, Nat.reduceLT, Nat.reduceLeDiff, Nat.reduceEqDiff, Nat.not_lt_zero, Nat.lt_irrefl, decide_true, BEq.rfl, nm1, nm2, nm3, nm4, nm9, ngc, eq_self, List.length_cons, List.length_nil, h1]
  · by_cases h2 : nI N - nI 1 < x <;> simp (disch := omega) only [W1030, r_2, r_Li, s_0, ci_0, r_4, r_La, h60_10_11, ci_1, r_11, h80_1001, r_94, s_Z0, s_Z1, enR, LG, LSt, LC, nlR, psR, TK, up_s, up_n, up_u, lt_nI, le_nI, eq_nI, true_and, and_true, if_true, if_false, Nat.zero_add, Nat.add_zero, nI_add, ↓reduceIte, Nat.reduceAdd, Nat.reduceMul, Nat.reduceSub, Nat.reduceLT, Nat.reduceLeDiff, Nat.reduceEqDiff, Nat.not_lt_zero, Nat.lt_irrefl, decide_true, BEq.rfl, nm1, nm2, nm3, nm4, nm9, ngc, eq_self, List.length_cons, List.length_nil, h1, h2]
theorem m_feelOf {i : Nat} (h : MLn a (e 74) P N W K O T J) (hb : LB P N W K O T J) (hi : i < N) : Cw (d + 2) 1032 [.ref 67, .int (nI i)] z (Hp X C (a, b, e, o)) Q ↔ Q (some (.int (nI (fe W K J i)))) z (Hp X C (a, b, e, o)) := by
  obtain ⟨-, hN, hW1, hW2, hv⟩ := hb
  obtain ⟨b1, b2, b3, b4⟩ := hv i hi
  obtain ⟨e1, e2, e3, e4⟩ := h.2.2.2 i hi
  have hW := h.2.2.1
  have hW0 : ¬ W = 0 := by omega
  rw [cw_wp]
  have hK : K i = 0 ∨ K i = 1 ∨ K i = 2 ∨ K i = 3 ∨ K i = 4 ∨ K i = 5 := by omega
  rcases hK with q | q | q | q | q | q
  · simp (disch := omega) only [W1032, r_4, r_La, r_2, r_Li, s_0, ci_3, h79_1021, r_5, ci_0, r_54, h60_10_12, s_13, r_90, ci_9, ci_1, ci_2, r_12, r_51, r_52, enR, LG, LSt, LC, nlR, psR, TK, up_s, up_n, up_u, lt_nI, le_nI, eq_nI, true_and, and_true, if_true, if_false, Nat.zero_add, Nat.add_zero, nI_add, ↓reduceIte, Nat.reduceAdd, Nat.reduceMul, Nat.reduceSub, Nat.reduceLT, Nat.reduceLeDiff, Nat.reduceEqDiff, Nat.not_lt_zero, Nat.lt_irrefl, decide_true, BEq.rfl, nm1, nm2, nm3, nm4, nm9, ngc, eq_self, List.length_cons, List.length_nil, m_of, e1, e4, q, hW, hW0, sw_n, fe, nI_div, List.getD_cons_zero, List.getD_cons_succ, not_false_eq_true]
  · simp (disch := omega) only [W1032, r_4, r_La, r_2, r_Li, s_0, ci_3, h79_1021, r_5, ci_0, r_54, h60_10_12, s_13, r_90, ci_9, ci_1, ci_2, r_12, r_51, r_52, enR, LG, LSt, LC, nlR, psR, TK, up_s, up_n, up_u, lt_nI, le_nI, eq_nI, true_and, and_true, if_true, if_false, Nat.zero_add, Nat.add_zero, nI_add, ↓reduceIte, Nat.reduceAdd, Nat.reduceMul, Nat.reduceSub, Nat.reduceLT, Nat.reduceLeDiff, Nat.reduceEqDiff, Nat.not_lt_zero, Nat.lt_irrefl, decide_true, BEq.rfl, nm1, nm2, nm3, nm4, nm9, ngc, eq_self, List.length_cons, List.length_nil, m_of, e1, e4, q, hW, hW0, sw_n, fe, nI_div, List.getD_cons_zero, List.getD_cons_succ, not_false_eq_true]
  · by_cases h9 : 9 < 2 * J i <;> simp (disch := omega) only [W1032, r_4, r_La, r_2, r_Li, s_0, ci_3, h79_1021, r_5, ci_0, r_54, h60_10_12, s_13, r_90, ci_9, ci_1, ci_2, r_12, r_51, r_52, enR, LG, LSt, LC, nlR, psR, TK, up_s, up_n, up_u, lt_nI, le_nI, eq_nI, true_and, and_true, if_true, if_false, Nat.zero_add, Nat.add_zero, nI_add, ↓reduceIte, Nat.reduceAdd, Nat.reduceMul, Nat.reduceSub, Nat.reduceLT, Nat.reduceLeDiff, Nat.reduceEqDiff, Nat.not_lt_zero, Nat.lt_irrefl, decide_true, BEq.rfl, nm1, nm2, nm3, nm4, nm9, ngc, eq_self, List.length_cons, List.length_nil, m_of, e1, e4, q, hW, hW0, h9, sw_n, fe, nI_div, nI_mul, List.getD_cons_zero, List.getD_cons_succ, not_false_eq_true]
  · simp (disch := omega) only [W1032, r_4, r_La, r_2, r_Li, s_0, ci_3, h79_1021, r_5, ci_0, r_54, h60_10_12, s_13, r_90, ci_9, ci_1, ci_2, r_12, r_51, r_52, enR, LG, LSt, LC, nlR, psR, TK, up_s, up_n, up_u, lt_nI, le_nI, eq_nI, true_and, and_true, if_true, if_false, Nat.zero_add, Nat.add_zero, nI_add, ↓reduceIte, Nat.reduceAdd, Nat.reduceMul, Nat.reduceSub, Nat.reduceLT, Nat.reduceLeDiff, Nat.reduceEqDiff, Nat.not_lt_zero, Nat.lt_irrefl, decide_true, BEq.rfl, nm1, nm2, nm3, nm4, nm9, ngc, eq_self, List.length_cons, List.length_nil, m_of, e1, e4, q, hW, hW0, sw_n, fe, nI_div, List.getD_cons_zero, List.getD_cons_succ, not_false_eq_true]
  · by_cases h9 : 9 < 2 * J i <;> simp (disch := omega) only [W1032, r_4, r_La, r_2, r_Li, s_0, ci_3, h79_1021, r_5, ci_0, r_54, h60_10_12, s_13, r_90, ci_9, ci_1, ci_2, r_12, r_51, r_52, enR, LG, LSt, LC, nlR, psR, TK, up_s, up_n, up_u, lt_nI, le_nI, eq_nI, true_and, and_true, if_true, if_false, Nat.zero_add, Nat.add_zero, nI_add, ↓reduceIte, Nat.reduceAdd, Nat.reduceMul, Nat.reduceSub, Nat.reduceLT, Nat.reduceLeDiff, Nat.reduceEqDiff, Nat.not_lt_zero, Nat.lt_irrefl, decide_true, BEq.rfl, nm1, nm2, nm3, nm4, nm9, ngc, eq_self, List.length_cons, List.length_nil, m_of, e1, e4, q, hW, hW0, h9, sw_n, fe, nI_div, nI_mul, List.getD_cons_zero, List.getD_cons_succ, not_false_eq_true]
  · simp (disch := omega) only [W1032, r_4, r_La, r_2, r_Li, s_0, ci_3, h79_1021, r_5, ci_0, r_54, h60_10_12, s_13, r_90, ci_9, ci_1, ci_2, r_12, r_51, r_52, enR, LG, LSt, LC, nlR, psR, TK, up_s, up_n, up_u, lt_nI, le_nI, eq_nI, true_and, and_true, if_true, if_false, Nat.zero_add, Nat.add_zero, nI_add, ↓reduceIte, Nat.reduceAdd, Nat.reduceMul, Nat.reduceSub, Nat.reduceLT, Nat.reduceLeDiff, Nat.reduceEqDiff, Nat.not_lt_zero, Nat.lt_irrefl, decide_true, BEq.rfl, nm1, nm2, nm3, nm4, nm9, ngc, eq_self, List.length_cons, List.length_nil, m_of, e1, e4, q, hW, hW0, sw_n, fe, nI_div, List.getD_cons_zero, List.getD_cons_succ, not_false_eq_true]
theorem m_leads {i p : Nat} (h : MLn a (e 74) P N W K O T J) (hb : LB P N W K O T J) (hi : i < N) (hp : p < 65536) : Cw (d + 2) 1038 [.ref 67, .int (nI i), .int (nI p)] z (Hp X C (a, b, e, o)) Q ↔ Q (some (.int (o2i (-9) (ldm K O T i p)))) z (Hp X C (a, b, e, o)) := by
  obtain ⟨hP, hN, hW1, hW2, hv⟩ := hb
  obtain ⟨b1, b2, b3, b4⟩ := hv i hi
  obtain ⟨e1, e2, e3, e4⟩ := h.2.2.2 i hi
  rw [cw_wp]
  by_cases q1 : O i = p
  · simp (disch := omega) only [W1038, r_4, r_La, r_2, r_Li, s_0, ci_1, h79_1021, r_47, ci_2, r_52, ci_0, ci_4, r_46, ci_m9, r_90, enR, LG, LSt, LC, nlR, psR, TK, up_s, up_n, up_u, lt_nI, le_nI, eq_nI, true_and, and_true, if_true, if_false, Nat.zero_add, Nat.add_zero, nI_add, ↓reduceIte, Nat.reduceAdd, Nat.reduceMul, Nat.reduceSub, Nat.reduceLT, Nat.reduceLeDiff, Nat.reduceEqDiff, Nat.not_lt_zero, Nat.lt_irrefl, decide_true, BEq.rfl, nm1, nm2, nm3, nm4, nm9, ngc, eq_self, List.length_cons, List.length_nil, m_of, e1, e2, e3, q1, ldm, o2i]
  · by_cases q2 : T i = p
    · by_cases q3 : K i = 4
      · simp (disch := omega) only [W1038, r_4, r_La, r_2, r_Li, s_0, ci_1, h79_1021, r_47, ci_2, r_52, ci_0, ci_4, r_46, ci_m9, r_90, enR, LG, LSt, LC, nlR, psR, TK, up_s, up_n, up_u, lt_nI, le_nI, eq_nI, true_and, and_true, if_true, if_false, Nat.zero_add, Nat.add_zero, nI_add, ↓reduceIte, Nat.reduceAdd, Nat.reduceMul, Nat.reduceSub, Nat.reduceLT, Nat.reduceLeDiff, Nat.reduceEqDiff, Nat.not_lt_zero, Nat.lt_irrefl, decide_true, BEq.rfl, nm1, nm2, nm3, nm4, nm9, ngc, eq_self, List.length_cons, List.length_nil, m_of, e1, e2, e3, q1, q2, q3, ldm, o2i, ne_eq, not_true, and_false]
      · simp (disch := omega) only [W1038, r_4, r_La, r_2, r_Li, s_0, ci_1, h79_1021, r_47, ci_2, r_52, ci_0, ci_4, r_46, ci_m9, r_90, enR, LG, LSt, LC, nlR, psR, TK, up_s, up_n, up_u, lt_nI, le_nI, eq_nI, true_and, and_true, if_true, if_false, Nat.zero_add, Nat.add_zero, nI_add, ↓reduceIte, Nat.reduceAdd, Nat.reduceMul, Nat.reduceSub, Nat.reduceLT, Nat.reduceLeDiff, Nat.reduceEqDiff, Nat.not_lt_zero, Nat.lt_irrefl, decide_true, BEq.rfl, nm1, nm2, nm3, nm4, nm9, ngc, eq_self, List.length_cons, List.length_nil, m_of, e1, e2, e3, q1, q2, q3, ldm, o2i, ne_eq, not_false_iff, and_self]
    · simp (disch := omega) only [W1038, r_4, r_La, r_2, r_Li, s_0, ci_1, h79_1021, r_47, ci_2, r_52, ci_0, ci_4, r_46, ci_m9, r_90, enR, LG, LSt, LC, nlR, psR, TK, up_s, up_n, up_u, lt_nI, le_nI, eq_nI, true_and, and_true, if_true, if_false, Nat.zero_add, Nat.add_zero, nI_add, ↓reduceIte, Nat.reduceAdd, Nat.reduceMul, Nat.reduceSub, Nat.reduceLT, Nat.reduceLeDiff, Nat.reduceEqDiff, Nat.not_lt_zero, Nat.lt_irrefl, decide_true, BEq.rfl, nm1, nm2, nm3, nm4, nm9, ngc, eq_self, List.length_cons, List.length_nil, m_of, e1, e2, e3, q1, q2, ldm, o2i, false_and]
theorem m_touches {i p : Nat} (h : MLn a (e 74) P N W K O T J) (hb : LB P N W K O T J) (hi : i < N) (hp : p < 65536) : Cw (d + 2) 1035 [.ref 67, .int (nI i), .int (nI p)] z (Hp X C (a, b, e, o)) Q ↔ Q (some (.int (if O i = p ∨ T i = p then nI 1 else nI 0))) z (Hp X C (a, b, e, o)) := by
  obtain ⟨hP, hN, hW1, hW2, hv⟩ := hb
  obtain ⟨b1, b2, b3, b4⟩ := hv i hi
  obtain ⟨e1, e2, e3, e4⟩ := h.2.2.2 i hi
  rw [cw_wp]
  by_cases q1 : O i = p
  · simp (disch := omega) only [W1035, r_4, r_La, r_2, r_Li, s_0, ci_1, h79_1021, r_46, ci_2, r_47, r_52, ci_0, r_94, s_Z0, s_Z1, enR, LG, LSt, LC, nlR, psR, TK, up_s, up_n, up_u, lt_nI, le_nI, eq_nI, true_and, and_true, if_true, if_false, Nat.zero_add, Nat.add_zero, nI_add, ↓reduceIte, Nat.reduceAdd, Nat.reduceMul, Nat.reduceSub, Nat.reduceLT, Nat.reduceLeDiff, Nat.reduceEqDiff, Nat.not_lt_zero, Nat.lt_irrefl, decide_true, BEq.rfl, nm1, nm2, nm3, nm4, nm9, ngc, eq_self, List.length_cons, List.length_nil, m_of, e2, e3, q1, true_or]
  · by_cases q2 : T i = p <;> simp (disch := omega) only [W1035, r_4, r_La, r_2, r_Li, s_0, ci_1, h79_1021, r_46, ci_2, r_47, r_52, ci_0, r_94, s_Z0, s_Z1, enR, LG, LSt, LC, nlR, psR, TK, up_s, up_n, up_u, lt_nI, le_nI, eq_nI, true_and, and_true, if_true, if_false, Nat.zero_add, Nat.add_zero, nI_add, ↓reduceIte, Nat.reduceAdd, Nat.reduceMul, Nat.reduceSub, Nat.reduceLT, Nat.reduceLeDiff, Nat.reduceEqDiff, Nat.not_lt_zero, Nat.lt_irrefl, decide_true, BEq.rfl, nm1, nm2, nm3, nm4, nm9, ngc, eq_self, List.length_cons, List.length_nil, m_of, e2, e3, q1, q2, or_true, or_self, or_false]
theorem m_isA {i k : Nat} (h : MLn a (e 74) P N W K O T J) (hb : LB P N W K O T J) (hi : i < N) (hk : k < 65536) : Cw (d + 2) 1031 [.ref 67, .int (nI i), .int (nI k)] z (Hp X C (a, b, e, o)) Q ↔ Q (some (.int (if isb (K i) k = true then nI 1 else nI 0))) z (Hp X C (a, b, e, o)) := by
  obtain ⟨hP, hN, hW1, hW2, hv⟩ := hb
  obtain ⟨b1, b2, b3, b4⟩ := hv i hi
  obtain ⟨e1, e2, e3, e4⟩ := h.2.2.2 i hi
  rw [cw_wp]
  simp only [isb, decide_eq_true_eq]
  by_cases q1 : K i = k
  · simp (disch := omega) only [W1031, r_4, r_La, r_2, r_Li, s_0, ci_0, h79_1021, r_46, ci_1, r_47, ci_5, ci_2, ci_4, r_52, r_94, s_Z0, s_Z1, enR, LG, LSt, LC, nlR, psR, TK, up_s, up_n, up_u, lt_nI, le_nI, eq_nI, true_and, and_true, if_true, if_false, Nat.zero_add, Nat.add_zero, nI_add, ↓reduceIte, Nat.reduceAdd, Nat.reduceMul, Nat.reduceSub, Nat.reduceLT, Nat.reduceLeDiff, Nat.reduceEqDiff, Nat.not_lt_zero, Nat.lt_irrefl, decide_true, BEq.rfl, nm1, nm2, nm3, nm4, nm9, ngc, eq_self, List.length_cons, List.length_nil, m_of, e1, q1, true_or]
  · by_cases q2 : k = 1
    · subst q2
      by_cases q3 : K i = 5 <;> simp (disch := omega) only [W1031, r_4, r_La, r_2, r_Li, s_0, ci_0, h79_1021, r_46, ci_1, r_47, ci_5, ci_2, ci_4, r_52, r_94, s_Z0, s_Z1, enR, LG, LSt, LC, nlR, psR, TK, up_s, up_n, up_u, lt_nI, le_nI, eq_nI, true_and, and_true, if_true, if_false, Nat.zero_add, Nat.add_zero, nI_add, ↓reduceIte, Nat.reduceAdd, Nat.reduceMul, Nat.reduceSub, Nat.reduceLT, Nat.reduceLeDiff, Nat.reduceEqDiff, Nat.not_lt_zero, Nat.lt_irrefl, decide_true, BEq.rfl, nm1, nm2, nm3, nm4, nm9, ngc, eq_self, List.length_cons, List.length_nil, m_of, e1, q1, q3, or_true, or_false, true_or, false_or, and_self, false_and, and_false, or_self]
    · by_cases q3 : k = 2
      · subst q3
        by_cases q4 : K i = 4 <;> simp (disch := omega) only [W1031, r_4, r_La, r_2, r_Li, s_0, ci_0, h79_1021, r_46, ci_1, r_47, ci_5, ci_2, ci_4, r_52, r_94, s_Z0, s_Z1, enR, LG, LSt, LC, nlR, psR, TK, up_s, up_n, up_u, lt_nI, le_nI, eq_nI, true_and, and_true, if_true, if_false, Nat.zero_add, Nat.add_zero, nI_add, ↓reduceIte, Nat.reduceAdd, Nat.reduceMul, Nat.reduceSub, Nat.reduceLT, Nat.reduceLeDiff, Nat.reduceEqDiff, Nat.not_lt_zero, Nat.lt_irrefl, decide_true, BEq.rfl, nm1, nm2, nm3, nm4, nm9, ngc, eq_self, List.length_cons, List.length_nil, m_of, e1, q1, q4, or_true, or_false, true_or, false_or, and_self, false_and, and_false, or_self]
      · simp (disch := omega) only [W1031, r_4, r_La, r_2, r_Li, s_0, ci_0, h79_1021, r_46, ci_1, r_47, ci_5, ci_2, ci_4, r_52, r_94, s_Z0, s_Z1, enR, LG, LSt, LC, nlR, psR, TK, up_s, up_n, up_u, lt_nI, le_nI, eq_nI, true_and, and_true, if_true, if_false, Nat.zero_add, Nat.add_zero, nI_add, ↓reduceIte, Nat.reduceAdd, Nat.reduceMul, Nat.reduceSub, Nat.reduceLT, Nat.reduceLeDiff, Nat.reduceEqDiff, Nat.not_lt_zero, Nat.lt_irrefl, decide_true, BEq.rfl, nm1, nm2, nm3, nm4, nm9, ngc, eq_self, List.length_cons, List.length_nil, m_of, e1, q1, q2, q3, or_true, or_false, true_or, false_or, and_self, false_and, and_false, or_self]
def cntF (K O T : Nat → Nat) (p i c : Nat) : Nat := match ldm K O T i p with
  | none => c
  | some _ => c + 1
theorem lp_openFrom {p : Nat} (h : MLn a (e 74) P N W K O T J) (hb : LB P N W K O T J) (hp : p < 65536) : ∀ (q k c : Nat), k + q = N → c ≤ k → (Wp (d + 2) 1041 4 [some (.ref 67), some (.int (nI p)), some (.int (nI c)), some (.int (nI k))] [] z (Hp X C (a, b, e, o)) Q ↔ Q (some (.int (nI (foldu (cntF K O T p) k q c)))) z (Hp X C (a, b, e, o))) := by
  have hN := hb.2.1
  have h0 := h.2.1
  intro q
  induction q with
  | zero =>
    intro k c hk _
    have hk : k = N := by omega
    subst hk
    rw [W1041_4]
    simp (disch := omega) only [W1041, s_0, ci_0, r_5, r_2, r_Li, r_4, r_La, h60_10_11, r_49, h79_1038, ci_m9, r_47, r_52, ci_1, r_10, s_8, r_In, r_90, enR, LG, LSt, LC, nlR, psR, TK, up_s, up_n, up_u, lt_nI, le_nI, eq_nI, true_and, and_true, if_true, if_false, Nat.zero_add, Nat.add_zero, nI_add, ↓reduceIte, Nat.reduceAdd, Nat.reduceMul, Nat.reduceSub, Nat.reduceLT, Nat.reduceLeDiff, Nat.reduceEqDiff, Nat.not_lt_zero, Nat.lt_irrefl, decide_true, BEq.rfl, nm1, nm2, nm3, nm4, nm9, ngc, eq_self, List.length_cons, List.length_nil, h0, foldu]
  | succ q ih =>
    intro k c hk hc
    have h1 : k < N := by omega
    rw [W1041_4]
    cases hl : ldm K O T k p with
    | none =>
      simp (disch := omega) only [W1041, s_0, ci_0, r_5, r_2, r_Li, r_4, r_La, h60_10_11, r_49, h79_1038, ci_m9, r_47, r_52, ci_1, r_10, s_8, r_In, r_90, enR, LG, LSt, LC, nlR, psR, TK, up_s, up_n, up_u, lt_nI, le_nI, eq_nI, true_and, and_true, if_true, if_false, Nat.zero_add, Nat.add_zero, nI_add, ↓reduceIte, Nat.reduceAdd, Nat.reduceMul, Nat.reduceSub, Nat.reduceLT, Nat.reduceLeDiff, Nat.reduceEqDiff, Nat.not_lt_zero, Nat.lt_irrefl, decide_true, BEq.rfl, nm1, nm2, nm3, nm4, nm9, ngc, eq_self, List.length_cons, List.length_nil, h0, h1, foldu, cntF, hl, m_leads h hb h1 hp, o2i]
      exact ih (k + 1) _ (by omega) (by omega)
    | some w =>
      have hw := ldm_lt hb h1 hl
      have hP := hb.1
      simp (disch := omega) only [W1041, s_0, ci_0, r_5, r_2, r_Li, r_4, r_La, h60_10_11, r_49, h79_1038, ci_m9, r_47, r_52, ci_1, r_10, s_8, r_In, r_90, enR, LG, LSt, LC, nlR, psR, TK, up_s, up_n, up_u, lt_nI, le_nI, eq_nI, true_and, and_true, if_true, if_false, Nat.zero_add, Nat.add_zero, nI_add, ↓reduceIte, Nat.reduceAdd, Nat.reduceMul, Nat.reduceSub, Nat.reduceLT, Nat.reduceLeDiff, Nat.reduceEqDiff, Nat.not_lt_zero, Nat.lt_irrefl, decide_true, BEq.rfl, nm1, nm2, nm3, nm4, nm9, ngc, eq_self, List.length_cons, List.length_nil, h0, h1, foldu, cntF, hl, m_leads h hb h1 hp, o2i]
      exact ih (k + 1) _ (by omega) (by omega)
theorem m_openFrom {p : Nat} (h : MLn a (e 74) P N W K O T J) (hb : LB P N W K O T J) (hp : p < 65536) : Cw (d + 3) 1041 [.ref 67, .int (nI p)] z (Hp X C (a, b, e, o)) Q ↔ Q (some (.int (nI (foldu (cntF K O T p) 0 N 0)))) z (Hp X C (a, b, e, o)) := by
  rw [cw_wp]
  simp (disch := omega) only [W1041, s_0, ci_0, r_5, r_2, r_Li, r_4, r_La, h60_10_11, r_49, h79_1038, ci_m9, r_47, r_52, ci_1, r_10, s_8, r_In, r_90, enR, LG, LSt, LC, nlR, psR, TK, up_s, up_n, up_u, lt_nI, le_nI, eq_nI, true_and, and_true, if_true, if_false, Nat.zero_add, Nat.add_zero, nI_add, ↓reduceIte, Nat.reduceAdd, Nat.reduceMul, Nat.reduceSub, Nat.reduceLT, Nat.reduceLeDiff, Nat.reduceEqDiff, Nat.not_lt_zero, Nat.lt_irrefl, decide_true, BEq.rfl, nm1, nm2, nm3, nm4, nm9, ngc, eq_self, List.length_cons, List.length_nil]
  exact lp_openFrom h hb hp N 0 0 (by omega) (by omega)
theorem m_asked_no {r : Nat} (hr : r < 6) (h : e 69 r = -9) : Cw (d + 3) 1009 [.ref 67, .int (nI r)] z (Hp X C (a, b, e, o)) Q ↔ Q (some (.int (-3))) z (Hp X C (va_up a 0 (nI 1), b, va_up e 68 (upd (e 68) 1 (e 68 1 + nI 1)), o)) := by
  have h1 : r < 6 := hr
  rw [cw_wp]
  simp (disch := omega) only [W1009, r_2, r_Li, h80_1007, s_41, s_0, ci_m1, r_52, r_4, r_La, h60_10_5, s_43, ci_1, h79_1002, ci_0, r_90, h64_69, enR, LG, LSt, LC, nlR, psR, TK, up_s, up_n, up_u, lt_nI, le_nI, eq_nI, true_and, and_true, if_true, if_false, Nat.zero_add, Nat.add_zero, nI_add, ↓reduceIte, Nat.reduceAdd, Nat.reduceMul, Nat.reduceSub, Nat.reduceLT, Nat.reduceLeDiff, Nat.reduceEqDiff, Nat.not_lt_zero, Nat.lt_irrefl, decide_true, BEq.rfl, nm1, nm2, nm3, nm4, nm9, ngc, eq_self, List.length_cons, List.length_nil, m_isRow, h, m_meet, show (5 < r) = False from eq_false (by omega)]
theorem m_asked_ok {r n : Nat} (hr : r < 6) (h : e 69 r = nI n) (hn : n < 65536) : Cw (d + 3) 1009 [.ref 67, .int (nI r)] z (Hp X C (a, b, e, o)) Q ↔ Q (some (.int (nI 0))) z (Hp X C (a, b, e, o)) := by
  rw [cw_wp]
  simp (disch := omega) only [W1009, r_2, r_Li, h80_1007, s_41, s_0, ci_m1, r_52, r_4, r_La, h60_10_5, s_43, ci_1, h79_1002, ci_0, r_90, h64_69, enR, LG, LSt, LC, nlR, psR, TK, up_s, up_n, up_u, lt_nI, le_nI, eq_nI, true_and, and_true, if_true, if_false, Nat.zero_add, Nat.add_zero, nI_add, ↓reduceIte, Nat.reduceAdd, Nat.reduceMul, Nat.reduceSub, Nat.reduceLT, Nat.reduceLeDiff, Nat.reduceEqDiff, Nat.not_lt_zero, Nat.lt_irrefl, decide_true, BEq.rfl, nm1, nm2, nm3, nm4, nm9, ngc, eq_self, List.length_cons, List.length_nil, m_isRow, h, show (5 < r) = False from eq_false (by omega)]
theorem m_askedT_no {r : Nat} (hr : r < 4) (h : e 72 r = -9) : Cw (d + 3) 1010 [.ref 67, .int (nI r)] z (Hp X C (a, b, e, o)) Q ↔ Q (some (.int (-3))) z (Hp X C (va_up a 0 (nI 1), b, va_up e 68 (upd (e 68) 1 (e 68 1 + nI 1)), o)) := by
  rw [cw_wp]
  simp (disch := omega) only [W1010, r_2, r_Li, h80_1008, s_41, s_0, ci_m1, r_52, r_4, r_La, h60_10_8, s_43, ci_1, h79_1002, ci_0, r_90, h64_72, enR, LG, LSt, LC, nlR, psR, TK, up_s, up_n, up_u, lt_nI, le_nI, eq_nI, true_and, and_true, if_true, if_false, Nat.zero_add, Nat.add_zero, nI_add, ↓reduceIte, Nat.reduceAdd, Nat.reduceMul, Nat.reduceSub, Nat.reduceLT, Nat.reduceLeDiff, Nat.reduceEqDiff, Nat.not_lt_zero, Nat.lt_irrefl, decide_true, BEq.rfl, nm1, nm2, nm3, nm4, nm9, ngc, eq_self, List.length_cons, List.length_nil, m_isText, h, m_meet, show (3 < r) = False from eq_false (by omega)]
theorem m_askedT_ok {r n : Nat} (hr : r < 4) (h : e 72 r = nI n) (hn : n < 65536) : Cw (d + 3) 1010 [.ref 67, .int (nI r)] z (Hp X C (a, b, e, o)) Q ↔ Q (some (.int (nI 0))) z (Hp X C (a, b, e, o)) := by
  rw [cw_wp]
  simp (disch := omega) only [W1010, r_2, r_Li, h80_1008, s_41, s_0, ci_m1, r_52, r_4, r_La, h60_10_8, s_43, ci_1, h79_1002, ci_0, r_90, h64_72, enR, LG, LSt, LC, nlR, psR, TK, up_s, up_n, up_u, lt_nI, le_nI, eq_nI, true_and, and_true, if_true, if_false, Nat.zero_add, Nat.add_zero, nI_add, ↓reduceIte, Nat.reduceAdd, Nat.reduceMul, Nat.reduceSub, Nat.reduceLT, Nat.reduceLeDiff, Nat.reduceEqDiff, Nat.not_lt_zero, Nat.lt_irrefl, decide_true, BEq.rfl, nm1, nm2, nm3, nm4, nm9, ngc, eq_self, List.length_cons, List.length_nil, m_isText, h, show (3 < r) = False from eq_false (by omega)]
end

/-! sets and counts -/
def cnb (p : Nat → Bool) (j c : Nat) : Nat := if p j = true then c + 1 else c
def cnt (p : Nat → Bool) (n : Nat) : Nat := foldu (cnb p) 0 n 0
theorem cnt_succ (p : Nat → Bool) (n : Nat) : cnt p (n + 1) = if p n = true then cnt p n + 1 else cnt p n := by
  unfold cnt
  rw [foldu_last, Nat.zero_add]
  rfl
theorem cnt_congr {p q : Nat → Bool} {n : Nat} (h : ∀ j, j < n → p j = q j) : cnt p n = cnt q n :=
  foldu_congr n 0 0 (fun j c _ h2 => by show (if p j = true then c + 1 else c) = (if q j = true then c + 1 else c); rw [h j (by omega)])
theorem cnt_le (p : Nat → Bool) : ∀ n, cnt p n ≤ n := by
  intro n
  induction n with
  | zero => exact Nat.le_refl _
  | succ n ih =>
    rw [cnt_succ]
    split <;> omega
theorem cnt_ext {p : Nat → Bool} {n m : Nat} (hn : n ≤ m) (h : ∀ j, n ≤ j → p j = false) : cnt p m = cnt p n := by
  obtain ⟨k, rfl⟩ : ∃ k, m = n + k := ⟨m - n, by omega⟩
  induction k with
  | zero => rfl
  | succ k ih => rw [show n + (k + 1) = (n + k) + 1 by omega, cnt_succ, h (n + k) (by omega), ih (by omega)]; rfl
theorem pc_cnt (s n : Nat) : foldu (pcF s) 0 n 0 = cnt s.testBit n :=
  foldu_congr n 0 0 (fun j c _ _ => by
    show c + s / 2 ^ j % 2 = if s.testBit j = true then c + 1 else c
    rw [Nat.testBit_eq_decide_div_mod_eq]
    have : s / 2 ^ j % 2 < 2 := Nat.mod_lt _ (by decide)
    by_cases h : s / 2 ^ j % 2 = 1
    · simp [h]
    · simp [h]; omega)
def stb (p : Nat → Bool) (i s : Nat) : Nat := if p i = true then s ||| 2 ^ i else s
def sto (p : Nat → Bool) (n : Nat) : Nat := foldu (stb p) 0 n 0
theorem sto_succ (p : Nat → Bool) (n : Nat) : sto p (n + 1) = if p n = true then sto p n ||| 2 ^ n else sto p n := by
  unfold sto
  rw [foldu_last, Nat.zero_add]
  rfl
theorem sto_bit (p : Nat → Bool) (i : Nat) : ∀ n, (sto p n).testBit i = (decide (i < n) && p i) := by
  intro n
  induction n with
  | zero => simp [sto, foldu]
  | succ n ih =>
    rw [sto_succ]
    by_cases h : p n = true
    · rw [if_pos h, Nat.testBit_or, ih, Nat.testBit_two_pow]
      by_cases h2 : n = i
      · subst h2; simp [h]
      · have : (i < n) ↔ (i < n + 1) := by omega
        simp [h2, this]
    · rw [if_neg h, ih]
      by_cases h2 : n = i
      · subst h2; simp [h]
      · have : (i < n) ↔ (i < n + 1) := by omega
        simp [this]
theorem sto_lt (p : Nat → Bool) {n m : Nat} (h : n ≤ m) : sto p n < 2 ^ m :=
  Nat.lt_pow_two_of_testBit _ (fun i hi => by rw [sto_bit]; simp; omega)
theorem pc_sto (p : Nat → Bool) {n : Nat} (h : n ≤ 10) : foldu (pcF (sto p n)) 0 10 0 = cnt p n := by
  rw [pc_cnt, cnt_ext h (fun j hj => by rw [sto_bit]; simp; omega)]
  exact cnt_congr (fun j hj => by rw [sto_bit]; simp [hj])
theorem rds_sto (K O T : Nat → Nat) (p N : Nat) : foldu (rdsF K O T p) 0 N 0 = sto (fun i => (ldm K O T i p).isSome) N :=
  foldu_congr N 0 0 (fun j c _ _ => by
    show rdsF K O T p j c = stb _ j c
    unfold rdsF stb
    cases h : ldm K O T j p <;> simp [h])
theorem cntF_cnt (K O T : Nat → Nat) (p N : Nat) : foldu (cntF K O T p) 0 N 0 = cnt (fun i => (ldm K O T i p).isSome) N :=
  foldu_congr N 0 0 (fun j c _ _ => by
    show cntF K O T p j c = cnb _ j c
    unfold cntF cnb
    cases h : ldm K O T j p <;> simp [h])
theorem rb_sto (F : Nat → Nat) (y N : Nat) : foldu (rbF F y) 0 N 0 = sto (fun i => decide (F i = y)) N :=
  foldu_congr N 0 0 (fun j c _ _ => by
    show rbF F y j c = stb _ j c
    unfold rbF stb
    by_cases h : F j = y <;> simp [h])
/-! roads: what they are -/
def fct (W : Nat) (K O T J : Nat → Nat) (i k : Nat) : Nat := if k = 0 then K i else if k = 1 then O i else if k = 2 then T i else if k = 3 then J i else fe W K J i
section
variable {t d : Nat} {z : AZ} {X : Nat × (Nat → Int32)} {C : CT} {M : MT} {s : Nat → Int32} {v : Nat → Int64} {g : Nat → Nat → Int32} {w : Nat → Nat → Int64} {q : Nat → Nat} {ct : Nat → Int32} {cn : Nat → Int32} {cc : Nat → Nat → Int32} {di : Nat → Nat → Int32} {dr : Nat → Nat → Int32} {df : Nat → Nat → Int32} {li : Nat → Nat → Int32} {la : Nat → Nat → Nat → Int32} {sf : Nat → Nat → Int32} {sl : Nat → Nat → Int32} {a : Nat → Int32} {b : Nat → Int64} {e : Nat → Nat → Int32} {o : Nat → Nat → Int64} {B : Nat → Bool} {n : Nat → Nat} {P N W : Nat} {K O T J : Nat → Nat} {l : Nat} {Ds : Nat → Nat} {Dr Df Dp : Nat → Nat → Nat} {KB : Nat → Bool}
theorem rl_land (H : RL t z s v g w q ct cn cc di dr df li la sf sl a b e o B n P N W K O T J l Ds Dr Df Dp KB) : LB P N W K O T J ∧ l < 2 ∧ q 0 = l ∧ CLn (li l) (la l) P N K O T J ∧ s 14 = nI W ∧ MLn a (e 74) P N W K O T J ∧ SEn (sf 0) (sl 0) N (fe W K J) K O T := by
  obtain ⟨h1, h2, ⟨g1, g2, g3, g4, g5, g6, g7, g8⟩, h4, h5, h6, h7⟩ := H
  exact ⟨g1, g2, g3, g5, g6, g7, g8⟩
theorem c_roadFact {i k : Nat} {Q : Option Value → AZ → AH → Prop} (hl : l < 2) (hq : q 0 = l) (h : CLn (li l) (la l) P N K O T J) (hb : LB P N W K O T J) (hS : SEn (sf 0) (sl 0) N (fe W K J) K O T) (hi : i < N) (hk : k < 5) : Cw (d + 2) 957 [.ref 0, .int (nI i), .int (nI k)] z (Hp X (s, v, g, w, q, ct, cn, cc, di, dr, df, li, la, sf, sl) M) Q ↔ Q (some (.int (nI (fct W K O T J i k)))) z (Hp X (s, v, g, w, q, ct, cn, cc, di, dr, df, li, la, sf, sl) M) := by
  have hN := hb.2.1
  obtain ⟨e1, e2, e3, e4⟩ := h.2.2 i hi
  have e5 : sf 0 i = nI (fe W K J i) := by rw [hS.1 i (by omega), if_pos hi]
  have hi10 : i < 10 := by omega
  rw [cw_wp]
  have hK : k = 0 ∨ k = 1 ∨ k = 2 ∨ k = 3 ∨ k = 4 := by omega
  rcases hK with rfl | rfl | rfl | rfl | rfl <;> simp (disch := omega) only [W957, r_4, r_La, h60_9_12, r_2, r_Li, h79_304, s_41, s_0, ci_0, r_90, r_54, h60_3_0, h60_3_1, h60_3_2, h60_3_3, h60_9_5, h60_6_0, h64_la0, h64_la1, h64_la2, h64_la3, h64_sf, enR, LG, LSt, LC, nlR, psR, TK, up_s, up_n, up_u, lt_nI, le_nI, eq_nI, true_and, and_true, if_true, if_false, Nat.zero_add, Nat.add_zero, nI_add, ↓reduceIte, Nat.reduceAdd, Nat.reduceMul, Nat.reduceSub, Nat.reduceLT, Nat.reduceLeDiff, Nat.reduceEqDiff, Nat.not_lt_zero, Nat.lt_irrefl, decide_true, BEq.rfl, nm1, nm2, nm3, nm4, nm9, ngc, eq_self, List.length_cons, List.length_nil, hq, hl, hi10, e1, e2, e3, e4, e5, c_hasRoadn hl h hi hN, sw_n, fct, List.getD_cons_zero, List.getD_cons_succ]
theorem m_tellsOf {i k : Nat} {Q : Option Value → AZ → AH → Prop} (h : MLn a (e 74) P N W K O T J) (hb : LB P N W K O T J) (hi : i < N) (hk : k < 5) : Cw (d + 3) 1033 [.ref 67, .int (nI i), .int (nI k)] z (Hp X C (a, b, e, o)) Q ↔ Q (some (.int (nI (fct W K O T J i k)))) z (Hp X C (a, b, e, o)) := by
  have hN := hb.2.1
  obtain ⟨e1, e2, e3, e4⟩ := h.2.2.2 i hi
  rw [cw_wp]
  have hK : k = 0 ∨ k = 1 ∨ k = 2 ∨ k = 3 ∨ k = 4 := by omega
  rcases hK with rfl | rfl | rfl | rfl | rfl <;> simp (disch := omega) only [W1033, r_2, r_Li, s_0, ci_4, r_47, r_4, r_La, h79_1032, r_52, h79_1021, r_90, enR, LG, LSt, LC, nlR, psR, TK, up_s, up_n, up_u, lt_nI, le_nI, eq_nI, true_and, and_true, if_true, if_false, Nat.zero_add, Nat.add_zero, nI_add, ↓reduceIte, Nat.reduceAdd, Nat.reduceMul, Nat.reduceSub, Nat.reduceLT, Nat.reduceLeDiff, Nat.reduceEqDiff, Nat.not_lt_zero, Nat.lt_irrefl, decide_true, BEq.rfl, nm1, nm2, nm3, nm4, nm9, ngc, eq_self, List.length_cons, List.length_nil, m_of, m_feelOf h hb hi, e1, e2, e3, e4, fct]
/-- a number of a ROAD or a PLACE, or none -/
theorem ixN (x : Int32) {m : Nat} (hm : m ≤ 80) : (x < nI 0) ∨ (¬ x < nI 0 ∧ ¬ x < nI m ∧ nI m - nI 1 < x) ∨ ∃ k, k < m ∧ x = nI k := by
  by_cases h : x < nI 0
  · exact Or.inl h
  · obtain ⟨j, hj, rfl⟩ := nI_of' h
    by_cases h1 : j < m
    · exact Or.inr (Or.inr ⟨j, h1, rfl⟩)
    · exact Or.inr (Or.inl ⟨h, by rw [nI_ltI hj (by omega)]; exact h1, (sub1 (by omega) hj).mpr (by omega)⟩)
theorem op_road {x y : Int32} (H : RL t z s v g w q ct cn cc di dr df li la sf sl a b e o B n P N W K O T J l Ds Dr Df Dp KB) : OPI (d + 20) 911 1034 [.int x, .int y] t z X (s, v, g, w, q, ct, cn, cc, di, dr, df, li, la, sf, sl) (a, b, e, o) := by
  obtain ⟨hb, hl, hq, hC, hs, hM, hS⟩ := rl_land H
  have hN := hb.2.1
  unfold OPI
  rw [cw_wp]
  rcases ixN x (show N ≤ 80 by omega) with h | ⟨h1, h2, h3⟩ | ⟨i, hi, rfl⟩
  · simp (disch := omega) only [W911, r_4, r_La, h60_9_12, r_2, r_Li, h79_304, s_40, s_42, s_0, ci_5, r_48, ci_m1, r_90, h79_957, h79_952, enR, LG, LSt, LC, nlR, psR, TK, up_s, up_n, up_u, lt_nI, le_nI, eq_nI, true_and, and_true, if_true, if_false, Nat.zero_add, Nat.add_zero, nI_add, ↓reduceIte, Nat.reduceAdd, Nat.reduceMul, Nat.reduceSub, Nat.reduceLT, Nat.reduceLeDiff, Nat.reduceEqDiff, Nat.not_lt_zero, Nat.lt_irrefl, decide_true, BEq.rfl, nm1, nm2, nm3, nm4, nm9, ngc, eq_self, List.length_cons, List.length_nil, hq, hl, c_hasRoad hl hC, h]
    refine okc ?_
    rw [cw_wp]
    simp (disch := omega) only [W1034, r_4, r_La, r_2, r_Li, h79_1030, s_40, s_0, ci_0, ci_4, h80_1001, h79_1033, ci_1, h79_1003, r_52, ci_m1, r_90, enR, LG, LSt, LC, nlR, psR, TK, up_s, up_n, up_u, lt_nI, le_nI, eq_nI, true_and, and_true, if_true, if_false, Nat.zero_add, Nat.add_zero, nI_add, ↓reduceIte, Nat.reduceAdd, Nat.reduceMul, Nat.reduceSub, Nat.reduceLT, Nat.reduceLeDiff, Nat.reduceEqDiff, Nat.not_lt_zero, Nat.lt_irrefl, decide_true, BEq.rfl, nm1, nm2, nm3, nm4, nm9, ngc, eq_self, List.length_cons, List.length_nil, m_isRoad hM, h]
    exact okm (rl_inv (rl_t H))
  · simp (disch := omega) only [W911, r_4, r_La, h60_9_12, r_2, r_Li, h79_304, s_40, s_42, s_0, ci_5, r_48, ci_m1, r_90, h79_957, h79_952, enR, LG, LSt, LC, nlR, psR, TK, up_s, up_n, up_u, lt_nI, le_nI, eq_nI, true_and, and_true, if_true, if_false, Nat.zero_add, Nat.add_zero, nI_add, ↓reduceIte, Nat.reduceAdd, Nat.reduceMul, Nat.reduceSub, Nat.reduceLT, Nat.reduceLeDiff, Nat.reduceEqDiff, Nat.not_lt_zero, Nat.lt_irrefl, decide_true, BEq.rfl, nm1, nm2, nm3, nm4, nm9, ngc, eq_self, List.length_cons, List.length_nil, hq, hl, c_hasRoad hl hC, h1, h2]
    refine okc ?_
    rw [cw_wp]
    simp (disch := omega) only [W1034, r_4, r_La, r_2, r_Li, h79_1030, s_40, s_0, ci_0, ci_4, h80_1001, h79_1033, ci_1, h79_1003, r_52, ci_m1, r_90, enR, LG, LSt, LC, nlR, psR, TK, up_s, up_n, up_u, lt_nI, le_nI, eq_nI, true_and, and_true, if_true, if_false, Nat.zero_add, Nat.add_zero, nI_add, ↓reduceIte, Nat.reduceAdd, Nat.reduceMul, Nat.reduceSub, Nat.reduceLT, Nat.reduceLeDiff, Nat.reduceEqDiff, Nat.not_lt_zero, Nat.lt_irrefl, decide_true, BEq.rfl, nm1, nm2, nm3, nm4, nm9, ngc, eq_self, List.length_cons, List.length_nil, m_isRoad hM, h1, h3]
    exact okm (rl_inv (rl_t H))
  · have hi2 := nsub (show N < 65536 by omega) hi
    rcases ix y (n := 4) (by decide) with h | ⟨h1, h2, h3⟩ | ⟨k, hk, rfl⟩
    · simp (disch := omega) only [W911, r_4, r_La, h60_9_12, r_2, r_Li, h79_304, s_40, s_42, s_0, ci_5, r_48, ci_m1, r_90, h79_957, h79_952, enR, LG, LSt, LC, nlR, psR, TK, up_s, up_n, up_u, lt_nI, le_nI, eq_nI, true_and, and_true, if_true, if_false, Nat.zero_add, Nat.add_zero, nI_add, ↓reduceIte, Nat.reduceAdd, Nat.reduceMul, Nat.reduceSub, Nat.reduceLT, Nat.reduceLeDiff, Nat.reduceEqDiff, Nat.not_lt_zero, Nat.lt_irrefl, decide_true, BEq.rfl, nm1, nm2, nm3, nm4, nm9, ngc, eq_self, List.length_cons, List.length_nil, hq, hl, c_hasRoadn hl hC hi hN, h]
      refine okc ?_
      rw [cw_wp]
      simp (disch := omega) only [W1034, r_4, r_La, r_2, r_Li, h79_1030, s_40, s_0, ci_0, ci_4, h80_1001, h79_1033, ci_1, h79_1003, r_52, ci_m1, r_90, enR, LG, LSt, LC, nlR, psR, TK, up_s, up_n, up_u, lt_nI, le_nI, eq_nI, true_and, and_true, if_true, if_false, Nat.zero_add, Nat.add_zero, nI_add, ↓reduceIte, Nat.reduceAdd, Nat.reduceMul, Nat.reduceSub, Nat.reduceLT, Nat.reduceLeDiff, Nat.reduceEqDiff, Nat.not_lt_zero, Nat.lt_irrefl, decide_true, BEq.rfl, nm1, nm2, nm3, nm4, nm9, ngc, eq_self, List.length_cons, List.length_nil, m_isRoad hM, hi2, m_in, h]
      exact okm (rl_inv (rl_t H))
    · simp (disch := omega) only [W911, r_4, r_La, h60_9_12, r_2, r_Li, h79_304, s_40, s_42, s_0, ci_5, r_48, ci_m1, r_90, h79_957, h79_952, enR, LG, LSt, LC, nlR, psR, TK, up_s, up_n, up_u, lt_nI, le_nI, eq_nI, true_and, and_true, if_true, if_false, Nat.zero_add, Nat.add_zero, nI_add, ↓reduceIte, Nat.reduceAdd, Nat.reduceMul, Nat.reduceSub, Nat.reduceLT, Nat.reduceLeDiff, Nat.reduceEqDiff, Nat.not_lt_zero, Nat.lt_irrefl, decide_true, BEq.rfl, nm1, nm2, nm3, nm4, nm9, ngc, eq_self, List.length_cons, List.length_nil, hq, hl, c_hasRoadn hl hC hi hN, h1, h2]
      refine okc ?_
      rw [cw_wp]
      simp (disch := omega) only [W1034, r_4, r_La, r_2, r_Li, h79_1030, s_40, s_0, ci_0, ci_4, h80_1001, h79_1033, ci_1, h79_1003, r_52, ci_m1, r_90, enR, LG, LSt, LC, nlR, psR, TK, up_s, up_n, up_u, lt_nI, le_nI, eq_nI, true_and, and_true, if_true, if_false, Nat.zero_add, Nat.add_zero, nI_add, ↓reduceIte, Nat.reduceAdd, Nat.reduceMul, Nat.reduceSub, Nat.reduceLT, Nat.reduceLeDiff, Nat.reduceEqDiff, Nat.not_lt_zero, Nat.lt_irrefl, decide_true, BEq.rfl, nm1, nm2, nm3, nm4, nm9, ngc, eq_self, List.length_cons, List.length_nil, m_isRoad hM, hi2, m_in, h1, h3]
      exact okm (rl_inv (rl_t H))
    · have hk5 : k < 5 := by omega
      have hk4 : ¬ 4 < k := by omega
      simp (disch := omega) only [W911, r_4, r_La, h60_9_12, r_2, r_Li, h79_304, s_40, s_42, s_0, ci_5, r_48, ci_m1, r_90, h79_957, h79_952, enR, LG, LSt, LC, nlR, psR, TK, up_s, up_n, up_u, lt_nI, le_nI, eq_nI, true_and, and_true, if_true, if_false, Nat.zero_add, Nat.add_zero, nI_add, ↓reduceIte, Nat.reduceAdd, Nat.reduceMul, Nat.reduceSub, Nat.reduceLT, Nat.reduceLeDiff, Nat.reduceEqDiff, Nat.not_lt_zero, Nat.lt_irrefl, decide_true, BEq.rfl, nm1, nm2, nm3, nm4, nm9, ngc, eq_self, List.length_cons, List.length_nil, hq, hl, c_hasRoadn hl hC hi hN, hk5, c_roadFact hl hq hC hb hS hi hk5, c_toldA]
      refine okc ?_
      rw [cw_wp]
      simp (disch := omega) only [W1034, r_4, r_La, r_2, r_Li, h79_1030, s_40, s_0, ci_0, ci_4, h80_1001, h79_1033, ci_1, h79_1003, r_52, ci_m1, r_90, enR, LG, LSt, LC, nlR, psR, TK, up_s, up_n, up_u, lt_nI, le_nI, eq_nI, true_and, and_true, if_true, if_false, Nat.zero_add, Nat.add_zero, nI_add, ↓reduceIte, Nat.reduceAdd, Nat.reduceMul, Nat.reduceSub, Nat.reduceLT, Nat.reduceLeDiff, Nat.reduceEqDiff, Nat.not_lt_zero, Nat.lt_irrefl, decide_true, BEq.rfl, nm1, nm2, nm3, nm4, nm9, ngc, eq_self, List.length_cons, List.length_nil, m_isRoad hM, hi2, m_in, hk4, m_tellsOf hM hb hi hk5, m_ask]
      exact okm (rl_inv (rl_ask H))
theorem op_wheels {x : Int32} (H : RL t z s v g w q ct cn cc di dr df li la sf sl a b e o B n P N W K O T J l Ds Dr Df Dp KB) : OPI (d + 20) 913 1037 [.int x] t z X (s, v, g, w, q, ct, cn, cc, di, dr, df, li, la, sf, sl) (a, b, e, o) := by
  obtain ⟨hb, hl, hq, hC, hs, hM, hS⟩ := rl_land H
  unfold OPI
  rw [cw_wp]
  have h3n : ∀ {x : Int32}, (¬ x < nI 0 ∧ ¬ x < nI (3 + 1) ∧ nI 3 < x) → ¬ x < nI 1 := fun h h' => h.2.1 (Int32.lt_trans h' (by decide +kernel))
  rcases ix x (n := 3) (by decide) with h | h | ⟨k, hk, rfl⟩
  · have h1 : x < nI 1 := Int32.lt_trans h (by decide +kernel)
    simp (disch := omega) only [W913, r_2, r_Li, s_0, ci_1, r_48, ci_3, r_51, ci_m1, r_90, r_4, r_La, h60_9_14, r_5, h61_9_14, h79_956, enR, LG, LSt, LC, nlR, psR, TK, up_s, up_n, up_u, lt_nI, le_nI, eq_nI, true_and, and_true, if_true, if_false, Nat.zero_add, Nat.add_zero, nI_add, ↓reduceIte, Nat.reduceAdd, Nat.reduceMul, Nat.reduceSub, Nat.reduceLT, Nat.reduceLeDiff, Nat.reduceEqDiff, Nat.not_lt_zero, Nat.lt_irrefl, decide_true, BEq.rfl, nm1, nm2, nm3, nm4, nm9, ngc, eq_self, List.length_cons, List.length_nil, h1]
    refine okc ?_
    rw [cw_wp]
    simp (disch := omega) only [W1037, r_2, r_Li, s_0, ci_1, ci_3, h80_1001, s_41, ci_m1, r_90, r_4, r_La, h60_10_12, r_5, h61_10_12, enR, LG, LSt, LC, nlR, psR, TK, up_s, up_n, up_u, lt_nI, le_nI, eq_nI, true_and, and_true, if_true, if_false, Nat.zero_add, Nat.add_zero, nI_add, ↓reduceIte, Nat.reduceAdd, Nat.reduceMul, Nat.reduceSub, Nat.reduceLT, Nat.reduceLeDiff, Nat.reduceEqDiff, Nat.not_lt_zero, Nat.lt_irrefl, decide_true, BEq.rfl, nm1, nm2, nm3, nm4, nm9, ngc, eq_self, List.length_cons, List.length_nil, m_in, h1]
    exact okm (rl_inv (rl_t H))
  · have h1 := h3n h
    have h2 := h.2.2
    simp (disch := omega) only [W913, r_2, r_Li, s_0, ci_1, r_48, ci_3, r_51, ci_m1, r_90, r_4, r_La, h60_9_14, r_5, h61_9_14, h79_956, enR, LG, LSt, LC, nlR, psR, TK, up_s, up_n, up_u, lt_nI, le_nI, eq_nI, true_and, and_true, if_true, if_false, Nat.zero_add, Nat.add_zero, nI_add, ↓reduceIte, Nat.reduceAdd, Nat.reduceMul, Nat.reduceSub, Nat.reduceLT, Nat.reduceLeDiff, Nat.reduceEqDiff, Nat.not_lt_zero, Nat.lt_irrefl, decide_true, BEq.rfl, nm1, nm2, nm3, nm4, nm9, ngc, eq_self, List.length_cons, List.length_nil, h1, h2]
    refine okc ?_
    rw [cw_wp]
    simp (disch := omega) only [W1037, r_2, r_Li, s_0, ci_1, ci_3, h80_1001, s_41, ci_m1, r_90, r_4, r_La, h60_10_12, r_5, h61_10_12, enR, LG, LSt, LC, nlR, psR, TK, up_s, up_n, up_u, lt_nI, le_nI, eq_nI, true_and, and_true, if_true, if_false, Nat.zero_add, Nat.add_zero, nI_add, ↓reduceIte, Nat.reduceAdd, Nat.reduceMul, Nat.reduceSub, Nat.reduceLT, Nat.reduceLeDiff, Nat.reduceEqDiff, Nat.not_lt_zero, Nat.lt_irrefl, decide_true, BEq.rfl, nm1, nm2, nm3, nm4, nm9, ngc, eq_self, List.length_cons, List.length_nil, m_in, h1, h2]
    exact okm (rl_inv (rl_t H))
  · have h3 : ¬ 3 < k := by omega
    by_cases h1 : k < 1
    · simp (disch := omega) only [W913, r_2, r_Li, s_0, ci_1, r_48, ci_3, r_51, ci_m1, r_90, r_4, r_La, h60_9_14, r_5, h61_9_14, h79_956, enR, LG, LSt, LC, nlR, psR, TK, up_s, up_n, up_u, lt_nI, le_nI, eq_nI, true_and, and_true, if_true, if_false, Nat.zero_add, Nat.add_zero, nI_add, ↓reduceIte, Nat.reduceAdd, Nat.reduceMul, Nat.reduceSub, Nat.reduceLT, Nat.reduceLeDiff, Nat.reduceEqDiff, Nat.not_lt_zero, Nat.lt_irrefl, decide_true, BEq.rfl, nm1, nm2, nm3, nm4, nm9, ngc, eq_self, List.length_cons, List.length_nil, h1]
      refine okc ?_
      rw [cw_wp]
      simp (disch := omega) only [W1037, r_2, r_Li, s_0, ci_1, ci_3, h80_1001, s_41, ci_m1, r_90, r_4, r_La, h60_10_12, r_5, h61_10_12, enR, LG, LSt, LC, nlR, psR, TK, up_s, up_n, up_u, lt_nI, le_nI, eq_nI, true_and, and_true, if_true, if_false, Nat.zero_add, Nat.add_zero, nI_add, ↓reduceIte, Nat.reduceAdd, Nat.reduceMul, Nat.reduceSub, Nat.reduceLT, Nat.reduceLeDiff, Nat.reduceEqDiff, Nat.not_lt_zero, Nat.lt_irrefl, decide_true, BEq.rfl, nm1, nm2, nm3, nm4, nm9, ngc, eq_self, List.length_cons, List.length_nil, m_in, h1]
      exact okm (rl_inv (rl_t H))
    · have hb' : LB P N k K O T J := ⟨hb.1, hb.2.1, by omega, by omega, hb.2.2.2.2⟩
      simp (disch := omega) only [W913, r_2, r_Li, s_0, ci_1, r_48, ci_3, r_51, ci_m1, r_90, r_4, r_La, h60_9_14, r_5, h61_9_14, h79_956, enR, LG, LSt, LC, nlR, psR, TK, up_s, up_n, up_u, lt_nI, le_nI, eq_nI, true_and, and_true, if_true, if_false, Nat.zero_add, Nat.add_zero, nI_add, ↓reduceIte, Nat.reduceAdd, Nat.reduceMul, Nat.reduceSub, Nat.reduceLT, Nat.reduceLeDiff, Nat.reduceEqDiff, Nat.not_lt_zero, Nat.lt_irrefl, decide_true, BEq.rfl, nm1, nm2, nm3, nm4, nm9, ngc, eq_self, List.length_cons, List.length_nil, h1, h3]
      rw [cw_wp]
      simp (disch := omega) only [W956, r_4, r_La, h60_9_5, h60_9_12, h60_9_14, s_0, ci_m1, h79_601, r_93, enR, LG, LSt, LC, nlR, psR, TK, up_s, up_n, up_u, lt_nI, le_nI, eq_nI, true_and, and_true, if_true, if_false, Nat.zero_add, Nat.add_zero, nI_add, ↓reduceIte, Nat.reduceAdd, Nat.reduceMul, Nat.reduceSub, Nat.reduceLT, Nat.reduceLeDiff, Nat.reduceEqDiff, Nat.not_lt_zero, Nat.lt_irrefl, decide_true, BEq.rfl, nm1, nm2, nm3, nm4, nm9, ngc, eq_self, List.length_cons, List.length_nil, hq]
      refine c_learn (F := fe k K J) hl hC hb' (by decide) (fun i hi => ?_) (fun φ μ hSE => ?_)
      · rw [if_neg (ni_neg (by have := hb.2.1; omega) (by decide))]
      · simp (disch := omega) only [W913, r_2, r_Li, s_0, ci_1, r_48, ci_3, r_51, ci_m1, r_90, r_4, r_La, h60_9_14, r_5, h61_9_14, h79_956, enR, LG, LSt, LC, nlR, psR, TK, up_s, up_n, up_u, lt_nI, le_nI, eq_nI, true_and, and_true, if_true, if_false, Nat.zero_add, Nat.add_zero, nI_add, ↓reduceIte, Nat.reduceAdd, Nat.reduceMul, Nat.reduceSub, Nat.reduceLT, Nat.reduceLeDiff, Nat.reduceEqDiff, Nat.not_lt_zero, Nat.lt_irrefl, decide_true, BEq.rfl, nm1, nm2, nm3, nm4, nm9, ngc, eq_self, List.length_cons, List.length_nil, hs]
        refine okc ?_
        rw [cw_wp]
        simp (disch := omega) only [W1037, r_2, r_Li, s_0, ci_1, ci_3, h80_1001, s_41, ci_m1, r_90, r_4, r_La, h60_10_12, r_5, h61_10_12, enR, LG, LSt, LC, nlR, psR, TK, up_s, up_n, up_u, lt_nI, le_nI, eq_nI, true_and, and_true, if_true, if_false, Nat.zero_add, Nat.add_zero, nI_add, ↓reduceIte, Nat.reduceAdd, Nat.reduceMul, Nat.reduceSub, Nat.reduceLT, Nat.reduceLeDiff, Nat.reduceEqDiff, Nat.not_lt_zero, Nat.lt_irrefl, decide_true, BEq.rfl, nm1, nm2, nm3, nm4, nm9, ngc, eq_self, List.length_cons, List.length_nil, m_in, h1, h3, hM.2.2.1]
        obtain ⟨h1, h2, ⟨g1, g2, g3, g4, g5, g6, g7, g8⟩, h4, h5, h6, h7⟩ := H
        exact okm (rl_inv (W := k) ⟨h1, h2, ⟨hb', g2, g3, g4, g5, rfl, ⟨g7.1, g7.2.1, rfl, g7.2.2.2⟩, hSE⟩, h4, h5, h6, seen_up h7⟩)
theorem idr_K {K' : Nat → Nat} {a17 a18 : Int32} {e75 e76 e77 e78 : Nat → Int32} (h : ldm K' O T = ldm K O T) (H : I_drv P N K O T Ds Dr Df Dp KB di dr df a17 a18 e75 e76 e77 e78) : I_drv P N K' O T Ds Dr Df Dp KB di dr df a17 a18 e75 e76 e77 e78 := by
  unfold I_drv DV at *
  rw [h]
  exact H
theorem ldm_pave {i : Nat} (hp : K i = 0 ∨ K i = 2) : ldm (va_up K i 1) O T = ldm K O T := by
  funext j p
  unfold ldm
  by_cases h : j = i
  · subst h
    rw [up_s]
    have h4 : K j ≠ 4 := by omega
    simp [h4]
  · rw [up_n _ _ h]
theorem rl_pave {i : Nat} {φ μ : Nat → Int32} (H : RL t z s v g w q ct cn cc di dr df li la sf sl a b e o B n P N W K O T J l Ds Dr Df Dp KB) (hi : i < N) (hp : K i = 0 ∨ K i = 2) (hSE : SEn φ μ N (fe W (va_up K i 1) J) (va_up K i 1) O T) : RL (t + 1) z s v g w q ct cn cc di dr df li (va_up la l (va_up (la l) 0 (upd (la l 0) i (nI 1)))) (va_up sf 0 φ) (va_up sl 0 μ) a b (va_up e 74 (upd (e 74) (4 * i) (nI 1))) o B n P N W (va_up K i 1) O T J l Ds Dr Df Dp KB := by
  obtain ⟨h1, h2, ⟨hb, g2, g3, g4, hC, g6, g7, g8⟩, h4, h5, h6, h7⟩ := H
  refine ⟨h1, h2, ⟨⟨hb.1, hb.2.1, hb.2.2.1, hb.2.2.2.1, fun j hj => ?_⟩, g2, g3, g4, ?_, g6, ⟨g7.1, g7.2.1, g7.2.2.1, fun j hj => ?_⟩, hSE⟩, idr_K (ldm_pave hp) h4, h5, h6, seen_up h7⟩
  · obtain ⟨c1, c2, c3, c4⟩ := hb.2.2.2.2 j hj
    refine ⟨?_, c2, c3, c4⟩
    by_cases h : j = i
    · subst h; rw [up_s]; decide
    · rw [up_n _ _ h]; exact c1
  · rw [up_s]
    exact ⟨hC.1, hC.2.1, fun j hj => by
      obtain ⟨c1, c2, c3, c4⟩ := hC.2.2 j hj
      refine ⟨?_, c2, c3, c4⟩
      show upd (la l 0) i (nI 1) j = _
      by_cases h : j = i
      · subst h; rw [up_s, ud_s]
      · rw [up_n _ _ h, ud_n _ _ h]; exact c1⟩
  · obtain ⟨c1, c2, c3, c4⟩ := g7.2.2.2 j hj
    show upd (e 74) (4 * i) (nI 1) (4 * j) = _ ∧ upd (e 74) (4 * i) (nI 1) (4 * j + 1) = _ ∧ upd (e 74) (4 * i) (nI 1) (4 * j + 2) = _ ∧ upd (e 74) (4 * i) (nI 1) (4 * j + 3) = _
    rw [ud_n _ _ (show 4 * j + 1 ≠ 4 * i by omega), ud_n _ _ (show 4 * j + 2 ≠ 4 * i by omega), ud_n _ _ (show 4 * j + 3 ≠ 4 * i by omega)]
    refine ⟨?_, c2, c3, c4⟩
    by_cases h : j = i
    · subst h; rw [up_s, ud_s]
    · rw [up_n _ _ h, ud_n _ _ (by omega)]; exact c1
theorem op_pave {x : Int32} (H : RL t z s v g w q ct cn cc di dr df li la sf sl a b e o B n P N W K O T J l Ds Dr Df Dp KB) : OPI (d + 20) 937 1076 [.int x] t z X (s, v, g, w, q, ct, cn, cc, di, dr, df, li, la, sf, sl) (a, b, e, o) := by
  obtain ⟨hb, hl, hq, hC, hs, hM, hS⟩ := rl_land H
  have hN := hb.2.1
  unfold OPI
  rw [cw_wp]
  rcases ixN x (show N ≤ 80 by omega) with h | ⟨h1, h2, h3⟩ | ⟨i, hi, rfl⟩
  · simp (disch := omega) only [W937, r_4, r_La, h60_9_12, r_2, r_Li, h79_304, s_41, s_0, ci_m1, r_90, h79_314, ci_m4, h60_9_5, h60_6_0, r_5, h60_3_0, ci_1, h79_956, h64_la0, h65_la0, h64_sf, h65_sf, enR, LG, LSt, LC, nlR, psR, TK, up_s, up_n, up_u, lt_nI, le_nI, eq_nI, true_and, and_true, if_true, if_false, Nat.zero_add, Nat.add_zero, nI_add, ↓reduceIte, Nat.reduceAdd, Nat.reduceMul, Nat.reduceSub, Nat.reduceLT, Nat.reduceLeDiff, Nat.reduceEqDiff, Nat.not_lt_zero, Nat.lt_irrefl, decide_true, BEq.rfl, nm1, nm2, nm3, nm4, nm9, ngc, eq_self, List.length_cons, List.length_nil, hq, hl, c_hasRoad hl hC, h]
    refine okc ?_
    rw [cw_wp]
    simp (disch := omega) only [W1076, r_4, r_La, r_2, r_Li, h79_1030, s_41, s_0, ci_m1, r_90, h79_1075, ci_m4, h79_1032, r_5, h60_10_13, ci_4, r_12, ci_1, h65_74, enR, LG, LSt, LC, nlR, psR, TK, up_s, up_n, up_u, lt_nI, le_nI, eq_nI, true_and, and_true, if_true, if_false, Nat.zero_add, Nat.add_zero, nI_add, ↓reduceIte, Nat.reduceAdd, Nat.reduceMul, Nat.reduceSub, Nat.reduceLT, Nat.reduceLeDiff, Nat.reduceEqDiff, Nat.not_lt_zero, Nat.lt_irrefl, decide_true, BEq.rfl, nm1, nm2, nm3, nm4, nm9, ngc, eq_self, List.length_cons, List.length_nil, m_isRoad hM, h]
    exact okm (rl_inv (rl_t H))
  · simp (disch := omega) only [W937, r_4, r_La, h60_9_12, r_2, r_Li, h79_304, s_41, s_0, ci_m1, r_90, h79_314, ci_m4, h60_9_5, h60_6_0, r_5, h60_3_0, ci_1, h79_956, h64_la0, h65_la0, h64_sf, h65_sf, enR, LG, LSt, LC, nlR, psR, TK, up_s, up_n, up_u, lt_nI, le_nI, eq_nI, true_and, and_true, if_true, if_false, Nat.zero_add, Nat.add_zero, nI_add, ↓reduceIte, Nat.reduceAdd, Nat.reduceMul, Nat.reduceSub, Nat.reduceLT, Nat.reduceLeDiff, Nat.reduceEqDiff, Nat.not_lt_zero, Nat.lt_irrefl, decide_true, BEq.rfl, nm1, nm2, nm3, nm4, nm9, ngc, eq_self, List.length_cons, List.length_nil, hq, hl, c_hasRoad hl hC, h1, h2]
    refine okc ?_
    rw [cw_wp]
    simp (disch := omega) only [W1076, r_4, r_La, r_2, r_Li, h79_1030, s_41, s_0, ci_m1, r_90, h79_1075, ci_m4, h79_1032, r_5, h60_10_13, ci_4, r_12, ci_1, h65_74, enR, LG, LSt, LC, nlR, psR, TK, up_s, up_n, up_u, lt_nI, le_nI, eq_nI, true_and, and_true, if_true, if_false, Nat.zero_add, Nat.add_zero, nI_add, ↓reduceIte, Nat.reduceAdd, Nat.reduceMul, Nat.reduceSub, Nat.reduceLT, Nat.reduceLeDiff, Nat.reduceEqDiff, Nat.not_lt_zero, Nat.lt_irrefl, decide_true, BEq.rfl, nm1, nm2, nm3, nm4, nm9, ngc, eq_self, List.length_cons, List.length_nil, m_isRoad hM, h1, h3]
    exact okm (rl_inv (rl_t H))
  · have hi2 := nsub (show N < 65536 by omega) hi
    have hi10 : i < 10 := by omega
    obtain ⟨b1, b2, b3, b4⟩ := hb.2.2.2.2 i hi
    obtain ⟨e1, e2, e3, e4⟩ := hM.2.2.2 i hi
    have e5 : sf 0 i = nI (fe W K J i) := by rw [hS.1 i hi10, if_pos hi]
    by_cases hp : K i = 0 ∨ K i = 2
    · have hb' : LB P N W (va_up K i 1) O T J := ⟨hb.1, hb.2.1, hb.2.2.1, hb.2.2.2.1, fun j hj => by
        obtain ⟨c1, c2, c3, c4⟩ := hb.2.2.2.2 j hj
        refine ⟨?_, c2, c3, c4⟩
        by_cases h : j = i
        · subst h; rw [up_s]; decide
        · rw [up_n _ _ h]; exact c1⟩
      have hC' : CLn (li l) (va_up (la l) 0 (upd (la l 0) i (nI 1))) P N (va_up K i 1) O T J := ⟨hC.1, hC.2.1, fun j hj => by
        obtain ⟨c1, c2, c3, c4⟩ := hC.2.2 j hj
        refine ⟨?_, c2, c3, c4⟩
        show upd (la l 0) i (nI 1) j = _
        by_cases h : j = i
        · subst h; rw [up_s, ud_s]
        · rw [up_n _ _ h, ud_n _ _ h]; exact c1⟩
      simp (disch := omega) only [W937, r_4, r_La, h60_9_12, r_2, r_Li, h79_304, s_41, s_0, ci_m1, r_90, h79_314, ci_m4, h60_9_5, h60_6_0, r_5, h60_3_0, ci_1, h79_956, h64_la0, h65_la0, h64_sf, h65_sf, enR, LG, LSt, LC, nlR, psR, TK, up_s, up_n, up_u, lt_nI, le_nI, eq_nI, true_and, and_true, if_true, if_false, Nat.zero_add, Nat.add_zero, nI_add, ↓reduceIte, Nat.reduceAdd, Nat.reduceMul, Nat.reduceSub, Nat.reduceLT, Nat.reduceLeDiff, Nat.reduceEqDiff, Nat.not_lt_zero, Nat.lt_irrefl, decide_true, BEq.rfl, nm1, nm2, nm3, nm4, nm9, ngc, eq_self, List.length_cons, List.length_nil, hq, hl, hi10, e5, hp, c_hasRoadn hl hC hi hN, c_canPave hl hC hb hi]
      rw [cw_wp]
      simp (disch := omega) only [W956, r_4, r_La, h60_9_5, h60_9_12, h60_9_14, s_0, ci_m1, h79_601, r_93, enR, LG, LSt, LC, nlR, psR, TK, up_s, up_n, up_u, lt_nI, le_nI, eq_nI, true_and, and_true, if_true, if_false, Nat.zero_add, Nat.add_zero, nI_add, ↓reduceIte, Nat.reduceAdd, Nat.reduceMul, Nat.reduceSub, Nat.reduceLT, Nat.reduceLeDiff, Nat.reduceEqDiff, Nat.not_lt_zero, Nat.lt_irrefl, decide_true, BEq.rfl, nm1, nm2, nm3, nm4, nm9, ngc, eq_self, List.length_cons, List.length_nil, hq, hs]
      refine c_learn (F := fe W (va_up K i 1) J) hl (by rw [up_s]; exact hC') hb' (by decide) (fun i hi => ?_) (fun φ μ hSE => ?_)
      · rw [if_neg (ni_neg (by omega) (by decide))]
      · simp (disch := omega) only [W937, r_4, r_La, h60_9_12, r_2, r_Li, h79_304, s_41, s_0, ci_m1, r_90, h79_314, ci_m4, h60_9_5, h60_6_0, r_5, h60_3_0, ci_1, h79_956, h64_la0, h65_la0, h64_sf, h65_sf, enR, LG, LSt, LC, nlR, psR, TK, up_s, up_n, up_u, lt_nI, le_nI, eq_nI, true_and, and_true, if_true, if_false, Nat.zero_add, Nat.add_zero, nI_add, ↓reduceIte, Nat.reduceAdd, Nat.reduceMul, Nat.reduceSub, Nat.reduceLT, Nat.reduceLeDiff, Nat.reduceEqDiff, Nat.not_lt_zero, Nat.lt_irrefl, decide_true, BEq.rfl, nm1, nm2, nm3, nm4, nm9, ngc, eq_self, List.length_cons, List.length_nil]
        refine okc ?_
        rw [cw_wp]
        have hm : (K i = 0) ∨ ¬ (K i = 0) ∧ K i = 2 := by omega
        rcases hm with hm | ⟨hm, hm2⟩
        · simp (disch := omega) only [W1076, r_4, r_La, r_2, r_Li, h79_1030, s_41, s_0, ci_m1, r_90, h79_1075, ci_m4, h79_1032, r_5, h60_10_13, ci_4, r_12, ci_1, h65_74, W1075, ci_0, h79_1021, s_40, ci_2, r_47, r_52, r_94, s_Z0, s_Z1, (fun d => cw_wp d 1075), enR, LG, LSt, LC, nlR, psR, TK, up_s, up_n, up_u, lt_nI, le_nI, eq_nI, true_and, and_true, if_true, if_false, Nat.zero_add, Nat.add_zero, nI_add, ↓reduceIte, Nat.reduceAdd, Nat.reduceMul, Nat.reduceSub, Nat.reduceLT, Nat.reduceLeDiff, Nat.reduceEqDiff, Nat.not_lt_zero, Nat.lt_irrefl, decide_true, BEq.rfl, nm1, nm2, nm3, nm4, nm9, ngc, eq_self, List.length_cons, List.length_nil, m_isRoad hM, hi2, m_of, e1, hm, m_feelOf hM hb hi, nI_mul]
          exact okm (rl_inv (rl_pave H hi hp hSE))
        · simp (disch := omega) only [W1076, r_4, r_La, r_2, r_Li, h79_1030, s_41, s_0, ci_m1, r_90, h79_1075, ci_m4, h79_1032, r_5, h60_10_13, ci_4, r_12, ci_1, h65_74, W1075, ci_0, h79_1021, s_40, ci_2, r_47, r_52, r_94, s_Z0, s_Z1, (fun d => cw_wp d 1075), enR, LG, LSt, LC, nlR, psR, TK, up_s, up_n, up_u, lt_nI, le_nI, eq_nI, true_and, and_true, if_true, if_false, Nat.zero_add, Nat.add_zero, nI_add, ↓reduceIte, Nat.reduceAdd, Nat.reduceMul, Nat.reduceSub, Nat.reduceLT, Nat.reduceLeDiff, Nat.reduceEqDiff, Nat.not_lt_zero, Nat.lt_irrefl, decide_true, BEq.rfl, nm1, nm2, nm3, nm4, nm9, ngc, eq_self, List.length_cons, List.length_nil, m_isRoad hM, hi2, m_of, e1, hm2, m_feelOf hM hb hi, nI_mul]
          exact okm (rl_inv (rl_pave H hi hp hSE))
    · have hp1 : ¬ K i = 0 := fun h => hp (Or.inl h)
      have hp2 : ¬ K i = 2 := fun h => hp (Or.inr h)
      simp (disch := omega) only [W937, r_4, r_La, h60_9_12, r_2, r_Li, h79_304, s_41, s_0, ci_m1, r_90, h79_314, ci_m4, h60_9_5, h60_6_0, r_5, h60_3_0, ci_1, h79_956, h64_la0, h65_la0, h64_sf, h65_sf, enR, LG, LSt, LC, nlR, psR, TK, up_s, up_n, up_u, lt_nI, le_nI, eq_nI, true_and, and_true, if_true, if_false, Nat.zero_add, Nat.add_zero, nI_add, ↓reduceIte, Nat.reduceAdd, Nat.reduceMul, Nat.reduceSub, Nat.reduceLT, Nat.reduceLeDiff, Nat.reduceEqDiff, Nat.not_lt_zero, Nat.lt_irrefl, decide_true, BEq.rfl, nm1, nm2, nm3, nm4, nm9, ngc, eq_self, List.length_cons, List.length_nil, hq, hl, hp, c_hasRoadn hl hC hi hN, c_canPave hl hC hb hi]
      refine okc ?_
      rw [cw_wp]
      simp (disch := omega) only [W1076, r_4, r_La, r_2, r_Li, h79_1030, s_41, s_0, ci_m1, r_90, h79_1075, ci_m4, h79_1032, r_5, h60_10_13, ci_4, r_12, ci_1, h65_74, W1075, ci_0, h79_1021, s_40, ci_2, r_47, r_52, r_94, s_Z0, s_Z1, (fun d => cw_wp d 1075), enR, LG, LSt, LC, nlR, psR, TK, up_s, up_n, up_u, lt_nI, le_nI, eq_nI, true_and, and_true, if_true, if_false, Nat.zero_add, Nat.add_zero, nI_add, ↓reduceIte, Nat.reduceAdd, Nat.reduceMul, Nat.reduceSub, Nat.reduceLT, Nat.reduceLeDiff, Nat.reduceEqDiff, Nat.not_lt_zero, Nat.lt_irrefl, decide_true, BEq.rfl, nm1, nm2, nm3, nm4, nm9, ngc, eq_self, List.length_cons, List.length_nil, m_isRoad hM, hi2, m_of, e1, hp1, hp2]
      exact okm (rl_inv (rl_t H))
end

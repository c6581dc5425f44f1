/-! best -/
section
variable {t d : Nat} {z : AZ} {X : Nat × (Nat → Int32)} {C : CT} {M : MT} {s : Nat → Int32} {v : Nat → Int64} {g : Nat → Nat → Int32} {w : Nat → Nat → Int64} {q : Nat → Nat} {ct : Nat → Int32} {cn : Nat → Int32} {cc : Nat → Nat → Int32} {di : Nat → Nat → Int32} {dr : Nat → Nat → Int32} {df : Nat → Nat → Int32} {li : Nat → Nat → Int32} {la : Nat → Nat → Nat → Int32} {sf : Nat → Nat → Int32} {sl : Nat → Nat → Int32} {a : Nat → Int32} {b : Nat → Int64} {e : Nat → Nat → Int32} {o : Nat → Nat → Int64} {B : Nat → Bool} {n : Nat → Nat} {P N W : Nat} {K O T J : Nat → Nat} {l : Nat} {Ds : Nat → Nat} {Dr Df Dp : Nat → Nat → Nat} {KB : Nat → Bool}
variable {Q : Option Value → AZ → AH → Prop} {ℓ : Nat → Nat}
def okp (K : Nat → Nat) (i : Nat) : Bool := decide (K i = 0 ∨ K i = 2)
theorem lp_be32 (hl : l < 2) (hq : q 0 = l) (hC : CLn (li l) (la l) P N K O T J) (hb : LB P N W K O T J) (h14 : s 14 = nI W) (hG : GR (lds N (fe W K J) K O T) (g 26) P) (hn : ∀ i, LSS (lds N (fe W K J) K O T) (lds N (fe W (va_up K i 1) J) K O T) P (ℓ i))
    (hQ0 : ∀ (s' : Nat → Int32) (g' sf' sl' : Nat → Nat → Int32), FRs s s' → g' 32 = g 32 → sf' 0 = sf 0 → sl' 0 = sl 0 → bsN (okp K) ℓ N = none → Q (some (.int (-9))) z (Hp X (s', v, g', w, q, ct, cn, cc, di, dr, df, li, la, sf', sl') M))
    (hQ1 : ∀ (s' : Nat → Int32) (g' sf' sl' : Nat → Nat → Int32) (b' n' : Nat), FRs s s' → g' 32 = g 32 → sf' 0 = sf 0 → sl' 0 = sl 0 → bsN (okp K) ℓ N = some (b', n') → Q (some (.int (nI b'))) z (Hp X (va_up s' 15 (nI n'), v, g', w, q, ct, cn, cc, di, dr, df, li, la, sf', sl') M)) :
    ∀ (j i : Nat) (s' : Nat → Int32) (g' sf' sl' : Nat → Nat → Int32), i + j = N → FRs s s' → g' 26 = g 26 → g' 32 = g 32 → sf' 0 = sf 0 → sl' 0 = sl 0 → Wp (d + 6) 939 32 [some (.ref 0), some (.int (bsA (bsN (okp K) ℓ i))), some (.int (bsB (nI 0) (bsN (okp K) ℓ i))), some (.int (nI i))] [] z (Hp X (s', v, g', w, q, ct, cn, cc, di, dr, df, li, la, sf', sl') M) Q := by
  have hP := hb.1
  have hN := hb.2.1
  have h9 := hC.2.1
  have hle : ∀ k, ℓ k ≤ 49 := fun k => ls_le (hn k) hP
  intro j
  induction j with
  | zero =>
    intro i s' g' sf' sl' hj hs h26 h32 hsf hsl
    have hj : i = N := by omega
    subst hj
    rw [W939_32]
    cases h : bsN (okp K) ℓ i with
    | none =>
      simp (disch := omega) only [W939, r_4, r_La, h60_9_9, h60_9_5, h60_9_12, h60_3_4, h60_4_0, h79_402, s_0, ci_m9, r_5, ci_0, r_2, r_Li, h60_3_5, r_49, h79_314, s_40, h79_959, r_46, s_8, r_In, ci_1, r_52, h61_9_15, r_90, enR, LG, LSt, LC, nlR, psR, TK, up_s, up_n, up_u, lt_nI, le_nI, eq_nI, true_and, and_true, if_true, if_false, Nat.zero_add, Nat.add_zero, nI_add, ↓reduceIte, Nat.reduceAdd, Nat.reduceMul, Nat.reduceSub, Nat.reduceLT, Nat.reduceLeDiff, Nat.reduceEqDiff, Nat.not_lt_zero, Nat.lt_irrefl, decide_true, BEq.rfl, nm1, nm2, nm3, nm4, nm9, ngc, eq_self, List.length_cons, List.length_nil, hq, hl, h9, bsA, bsB]
      exact hQ0 s' g' sf' sl' hs h32 hsf hsl h
    | some bn =>
      obtain ⟨b', n'⟩ := bn
      obtain ⟨u1, u2⟩ := bsN_lt hle i h
      have hm9 : (nI b' = -9) = False := nm9 (by omega)
      simp (disch := omega) only [W939, r_4, r_La, h60_9_9, h60_9_5, h60_9_12, h60_3_4, h60_4_0, h79_402, s_0, ci_m9, r_5, ci_0, r_2, r_Li, h60_3_5, r_49, h79_314, s_40, h79_959, r_46, s_8, r_In, ci_1, r_52, h61_9_15, r_90, enR, LG, LSt, LC, nlR, psR, TK, up_s, up_n, up_u, lt_nI, le_nI, eq_nI, true_and, and_true, if_true, if_false, Nat.zero_add, Nat.add_zero, nI_add, ↓reduceIte, Nat.reduceAdd, Nat.reduceMul, Nat.reduceSub, Nat.reduceLT, Nat.reduceLeDiff, Nat.reduceEqDiff, Nat.not_lt_zero, Nat.lt_irrefl, decide_true, BEq.rfl, nm1, nm2, nm3, nm4, nm9, ngc, eq_self, List.length_cons, List.length_nil, hq, hl, h9, bsA, bsB, hm9]
      exact hQ1 s' g' sf' sl' b' n' hs h32 hsf hsl h
  | succ j ih =>
    intro i s' g' sf' sl' hj hs h26 h32 hsf hsl
    have h1 : i < N := by omega
    rw [W939_32]
    by_cases hp : K i = 0 ∨ K i = 2
    · have hok : okp K i = true := decide_eq_true hp
      have ih2 := fun (s2 : Nat → Int32) (g2 sf2 sl2 : Nat → Nat → Int32) f1 f2 f3 f4 f5 => ih (i + 1) s2 g2 sf2 sl2 (by omega) f1 f2 f3 f4 f5
      rw [bsN, if_pos hok] at ih2
      simp (disch := omega) only [W939, r_4, r_La, h60_9_9, h60_9_5, h60_9_12, h60_3_4, h60_4_0, h79_402, s_0, ci_m9, r_5, ci_0, r_2, r_Li, h60_3_5, r_49, h79_314, s_40, h79_959, r_46, s_8, r_In, ci_1, r_52, h61_9_15, r_90, enR, LG, LSt, LC, nlR, psR, TK, up_s, up_n, up_u, lt_nI, le_nI, eq_nI, true_and, and_true, if_true, if_false, Nat.zero_add, Nat.add_zero, nI_add, ↓reduceIte, Nat.reduceAdd, Nat.reduceMul, Nat.reduceSub, Nat.reduceLT, Nat.reduceLeDiff, Nat.reduceEqDiff, Nat.not_lt_zero, Nat.lt_irrefl, decide_true, BEq.rfl, nm1, nm2, nm3, nm4, nm9, ngc, eq_self, List.length_cons, List.length_nil, hq, hl, h9, h1, hp, c_canPave hl hC hb h1]
      refine c_lossAG (n := ℓ i) (s := s') (g := g') (sf := sf') (sl := sl') hl hq hC hb (by rw [hs 14 (by decide) (by decide)]; exact h14) h1 hp (by rw [h26]; exact hG) (hn i) (fun s2 g2 sf2 sl2 r1 r2 r3 r4 => ?_)
      have k1 : FRs s s2 := fun k k1 k2 => (r1 k k1 k2).trans (hs k k1 k2)
      have k2 : g2 26 = g 26 := (r2 26 (by decide) (by decide) (by decide) (by decide)).trans h26
      have k3 : g2 32 = g 32 := (r2 32 (by decide) (by decide) (by decide) (by decide)).trans h32
      have ih3 := ih2 s2 g2 sf2 sl2 k1 k2 k3 (r3.trans hsf) (r4.trans hsl)
      have hli := hle i
      cases h : bsN (okp K) ℓ i with
      | none =>
        rw [h] at ih3
        simp (disch := omega) only [W939, r_4, r_La, h60_9_9, h60_9_5, h60_9_12, h60_3_4, h60_4_0, h79_402, s_0, ci_m9, r_5, ci_0, r_2, r_Li, h60_3_5, r_49, h79_314, s_40, h79_959, r_46, s_8, r_In, ci_1, r_52, h61_9_15, r_90, enR, LG, LSt, LC, nlR, psR, TK, up_s, up_n, up_u, lt_nI, le_nI, eq_nI, true_and, and_true, if_true, if_false, Nat.zero_add, Nat.add_zero, nI_add, ↓reduceIte, Nat.reduceAdd, Nat.reduceMul, Nat.reduceSub, Nat.reduceLT, Nat.reduceLeDiff, Nat.reduceEqDiff, Nat.not_lt_zero, Nat.lt_irrefl, decide_true, BEq.rfl, nm1, nm2, nm3, nm4, nm9, ngc, eq_self, List.length_cons, List.length_nil, bsA, bsB]
        exact ih3
      | some bn =>
        obtain ⟨b', n'⟩ := bn
        obtain ⟨u1, u2⟩ := bsN_lt hle i h
        have hm9 : (nI b' = -9) = False := nm9 (by omega)
        rw [h] at ih3
        by_cases hlt : ℓ i < n'
        · simp only [hlt, if_true] at ih3
          simp (disch := omega) only [W939, r_4, r_La, h60_9_9, h60_9_5, h60_9_12, h60_3_4, h60_4_0, h79_402, s_0, ci_m9, r_5, ci_0, r_2, r_Li, h60_3_5, r_49, h79_314, s_40, h79_959, r_46, s_8, r_In, ci_1, r_52, h61_9_15, r_90, enR, LG, LSt, LC, nlR, psR, TK, up_s, up_n, up_u, lt_nI, le_nI, eq_nI, true_and, and_true, if_true, if_false, Nat.zero_add, Nat.add_zero, nI_add, ↓reduceIte, Nat.reduceAdd, Nat.reduceMul, Nat.reduceSub, Nat.reduceLT, Nat.reduceLeDiff, Nat.reduceEqDiff, Nat.not_lt_zero, Nat.lt_irrefl, decide_true, BEq.rfl, nm1, nm2, nm3, nm4, nm9, ngc, eq_self, List.length_cons, List.length_nil, bsA, bsB, hm9, hlt]
          exact ih3
        · simp only [hlt, if_false] at ih3
          simp (disch := omega) only [W939, r_4, r_La, h60_9_9, h60_9_5, h60_9_12, h60_3_4, h60_4_0, h79_402, s_0, ci_m9, r_5, ci_0, r_2, r_Li, h60_3_5, r_49, h79_314, s_40, h79_959, r_46, s_8, r_In, ci_1, r_52, h61_9_15, r_90, enR, LG, LSt, LC, nlR, psR, TK, up_s, up_n, up_u, lt_nI, le_nI, eq_nI, true_and, and_true, if_true, if_false, Nat.zero_add, Nat.add_zero, nI_add, ↓reduceIte, Nat.reduceAdd, Nat.reduceMul, Nat.reduceSub, Nat.reduceLT, Nat.reduceLeDiff, Nat.reduceEqDiff, Nat.not_lt_zero, Nat.lt_irrefl, decide_true, BEq.rfl, nm1, nm2, nm3, nm4, nm9, ngc, eq_self, List.length_cons, List.length_nil, bsA, bsB, hm9, hlt]
          exact ih3
    · have hok : ¬ okp K i = true := by simpa [okp] using hp
      have ih2 := ih (i + 1) s' g' sf' sl' (by omega) hs h26 h32 hsf hsl
      rw [bsN, if_neg hok] at ih2
      simp (disch := omega) only [W939, r_4, r_La, h60_9_9, h60_9_5, h60_9_12, h60_3_4, h60_4_0, h79_402, s_0, ci_m9, r_5, ci_0, r_2, r_Li, h60_3_5, r_49, h79_314, s_40, h79_959, r_46, s_8, r_In, ci_1, r_52, h61_9_15, r_90, enR, LG, LSt, LC, nlR, psR, TK, up_s, up_n, up_u, lt_nI, le_nI, eq_nI, true_and, and_true, if_true, if_false, Nat.zero_add, Nat.add_zero, nI_add, ↓reduceIte, Nat.reduceAdd, Nat.reduceMul, Nat.reduceSub, Nat.reduceLT, Nat.reduceLeDiff, Nat.reduceEqDiff, Nat.not_lt_zero, Nat.lt_irrefl, decide_true, BEq.rfl, nm1, nm2, nm3, nm4, nm9, ngc, eq_self, List.length_cons, List.length_nil, hq, hl, h9, h1, hp, c_canPave hl hC hb h1]
      exact ih2
theorem lp_be8 {m0 : Nat} (hM : MLn a (e 74) P N W K O T J) (hb : LB P N W K O T J) (hm0 : m0 + 1200 < 2147483648) (hn : ∀ i, LSS (lds N (fe W K J) K O T) (lds N (fe W (va_up K i 1) J) K O T) P (ℓ i))
    (hQ0 : ∀ (a' : Nat → Int32) (e' : Nat → Nat → Int32) (mk : Nat), FRa a a' → FRx e e' → a' 30 = nI mk → mk ≤ m0 + 98 * N → (∀ w, w < 16384 → ∃ v, v ≤ mk ∧ e' 84 w = nI v) → bsN (okp K) ℓ N = none → Q (some (.int (-9))) z (Hp X C (a', b, e', o)))
    (hQ1 : ∀ (a' : Nat → Int32) (e' : Nat → Nat → Int32) (mk b' n' : Nat), FRa a a' → FRx e e' → a' 30 = nI mk → mk ≤ m0 + 98 * N → (∀ w, w < 16384 → ∃ v, v ≤ mk ∧ e' 84 w = nI v) → bsN (okp K) ℓ N = some (b', n') → Q (some (.int (nI b'))) z (Hp X C (va_up a' 2 (nI n'), b, e', o))) :
    ∀ (j i : Nat) (a' : Nat → Int32) (e' : Nat → Nat → Int32) (mk : Nat), i + j = N → FRa a a' → FRx e e' → a' 30 = nI mk → mk ≤ m0 + 98 * i → (∀ w, w < 16384 → ∃ v, v ≤ mk ∧ e' 84 w = nI v) → Wp (d + 5) 1079 8 [some (.ref 67), some (.int (bsA (bsN (okp K) ℓ i))), some (.int (bsB (nI 1048576) (bsN (okp K) ℓ i))), some (.int (nI i))] [] z (Hp X C (a', b, e', o)) Q := by
  have hP := hb.1
  have hN := hb.2.1
  have hle : ∀ k, ℓ k ≤ 49 := fun k => ls_le (hn k) hP
  intro j
  induction j with
  | zero =>
    intro i a' e' mk hj ha he h30 hmk h84
    have hj : i = N := by omega
    subst hj
    have h11 : a' 11 = nI i := by rw [ha 11 (by decide) (by decide)]; exact hM.2.1
    rw [W1079_8]
    cases h : bsN (okp K) ℓ i with
    | none =>
      simp (disch := omega) only [W1079, s_0, ci_m9, r_5, ci_1048576, ci_0, r_2, r_Li, r_4, r_La, h60_10_11, r_49, h79_1075, s_40, h79_1077, r_52, s_8, r_In, ci_1, r_47, h79_1003, r_90, enR, LG, LSt, LC, nlR, psR, TK, up_s, up_n, up_u, lt_nI, le_nI, eq_nI, true_and, and_true, if_true, if_false, Nat.zero_add, Nat.add_zero, nI_add, ↓reduceIte, Nat.reduceAdd, Nat.reduceMul, Nat.reduceSub, Nat.reduceLT, Nat.reduceLeDiff, Nat.reduceEqDiff, Nat.not_lt_zero, Nat.lt_irrefl, decide_true, BEq.rfl, nm1, nm2, nm3, nm4, nm9, ngc, eq_self, List.length_cons, List.length_nil, h11, bsA, bsB]
      exact hQ0 a' e' mk ha he h30 hmk h84 h
    | some bn =>
      obtain ⟨b', n'⟩ := bn
      obtain ⟨u1, u2⟩ := bsN_lt hle i h
      have hm9 : (nI b' = -9) = False := nm9 (by omega)
      simp (disch := omega) only [W1079, s_0, ci_m9, r_5, ci_1048576, ci_0, r_2, r_Li, r_4, r_La, h60_10_11, r_49, h79_1075, s_40, h79_1077, r_52, s_8, r_In, ci_1, r_47, h79_1003, r_90, enR, LG, LSt, LC, nlR, psR, TK, up_s, up_n, up_u, lt_nI, le_nI, eq_nI, true_and, and_true, if_true, if_false, Nat.zero_add, Nat.add_zero, nI_add, ↓reduceIte, Nat.reduceAdd, Nat.reduceMul, Nat.reduceSub, Nat.reduceLT, Nat.reduceLeDiff, Nat.reduceEqDiff, Nat.not_lt_zero, Nat.lt_irrefl, decide_true, BEq.rfl, nm1, nm2, nm3, nm4, nm9, ngc, eq_self, List.length_cons, List.length_nil, h11, bsA, bsB, hm9, m_ask]
      exact hQ1 a' e' mk b' n' ha he h30 hmk h84 h
  | succ j ih =>
    intro i a' e' mk hj ha he h30 hmk h84
    have h1 : i < N := by omega
    have h11 : a' 11 = nI N := by rw [ha 11 (by decide) (by decide)]; exact hM.2.1
    have hM1 : MLn a' (e' 74) P N W K O T J := mln_fr hM (fun k hk => ha k (by omega) (by omega)) (he 74 (by decide) (by decide) (by decide) (by decide))
    obtain ⟨b1, b2, b3, b4⟩ := hb.2.2.2.2 i h1
    obtain ⟨e1, e2, e3, e4⟩ := hM1.2.2.2 i h1
    have hli := hle i
    rw [W1079_8]
    by_cases hp : K i = 0 ∨ K i = 2
    · have hok : okp K i = true := decide_eq_true hp
      have ih2 := fun (a2 : Nat → Int32) (e2 : Nat → Nat → Int32) (mk2 : Nat) f1 f2 f3 f4 f5 => ih (i + 1) a2 e2 mk2 (by omega) f1 f2 f3 f4 f5
      rw [bsN, if_pos hok] at ih2
      have hm : (K i = 0) ∨ ¬ (K i = 0) ∧ K i = 2 := by omega
      cases h : bsN (okp K) ℓ i with
      | none =>
        rcases hm with hm | ⟨hm, hm2⟩
        · simp (disch := omega) only [W1079, s_0, ci_m9, r_5, ci_1048576, ci_0, r_2, r_Li, r_4, r_La, h60_10_11, r_49, h79_1075, s_40, h79_1077, r_52, s_8, r_In, ci_1, r_47, h79_1003, r_90, W1075, h79_1021, ci_2, r_94, s_Z0, s_Z1, (fun d => cw_wp d 1075), enR, LG, LSt, LC, nlR, psR, TK, up_s, up_n, up_u, lt_nI, le_nI, eq_nI, true_and, and_true, if_true, if_false, Nat.zero_add, Nat.add_zero, nI_add, ↓reduceIte, Nat.reduceAdd, Nat.reduceMul, Nat.reduceSub, Nat.reduceLT, Nat.reduceLeDiff, Nat.reduceEqDiff, Nat.not_lt_zero, Nat.lt_irrefl, decide_true, BEq.rfl, nm1, nm2, nm3, nm4, nm9, ngc, eq_self, List.length_cons, List.length_nil, h11, h1, m_of, e1, hm, bsA, bsB]
          refine m_lossOf (a := a') (e := e') hM1 hb h1 hp (by omega) h30 h84 (hn i) (fun a2 e2 mk2 w1 w2 w3 w4 w5 => ?_)
          have ih3 := ih2 a2 e2 mk2 (fun k k1 k2 => (w1 k k1 k2).trans (ha k k1 k2)) (fun k k1 k2 k3 k4 => (w2 k k1 k2 k3 k4).trans (he k k1 k2 k3 k4)) w3 (by omega) w5
          rw [h] at ih3
          have hlt : ℓ i < 1048576 := by omega
          simp (disch := omega) only [W1079, s_0, ci_m9, r_5, ci_1048576, ci_0, r_2, r_Li, r_4, r_La, h60_10_11, r_49, h79_1075, s_40, h79_1077, r_52, s_8, r_In, ci_1, r_47, h79_1003, r_90, enR, LG, LSt, LC, nlR, psR, TK, up_s, up_n, up_u, lt_nI, le_nI, eq_nI, true_and, and_true, if_true, if_false, Nat.zero_add, Nat.add_zero, nI_add, ↓reduceIte, Nat.reduceAdd, Nat.reduceMul, Nat.reduceSub, Nat.reduceLT, Nat.reduceLeDiff, Nat.reduceEqDiff, Nat.not_lt_zero, Nat.lt_irrefl, decide_true, BEq.rfl, nm1, nm2, nm3, nm4, nm9, ngc, eq_self, List.length_cons, List.length_nil, hlt]
          exact ih3
        · simp (disch := omega) only [W1079, s_0, ci_m9, r_5, ci_1048576, ci_0, r_2, r_Li, r_4, r_La, h60_10_11, r_49, h79_1075, s_40, h79_1077, r_52, s_8, r_In, ci_1, r_47, h79_1003, r_90, W1075, h79_1021, ci_2, r_94, s_Z0, s_Z1, (fun d => cw_wp d 1075), enR, LG, LSt, LC, nlR, psR, TK, up_s, up_n, up_u, lt_nI, le_nI, eq_nI, true_and, and_true, if_true, if_false, Nat.zero_add, Nat.add_zero, nI_add, ↓reduceIte, Nat.reduceAdd, Nat.reduceMul, Nat.reduceSub, Nat.reduceLT, Nat.reduceLeDiff, Nat.reduceEqDiff, Nat.not_lt_zero, Nat.lt_irrefl, decide_true, BEq.rfl, nm1, nm2, nm3, nm4, nm9, ngc, eq_self, List.length_cons, List.length_nil, h11, h1, m_of, e1, hm2, bsA, bsB]
          refine m_lossOf (a := a') (e := e') hM1 hb h1 hp (by omega) h30 h84 (hn i) (fun a2 e2 mk2 w1 w2 w3 w4 w5 => ?_)
          have ih3 := ih2 a2 e2 mk2 (fun k k1 k2 => (w1 k k1 k2).trans (ha k k1 k2)) (fun k k1 k2 k3 k4 => (w2 k k1 k2 k3 k4).trans (he k k1 k2 k3 k4)) w3 (by omega) w5
          rw [h] at ih3
          have hlt : ℓ i < 1048576 := by omega
          simp (disch := omega) only [W1079, s_0, ci_m9, r_5, ci_1048576, ci_0, r_2, r_Li, r_4, r_La, h60_10_11, r_49, h79_1075, s_40, h79_1077, r_52, s_8, r_In, ci_1, r_47, h79_1003, r_90, enR, LG, LSt, LC, nlR, psR, TK, up_s, up_n, up_u, lt_nI, le_nI, eq_nI, true_and, and_true, if_true, if_false, Nat.zero_add, Nat.add_zero, nI_add, ↓reduceIte, Nat.reduceAdd, Nat.reduceMul, Nat.reduceSub, Nat.reduceLT, Nat.reduceLeDiff, Nat.reduceEqDiff, Nat.not_lt_zero, Nat.lt_irrefl, decide_true, BEq.rfl, nm1, nm2, nm3, nm4, nm9, ngc, eq_self, List.length_cons, List.length_nil, hlt]
          exact ih3
      | some bn =>
        obtain ⟨b', n'⟩ := bn
        obtain ⟨u1, u2⟩ := bsN_lt hle i h
        have fin : ∀ (a2 : Nat → Int32) (e2 : Nat → Nat → Int32) (mk2 : Nat), FRa a' a2 → FRx e' e2 → a2 30 = nI mk2 → mk2 ≤ mk + 98 → (∀ w, w < 16384 → ∃ v, v ≤ mk2 ∧ e2 84 w = nI v) → Wp (d + 5) 1079 8 [some (.ref 67), some (.int (if ℓ i < n' then nI i else nI b')), some (.int (if ℓ i < n' then nI (ℓ i) else nI n')), some (.int (nI (i + 1)))] [] z (Hp X C (a2, b, e2, o)) Q := fun a2 e2 mk2 w1 w2 w3 w4 w5 => by
          have ih3 := ih2 a2 e2 mk2 (fun k k1 k2 => (w1 k k1 k2).trans (ha k k1 k2)) (fun k k1 k2 k3 k4 => (w2 k k1 k2 k3 k4).trans (he k k1 k2 k3 k4)) w3 (by omega) w5
          rw [h] at ih3
          by_cases hlt : ℓ i < n'
          · simp only [hlt, if_true] at ih3 ⊢
            exact ih3
          · simp only [hlt, if_false] at ih3 ⊢
            exact ih3
        rcases hm with hm | ⟨hm, hm2⟩
        · simp (disch := omega) only [W1079, s_0, ci_m9, r_5, ci_1048576, ci_0, r_2, r_Li, r_4, r_La, h60_10_11, r_49, h79_1075, s_40, h79_1077, r_52, s_8, r_In, ci_1, r_47, h79_1003, r_90, W1075, h79_1021, ci_2, r_94, s_Z0, s_Z1, (fun d => cw_wp d 1075), enR, LG, LSt, LC, nlR, psR, TK, up_s, up_n, up_u, lt_nI, le_nI, eq_nI, true_and, and_true, if_true, if_false, Nat.zero_add, Nat.add_zero, nI_add, ↓reduceIte, Nat.reduceAdd, Nat.reduceMul, Nat.reduceSub, Nat.reduceLT, Nat.reduceLeDiff, Nat.reduceEqDiff, Nat.not_lt_zero, Nat.lt_irrefl, decide_true, BEq.rfl, nm1, nm2, nm3, nm4, nm9, ngc, eq_self, List.length_cons, List.length_nil, h11, h1, m_of, e1, hm, bsA, bsB]
          refine m_lossOf (a := a') (e := e') hM1 hb h1 hp (by omega) h30 h84 (hn i) (fun a2 e2 mk2 w1 w2 w3 w4 w5 => ?_)
          have ih3 := fin a2 e2 mk2 w1 w2 w3 w4 w5
          by_cases hlt : ℓ i < n'
          · rw [if_pos hlt, if_pos hlt] at ih3
            simp (disch := omega) only [W1079, s_0, ci_m9, r_5, ci_1048576, ci_0, r_2, r_Li, r_4, r_La, h60_10_11, r_49, h79_1075, s_40, h79_1077, r_52, s_8, r_In, ci_1, r_47, h79_1003, r_90, enR, LG, LSt, LC, nlR, psR, TK, up_s, up_n, up_u, lt_nI, le_nI, eq_nI, true_and, and_true, if_true, if_false, Nat.zero_add, Nat.add_zero, nI_add, ↓reduceIte, Nat.reduceAdd, Nat.reduceMul, Nat.reduceSub, Nat.reduceLT, Nat.reduceLeDiff, Nat.reduceEqDiff, Nat.not_lt_zero, Nat.lt_irrefl, decide_true, BEq.rfl, nm1, nm2, nm3, nm4, nm9, ngc, eq_self, List.length_cons, List.length_nil, hlt]
            exact ih3
          · rw [if_neg hlt, if_neg hlt] at ih3
            simp (disch := omega) only [W1079, s_0, ci_m9, r_5, ci_1048576, ci_0, r_2, r_Li, r_4, r_La, h60_10_11, r_49, h79_1075, s_40, h79_1077, r_52, s_8, r_In, ci_1, r_47, h79_1003, r_90, enR, LG, LSt, LC, nlR, psR, TK, up_s, up_n, up_u, lt_nI, le_nI, eq_nI, true_and, and_true, if_true, if_false, Nat.zero_add, Nat.add_zero, nI_add, ↓reduceIte, Nat.reduceAdd, Nat.reduceMul, Nat.reduceSub, Nat.reduceLT, Nat.reduceLeDiff, Nat.reduceEqDiff, Nat.not_lt_zero, Nat.lt_irrefl, decide_true, BEq.rfl, nm1, nm2, nm3, nm4, nm9, ngc, eq_self, List.length_cons, List.length_nil, hlt]
            exact ih3
        · simp (disch := omega) only [W1079, s_0, ci_m9, r_5, ci_1048576, ci_0, r_2, r_Li, r_4, r_La, h60_10_11, r_49, h79_1075, s_40, h79_1077, r_52, s_8, r_In, ci_1, r_47, h79_1003, r_90, W1075, h79_1021, ci_2, r_94, s_Z0, s_Z1, (fun d => cw_wp d 1075), enR, LG, LSt, LC, nlR, psR, TK, up_s, up_n, up_u, lt_nI, le_nI, eq_nI, true_and, and_true, if_true, if_false, Nat.zero_add, Nat.add_zero, nI_add, ↓reduceIte, Nat.reduceAdd, Nat.reduceMul, Nat.reduceSub, Nat.reduceLT, Nat.reduceLeDiff, Nat.reduceEqDiff, Nat.not_lt_zero, Nat.lt_irrefl, decide_true, BEq.rfl, nm1, nm2, nm3, nm4, nm9, ngc, eq_self, List.length_cons, List.length_nil, h11, h1, m_of, e1, hm2, bsA, bsB]
          refine m_lossOf (a := a') (e := e') hM1 hb h1 hp (by omega) h30 h84 (hn i) (fun a2 e2 mk2 w1 w2 w3 w4 w5 => ?_)
          have ih3 := fin a2 e2 mk2 w1 w2 w3 w4 w5
          by_cases hlt : ℓ i < n'
          · rw [if_pos hlt, if_pos hlt] at ih3
            simp (disch := omega) only [W1079, s_0, ci_m9, r_5, ci_1048576, ci_0, r_2, r_Li, r_4, r_La, h60_10_11, r_49, h79_1075, s_40, h79_1077, r_52, s_8, r_In, ci_1, r_47, h79_1003, r_90, enR, LG, LSt, LC, nlR, psR, TK, up_s, up_n, up_u, lt_nI, le_nI, eq_nI, true_and, and_true, if_true, if_false, Nat.zero_add, Nat.add_zero, nI_add, ↓reduceIte, Nat.reduceAdd, Nat.reduceMul, Nat.reduceSub, Nat.reduceLT, Nat.reduceLeDiff, Nat.reduceEqDiff, Nat.not_lt_zero, Nat.lt_irrefl, decide_true, BEq.rfl, nm1, nm2, nm3, nm4, nm9, ngc, eq_self, List.length_cons, List.length_nil, hlt]
            exact ih3
          · rw [if_neg hlt, if_neg hlt] at ih3
            simp (disch := omega) only [W1079, s_0, ci_m9, r_5, ci_1048576, ci_0, r_2, r_Li, r_4, r_La, h60_10_11, r_49, h79_1075, s_40, h79_1077, r_52, s_8, r_In, ci_1, r_47, h79_1003, r_90, enR, LG, LSt, LC, nlR, psR, TK, up_s, up_n, up_u, lt_nI, le_nI, eq_nI, true_and, and_true, if_true, if_false, Nat.zero_add, Nat.add_zero, nI_add, ↓reduceIte, Nat.reduceAdd, Nat.reduceMul, Nat.reduceSub, Nat.reduceLT, Nat.reduceLeDiff, Nat.reduceEqDiff, Nat.not_lt_zero, Nat.lt_irrefl, decide_true, BEq.rfl, nm1, nm2, nm3, nm4, nm9, ngc, eq_self, List.length_cons, List.length_nil, hlt]
            exact ih3
    · have hok : ¬ okp K i = true := by simpa [okp] using hp
      have hp1 : ¬ K i = 0 := fun h => hp (Or.inl h)
      have hp2 : ¬ K i = 2 := fun h => hp (Or.inr h)
      have ih2 := ih (i + 1) a' e' mk (by omega) ha he h30 (by omega) h84
      rw [bsN, if_neg hok] at ih2
      cases h : bsN (okp K) ℓ i with
      | none =>
        rw [h] at ih2
        simp (disch := omega) only [W1079, s_0, ci_m9, r_5, ci_1048576, ci_0, r_2, r_Li, r_4, r_La, h60_10_11, r_49, h79_1075, s_40, h79_1077, r_52, s_8, r_In, ci_1, r_47, h79_1003, r_90, W1075, h79_1021, ci_2, r_94, s_Z0, s_Z1, (fun d => cw_wp d 1075), enR, LG, LSt, LC, nlR, psR, TK, up_s, up_n, up_u, lt_nI, le_nI, eq_nI, true_and, and_true, if_true, if_false, Nat.zero_add, Nat.add_zero, nI_add, ↓reduceIte, Nat.reduceAdd, Nat.reduceMul, Nat.reduceSub, Nat.reduceLT, Nat.reduceLeDiff, Nat.reduceEqDiff, Nat.not_lt_zero, Nat.lt_irrefl, decide_true, BEq.rfl, nm1, nm2, nm3, nm4, nm9, ngc, eq_self, List.length_cons, List.length_nil, h11, h1, m_of, e1, hp1, hp2, bsA, bsB]
        exact ih2
      | some bn =>
        obtain ⟨b', n'⟩ := bn
        obtain ⟨u1, u2⟩ := bsN_lt hle i h
        rw [h] at ih2
        have hlt : ¬ 1048576 < n' := by omega
        simp (disch := omega) only [W1079, s_0, ci_m9, r_5, ci_1048576, ci_0, r_2, r_Li, r_4, r_La, h60_10_11, r_49, h79_1075, s_40, h79_1077, r_52, s_8, r_In, ci_1, r_47, h79_1003, r_90, W1075, h79_1021, ci_2, r_94, s_Z0, s_Z1, (fun d => cw_wp d 1075), enR, LG, LSt, LC, nlR, psR, TK, up_s, up_n, up_u, lt_nI, le_nI, eq_nI, true_and, and_true, if_true, if_false, Nat.zero_add, Nat.add_zero, nI_add, ↓reduceIte, Nat.reduceAdd, Nat.reduceMul, Nat.reduceSub, Nat.reduceLT, Nat.reduceLeDiff, Nat.reduceEqDiff, Nat.not_lt_zero, Nat.lt_irrefl, decide_true, BEq.rfl, nm1, nm2, nm3, nm4, nm9, ngc, eq_self, List.length_cons, List.length_nil, h11, h1, m_of, e1, hp1, hp2, bsA, bsB, hlt]
        exact ih2
theorem op_best (H : RL t z s v g w q ct cn cc di dr df li la sf sl a b e o B n P N W K O T J l Ds Dr Df Dp KB) (ht : t < 1000000) : OPI (d + 20) 939 1079 [] t z X (s, v, g, w, q, ct, cn, cc, di, dr, df, li, la, sf, sl) (a, b, e, o) := by
  obtain ⟨hb, hl, hq, hC, hs, hM, hS⟩ := rl_land H
  have hP := hb.1
  have hN := hb.2.1
  have h0 := hC.1
  obtain ⟨mk, k30, kmk, k84⟩ := id H.2.2.2.2.2.2
  obtain ⟨ℓ, hℓ⟩ : ∃ ℓ : Nat → Nat, ∀ i, LSS (lds N (fe W K J) K O T) (lds N (fe W (va_up K i 1) J) K O T) P (ℓ i) := ⟨fun i => Classical.choose (ls_ex _ _ P), fun i => Classical.choose_spec (ls_ex (lds N (fe W K J) K O T) (lds N (fe W (va_up K i 1) J) K O T) P)⟩
  have fin : ∀ (s' : Nat → Int32) (g' sf' sl' : Nat → Nat → Int32) (a' : Nat → Int32) (e' : Nat → Nat → Int32) (mk' : Nat), FRs s s' → g' 32 = g 32 → sf' 0 = sf 0 → sl' 0 = sl 0 → FRa a a' → FRx e e' → a' 30 = nI mk' → mk' ≤ mk + 98 * N → (∀ w, w < 16384 → ∃ v, v ≤ mk' ∧ e' 84 w = nI v) → RL (t + 1) z (s') v (g') w q ct cn cc di dr df li la (sf') (sl') (a') b (e') o B n P N W K O T J l Ds Dr Df Dp KB := fun s' g' sf' sl' a' e' mk' f1 f2 f3 f4 w1 w2 w3 w4 w5 => by
    have ha' : ∀ k, k < 30 → a' k = a k := fun k hk => w1 k (by omega) (by omega)
    exact rl_fr (mk := mk') H (fun k hk => f1 k (by omega) (by omega)) f2 f3 f4 ha' (fun k k1 k2 k3 => w2 k (by omega) (by omega) (by omega) (by omega)) (mln_fr hM ha' (w2 74 (by decide) (by decide) (by decide) (by decide))) w3 (by omega) w5
  unfold OPI
  rw [cw_wp]
  simp (disch := omega) only [W939, r_4, r_La, h60_9_9, h60_9_5, h60_9_12, h60_3_4, h60_4_0, h79_402, s_0, ci_m9, r_5, ci_0, r_2, r_Li, h60_3_5, r_49, h79_314, s_40, h79_959, r_46, s_8, r_In, ci_1, r_52, h61_9_15, r_90, enR, LG, LSt, LC, nlR, psR, TK, up_s, up_n, up_u, lt_nI, le_nI, eq_nI, true_and, and_true, if_true, if_false, Nat.zero_add, Nat.add_zero, nI_add, ↓reduceIte, Nat.reduceAdd, Nat.reduceMul, Nat.reduceSub, Nat.reduceLT, Nat.reduceLeDiff, Nat.reduceEqDiff, Nat.not_lt_zero, Nat.lt_irrefl, decide_true, BEq.rfl, nm1, nm2, nm3, nm4, nm9, ngc, eq_self, List.length_cons, List.length_nil, hq, hl, h0]
  refine c_group_26 (show 0 < 2 by decide) (sen_SL hb hS) hP (fun s1 g1 f1 f2 f3 => ?_)
  simp (disch := omega) only [W939, r_4, r_La, h60_9_9, h60_9_5, h60_9_12, h60_3_4, h60_4_0, h79_402, s_0, ci_m9, r_5, ci_0, r_2, r_Li, h60_3_5, r_49, h79_314, s_40, h79_959, r_46, s_8, r_In, ci_1, r_52, h61_9_15, r_90, enR, LG, LSt, LC, nlR, psR, TK, up_s, up_n, up_u, lt_nI, le_nI, eq_nI, true_and, and_true, if_true, if_false, Nat.zero_add, Nat.add_zero, nI_add, ↓reduceIte, Nat.reduceAdd, Nat.reduceMul, Nat.reduceSub, Nat.reduceLT, Nat.reduceLeDiff, Nat.reduceEqDiff, Nat.not_lt_zero, Nat.lt_irrefl, decide_true, BEq.rfl, nm1, nm2, nm3, nm4, nm9, ngc, eq_self, List.length_cons, List.length_nil]
  refine lp_be32 (ℓ := ℓ) (s := s1) (g := g1) hl hq hC hb (by rw [f1 14 (by decide) (by decide)]; exact hs) f3 hℓ (fun s2 g2 sf2 sl2 r1 r2 r3 r4 hbs => ?_) (fun s2 g2 sf2 sl2 b' n' r1 r2 r3 r4 hbs => ?_) N 0 s1 g1 sf sl (by omega) (fun _ _ _ => rfl) rfl rfl rfl rfl
  · have k1 : FRs s s2 := fun k k1 k2 => (r1 k k1 k2).trans (f1 k k1 k2)
    have k3 : g2 32 = g 32 := r2.trans (f2 32 (by decide) (by decide) (by decide) (by decide))
    refine okc ?_
    rw [cw_wp]
    simp (disch := omega) only [W1079, s_0, ci_m9, r_5, ci_1048576, ci_0, r_2, r_Li, r_4, r_La, h60_10_11, r_49, h79_1075, s_40, h79_1077, r_52, s_8, r_In, ci_1, r_47, h79_1003, r_90, enR, LG, LSt, LC, nlR, psR, TK, up_s, up_n, up_u, lt_nI, le_nI, eq_nI, true_and, and_true, if_true, if_false, Nat.zero_add, Nat.add_zero, nI_add, ↓reduceIte, Nat.reduceAdd, Nat.reduceMul, Nat.reduceSub, Nat.reduceLT, Nat.reduceLeDiff, Nat.reduceEqDiff, Nat.not_lt_zero, Nat.lt_irrefl, decide_true, BEq.rfl, nm1, nm2, nm3, nm4, nm9, ngc, eq_self, List.length_cons, List.length_nil]
    refine lp_be8 (ℓ := ℓ) (m0 := mk) hM hb (by omega) hℓ (fun a' e' mk' w1 w2 w3 w4 w5 hbs2 => ?_) (fun a' e' mk' b' n' w1 w2 w3 w4 w5 hbs2 => ?_) N 0 a e mk (by omega) (fun _ _ _ => rfl) (fun _ _ _ _ _ => rfl) k30 (by omega) k84
    · exact okm (rl_inv (fin s2 g2 sf2 sl2 a' e' mk' k1 k3 r3 r4 w1 w2 w3 w4 w5))
    · rw [hbs] at hbs2; exact absurd hbs2 (by simp)
  · have k1 : FRs s s2 := fun k k1 k2 => (r1 k k1 k2).trans (f1 k k1 k2)
    have k3 : g2 32 = g 32 := r2.trans (f2 32 (by decide) (by decide) (by decide) (by decide))
    refine okc ?_
    rw [cw_wp]
    simp (disch := omega) only [W1079, s_0, ci_m9, r_5, ci_1048576, ci_0, r_2, r_Li, r_4, r_La, h60_10_11, r_49, h79_1075, s_40, h79_1077, r_52, s_8, r_In, ci_1, r_47, h79_1003, r_90, enR, LG, LSt, LC, nlR, psR, TK, up_s, up_n, up_u, lt_nI, le_nI, eq_nI, true_and, and_true, if_true, if_false, Nat.zero_add, Nat.add_zero, nI_add, ↓reduceIte, Nat.reduceAdd, Nat.reduceMul, Nat.reduceSub, Nat.reduceLT, Nat.reduceLeDiff, Nat.reduceEqDiff, Nat.not_lt_zero, Nat.lt_irrefl, decide_true, BEq.rfl, nm1, nm2, nm3, nm4, nm9, ngc, eq_self, List.length_cons, List.length_nil]
    refine lp_be8 (ℓ := ℓ) (m0 := mk) hM hb (by omega) hℓ (fun a' e' mk' w1 w2 w3 w4 w5 hbs2 => ?_) (fun a' e' mk' b2 n2 w1 w2 w3 w4 w5 hbs2 => ?_) N 0 a e mk (by omega) (fun _ _ _ => rfl) (fun _ _ _ _ _ => rfl) k30 (by omega) k84
    · rw [hbs] at hbs2; exact absurd hbs2 (by simp)
    · rw [hbs] at hbs2
      cases hbs2
      exact okm (rl_inv (rl_ask0 (fin s2 g2 sf2 sl2 a' e' mk' k1 k3 r3 r4 w1 w2 w3 w4 w5)))
end

/-! Drive; the class's small private methods; bitCount -/
theorem foldu_last {α : Type} (F : Nat → α → α) : ∀ (q k : Nat) (a : α), foldu F k (q + 1) a = F (k + q) (foldu F k q a) := by
  intro q
  induction q with
  | zero => intro k a; rfl
  | succ q ih =>
    intro k a
    show foldu F (k + 1) (q + 1) (F k a) = _
    rw [ih (k + 1) (F k a)]
    rw [show k + 1 + q = k + (q + 1) by omega]
    rfl
theorem foldu_inv {α : Type} {F : Nat → α → α} (I : Nat → α → Prop) : ∀ (q k : Nat) (a : α), I k a → (∀ j x, k ≤ j → j < k + q → I j x → I (j + 1) (F j x)) → I (k + q) (foldu F k q a) := by
  intro q
  induction q with
  | zero => intro k a h _; exact h
  | succ q ih =>
    intro k a h hs
    rw [show k + (q + 1) = k + 1 + q by omega]
    exact ih (k + 1) (F k a) (hs k a (by omega) (by omega) h) (fun j x h1 h2 h3 => hs j x (by omega) (by omega) h3)
theorem foldu_congr {α : Type} {F G : Nat → α → α} : ∀ (q k : Nat) (a : α), (∀ j x, k ≤ j → j < k + q → F j x = G j x) → foldu F k q a = foldu G k q a := by
  intro q
  induction q with
  | zero => intro k a _; rfl
  | succ q ih =>
    intro k a h
    show foldu F (k + 1) q (F k a) = foldu G (k + 1) q (G k a)
    rw [h k a (by omega) (by omega)]
    exact ih (k + 1) _ (fun j x h1 h2 => h j x (by omega) (by omega))
theorem allb_iff (p : Nat → Bool) : ∀ (q k : Nat), allb p k q = true ↔ ∀ j, k ≤ j → j < k + q → p j = true := by
  intro q
  induction q with
  | zero => intro k; exact ⟨fun _ j h1 h2 => absurd h2 (by omega), fun _ => rfl⟩
  | succ q ih =>
    intro k
    show (p k && allb p (k + 1) q) = true ↔ _
    rw [Bool.and_eq_true, ih (k + 1)]
    constructor
    · rintro ⟨h1, h2⟩ j h3 h4
      by_cases h : j = k
      · subst h; exact h1
      · exact h2 j (by omega) (by omega)
    · intro h
      exact ⟨h k (by omega) (by omega), fun j h1 h2 => h j (by omega) (by omega)⟩
section
variable {d : Nat} {z : AZ} {f : AH} {Q : Option Value → AZ → AH → Prop} {X : Nat × (Nat → Int32)} {M : MT} {s : Nat → Int32} {v : Nat → Int64} {g : Nat → Nat → Int32} {w : Nat → Nat → Int64} {q : Nat → Nat} {ct cn : Nat → Int32} {cc di dr df li : Nat → Nat → Int32} {la : Nat → Nat → Nat → Int32} {sf sl : Nat → Nat → Int32} {l P N W : Nat} {K O T J : Nat → Nat}
theorem c_restart {n : Nat} {x : Int32} (hn : n < 4) : Cw (d + 1) 201 [.ref (dob n), .int x] z (Hp X (s, v, g, w, q, ct, cn, cc, di, dr, df, li, la, sf, sl) M) Q ↔ Q none z (Hp X (s, v, g, w, q, ct, cn, cc, va_up di n (va_up (va_up (va_up (di n) 3 x) 4 x) 5 (nI 0)), dr, df, li, la, sf, sl) M) := by
  rw [cw_wp]
  simp (disch := omega) only [W201, r_4, r_La, r_2, r_Li, h61_2_3, h61_2_4, s_0, ci_0, h61_2_5, r_93, enR, LG, LSt, LC, nlR, psR, TK, up_s, up_n, up_u, lt_nI, le_nI, eq_nI, true_and, and_true, if_true, if_false, Nat.zero_add, Nat.add_zero, nI_add, ↓reduceIte, Nat.reduceAdd, Nat.reduceMul, Nat.reduceSub, Nat.reduceLT, Nat.reduceLeDiff, Nat.reduceEqDiff, Nat.not_lt_zero, Nat.lt_irrefl, decide_true, BEq.rfl, nm1, nm2, nm3, nm4, nm9, ngc, eq_self, List.length_cons, List.length_nil, hn]
theorem c_isFull {n k : Nat} (hn : n < 4) (h : di n 5 = nI k) (hk : k < 65536) : Cw (d + 1) 202 [.ref (dob n)] z (Hp X (s, v, g, w, q, ct, cn, cc, di, dr, df, li, la, sf, sl) M) Q ↔ Q (some (.int (if k < 40 then nI 0 else nI 1))) z (Hp X (s, v, g, w, q, ct, cn, cc, di, dr, df, li, la, sf, sl) M) := by
  rw [cw_wp]
  by_cases h1 : k < 40 <;> simp (disch := omega) only [W202, r_4, r_La, h60_2_5, s_0, ci_40, r_48, ci_1, r_52, ci_0, r_94, s_Z0, s_Z1, enR, LG, LSt, LC, nlR, psR, TK, up_s, up_n, up_u, lt_nI, le_nI, eq_nI, true_and, and_true, if_true, if_false, Nat.zero_add, Nat.add_zero, nI_add, ↓reduceIte, Nat.reduceAdd, Nat.reduceMul, Nat.reduceSub, Nat.reduceLT, Nat.reduceLeDiff, Nat.reduceEqDiff, Nat.not_lt_zero, Nat.lt_irrefl, decide_true, BEq.rfl, nm1, nm2, nm3, nm4, nm9, ngc, eq_self, List.length_cons, List.length_nil, hn, h, h1]
theorem c_hasStep {n k : Nat} {x : Int32} (hn : n < 4) (h : di n 5 = nI k) (hk : k < 65536) : Cw (d + 1) 203 [.ref (dob n), .int x] z (Hp X (s, v, g, w, q, ct, cn, cc, di, dr, df, li, la, sf, sl) M) Q ↔ Q (some (.int (if x < nI 0 then nI 0 else if x < nI k then nI 1 else nI 0))) z (Hp X (s, v, g, w, q, ct, cn, cc, di, dr, df, li, la, sf, sl) M) := by
  rw [cw_wp]
  by_cases h1 : x < nI 0
  · simp (disch := omega) only [W203, r_2, r_Li, s_42, r_4, r_La, h60_2_5, r_49, s_0, ci_1, r_52, ci_0, r_94, s_Z0, s_Z1, enR, LG, LSt, LC, nlR, psR, TK, up_s, up_n, up_u, lt_nI, le_nI, eq_nI, true_and, and_true, if_true, if_false, Nat.zero_add, Nat.add_zero, nI_add, ↓reduceIte, Nat.reduceAdd, Nat.reduceMul, Nat.reduceSub, Nat.reduceLT, Nat.reduceLeDiff, Nat.reduceEqDiff, Nat.not_lt_zero, Nat.lt_irrefl, decide_true, BEq.rfl, nm1, nm2, nm3, nm4, nm9, ngc, eq_self, List.length_cons, List.length_nil, hn, h, h1]
  · by_cases h2 : x < nI k <;> simp (disch := omega) only [W203, r_2, r_Li, s_42, r_4, r_La, h60_2_5, r_49, s_0, ci_1, r_52, ci_0, r_94, s_Z0, s_Z1, enR, LG, LSt, LC, nlR, psR, TK, up_s, up_n, up_u, lt_nI, le_nI, eq_nI, true_and, and_true, if_true, if_false, Nat.zero_add, Nat.add_zero, nI_add, ↓reduceIte, Nat.reduceAdd, Nat.reduceMul, Nat.reduceSub, Nat.reduceLT, Nat.reduceLeDiff, Nat.reduceEqDiff, Nat.not_lt_zero, Nat.lt_irrefl, decide_true, BEq.rfl, nm1, nm2, nm3, nm4, nm9, ngc, eq_self, List.length_cons, List.length_nil, hn, h, h1, h2]
theorem c_extend {n k : Nat} {x y t : Int32} (hn : n < 4) (h : di n 5 = nI k) (hk : k < 40) : Cw (d + 2) 204 [.ref (dob n), .int x, .int y, .int t] z (Hp X (s, v, g, w, q, ct, cn, cc, di, dr, df, li, la, sf, sl) M) Q ↔ Q none z (Hp X (s, v, g, w, q, ct, cn, cc, va_up di n (va_up (va_up (di n) 4 t) 5 (nI (k + 1))), va_up dr n (upd (dr n) k x), va_up df n (upd (df n) k y), li, la, sf, sl) M) := by
  rw [cw_wp]
  simp (disch := omega) only [W204, r_4, r_La, h79_202, s_41, h60_2_0, h60_2_5, r_2, r_Li, h60_2_1, h61_2_4, r_30, r_30r, s_0, ci_1, r_10, h61_2_5, r_93, h65_df, h65_dr, enR, LG, LSt, LC, nlR, psR, TK, up_s, up_n, up_u, lt_nI, le_nI, eq_nI, true_and, and_true, if_true, if_false, Nat.zero_add, Nat.add_zero, nI_add, ↓reduceIte, Nat.reduceAdd, Nat.reduceMul, Nat.reduceSub, Nat.reduceLT, Nat.reduceLeDiff, Nat.reduceEqDiff, Nat.not_lt_zero, Nat.lt_irrefl, decide_true, BEq.rfl, nm1, nm2, nm3, nm4, nm9, ngc, eq_self, List.length_cons, List.length_nil, hn, h, c_isFull hn h, hk]
theorem c_become {n m : Nat} (hn : n < 4) (hm : m < 4) (hnm : m ≠ n) : Cw (d + 1) 206 [.ref (dob n), .ref (dob m)] z (Hp X (s, v, g, w, q, ct, cn, cc, di, dr, df, li, la, sf, sl) M) Q ↔ Q none z (Hp X (s, v, g, w, q, ct, cn, cc, va_up di n (va_up (va_up (va_up (di n) 3 (di m 3)) 4 (di m 4)) 5 (di m 5)), va_up dr n (va_cpy (dr m) (dr n) 0 0 40), va_up df n (va_cpy (df m) (df n) 0 0 40), li, la, sf, sl) M) := by
  rw [cw_wp]
  simp (disch := omega) only [W206, r_4, r_La, h60_2_3, h61_2_3, h60_2_4, h61_2_4, h60_2_5, h61_2_5, h60_2_0, s_0, ci_0, ci_40, h81_cc, h81_tc, h81_fc, h81_rr, h81_ff, h60_2_1, r_93, enR, LG, LSt, LC, nlR, psR, TK, up_s, up_n, up_u, lt_nI, le_nI, eq_nI, true_and, and_true, if_true, if_false, Nat.zero_add, Nat.add_zero, nI_add, ↓reduceIte, Nat.reduceAdd, Nat.reduceMul, Nat.reduceSub, Nat.reduceLT, Nat.reduceLeDiff, Nat.reduceEqDiff, Nat.not_lt_zero, Nat.lt_irrefl, decide_true, BEq.rfl, nm1, nm2, nm3, nm4, nm9, ngc, eq_self, List.length_cons, List.length_nil, hn, hm]
def DMx (r f : Nat → Int32) (k : Nat) (h : Int64) : Int64 := mix64 (mix64 h (r k).toInt64) (f k).toInt64
theorem lp_dmix {n m : Nat} {a0 : Int64} (hn : n < 4) (h : di n 5 = nI m) (hm : m ≤ 40) : ∀ (p k : Nat) (a : Int64), k + p = m → (Wp (d + 1) 207 5 [some (.ref (dob n)), some (.long a0), none, some (.long a), none, some (.int (nI k))] [] z (Hp X (s, v, g, w, q, ct, cn, cc, di, dr, df, li, la, sf, sl) M) Q ↔ Q (some (.long (foldu (DMx (dr n) (df n)) k p a))) z (Hp X (s, v, g, w, q, ct, cn, cc, di, dr, df, li, la, sf, sl) M)) := by
  intro p
  induction p with
  | zero =>
    intro k a hk
    have hk : k = m := by omega
    subst hk
    rw [W207_5]
    simp (disch := omega) only [W207, r_3, r_Ll, r_6, s_0, ci_0, r_5, r_2, r_Li, r_4, r_La, h60_2_5, r_49, h60_2_0, r_26, h80_962, h60_2_1, s_8, r_In, ci_1, r_52, r_91, h64_df, h64_dr, enR, LG, LSt, LC, nlR, psR, TK, up_s, up_n, up_u, lt_nI, le_nI, eq_nI, true_and, and_true, if_true, if_false, Nat.zero_add, Nat.add_zero, nI_add, ↓reduceIte, Nat.reduceAdd, Nat.reduceMul, Nat.reduceSub, Nat.reduceLT, Nat.reduceLeDiff, Nat.reduceEqDiff, Nat.not_lt_zero, Nat.lt_irrefl, decide_true, BEq.rfl, nm1, nm2, nm3, nm4, nm9, ngc, eq_self, List.length_cons, List.length_nil, hn, h, foldu]
  | succ p ih =>
    intro k a hk
    have h1 : k < m := by omega
    rw [W207_5]
    simp (disch := omega) only [W207, r_3, r_Ll, r_6, s_0, ci_0, r_5, r_2, r_Li, r_4, r_La, h60_2_5, r_49, h60_2_0, r_26, h80_962, h60_2_1, s_8, r_In, ci_1, r_52, r_91, h64_df, h64_dr, enR, LG, LSt, LC, nlR, psR, TK, up_s, up_n, up_u, lt_nI, le_nI, eq_nI, true_and, and_true, if_true, if_false, Nat.zero_add, Nat.add_zero, nI_add, ↓reduceIte, Nat.reduceAdd, Nat.reduceMul, Nat.reduceSub, Nat.reduceLT, Nat.reduceLeDiff, Nat.reduceEqDiff, Nat.not_lt_zero, Nat.lt_irrefl, decide_true, BEq.rfl, nm1, nm2, nm3, nm4, nm9, ngc, eq_self, List.length_cons, List.length_nil, hn, h, h1, foldu, c_mix]
    exact ih (k + 1) _ (by omega)
theorem c_dmix {n m : Nat} {a0 : Int64} (hn : n < 4) (h : di n 5 = nI m) (hm : m ≤ 40) : Cw (d + 2) 207 [.ref (dob n), .long a0] z (Hp X (s, v, g, w, q, ct, cn, cc, di, dr, df, li, la, sf, sl) M) Q ↔ Q (some (.long (foldu (DMx (dr n) (df n)) 0 m a0))) z (Hp X (s, v, g, w, q, ct, cn, cc, di, dr, df, li, la, sf, sl) M) := by
  rw [cw_wp]
  simp (disch := omega) only [W207, r_3, r_Ll, r_6, s_0, ci_0, r_5, r_2, r_Li, r_4, r_La, h60_2_5, r_49, h60_2_0, r_26, h80_962, h60_2_1, s_8, r_In, ci_1, r_52, r_91, h64_df, h64_dr, enR, LG, LSt, LC, nlR, psR, TK, up_s, up_n, up_u, lt_nI, le_nI, eq_nI, true_and, and_true, if_true, if_false, Nat.zero_add, Nat.add_zero, nI_add, ↓reduceIte, Nat.reduceAdd, Nat.reduceMul, Nat.reduceSub, Nat.reduceLT, Nat.reduceLeDiff, Nat.reduceEqDiff, Nat.not_lt_zero, Nat.lt_irrefl, decide_true, BEq.rfl, nm1, nm2, nm3, nm4, nm9, ngc, eq_self, List.length_cons, List.length_nil, hn]
  exact lp_dmix hn h hm m 0 a0 (by omega)
theorem lp_cutTo {n k : Nat} {Dr Dp : Nat → Nat} {x : Int32} (hl : l < 2) (h : CLn (li l) (la l) P N K O T J) (hb : LB P N W K O T J) (hn : n < 4) (hk : k ≤ 40) (hr : ∀ j, j < k → dr n j = nI (Dr j) ∧ Dr j < N ∧ ldm K O T (Dr j) (Dp j) = some (Dp (j + 1))) : ∀ (p j : Nat) (di : Nat → Nat → Int32), j + p = k → di n 5 = nI k → di n 4 = nI (Dp j) → (Wp (d + 2) 205 26 [some (.ref (dob n)), some (.int x), some (.ref (lo l)), some (.int (nI j))] [] z (Hp X (s, v, g, w, q, ct, cn, cc, di, dr, df, li, la, sf, sl) M) Q ↔ Q none z (Hp X (s, v, g, w, q, ct, cn, cc, va_up di n (va_up (di n) 4 (nI (Dp k))), dr, df, li, la, sf, sl) M)) := by
  intro p
  induction p with
  | zero =>
    intro j di hj h5 h4
    have hj : j = k := by omega
    subst hj
    rw [W205_26]
    simp (disch := omega) only [W205, r_4, r_La, s_0, ci_0, r_2, r_Li, h60_2_5, s_84, s_83, h61_2_5, h60_2_3, h61_2_4, r_5, r_49, h60_2_0, h60_2_4, h79_306, s_8, r_In, ci_1, r_52, r_93, h64_dr, enR, LG, LSt, LC, nlR, psR, TK, up_s, up_n, up_u, lt_nI, le_nI, eq_nI, true_and, and_true, if_true, if_false, Nat.zero_add, Nat.add_zero, nI_add, ↓reduceIte, Nat.reduceAdd, Nat.reduceMul, Nat.reduceSub, Nat.reduceLT, Nat.reduceLeDiff, Nat.reduceEqDiff, Nat.not_lt_zero, Nat.lt_irrefl, decide_true, BEq.rfl, nm1, nm2, nm3, nm4, nm9, ngc, eq_self, List.length_cons, List.length_nil, hn, h5]
    rw [up_id h4, up_id rfl]
  | succ p ih =>
    intro j di hj h5 h4
    have h1 : j < k := by omega
    obtain ⟨r1, r2, r3⟩ := hr j h1
    have hp2 : Dp j < 65536 := by
      have hP := hb.1
      obtain ⟨-, o1, t1, -⟩ := hb.2.2.2.2 (Dr j) r2
      unfold ldm at r3
      split at r3
      · omega
      · split at r3
        · omega
        · cases r3
    rw [W205_26]
    simp (disch := omega) only [W205, r_4, r_La, s_0, ci_0, r_2, r_Li, h60_2_5, s_84, s_83, h61_2_5, h60_2_3, h61_2_4, r_5, r_49, h60_2_0, h60_2_4, h79_306, s_8, r_In, ci_1, r_52, r_93, h64_dr, enR, LG, LSt, LC, nlR, psR, TK, up_s, up_n, up_u, lt_nI, le_nI, eq_nI, true_and, and_true, if_true, if_false, Nat.zero_add, Nat.add_zero, nI_add, ↓reduceIte, Nat.reduceAdd, Nat.reduceMul, Nat.reduceSub, Nat.reduceLT, Nat.reduceLeDiff, Nat.reduceEqDiff, Nat.not_lt_zero, Nat.lt_irrefl, decide_true, BEq.rfl, nm1, nm2, nm3, nm4, nm9, ngc, eq_self, List.length_cons, List.length_nil, hn, h5, h4, h1, r1, r3, c_lead hl h hb r2 hp2, o2i]
    rw [ih (j + 1) _ (by omega) (by rw [up_s, up_n _ _ (by decide)]; exact h5) (by rw [up_s, up_s]), up_u, up_s, up_u]
theorem c_cutTo {n k m : Nat} {Dr Dp : Nat → Nat} (hl : l < 2) (h : CLn (li l) (la l) P N K O T J) (hb : LB P N W K O T J) (hn : n < 4) (hk : k ≤ m) (hm : m ≤ 40) (hr : ∀ j, j < k → dr n j = nI (Dr j) ∧ Dr j < N ∧ ldm K O T (Dr j) (Dp j) = some (Dp (j + 1))) (h5 : di n 5 = nI m) (h3 : di n 3 = nI (Dp 0)) : Cw (d + 3) 205 [.ref (dob n), .int (nI k), .ref (lo l)] z (Hp X (s, v, g, w, q, ct, cn, cc, di, dr, df, li, la, sf, sl) M) Q ↔ Q none z (Hp X (s, v, g, w, q, ct, cn, cc, va_up di n (va_up (va_up (di n) 5 (nI k)) 4 (nI (Dp k))), dr, df, li, la, sf, sl) M) := by
  have h1 : ¬ m < k := by omega
  rw [cw_wp]
  simp (disch := omega) only [W205, r_4, r_La, s_0, ci_0, r_2, r_Li, h60_2_5, s_84, s_83, h61_2_5, h60_2_3, h61_2_4, r_5, r_49, h60_2_0, h60_2_4, h79_306, s_8, r_In, ci_1, r_52, r_93, h64_dr, enR, LG, LSt, LC, nlR, psR, TK, up_s, up_n, up_u, lt_nI, le_nI, eq_nI, true_and, and_true, if_true, if_false, Nat.zero_add, Nat.add_zero, nI_add, ↓reduceIte, Nat.reduceAdd, Nat.reduceMul, Nat.reduceSub, Nat.reduceLT, Nat.reduceLeDiff, Nat.reduceEqDiff, Nat.not_lt_zero, Nat.lt_irrefl, decide_true, BEq.rfl, nm1, nm2, nm3, nm4, nm9, ngc, eq_self, List.length_cons, List.length_nil, hn, h5, h3, h1, max0]
  rw [lp_cutTo hl h hb hn (by omega) hr k 0 _ (by omega) (by rw [up_s, up_n _ _ (by decide), up_s]) (by rw [up_s, up_s]), up_u, up_s, up_u]
theorem c_isRow {x : Int32} : Cw (d + 1) 948 [.int x] z f Q ↔ Q (some (.int (if x < nI 0 then nI 0 else if x < nI 6 then nI 1 else nI 0))) z f := by
  rw [cw_wp]
  by_cases h1 : x < nI 0
  · simp (disch := omega) only [W948, r_2, r_Li, s_42, s_0, ci_6, r_49, ci_1, r_52, ci_0, r_94, s_Z0, s_Z1, enR, LG, LSt, LC, nlR, psR, TK, up_s, up_n, up_u, lt_nI, le_nI, eq_nI, true_and, and_true, if_true, if_false, Nat.zero_add, Nat.add_zero, nI_add, ↓reduceIte, Nat.reduceAdd, Nat.reduceMul, Nat.reduceSub, Nat.reduceLT, Nat.reduceLeDiff, Nat.reduceEqDiff, Nat.not_lt_zero, Nat.lt_irrefl, decide_true, BEq.rfl, nm1, nm2, nm3, nm4, nm9, ngc, eq_self, List.length_cons, List.length_nil, h1]
  · by_cases h2 : x < nI 6 <;> simp (disch := omega) only [W948, r_2, r_Li, s_42, s_0, ci_6, r_49, ci_1, r_52, ci_0, r_94, s_Z0, s_Z1, enR, LG, LSt, LC, nlR, psR, TK, up_s, up_n, up_u, lt_nI, le_nI, eq_nI, true_and, and_true, if_true, if_false, Nat.zero_add, Nat.add_zero, nI_add, ↓reduceIte, Nat.reduceAdd, Nat.reduceMul, Nat.reduceSub, Nat.reduceLT, Nat.reduceLeDiff, Nat.reduceEqDiff, Nat.not_lt_zero, Nat.lt_irrefl, decide_true, BEq.rfl, nm1, nm2, nm3, nm4, nm9, ngc, eq_self, List.length_cons, List.length_nil, h1, h2]
theorem c_isText {x : Int32} : Cw (d + 1) 949 [.int x] z f Q ↔ Q (some (.int (if x < nI 0 then nI 0 else if x < nI 4 then nI 1 else nI 0))) z f := by
  rw [cw_wp]
  by_cases h1 : x < nI 0
  · simp (disch := omega) only [W949, r_2, r_Li, s_42, s_0, ci_4, r_49, ci_1, r_52, ci_0, r_94, s_Z0, s_Z1, enR, LG, LSt, LC, nlR, psR, TK, up_s, up_n, up_u, lt_nI, le_nI, eq_nI, true_and, and_true, if_true, if_false, Nat.zero_add, Nat.add_zero, nI_add, ↓reduceIte, Nat.reduceAdd, Nat.reduceMul, Nat.reduceSub, Nat.reduceLT, Nat.reduceLeDiff, Nat.reduceEqDiff, Nat.not_lt_zero, Nat.lt_irrefl, decide_true, BEq.rfl, nm1, nm2, nm3, nm4, nm9, ngc, eq_self, List.length_cons, List.length_nil, h1]
  · by_cases h2 : x < nI 4 <;> simp (disch := omega) only [W949, r_2, r_Li, s_42, s_0, ci_4, r_49, ci_1, r_52, ci_0, r_94, s_Z0, s_Z1, enR, LG, LSt, LC, nlR, psR, TK, up_s, up_n, up_u, lt_nI, le_nI, eq_nI, true_and, and_true, if_true, if_false, Nat.zero_add, Nat.add_zero, nI_add, ↓reduceIte, Nat.reduceAdd, Nat.reduceMul, Nat.reduceSub, Nat.reduceLT, Nat.reduceLeDiff, Nat.reduceEqDiff, Nat.not_lt_zero, Nat.lt_irrefl, decide_true, BEq.rfl, nm1, nm2, nm3, nm4, nm9, ngc, eq_self, List.length_cons, List.length_nil, h1, h2]
theorem c_isKept {x : Int32} : Cw (d + 1) 950 [.int x] z f Q ↔ Q (some (.int (if x < nI 0 then nI 0 else if x < nI 3 then nI 1 else nI 0))) z f := by
  rw [cw_wp]
  by_cases h1 : x < nI 0
  · simp (disch := omega) only [W950, r_2, r_Li, s_42, s_0, ci_3, r_49, ci_1, r_52, ci_0, r_94, s_Z0, s_Z1, enR, LG, LSt, LC, nlR, psR, TK, up_s, up_n, up_u, lt_nI, le_nI, eq_nI, true_and, and_true, if_true, if_false, Nat.zero_add, Nat.add_zero, nI_add, ↓reduceIte, Nat.reduceAdd, Nat.reduceMul, Nat.reduceSub, Nat.reduceLT, Nat.reduceLeDiff, Nat.reduceEqDiff, Nat.not_lt_zero, Nat.lt_irrefl, decide_true, BEq.rfl, nm1, nm2, nm3, nm4, nm9, ngc, eq_self, List.length_cons, List.length_nil, h1]
  · by_cases h2 : x < nI 3 <;> simp (disch := omega) only [W950, r_2, r_Li, s_42, s_0, ci_3, r_49, ci_1, r_52, ci_0, r_94, s_Z0, s_Z1, enR, LG, LSt, LC, nlR, psR, TK, up_s, up_n, up_u, lt_nI, le_nI, eq_nI, true_and, and_true, if_true, if_false, Nat.zero_add, Nat.add_zero, nI_add, ↓reduceIte, Nat.reduceAdd, Nat.reduceMul, Nat.reduceSub, Nat.reduceLT, Nat.reduceLeDiff, Nat.reduceEqDiff, Nat.not_lt_zero, Nat.lt_irrefl, decide_true, BEq.rfl, nm1, nm2, nm3, nm4, nm9, ngc, eq_self, List.length_cons, List.length_nil, h1, h2]
theorem c_found {k : Nat} (h1 : 1 ≤ k) (h2 : k ≤ 5) : Cw (d + 1) 951 [.ref 0, .int (nI k)] z (Hp X (s, v, g, w, q, ct, cn, cc, di, dr, df, li, la, sf, sl) M) Q ↔ Q (some (.int (-3))) z (Hp X (va_up s 18 (nI k), v, va_up g 32 (upd (g 32) k (g 32 k + nI 1)), w, q, ct, cn, cc, di, dr, df, li, la, sf, sl) M) := by
  have q1 : ¬ k < 1 := by omega
  have q2 : ¬ 5 < k := by omega
  rw [cw_wp]
  simp (disch := omega) only [W951, r_2, r_Li, s_0, ci_1, r_48, ci_5, r_50, r_4, r_La, h61_9_18, h60_9_11, r_31, r_10, ci_m3, r_90, h64_32, h65_32, enR, LG, LSt, LC, nlR, psR, TK, up_s, up_n, up_u, lt_nI, le_nI, eq_nI, true_and, and_true, if_true, if_false, Nat.zero_add, Nat.add_zero, nI_add, ↓reduceIte, Nat.reduceAdd, Nat.reduceMul, Nat.reduceSub, Nat.reduceLT, Nat.reduceLeDiff, Nat.reduceEqDiff, Nat.not_lt_zero, Nat.lt_irrefl, decide_true, BEq.rfl, nm1, nm2, nm3, nm4, nm9, ngc, eq_self, List.length_cons, List.length_nil, q1, q2]
theorem c_toldA {x : Int32} : Cw (d + 1) 952 [.ref 0, .int x] z (Hp X (s, v, g, w, q, ct, cn, cc, di, dr, df, li, la, sf, sl) M) Q ↔ Q (some (.int (nI 1))) z (Hp X (va_up s 15 x, v, g, w, q, ct, cn, cc, di, dr, df, li, la, sf, sl) M) := by
  rw [cw_wp]
  simp (disch := omega) only [W952, r_4, r_La, r_2, r_Li, h61_9_15, s_0, ci_1, r_90, enR, LG, LSt, LC, nlR, psR, TK, up_s, up_n, up_u, lt_nI, le_nI, eq_nI, true_and, and_true, if_true, if_false, Nat.zero_add, Nat.add_zero, nI_add, ↓reduceIte, Nat.reduceAdd, Nat.reduceMul, Nat.reduceSub, Nat.reduceLT, Nat.reduceLeDiff, Nat.reduceEqDiff, Nat.not_lt_zero, Nat.lt_irrefl, decide_true, BEq.rfl, nm1, nm2, nm3, nm4, nm9, ngc, eq_self, List.length_cons, List.length_nil]
theorem c_toldU {x : Int64} : Cw (d + 1) 953 [.ref 0, .long x] z (Hp X (s, v, g, w, q, ct, cn, cc, di, dr, df, li, la, sf, sl) M) Q ↔ Q (some (.int (nI 1))) z (Hp X (s, vp_updL (vp_updL v 16 x) 17 (lN 1), g, w, q, ct, cn, cc, di, dr, df, li, la, sf, sl) M) := by
  rw [cw_wp]
  simp (disch := omega) only [W953, r_4, r_La, r_3, r_Ll, h61_9_16, s_1, cl_1, h61_9_17, s_0, ci_1, r_90, enR, LG, LSt, LC, nlR, psR, TK, up_s, up_n, up_u, lt_nI, le_nI, eq_nI, true_and, and_true, if_true, if_false, Nat.zero_add, Nat.add_zero, nI_add, ↓reduceIte, Nat.reduceAdd, Nat.reduceMul, Nat.reduceSub, Nat.reduceLT, Nat.reduceLeDiff, Nat.reduceEqDiff, Nat.not_lt_zero, Nat.lt_irrefl, decide_true, BEq.rfl, nm1, nm2, nm3, nm4, nm9, ngc, eq_self, List.length_cons, List.length_nil]
def KTf (t : Nat → Bool) (k c : Nat) : Nat := if t k = true then c + 1 else c
theorem lp_kept {t : Nat → Bool} (h : ∀ k, k < 3 → di (1 + k) 2 = if t k = true then nI 1 else nI 0) : ∀ (p k c : Nat), k + p = 3 → c ≤ k → (Wp d 960 4 [some (.ref 0), some (.int (nI c)), some (.int (nI k))] [] z (Hp X (s, v, g, w, q, ct, cn, cc, di, dr, df, li, la, sf, sl) M) Q ↔ Q (some (.int (nI (foldu (KTf t) k p c)))) z (Hp X (s, v, g, w, q, ct, cn, cc, di, dr, df, li, la, sf, sl) M)) := by
  intro p
  induction p with
  | zero =>
    intro k c hk _
    have hk : k = 3 := by omega
    subst hk
    rw [W960_4]
    simp (disch := omega) only [W960, s_0, ci_0, r_5, r_2, r_Li, ci_3, r_49, r_4, r_La, h60_9_4, h60_2_2, s_40, s_8, r_In, ci_1, r_52, r_90, h68_12, enR, LG, LSt, LC, nlR, psR, TK, up_s, up_n, up_u, lt_nI, le_nI, eq_nI, true_and, and_true, if_true, if_false, Nat.zero_add, Nat.add_zero, nI_add, ↓reduceIte, Nat.reduceAdd, Nat.reduceMul, Nat.reduceSub, Nat.reduceLT, Nat.reduceLeDiff, Nat.reduceEqDiff, Nat.not_lt_zero, Nat.lt_irrefl, decide_true, BEq.rfl, nm1, nm2, nm3, nm4, nm9, ngc, eq_self, List.length_cons, List.length_nil, foldu]
  | succ p ih =>
    intro k c hk hc
    have h1 : k < 3 := by omega
    have h2 := h k h1
    rw [W960_4]
    by_cases h3 : t k = true
    · rw [h3] at h2
      simp (disch := omega) only [W960, s_0, ci_0, r_5, r_2, r_Li, ci_3, r_49, r_4, r_La, h60_9_4, h60_2_2, s_40, s_8, r_In, ci_1, r_52, r_90, h68_12, enR, LG, LSt, LC, nlR, psR, TK, up_s, up_n, up_u, lt_nI, le_nI, eq_nI, true_and, and_true, if_true, if_false, Nat.zero_add, Nat.add_zero, nI_add, ↓reduceIte, Nat.reduceAdd, Nat.reduceMul, Nat.reduceSub, Nat.reduceLT, Nat.reduceLeDiff, Nat.reduceEqDiff, Nat.not_lt_zero, Nat.lt_irrefl, decide_true, BEq.rfl, nm1, nm2, nm3, nm4, nm9, ngc, eq_self, List.length_cons, List.length_nil, h1, h2, h3, foldu, KTf]
      exact ih (k + 1) _ (by omega) (by omega)
    · rw [if_neg h3] at h2
      simp (disch := omega) only [W960, s_0, ci_0, r_5, r_2, r_Li, ci_3, r_49, r_4, r_La, h60_9_4, h60_2_2, s_40, s_8, r_In, ci_1, r_52, r_90, h68_12, enR, LG, LSt, LC, nlR, psR, TK, up_s, up_n, up_u, lt_nI, le_nI, eq_nI, true_and, and_true, if_true, if_false, Nat.zero_add, Nat.add_zero, nI_add, ↓reduceIte, Nat.reduceAdd, Nat.reduceMul, Nat.reduceSub, Nat.reduceLT, Nat.reduceLeDiff, Nat.reduceEqDiff, Nat.not_lt_zero, Nat.lt_irrefl, decide_true, BEq.rfl, nm1, nm2, nm3, nm4, nm9, ngc, eq_self, List.length_cons, List.length_nil, h1, h2, h3, foldu, KTf, Bool.false_eq_true]
      exact ih (k + 1) _ (by omega) (by omega)
theorem c_kept {t : Nat → Bool} (h : ∀ k, k < 3 → di (1 + k) 2 = if t k = true then nI 1 else nI 0) : Cw (d + 1) 960 [.ref 0] z (Hp X (s, v, g, w, q, ct, cn, cc, di, dr, df, li, la, sf, sl) M) Q ↔ Q (some (.int (nI (foldu (KTf t) 0 3 0)))) z (Hp X (s, v, g, w, q, ct, cn, cc, di, dr, df, li, la, sf, sl) M) := by
  rw [cw_wp]
  simp (disch := omega) only [W960, s_0, ci_0, r_5, r_2, r_Li, ci_3, r_49, r_4, r_La, h60_9_4, h60_2_2, s_40, s_8, r_In, ci_1, r_52, r_90, h68_12, enR, LG, LSt, LC, nlR, psR, TK, up_s, up_n, up_u, lt_nI, le_nI, eq_nI, true_and, and_true, if_true, if_false, Nat.zero_add, Nat.add_zero, nI_add, ↓reduceIte, Nat.reduceAdd, Nat.reduceMul, Nat.reduceSub, Nat.reduceLT, Nat.reduceLeDiff, Nat.reduceEqDiff, Nat.not_lt_zero, Nat.lt_irrefl, decide_true, BEq.rfl, nm1, nm2, nm3, nm4, nm9, ngc, eq_self, List.length_cons, List.length_nil]
  exact lp_kept h 3 0 0 (by omega) (by omega)
theorem lp_cells1 {t : Nat → Bool} (h : ∀ k, k < 6 → ct k = if t k = true then nI 1 else nI 0) : ∀ (p k c : Nat), k + p = 6 → c ≤ k → (Wp d 961 4 [some (.ref 1), some (.int (nI c)), some (.int (nI k))] [] z (Hp X (s, v, g, w, q, ct, cn, cc, di, dr, df, li, la, sf, sl) M) Q ↔ Q (some (.int (nI (foldu (KTf t) k p c)))) z (Hp X (s, v, g, w, q, ct, cn, cc, di, dr, df, li, la, sf, sl) M)) := by
  intro p
  induction p with
  | zero =>
    intro k c hk _
    have hk : k = 6 := by omega
    subst hk
    rw [W961_4]
    simp (disch := omega) only [W961, s_0, ci_0, r_5, r_2, r_Li, r_4, r_La, r_49, h60_0_1, s_40, s_8, r_In, ci_1, r_52, r_90, enR, LG, LSt, LC, nlR, psR, TK, up_s, up_n, up_u, lt_nI, le_nI, eq_nI, true_and, and_true, if_true, if_false, Nat.zero_add, Nat.add_zero, nI_add, ↓reduceIte, Nat.reduceAdd, Nat.reduceMul, Nat.reduceSub, Nat.reduceLT, Nat.reduceLeDiff, Nat.reduceEqDiff, Nat.not_lt_zero, Nat.lt_irrefl, decide_true, BEq.rfl, nm1, nm2, nm3, nm4, nm9, ngc, eq_self, List.length_cons, List.length_nil, foldu, h63_1]
  | succ p ih =>
    intro k c hk hc
    have h1 : k < 6 := by omega
    have h2 := h k h1
    rw [W961_4]
    by_cases h3 : t k = true
    · rw [h3] at h2
      simp (disch := omega) only [W961, s_0, ci_0, r_5, r_2, r_Li, r_4, r_La, r_49, h60_0_1, s_40, s_8, r_In, ci_1, r_52, r_90, enR, LG, LSt, LC, nlR, psR, TK, up_s, up_n, up_u, lt_nI, le_nI, eq_nI, true_and, and_true, if_true, if_false, Nat.zero_add, Nat.add_zero, nI_add, ↓reduceIte, Nat.reduceAdd, Nat.reduceMul, Nat.reduceSub, Nat.reduceLT, Nat.reduceLeDiff, Nat.reduceEqDiff, Nat.not_lt_zero, Nat.lt_irrefl, decide_true, BEq.rfl, nm1, nm2, nm3, nm4, nm9, ngc, eq_self, List.length_cons, List.length_nil, h1, h2, h3, foldu, KTf, h63_1, h68_1]
      exact ih (k + 1) _ (by omega) (by omega)
    · rw [if_neg h3] at h2
      simp (disch := omega) only [W961, s_0, ci_0, r_5, r_2, r_Li, r_4, r_La, r_49, h60_0_1, s_40, s_8, r_In, ci_1, r_52, r_90, enR, LG, LSt, LC, nlR, psR, TK, up_s, up_n, up_u, lt_nI, le_nI, eq_nI, true_and, and_true, if_true, if_false, Nat.zero_add, Nat.add_zero, nI_add, ↓reduceIte, Nat.reduceAdd, Nat.reduceMul, Nat.reduceSub, Nat.reduceLT, Nat.reduceLeDiff, Nat.reduceEqDiff, Nat.not_lt_zero, Nat.lt_irrefl, decide_true, BEq.rfl, nm1, nm2, nm3, nm4, nm9, ngc, eq_self, List.length_cons, List.length_nil, h1, h2, h3, foldu, KTf, h63_1, h68_1, Bool.false_eq_true]
      exact ih (k + 1) _ (by omega) (by omega)
theorem c_cells1 {t : Nat → Bool} (h : ∀ k, k < 6 → ct k = if t k = true then nI 1 else nI 0) : Cw (d + 1) 961 [.ref 1] z (Hp X (s, v, g, w, q, ct, cn, cc, di, dr, df, li, la, sf, sl) M) Q ↔ Q (some (.int (nI (foldu (KTf t) 0 6 0)))) z (Hp X (s, v, g, w, q, ct, cn, cc, di, dr, df, li, la, sf, sl) M) := by
  rw [cw_wp]
  simp (disch := omega) only [W961, s_0, ci_0, r_5, r_2, r_Li, r_4, r_La, r_49, h60_0_1, s_40, s_8, r_In, ci_1, r_52, r_90, enR, LG, LSt, LC, nlR, psR, TK, up_s, up_n, up_u, lt_nI, le_nI, eq_nI, true_and, and_true, if_true, if_false, Nat.zero_add, Nat.add_zero, nI_add, ↓reduceIte, Nat.reduceAdd, Nat.reduceMul, Nat.reduceSub, Nat.reduceLT, Nat.reduceLeDiff, Nat.reduceEqDiff, Nat.not_lt_zero, Nat.lt_irrefl, decide_true, BEq.rfl, nm1, nm2, nm3, nm4, nm9, ngc, eq_self, List.length_cons, List.length_nil]
  exact lp_cells1 h 6 0 0 (by omega) (by omega)
theorem lp_cells2 {t : Nat → Bool} (h : ∀ k, k < 4 → ct (6 + k) = if t k = true then nI 1 else nI 0) : ∀ (p k c : Nat), k + p = 4 → c ≤ k → (Wp d 961 4 [some (.ref 2), some (.int (nI c)), some (.int (nI k))] [] z (Hp X (s, v, g, w, q, ct, cn, cc, di, dr, df, li, la, sf, sl) M) Q ↔ Q (some (.int (nI (foldu (KTf t) k p c)))) z (Hp X (s, v, g, w, q, ct, cn, cc, di, dr, df, li, la, sf, sl) M)) := by
  intro p
  induction p with
  | zero =>
    intro k c hk _
    have hk : k = 4 := by omega
    subst hk
    rw [W961_4]
    simp (disch := omega) only [W961, s_0, ci_0, r_5, r_2, r_Li, r_4, r_La, r_49, h60_0_1, s_40, s_8, r_In, ci_1, r_52, r_90, enR, LG, LSt, LC, nlR, psR, TK, up_s, up_n, up_u, lt_nI, le_nI, eq_nI, true_and, and_true, if_true, if_false, Nat.zero_add, Nat.add_zero, nI_add, ↓reduceIte, Nat.reduceAdd, Nat.reduceMul, Nat.reduceSub, Nat.reduceLT, Nat.reduceLeDiff, Nat.reduceEqDiff, Nat.not_lt_zero, Nat.lt_irrefl, decide_true, BEq.rfl, nm1, nm2, nm3, nm4, nm9, ngc, eq_self, List.length_cons, List.length_nil, foldu, h63_2]
  | succ p ih =>
    intro k c hk hc
    have h1 : k < 4 := by omega
    have h2 := h k h1
    rw [W961_4]
    by_cases h3 : t k = true
    · rw [h3] at h2
      simp (disch := omega) only [W961, s_0, ci_0, r_5, r_2, r_Li, r_4, r_La, r_49, h60_0_1, s_40, s_8, r_In, ci_1, r_52, r_90, enR, LG, LSt, LC, nlR, psR, TK, up_s, up_n, up_u, lt_nI, le_nI, eq_nI, true_and, and_true, if_true, if_false, Nat.zero_add, Nat.add_zero, nI_add, ↓reduceIte, Nat.reduceAdd, Nat.reduceMul, Nat.reduceSub, Nat.reduceLT, Nat.reduceLeDiff, Nat.reduceEqDiff, Nat.not_lt_zero, Nat.lt_irrefl, decide_true, BEq.rfl, nm1, nm2, nm3, nm4, nm9, ngc, eq_self, List.length_cons, List.length_nil, h1, h2, h3, foldu, KTf, h63_2, h68_2]
      exact ih (k + 1) _ (by omega) (by omega)
    · rw [if_neg h3] at h2
      simp (disch := omega) only [W961, s_0, ci_0, r_5, r_2, r_Li, r_4, r_La, r_49, h60_0_1, s_40, s_8, r_In, ci_1, r_52, r_90, enR, LG, LSt, LC, nlR, psR, TK, up_s, up_n, up_u, lt_nI, le_nI, eq_nI, true_and, and_true, if_true, if_false, Nat.zero_add, Nat.add_zero, nI_add, ↓reduceIte, Nat.reduceAdd, Nat.reduceMul, Nat.reduceSub, Nat.reduceLT, Nat.reduceLeDiff, Nat.reduceEqDiff, Nat.not_lt_zero, Nat.lt_irrefl, decide_true, BEq.rfl, nm1, nm2, nm3, nm4, nm9, ngc, eq_self, List.length_cons, List.length_nil, h1, h2, h3, foldu, KTf, h63_2, h68_2, Bool.false_eq_true]
      exact ih (k + 1) _ (by omega) (by omega)
theorem c_cells2 {t : Nat → Bool} (h : ∀ k, k < 4 → ct (6 + k) = if t k = true then nI 1 else nI 0) : Cw (d + 1) 961 [.ref 2] z (Hp X (s, v, g, w, q, ct, cn, cc, di, dr, df, li, la, sf, sl) M) Q ↔ Q (some (.int (nI (foldu (KTf t) 0 4 0)))) z (Hp X (s, v, g, w, q, ct, cn, cc, di, dr, df, li, la, sf, sl) M) := by
  rw [cw_wp]
  simp (disch := omega) only [W961, s_0, ci_0, r_5, r_2, r_Li, r_4, r_La, r_49, h60_0_1, s_40, s_8, r_In, ci_1, r_52, r_90, enR, LG, LSt, LC, nlR, psR, TK, up_s, up_n, up_u, lt_nI, le_nI, eq_nI, true_and, and_true, if_true, if_false, Nat.zero_add, Nat.add_zero, nI_add, ↓reduceIte, Nat.reduceAdd, Nat.reduceMul, Nat.reduceSub, Nat.reduceLT, Nat.reduceLeDiff, Nat.reduceEqDiff, Nat.not_lt_zero, Nat.lt_irrefl, decide_true, BEq.rfl, nm1, nm2, nm3, nm4, nm9, ngc, eq_self, List.length_cons, List.length_nil]
  exact lp_cells2 h 4 0 0 (by omega) (by omega)
/-- the place of bit number n of a set -/
def bnu : Nat → Nat → Nat → Nat → Nat → Option Nat
  | 0, _, _, _, _ => none
  | p + 1, b, S, n, a => if S.testBit b = true then (if a = n then some b else bnu p (b + 1) S n (a + 1)) else bnu p (b + 1) S n a
theorem lp_bitN {S n : Nat} (hn : n < 65536) : ∀ (p b a : Nat), b + p = 10 → a ≤ b → (Wp d 964 4 [some (.int (nI S)), some (.int (nI n)), some (.int (nI a)), some (.int (nI b))] [] z f Q ↔ Q (some (.int (o2i (-1) (bnu p b S n a)))) z f) := by
  intro p
  induction p with
  | zero =>
    intro b a hb _
    have hb : b = 10 := by omega
    subst hb
    rw [W964_4]
    simp (disch := omega) only [W964, s_0, ci_0, r_5, r_2, r_Li, ci_10, r_49, ci_1, r_18, r_15, s_40, r_47, r_90, s_8, r_In, r_52, ci_m1, enR, LG, LSt, LC, nlR, psR, TK, up_s, up_n, up_u, lt_nI, le_nI, eq_nI, true_and, and_true, if_true, if_false, Nat.zero_add, Nat.add_zero, nI_add, ↓reduceIte, Nat.reduceAdd, Nat.reduceMul, Nat.reduceSub, Nat.reduceLT, Nat.reduceLeDiff, Nat.reduceEqDiff, Nat.not_lt_zero, Nat.lt_irrefl, decide_true, BEq.rfl, nm1, nm2, nm3, nm4, nm9, ngc, eq_self, List.length_cons, List.length_nil, bnu, o2i]
  | succ p ih =>
    intro b a hb ha
    have h1 : b < 10 := by omega
    rw [W964_4]
    by_cases h2 : S.testBit b = true
    · by_cases h3 : a = n
      · simp (disch := omega) only [W964, s_0, ci_0, r_5, r_2, r_Li, ci_10, r_49, ci_1, r_18, r_15, s_40, r_47, r_90, s_8, r_In, r_52, ci_m1, enR, LG, LSt, LC, nlR, psR, TK, up_s, up_n, up_u, lt_nI, le_nI, eq_nI, true_and, and_true, if_true, if_false, Nat.zero_add, Nat.add_zero, nI_add, ↓reduceIte, Nat.reduceAdd, Nat.reduceMul, Nat.reduceSub, Nat.reduceLT, Nat.reduceLeDiff, Nat.reduceEqDiff, Nat.not_lt_zero, Nat.lt_irrefl, decide_true, BEq.rfl, nm1, nm2, nm3, nm4, nm9, ngc, eq_self, List.length_cons, List.length_nil, h1, h2, h3, bnu, o2i, nI_bit, nI_and, bitz, Bool.true_eq_false]
      · simp (disch := omega) only [W964, s_0, ci_0, r_5, r_2, r_Li, ci_10, r_49, ci_1, r_18, r_15, s_40, r_47, r_90, s_8, r_In, r_52, ci_m1, enR, LG, LSt, LC, nlR, psR, TK, up_s, up_n, up_u, lt_nI, le_nI, eq_nI, true_and, and_true, if_true, if_false, Nat.zero_add, Nat.add_zero, nI_add, ↓reduceIte, Nat.reduceAdd, Nat.reduceMul, Nat.reduceSub, Nat.reduceLT, Nat.reduceLeDiff, Nat.reduceEqDiff, Nat.not_lt_zero, Nat.lt_irrefl, decide_true, BEq.rfl, nm1, nm2, nm3, nm4, nm9, ngc, eq_self, List.length_cons, List.length_nil, h1, h2, h3, bnu, o2i, nI_bit, nI_and, bitz, Bool.true_eq_false]
        exact ih (b + 1) _ (by omega) (by omega)
    · simp (disch := omega) only [W964, s_0, ci_0, r_5, r_2, r_Li, ci_10, r_49, ci_1, r_18, r_15, s_40, r_47, r_90, s_8, r_In, r_52, ci_m1, enR, LG, LSt, LC, nlR, psR, TK, up_s, up_n, up_u, lt_nI, le_nI, eq_nI, true_and, and_true, if_true, if_false, Nat.zero_add, Nat.add_zero, nI_add, ↓reduceIte, Nat.reduceAdd, Nat.reduceMul, Nat.reduceSub, Nat.reduceLT, Nat.reduceLeDiff, Nat.reduceEqDiff, Nat.not_lt_zero, Nat.lt_irrefl, decide_true, BEq.rfl, nm1, nm2, nm3, nm4, nm9, ngc, eq_self, List.length_cons, List.length_nil, h1, h2, bnu, o2i, nI_bit, nI_and, bitz, Bool.true_eq_false, Bool.false_eq_true]
      exact ih (b + 1) _ (by omega) (by omega)
theorem c_bitN {S n : Nat} (hn : n < 65536) : Cw (d + 1) 964 [.int (nI S), .int (nI n)] z f Q ↔ Q (some (.int (o2i (-1) (bnu 10 0 S n 0)))) z f := by
  rw [cw_wp]
  simp (disch := omega) only [W964, s_0, ci_0, r_5, r_2, r_Li, ci_10, r_49, ci_1, r_18, r_15, s_40, r_47, r_90, s_8, r_In, r_52, ci_m1, enR, LG, LSt, LC, nlR, psR, TK, up_s, up_n, up_u, lt_nI, le_nI, eq_nI, true_and, and_true, if_true, if_false, Nat.zero_add, Nat.add_zero, nI_add, ↓reduceIte, Nat.reduceAdd, Nat.reduceMul, Nat.reduceSub, Nat.reduceLT, Nat.reduceLeDiff, Nat.reduceEqDiff, Nat.not_lt_zero, Nat.lt_irrefl, decide_true, BEq.rfl, nm1, nm2, nm3, nm4, nm9, ngc, eq_self, List.length_cons, List.length_nil]
  exact lp_bitN hn 10 0 0 (by omega) (by omega)
def swar (x0 : Int32) : Int32 :=
  let u := fun (x k : Int32) => (x.toUInt32 >>> (k.toUInt32 &&& Int32.toUInt32 31)).toInt32
  let x1 := x0 - (u x0 (nI 1) &&& nI 1431655765)
  let x2 := (x1 &&& nI 858993459) + (u x1 (nI 2) &&& nI 858993459)
  let x3 := x2 + u x2 (nI 4) &&& nI 252645135
  let x4 := x3 + u x3 (nI 8)
  let x5 := x4 + u x4 (nI 16)
  x5 &&& nI 63
theorem swar_ok : ∀ n, n < 1024 → swar (nI n) = nI (foldu (pcF n) 0 10 0) := by
  have h : ((List.range 1024).all fun n => swar (nI n) == nI (foldu (pcF n) 0 10 0)) = true := by decide +kernel
  intro n hn
  exact eq_of_beq (List.all_eq_true.mp h n (List.mem_range.mpr hn))
theorem c_bitCount {n : Nat} (hn : n < 1024) : Cw (d + 1) 1200 [.int (nI n)] z f Q ↔ Q (some (.int (nI (foldu (pcF n) 0 10 0)))) z f := by
  rw [cw_wp, ← swar_ok n hn]
  simp (disch := omega) only [W1200, r_2, r_Li, s_0, ci_1, r_20, ci_1431655765, r_15, r_11, r_5, ci_858993459, ci_2, r_10, ci_4, ci_252645135, ci_8, ci_16, ci_63, r_90, enR, LG, LSt, LC, nlR, psR, TK, up_s, up_n, up_u, lt_nI, le_nI, eq_nI, true_and, and_true, if_true, if_false, Nat.zero_add, Nat.add_zero, ↓reduceIte, Nat.reduceAdd, Nat.reduceMul, Nat.reduceSub, Nat.reduceLT, Nat.reduceLeDiff, Nat.reduceEqDiff, Nat.not_lt_zero, Nat.lt_irrefl, decide_true, BEq.rfl, nm1, nm2, nm3, nm4, nm9, ngc, eq_self, List.length_cons, List.length_nil]
  exact Iff.rfl
end

/-! in how many drives: Tally, the model's ways -/
theorem foldu_rel {α β : Type} {F : Nat → α → α} {G : Nat → β → β} (E : α → β → Prop) : ∀ (q k : Nat) (a : α) (b : β), E a b → (∀ j x y, k ≤ j → j < k + q → E x y → E (F j x) (G j y)) → E (foldu F k q a) (foldu G k q b) := by
  intro q
  induction q with
  | zero => intro k a b h _; exact h
  | succ q ih => intro k a b h hs; exact ih (k + 1) _ _ (hs k a b (by omega) (by omega) h) (fun j x y h1 h2 h3 => hs j x y (by omega) (by omega) h3)
def awF (K O T : Nat → Nat) (u : Nat → Int64) (i p : Nat) (t : Nat → Int64) : Nat → Int64 := match ldm K O T i p with
  | none => t
  | some q => vp_updL t q (t q + u p)
def aiF (c : Nat → Bool) (K O T : Nat → Nat) (P : Nat) (u : Nat → Int64) (i : Nat) (t : Nat → Int64) : Nat → Int64 := if c i = true then foldu (awF K O T u i) 0 P t else t
def uad (c : Nat → Bool) (K O T : Nat → Nat) (P N : Nat) (u : Nat → Int64) : Nat → Int64 := foldu (aiF c K O T P u) 0 N (fun _ => lN 0)
def ust (p : Nat) : Nat → Int64 := fun q => if q = p then lN 1 else lN 0
def uit (c : Nat → Nat → Bool) (K O T : Nat → Nat) (P N p : Nat) : Nat → Nat → Int64
  | 0 => ust p
  | k + 1 => uad (c k) K O T P N (uit c K O T P N p k)
/-- equal below m -/
def agL (m : Nat) (t t' : Nat → Int64) : Prop := ∀ q, q < m → t q = t' q
theorem aw_ag {P N W m : Nat} {K O T J : Nat → Nat} {c : Nat → Bool} {u u' t t' : Nat → Int64} (hb : LB P N W K O T J) (hm : P ≤ m) (hu : agL P u u') (ht : agL m t t') : agL m (foldu (aiF c K O T P u) 0 N t) (foldu (aiF c K O T P u') 0 N t') := by
  refine foldu_rel (agL m) N 0 t t' ht (fun i x y _ hi h => ?_)
  show agL m (aiF c K O T P u i x) (aiF c K O T P u' i y)
  unfold aiF
  split
  · refine foldu_rel (agL m) P 0 x y h (fun p x y _ hp h => ?_)
    show agL m (awF K O T u i p x) (awF K O T u' i p y)
    unfold awF
    cases hd : ldm K O T i p with
    | none => exact h
    | some q =>
      intro j hj
      have hq := ldm_lt hb (show i < N by omega) hd
      show vp_updL x q (x q + u p) j = vp_updL y q (y q + u' p) j
      by_cases h1 : j = q
      · subst h1
        rw [ul_s, ul_s, h j hj, hu p (by omega)]
      · rw [ul_n _ _ h1, ul_n _ _ h1]; exact h j hj
  · exact h
theorem uad_z {P N W : Nat} {K O T J : Nat → Nat} {c : Nat → Bool} {u : Nat → Int64} (hb : LB P N W K O T J) {q : Nat} (hq : P ≤ q) : uad c K O T P N u q = lN 0 := by
  refine foldu_inv (F := aiF c K O T P u) (fun _ t => t q = lN 0) N 0 _ rfl (fun i t _ hi h => ?_)
  show aiF c K O T P u i t q = lN 0
  unfold aiF
  split
  · refine foldu_inv (F := awF K O T u i) (fun _ t => t q = lN 0) P 0 _ h (fun p t _ hp h => ?_)
    show awF K O T u i p t q = lN 0
    unfold awF
    cases hd : ldm K O T i p with
    | none => exact h
    | some r =>
      have hr := ldm_lt hb (show i < N by omega) hd
      show vp_updL t r _ q = _
      rw [ul_n _ _ (show q ≠ r by omega)]; exact h
  · exact h
theorem uit_z {P N W p : Nat} {K O T J : Nat → Nat} {c : Nat → Nat → Bool} (hb : LB P N W K O T J) (hp : p < P) {q : Nat} (hq : P ≤ q) (k : Nat) : uit c K O T P N p k q = lN 0 := by
  cases k with
  | zero => exact if_neg (by omega)
  | succ k => exact uad_z hb hq
def suF (u : Nat → Int64) (p : Nat) (s : Int64) : Int64 := s + u p
theorem add_l0 (x : Int64) : x + lN 0 = x := by
  show x + 0 = x
  exact Int64.add_zero x
theorem su_eq {m : Nat} {u u' : Nat → Int64} (h : agL m u u') (hz : ∀ q, m ≤ q → u' q = lN 0) {j : Nat} (hj : ∀ q, q < m + j → u q = u' q) : foldu (suF u) 0 (m + j) (lN 0) = foldu (suF u') 0 m (lN 0) := by
  induction j with
  | zero => exact foldu_congr _ _ _ (fun q x _ h2 => by show x + u q = x + u' q; rw [h q (by omega)])
  | succ j ih =>
    rw [show m + (j + 1) = (m + j) + 1 by omega, foldu_last, ih (fun q hq => hj q (by omega))]
    show _ + u (0 + (m + j)) = _
    rw [hj _ (by omega), hz _ (by omega), add_l0]
theorem up_34 {α : Type} (f : Nat → α) (x y x' y' : α) : va_up (va_up (va_up (va_up f 3 x) 4 y) 3 x') 4 y' = va_up (va_up f 3 x') 4 y' := by
  funext j
  unfold va_up
  by_cases h : j = 4
  · simp [h]
  · by_cases h2 : j = 3 <;> simp [h, h2]
section
variable {d : Nat} {z : AZ} {f : AH} {Q : Option Value → AZ → AH → Prop} {X : Nat × (Nat → Int32)} {M : MT} {s : Nat → Int32} {v : Nat → Int64} {g : Nat → Nat → Int32} {w : Nat → Nat → Int64} {q : Nat → Nat} {ct cn : Nat → Int32} {cc di dr df li : Nat → Nat → Int32} {la : Nat → Nat → Nat → Int32} {sf sl : Nat → Nat → Int32} {l P N W : Nat} {K O T J : Nat → Nat} {x y : Nat}
theorem c_tstart {p : Nat} (hx : x < 2) (h3 : q 3 = x) (hp : p < 7) : Cw (d + 2) 701 [.ref 19, .int (nI p)] z (Hp X (s, v, g, w, q, ct, cn, cc, di, dr, df, li, la, sf, sl) M) Q ↔ Q none z (Hp X (s, v, g, va_up w x (vp_updL (fil (w x) 0 7 (lN 0)) p (lN 1)), q, ct, cn, cc, di, dr, df, li, la, sf, sl) M) := by
  rw [cw_wp]
  simp (disch := omega) only [W701, r_4, r_La, h60_7_0, s_1, cl_0, h80_1301, r_2, r_Li, s_42, s_0, ci_7, r_49, cl_1, r_93, h67_ta, enR, LG, LSt, LC, nlR, psR, TK, up_s, up_n, up_u, lt_nI, le_nI, eq_nI, true_and, and_true, if_true, if_false, Nat.zero_add, Nat.add_zero, nI_add, ↓reduceIte, Nat.reduceAdd, Nat.reduceMul, Nat.reduceSub, Nat.reduceLT, Nat.reduceLeDiff, Nat.reduceEqDiff, Nat.not_lt_zero, Nat.lt_irrefl, decide_true, BEq.rfl, nm1, nm2, nm3, nm4, nm9, ngc, eq_self, List.length_cons, List.length_nil, h3, hp, f_ta hx]
theorem lp_addBy {i : Nat} (hl : l < 2) (hC : CLn (li l) (la l) P N K O T J) (hb : LB P N W K O T J) (hi : i < N) (hx : x < 2) (hy : y < 2) (hxy : x ≠ y) (h3 : q 3 = x) (h4 : q 4 = y) : ∀ (j p : Nat) (w : Nat → Nat → Int64), p + j = P → (Wp (d + 2) 703 2 [some (.ref 19), some (.ref (lo l)), some (.int (nI i)), some (.int (nI p))] [] z (Hp X (s, v, g, w, q, ct, cn, cc, di, dr, df, li, la, sf, sl) M) Q ↔ Q none z (Hp X (s, v, g, va_up w y (foldu (awF K O T (w x) i) p j (w y)), q, ct, cn, cc, di, dr, df, li, la, sf, sl) M)) := by
  have hP := hb.1
  have h0 := hC.1
  intro j
  induction j with
  | zero =>
    intro p w hp
    have hp : p = P := by omega
    subst hp
    rw [W703_2]
    simp (disch := omega) only [W703, s_0, ci_0, r_5, r_2, r_Li, r_4, r_La, h60_3_4, r_49, h79_306, ci_m1, r_46, h60_7_1, r_31, h60_7_0, r_21, s_8, r_In, ci_1, r_52, r_93, h66_ta, h67_ta, enR, LG, LSt, LC, nlR, psR, TK, up_s, up_n, up_u, lt_nI, le_nI, eq_nI, true_and, and_true, if_true, if_false, Nat.zero_add, Nat.add_zero, nI_add, ↓reduceIte, Nat.reduceAdd, Nat.reduceMul, Nat.reduceSub, Nat.reduceLT, Nat.reduceLeDiff, Nat.reduceEqDiff, Nat.not_lt_zero, Nat.lt_irrefl, decide_true, BEq.rfl, nm1, nm2, nm3, nm4, nm9, ngc, eq_self, List.length_cons, List.length_nil, hl, h0, foldu]
    rw [up_id rfl]
  | succ j ih =>
    intro p w hp
    have h1 : p < P := by omega
    have h7 : p < 7 := by omega
    rw [W703_2]
    cases hd : ldm K O T i p with
    | none =>
      simp (disch := omega) only [W703, s_0, ci_0, r_5, r_2, r_Li, r_4, r_La, h60_3_4, r_49, h79_306, ci_m1, r_46, h60_7_1, r_31, h60_7_0, r_21, s_8, r_In, ci_1, r_52, r_93, h66_ta, h67_ta, enR, LG, LSt, LC, nlR, psR, TK, up_s, up_n, up_u, lt_nI, le_nI, eq_nI, true_and, and_true, if_true, if_false, Nat.zero_add, Nat.add_zero, nI_add, ↓reduceIte, Nat.reduceAdd, Nat.reduceMul, Nat.reduceSub, Nat.reduceLT, Nat.reduceLeDiff, Nat.reduceEqDiff, Nat.not_lt_zero, Nat.lt_irrefl, decide_true, BEq.rfl, nm1, nm2, nm3, nm4, nm9, ngc, eq_self, List.length_cons, List.length_nil, hl, h0, h1, c_lead hl hC hb hi (show p < 65536 by omega), hd, o2i]
      rw [ih (p + 1) w (by omega)]
      simp only [foldu, awF, hd]
    | some t0 =>
      have ht := ldm_lt hb hi hd
      have ht7 : t0 < 7 := by omega
      simp (disch := omega) only [W703, s_0, ci_0, r_5, r_2, r_Li, r_4, r_La, h60_3_4, r_49, h79_306, ci_m1, r_46, h60_7_1, r_31, h60_7_0, r_21, s_8, r_In, ci_1, r_52, r_93, h66_ta, h67_ta, enR, LG, LSt, LC, nlR, psR, TK, up_s, up_n, up_u, lt_nI, le_nI, eq_nI, true_and, and_true, if_true, if_false, Nat.zero_add, Nat.add_zero, nI_add, ↓reduceIte, Nat.reduceAdd, Nat.reduceMul, Nat.reduceSub, Nat.reduceLT, Nat.reduceLeDiff, Nat.reduceEqDiff, Nat.not_lt_zero, Nat.lt_irrefl, decide_true, BEq.rfl, nm1, nm2, nm3, nm4, nm9, ngc, eq_self, List.length_cons, List.length_nil, hl, h0, h1, h7, ht7, c_lead hl hC hb hi (show p < 65536 by omega), hd, o2i, h3, h4]
      rw [ih (p + 1) _ (by omega), up_u, up_s, up_n w _ hxy]
      simp only [foldu, awF, hd]
theorem c_addBy {i : Nat} (hl : l < 2) (hC : CLn (li l) (la l) P N K O T J) (hb : LB P N W K O T J) (hi : i < N) (hx : x < 2) (hy : y < 2) (hxy : x ≠ y) (h3 : q 3 = x) (h4 : q 4 = y) : Cw (d + 3) 703 [.ref 19, .ref (lo l), .int (nI i)] z (Hp X (s, v, g, w, q, ct, cn, cc, di, dr, df, li, la, sf, sl) M) Q ↔ Q none z (Hp X (s, v, g, va_up w y (foldu (awF K O T (w x) i) 0 P (w y)), q, ct, cn, cc, di, dr, df, li, la, sf, sl) M) := by
  rw [cw_wp]
  simp (disch := omega) only [W703, s_0, ci_0, r_5, r_2, r_Li, r_4, r_La, h60_3_4, r_49, h79_306, ci_m1, r_46, h60_7_1, r_31, h60_7_0, r_21, s_8, r_In, ci_1, r_52, r_93, h66_ta, h67_ta, enR, LG, LSt, LC, nlR, psR, TK, up_s, up_n, up_u, lt_nI, le_nI, eq_nI, true_and, and_true, if_true, if_false, Nat.zero_add, Nat.add_zero, nI_add, ↓reduceIte, Nat.reduceAdd, Nat.reduceMul, Nat.reduceSub, Nat.reduceLT, Nat.reduceLeDiff, Nat.reduceEqDiff, Nat.not_lt_zero, Nat.lt_irrefl, decide_true, BEq.rfl, nm1, nm2, nm3, nm4, nm9, ngc, eq_self, List.length_cons, List.length_nil]
  exact lp_addBy hl hC hb hi hx hy hxy h3 h4 P 0 w (by omega)
theorem lp_tadv {num : Int32} {c : Nat → Bool} (hl : l < 2) (hC : CLn (li l) (la l) P N K O T J) (hb : LB P N W K O T J) (hx : x < 2) (hy : y < 2) (hxy : x ≠ y) (h3 : q 3 = x) (h4 : q 4 = y) (hc : ∀ i, i < N → (c i = true ↔ num = -1 ∨ sf 0 i = num)) : ∀ (j i : Nat) (w : Nat → Nat → Int64), i + j = N → (Wp (d + 3) 702 11 [some (.ref 19), some (.ref (lo l)), some (.ref (so 0)), some (.int num), some (.int (nI i))] [] z (Hp X (s, v, g, w, q, ct, cn, cc, di, dr, df, li, la, sf, sl) M) Q ↔ Q none z (Hp X (s, v, g, va_up w y (foldu (aiF c K O T P (w x)) i j (w y)), va_up (va_up q 3 y) 4 x, ct, cn, cc, di, dr, df, li, la, sf, sl) M)) := by
  have hN := hb.2.1
  have h9 := hC.2.1
  intro j
  induction j with
  | zero =>
    intro i w hi
    have hi : i = N := by omega
    subst hi
    rw [W702_11]
    simp (disch := omega) only [W702, r_4, r_La, h60_7_1, s_1, cl_0, h80_1301, s_0, ci_0, r_5, r_2, r_Li, h60_3_5, r_49, ci_m1, r_46, h60_6_0, r_47, h79_703, s_8, r_In, ci_1, r_52, h60_7_0, r_7, h61_7_0, h61_7_1, r_93, h64_sf, enR, LG, LSt, LC, nlR, psR, TK, up_s, up_n, up_u, lt_nI, le_nI, eq_nI, true_and, and_true, if_true, if_false, Nat.zero_add, Nat.add_zero, nI_add, ↓reduceIte, Nat.reduceAdd, Nat.reduceMul, Nat.reduceSub, Nat.reduceLT, Nat.reduceLeDiff, Nat.reduceEqDiff, Nat.not_lt_zero, Nat.lt_irrefl, decide_true, BEq.rfl, nm1, nm2, nm3, nm4, nm9, ngc, eq_self, List.length_cons, List.length_nil, hl, h9, foldu, h3, h4]
    rw [up_id (rfl : w y = w y)]
  | succ j ih =>
    intro i w hi
    have h1 : i < N := by omega
    have h10 : i < 10 := by omega
    have hci := hc i h1
    rw [W702_11]
    by_cases h5 : num = -1
    · have hct : c i = true := hci.mpr (Or.inl h5)
      simp (disch := omega) only [W702, r_4, r_La, h60_7_1, s_1, cl_0, h80_1301, s_0, ci_0, r_5, r_2, r_Li, h60_3_5, r_49, ci_m1, r_46, h60_6_0, r_47, h79_703, s_8, r_In, ci_1, r_52, h60_7_0, r_7, h61_7_0, h61_7_1, r_93, h64_sf, enR, LG, LSt, LC, nlR, psR, TK, up_s, up_n, up_u, lt_nI, le_nI, eq_nI, true_and, and_true, if_true, if_false, Nat.zero_add, Nat.add_zero, nI_add, ↓reduceIte, Nat.reduceAdd, Nat.reduceMul, Nat.reduceSub, Nat.reduceLT, Nat.reduceLeDiff, Nat.reduceEqDiff, Nat.not_lt_zero, Nat.lt_irrefl, decide_true, BEq.rfl, nm1, nm2, nm3, nm4, nm9, ngc, eq_self, List.length_cons, List.length_nil, hl, h9, h1, h5, c_addBy hl hC hb h1 hx hy hxy h3 h4]
      rw [← h5, ih (i + 1) _ (by omega), up_u, up_s, up_n w _ hxy]
      simp only [foldu, aiF, hct, if_true]
    · by_cases h6 : sf 0 i = num
      · have hct : c i = true := hci.mpr (Or.inr h6)
        simp (disch := omega) only [W702, r_4, r_La, h60_7_1, s_1, cl_0, h80_1301, s_0, ci_0, r_5, r_2, r_Li, h60_3_5, r_49, ci_m1, r_46, h60_6_0, r_47, h79_703, s_8, r_In, ci_1, r_52, h60_7_0, r_7, h61_7_0, h61_7_1, r_93, h64_sf, enR, LG, LSt, LC, nlR, psR, TK, up_s, up_n, up_u, lt_nI, le_nI, eq_nI, true_and, and_true, if_true, if_false, Nat.zero_add, Nat.add_zero, nI_add, ↓reduceIte, Nat.reduceAdd, Nat.reduceMul, Nat.reduceSub, Nat.reduceLT, Nat.reduceLeDiff, Nat.reduceEqDiff, Nat.not_lt_zero, Nat.lt_irrefl, decide_true, BEq.rfl, nm1, nm2, nm3, nm4, nm9, ngc, eq_self, List.length_cons, List.length_nil, hl, h9, h1, h10, h5, h6, c_addBy hl hC hb h1 hx hy hxy h3 h4]
        rw [ih (i + 1) _ (by omega), up_u, up_s, up_n w _ hxy]
        simp only [foldu, aiF, hct, if_true]
      · have hct : ¬ c i = true := fun h => by rcases hci.mp h with h | h; exact h5 h; exact h6 h
        simp (disch := omega) only [W702, r_4, r_La, h60_7_1, s_1, cl_0, h80_1301, s_0, ci_0, r_5, r_2, r_Li, h60_3_5, r_49, ci_m1, r_46, h60_6_0, r_47, h79_703, s_8, r_In, ci_1, r_52, h60_7_0, r_7, h61_7_0, h61_7_1, r_93, h64_sf, enR, LG, LSt, LC, nlR, psR, TK, up_s, up_n, up_u, lt_nI, le_nI, eq_nI, true_and, and_true, if_true, if_false, Nat.zero_add, Nat.add_zero, nI_add, ↓reduceIte, Nat.reduceAdd, Nat.reduceMul, Nat.reduceSub, Nat.reduceLT, Nat.reduceLeDiff, Nat.reduceEqDiff, Nat.not_lt_zero, Nat.lt_irrefl, decide_true, BEq.rfl, nm1, nm2, nm3, nm4, nm9, ngc, eq_self, List.length_cons, List.length_nil, hl, h9, h1, h10, h5, h6]
        rw [ih (i + 1) w (by omega)]
        simp only [foldu, aiF, if_neg hct]
theorem c_tadv {num : Int32} {c : Nat → Bool} (hl : l < 2) (hC : CLn (li l) (la l) P N K O T J) (hb : LB P N W K O T J) (hx : x < 2) (hy : y < 2) (hxy : x ≠ y) (h3 : q 3 = x) (h4 : q 4 = y) (hc : ∀ i, i < N → (c i = true ↔ num = -1 ∨ sf 0 i = num)) : Cw (d + 4) 702 [.ref 19, .ref (lo l), .ref (so 0), .int num] z (Hp X (s, v, g, w, q, ct, cn, cc, di, dr, df, li, la, sf, sl) M) Q ↔ Q none z (Hp X (s, v, g, va_up w y (foldu (aiF c K O T P (w x)) 0 N (fil (w y) 0 7 (lN 0))), va_up (va_up q 3 y) 4 x, ct, cn, cc, di, dr, df, li, la, sf, sl) M) := by
  rw [cw_wp]
  simp (disch := omega) only [W702, r_4, r_La, h60_7_1, s_1, cl_0, h80_1301, s_0, ci_0, r_5, r_2, r_Li, h60_3_5, r_49, ci_m1, r_46, h60_6_0, r_47, h79_703, s_8, r_In, ci_1, r_52, h60_7_0, r_7, h61_7_0, h61_7_1, r_93, h64_sf, enR, LG, LSt, LC, nlR, psR, TK, up_s, up_n, up_u, lt_nI, le_nI, eq_nI, true_and, and_true, if_true, if_false, Nat.zero_add, Nat.add_zero, nI_add, ↓reduceIte, Nat.reduceAdd, Nat.reduceMul, Nat.reduceSub, Nat.reduceLT, Nat.reduceLeDiff, Nat.reduceEqDiff, Nat.not_lt_zero, Nat.lt_irrefl, decide_true, BEq.rfl, nm1, nm2, nm3, nm4, nm9, ngc, eq_self, List.length_cons, List.length_nil, h4, f_ta hy]
  rw [lp_tadv hl hC hb hx hy hxy h3 h4 hc N 0 _ (by omega), up_u, up_s, up_n w _ hxy]
theorem lp_total (hx : x < 2) (h3 : q 3 = x) : ∀ (j p : Nat) (u : Int64), p + j = 7 → (Wp d 704 4 [some (.ref 19), some (.long u), none, some (.int (nI p))] [] z (Hp X (s, v, g, w, q, ct, cn, cc, di, dr, df, li, la, sf, sl) M) Q ↔ Q (some (.long (foldu (suF (w x)) p j u))) z (Hp X (s, v, g, w, q, ct, cn, cc, di, dr, df, li, la, sf, sl) M)) := by
  intro j
  induction j with
  | zero =>
    intro p u hp
    have hp : p = 7 := by omega
    subst hp
    rw [W704_4]
    simp (disch := omega) only [W704, s_1, cl_0, r_6, s_0, ci_0, r_5, r_2, r_Li, ci_7, r_49, r_3, r_Ll, r_4, r_La, h60_7_0, r_21, s_8, r_In, ci_1, r_52, r_91, h66_ta, enR, LG, LSt, LC, nlR, psR, TK, up_s, up_n, up_u, lt_nI, le_nI, eq_nI, true_and, and_true, if_true, if_false, Nat.zero_add, Nat.add_zero, nI_add, ↓reduceIte, Nat.reduceAdd, Nat.reduceMul, Nat.reduceSub, Nat.reduceLT, Nat.reduceLeDiff, Nat.reduceEqDiff, Nat.not_lt_zero, Nat.lt_irrefl, decide_true, BEq.rfl, nm1, nm2, nm3, nm4, nm9, ngc, eq_self, List.length_cons, List.length_nil, foldu]
  | succ j ih =>
    intro p u hp
    have h1 : p < 7 := by omega
    rw [W704_4]
    simp (disch := omega) only [W704, s_1, cl_0, r_6, s_0, ci_0, r_5, r_2, r_Li, ci_7, r_49, r_3, r_Ll, r_4, r_La, h60_7_0, r_21, s_8, r_In, ci_1, r_52, r_91, h66_ta, enR, LG, LSt, LC, nlR, psR, TK, up_s, up_n, up_u, lt_nI, le_nI, eq_nI, true_and, and_true, if_true, if_false, Nat.zero_add, Nat.add_zero, nI_add, ↓reduceIte, Nat.reduceAdd, Nat.reduceMul, Nat.reduceSub, Nat.reduceLT, Nat.reduceLeDiff, Nat.reduceEqDiff, Nat.not_lt_zero, Nat.lt_irrefl, decide_true, BEq.rfl, nm1, nm2, nm3, nm4, nm9, ngc, eq_self, List.length_cons, List.length_nil, h1, h3]
    exact ih (p + 1) _ (by omega)
theorem c_total (hx : x < 2) (h3 : q 3 = x) : Cw (d + 1) 704 [.ref 19] z (Hp X (s, v, g, w, q, ct, cn, cc, di, dr, df, li, la, sf, sl) M) Q ↔ Q (some (.long (foldu (suF (w x)) 0 7 (lN 0)))) z (Hp X (s, v, g, w, q, ct, cn, cc, di, dr, df, li, la, sf, sl) M) := by
  rw [cw_wp]
  simp (disch := omega) only [W704, s_1, cl_0, r_6, s_0, ci_0, r_5, r_2, r_Li, ci_7, r_49, r_3, r_Ll, r_4, r_La, h60_7_0, r_21, s_8, r_In, ci_1, r_52, r_91, h66_ta, enR, LG, LSt, LC, nlR, psR, TK, up_s, up_n, up_u, lt_nI, le_nI, eq_nI, true_and, and_true, if_true, if_false, Nat.zero_add, Nat.add_zero, nI_add, ↓reduceIte, Nat.reduceAdd, Nat.reduceMul, Nat.reduceSub, Nat.reduceLT, Nat.reduceLeDiff, Nat.reduceEqDiff, Nat.not_lt_zero, Nat.lt_irrefl, decide_true, BEq.rfl, nm1, nm2, nm3, nm4, nm9, ngc, eq_self, List.length_cons, List.length_nil]
  exact lp_total hx h3 7 0 _ (by omega)
end
section
variable {d : Nat} {z : AZ} {f : AH} {Q : Option Value → AZ → AH → Prop} {X : Nat × (Nat → Int32)} {C : CT} {a : Nat → Int32} {b : Nat → Int64} {e : Nat → Nat → Int32} {o : Nat → Nat → Int64} {P N W : Nat} {K O T J : Nat → Nat}
theorem lp_msw1 {num : Int32} (h : MLn a (e 74) P N W K O T J) (hP : P ≤ 7) : ∀ (j p : Nat) (o : Nat → Nat → Int64), p + j = P → (Wp (d + 2) 1055 2 [some (.ref 67), some (.int num), some (.int (nI p))] [] z (Hp X C (a, b, e, o)) Q ↔ Wp (d + 2) 1055 25 [some (.ref 67), some (.int num), some (.int (nI 0))] [] z (Hp X C (a, b, e, va_up o 80 (fil (o 80) p P (lN 0)))) Q) := by
  have h10 := h.1
  intro j
  induction j with
  | zero =>
    intro p o hp
    have hp : p = P := by omega
    subst hp
    rw [W1055_2, fil_done, up_id rfl]
    simp (disch := omega) only [W1055, s_0, ci_0, r_5, r_2, r_Li, r_4, r_La, h60_10_10, r_49, h60_10_24, s_1, cl_0, s_8, r_In, ci_1, r_52, h60_10_11, ci_m9, r_46, h79_1032, r_47, h79_1038, r_31, h60_10_23, r_21, r_93, h66_79, h67_79, h66_80, h67_80, enR, LG, LSt, LC, nlR, psR, TK, up_s, up_n, up_u, lt_nI, le_nI, eq_nI, true_and, and_true, if_true, if_false, Nat.zero_add, Nat.add_zero, nI_add, ↓reduceIte, Nat.reduceAdd, Nat.reduceMul, Nat.reduceSub, Nat.reduceLT, Nat.reduceLeDiff, Nat.reduceEqDiff, Nat.not_lt_zero, Nat.lt_irrefl, decide_true, BEq.rfl, nm1, nm2, nm3, nm4, nm9, ngc, eq_self, List.length_cons, List.length_nil, h10]
  | succ j ih =>
    intro p o hp
    have h1 : p < P := by omega
    have h7 : p < 7 := by omega
    rw [W1055_2]
    simp (disch := omega) only [W1055, s_0, ci_0, r_5, r_2, r_Li, r_4, r_La, h60_10_10, r_49, h60_10_24, s_1, cl_0, s_8, r_In, ci_1, r_52, h60_10_11, ci_m9, r_46, h79_1032, r_47, h79_1038, r_31, h60_10_23, r_21, r_93, h66_79, h67_79, h66_80, h67_80, enR, LG, LSt, LC, nlR, psR, TK, up_s, up_n, up_u, lt_nI, le_nI, eq_nI, true_and, and_true, if_true, if_false, Nat.zero_add, Nat.add_zero, nI_add, ↓reduceIte, Nat.reduceAdd, Nat.reduceMul, Nat.reduceSub, Nat.reduceLT, Nat.reduceLeDiff, Nat.reduceEqDiff, Nat.not_lt_zero, Nat.lt_irrefl, decide_true, BEq.rfl, nm1, nm2, nm3, nm4, nm9, ngc, eq_self, List.length_cons, List.length_nil, h10, h1, h7]
    rw [ih (p + 1) _ (by omega), up_u, up_s, fil_updL _ _ _ _ h1]
theorem lp_msw3 {num : Int32} {i : Nat} {ci : Bool} (h : MLn a (e 74) P N W K O T J) (hb : LB P N W K O T J) (hi : i < N) (hc : (ci = true ↔ num = -9 ∨ nI (fe W K J i) = num)) : ∀ (j p : Nat) (o : Nat → Nat → Int64), p + j = P → (Wp (d + 2) 1055 35 [some (.ref 67), some (.int num), some (.int (nI i)), some (.int (nI p))] [] z (Hp X C (a, b, e, o)) Q ↔ Wp (d + 2) 1055 25 [some (.ref 67), some (.int num), some (.int (nI (i + 1)))] [] z (Hp X C (a, b, e, va_up o 80 (if ci = true then foldu (awF K O T (o 79) i) p j (o 80) else o 80))) Q) := by
  have hP := hb.1
  have hN := hb.2.1
  have h10 := h.1
  have hf := fe_lt hb hi
  intro j
  induction j with
  | zero =>
    intro p o hp
    have hp : p = P := by omega
    subst hp
    rw [W1055_35]
    simp (disch := omega) only [W1055, s_0, ci_0, r_5, r_2, r_Li, r_4, r_La, h60_10_10, r_49, h60_10_24, s_1, cl_0, s_8, r_In, ci_1, r_52, h60_10_11, ci_m9, r_46, h79_1032, r_47, h79_1038, r_31, h60_10_23, r_21, r_93, h66_79, h67_79, h66_80, h67_80, enR, LG, LSt, LC, nlR, psR, TK, up_s, up_n, up_u, lt_nI, le_nI, eq_nI, true_and, and_true, if_true, if_false, Nat.zero_add, Nat.add_zero, nI_add, ↓reduceIte, Nat.reduceAdd, Nat.reduceMul, Nat.reduceSub, Nat.reduceLT, Nat.reduceLeDiff, Nat.reduceEqDiff, Nat.not_lt_zero, Nat.lt_irrefl, decide_true, BEq.rfl, nm1, nm2, nm3, nm4, nm9, ngc, eq_self, List.length_cons, List.length_nil, h10, foldu]
    rw [show (if ci = true then o 80 else o 80) = o 80 by split <;> rfl, up_id rfl]
  | succ j ih =>
    intro p o hp
    have h1 : p < P := by omega
    have h7 : p < 7 := by omega
    rw [W1055_35]
    by_cases h5 : num = -9
    · have hct : ci = true := hc.mpr (Or.inl h5)
      cases hd : ldm K O T i p with
      | none =>
        simp (disch := omega) only [W1055, s_0, ci_0, r_5, r_2, r_Li, r_4, r_La, h60_10_10, r_49, h60_10_24, s_1, cl_0, s_8, r_In, ci_1, r_52, h60_10_11, ci_m9, r_46, h79_1032, r_47, h79_1038, r_31, h60_10_23, r_21, r_93, h66_79, h67_79, h66_80, h67_80, enR, LG, LSt, LC, nlR, psR, TK, up_s, up_n, up_u, lt_nI, le_nI, eq_nI, true_and, and_true, if_true, if_false, Nat.zero_add, Nat.add_zero, nI_add, ↓reduceIte, Nat.reduceAdd, Nat.reduceMul, Nat.reduceSub, Nat.reduceLT, Nat.reduceLeDiff, Nat.reduceEqDiff, Nat.not_lt_zero, Nat.lt_irrefl, decide_true, BEq.rfl, nm1, nm2, nm3, nm4, nm9, ngc, eq_self, List.length_cons, List.length_nil, h10, h1, h5, m_leads h hb hi (show p < 65536 by omega), hd, o2i]
        rw [← h5, ih (p + 1) _ (by omega)]
        simp only [foldu, awF, hd, hct, if_true]
      | some t0 =>
        have ht := ldm_lt hb hi hd
        have ht7 : t0 < 7 := by omega
        simp (disch := omega) only [W1055, s_0, ci_0, r_5, r_2, r_Li, r_4, r_La, h60_10_10, r_49, h60_10_24, s_1, cl_0, s_8, r_In, ci_1, r_52, h60_10_11, ci_m9, r_46, h79_1032, r_47, h79_1038, r_31, h60_10_23, r_21, r_93, h66_79, h67_79, h66_80, h67_80, enR, LG, LSt, LC, nlR, psR, TK, up_s, up_n, up_u, lt_nI, le_nI, eq_nI, true_and, and_true, if_true, if_false, Nat.zero_add, Nat.add_zero, nI_add, ↓reduceIte, Nat.reduceAdd, Nat.reduceMul, Nat.reduceSub, Nat.reduceLT, Nat.reduceLeDiff, Nat.reduceEqDiff, Nat.not_lt_zero, Nat.lt_irrefl, decide_true, BEq.rfl, nm1, nm2, nm3, nm4, nm9, ngc, eq_self, List.length_cons, List.length_nil, h10, h1, h7, ht7, h5, m_leads h hb hi (show p < 65536 by omega), hd, o2i]
        rw [← h5, ih (p + 1) _ (by omega), up_u, up_s, up_n o _ (show 79 ≠ 80 by decide)]
        simp only [foldu, awF, hd, hct, if_true]
    · by_cases h6 : nI (fe W K J i) = num
      · have hct : ci = true := hc.mpr (Or.inr h6)
        cases hd : ldm K O T i p with
        | none =>
          simp (disch := omega) only [W1055, s_0, ci_0, r_5, r_2, r_Li, r_4, r_La, h60_10_10, r_49, h60_10_24, s_1, cl_0, s_8, r_In, ci_1, r_52, h60_10_11, ci_m9, r_46, h79_1032, r_47, h79_1038, r_31, h60_10_23, r_21, r_93, h66_79, h67_79, h66_80, h67_80, enR, LG, LSt, LC, nlR, psR, TK, up_s, up_n, up_u, lt_nI, le_nI, eq_nI, true_and, and_true, if_true, if_false, Nat.zero_add, Nat.add_zero, nI_add, ↓reduceIte, Nat.reduceAdd, Nat.reduceMul, Nat.reduceSub, Nat.reduceLT, Nat.reduceLeDiff, Nat.reduceEqDiff, Nat.not_lt_zero, Nat.lt_irrefl, decide_true, BEq.rfl, nm1, nm2, nm3, nm4, nm9, ngc, eq_self, List.length_cons, List.length_nil, h10, h1, h5, m_feelOf h hb hi, h6, m_leads h hb hi (show p < 65536 by omega), hd, o2i]
          rw [ih (p + 1) _ (by omega)]
          simp only [foldu, awF, hd, hct, if_true]
        | some t0 =>
          have ht := ldm_lt hb hi hd
          have ht7 : t0 < 7 := by omega
          simp (disch := omega) only [W1055, s_0, ci_0, r_5, r_2, r_Li, r_4, r_La, h60_10_10, r_49, h60_10_24, s_1, cl_0, s_8, r_In, ci_1, r_52, h60_10_11, ci_m9, r_46, h79_1032, r_47, h79_1038, r_31, h60_10_23, r_21, r_93, h66_79, h67_79, h66_80, h67_80, enR, LG, LSt, LC, nlR, psR, TK, up_s, up_n, up_u, lt_nI, le_nI, eq_nI, true_and, and_true, if_true, if_false, Nat.zero_add, Nat.add_zero, nI_add, ↓reduceIte, Nat.reduceAdd, Nat.reduceMul, Nat.reduceSub, Nat.reduceLT, Nat.reduceLeDiff, Nat.reduceEqDiff, Nat.not_lt_zero, Nat.lt_irrefl, decide_true, BEq.rfl, nm1, nm2, nm3, nm4, nm9, ngc, eq_self, List.length_cons, List.length_nil, h10, h1, h7, ht7, h5, m_feelOf h hb hi, h6, m_leads h hb hi (show p < 65536 by omega), hd, o2i]
          rw [ih (p + 1) _ (by omega), up_u, up_s, up_n o _ (show 79 ≠ 80 by decide)]
          simp only [foldu, awF, hd, hct, if_true]
      · have hct : ¬ ci = true := fun h => by rcases hc.mp h with h | h; exact h5 h; exact h6 h
        simp (disch := omega) only [W1055, s_0, ci_0, r_5, r_2, r_Li, r_4, r_La, h60_10_10, r_49, h60_10_24, s_1, cl_0, s_8, r_In, ci_1, r_52, h60_10_11, ci_m9, r_46, h79_1032, r_47, h79_1038, r_31, h60_10_23, r_21, r_93, h66_79, h67_79, h66_80, h67_80, enR, LG, LSt, LC, nlR, psR, TK, up_s, up_n, up_u, lt_nI, le_nI, eq_nI, true_and, and_true, if_true, if_false, Nat.zero_add, Nat.add_zero, nI_add, ↓reduceIte, Nat.reduceAdd, Nat.reduceMul, Nat.reduceSub, Nat.reduceLT, Nat.reduceLeDiff, Nat.reduceEqDiff, Nat.not_lt_zero, Nat.lt_irrefl, decide_true, BEq.rfl, nm1, nm2, nm3, nm4, nm9, ngc, eq_self, List.length_cons, List.length_nil, h10, h1, h5, m_feelOf h hb hi, h6]
        rw [ih (p + 1) o (by omega), if_neg hct, if_neg hct]
theorem lp_msw2 {num : Int32} {c : Nat → Bool} (h : MLn a (e 74) P N W K O T J) (hb : LB P N W K O T J) (hc : ∀ i, i < N → (c i = true ↔ num = -9 ∨ nI (fe W K J i) = num)) : ∀ (j i : Nat) (o : Nat → Nat → Int64), i + j = N → (Wp (d + 2) 1055 25 [some (.ref 67), some (.int num), some (.int (nI i))] [] z (Hp X C (a, b, e, o)) Q ↔ Wp (d + 2) 1055 108 [some (.ref 67), some (.int num), some (.int (nI 0))] [] z (Hp X C (a, b, e, va_up o 80 (foldu (aiF c K O T P (o 79)) i j (o 80)))) Q) := by
  have hP := hb.1
  have hN := hb.2.1
  have h11 := h.2.1
  intro j
  induction j with
  | zero =>
    intro i o hi
    have hi : i = N := by omega
    subst hi
    rw [W1055_25]
    simp (disch := omega) only [W1055, s_0, ci_0, r_5, r_2, r_Li, r_4, r_La, h60_10_10, r_49, h60_10_24, s_1, cl_0, s_8, r_In, ci_1, r_52, h60_10_11, ci_m9, r_46, h79_1032, r_47, h79_1038, r_31, h60_10_23, r_21, r_93, h66_79, h67_79, h66_80, h67_80, enR, LG, LSt, LC, nlR, psR, TK, up_s, up_n, up_u, lt_nI, le_nI, eq_nI, true_and, and_true, if_true, if_false, Nat.zero_add, Nat.add_zero, nI_add, ↓reduceIte, Nat.reduceAdd, Nat.reduceMul, Nat.reduceSub, Nat.reduceLT, Nat.reduceLeDiff, Nat.reduceEqDiff, Nat.not_lt_zero, Nat.lt_irrefl, decide_true, BEq.rfl, nm1, nm2, nm3, nm4, nm9, ngc, eq_self, List.length_cons, List.length_nil, h11, foldu]
    rw [up_id rfl]
  | succ j ih =>
    intro i o hi
    have h1 : i < N := by omega
    rw [W1055_25]
    simp (disch := omega) only [W1055, s_0, ci_0, r_5, r_2, r_Li, r_4, r_La, h60_10_10, r_49, h60_10_24, s_1, cl_0, s_8, r_In, ci_1, r_52, h60_10_11, ci_m9, r_46, h79_1032, r_47, h79_1038, r_31, h60_10_23, r_21, r_93, h66_79, h67_79, h66_80, h67_80, enR, LG, LSt, LC, nlR, psR, TK, up_s, up_n, up_u, lt_nI, le_nI, eq_nI, true_and, and_true, if_true, if_false, Nat.zero_add, Nat.add_zero, nI_add, ↓reduceIte, Nat.reduceAdd, Nat.reduceMul, Nat.reduceSub, Nat.reduceLT, Nat.reduceLeDiff, Nat.reduceEqDiff, Nat.not_lt_zero, Nat.lt_irrefl, decide_true, BEq.rfl, nm1, nm2, nm3, nm4, nm9, ngc, eq_self, List.length_cons, List.length_nil, h11, h1]
    rw [lp_msw3 h hb h1 (hc i h1) P 0 o (by omega), ih (i + 1) _ (by omega), up_u, up_s, up_n o _ (show 79 ≠ 80 by decide)]
    rfl
theorem lp_msw4 {num : Int32} (h : MLn a (e 74) P N W K O T J) (hP : P ≤ 7) : ∀ (j p : Nat) (o : Nat → Nat → Int64), p + j = P → (Wp (d + 2) 1055 108 [some (.ref 67), some (.int num), some (.int (nI p))] [] z (Hp X C (a, b, e, o)) Q ↔ Q none z (Hp X C (a, b, e, va_up o 79 (fun q => if p ≤ q ∧ q < P then o 80 q else o 79 q)))) := by
  have h10 := h.1
  intro j
  induction j with
  | zero =>
    intro p o hp
    have hp : p = P := by omega
    subst hp
    rw [W1055_108, up_id (show o 79 = fun q => if p ≤ q ∧ q < p then o 80 q else o 79 q by funext q; rw [if_neg (by omega)])]
    simp (disch := omega) only [W1055, s_0, ci_0, r_5, r_2, r_Li, r_4, r_La, h60_10_10, r_49, h60_10_24, s_1, cl_0, s_8, r_In, ci_1, r_52, h60_10_11, ci_m9, r_46, h79_1032, r_47, h79_1038, r_31, h60_10_23, r_21, r_93, h66_79, h67_79, h66_80, h67_80, enR, LG, LSt, LC, nlR, psR, TK, up_s, up_n, up_u, lt_nI, le_nI, eq_nI, true_and, and_true, if_true, if_false, Nat.zero_add, Nat.add_zero, nI_add, ↓reduceIte, Nat.reduceAdd, Nat.reduceMul, Nat.reduceSub, Nat.reduceLT, Nat.reduceLeDiff, Nat.reduceEqDiff, Nat.not_lt_zero, Nat.lt_irrefl, decide_true, BEq.rfl, nm1, nm2, nm3, nm4, nm9, ngc, eq_self, List.length_cons, List.length_nil, h10]
  | succ j ih =>
    intro p o hp
    have h1 : p < P := by omega
    have h7 : p < 7 := by omega
    rw [W1055_108]
    simp (disch := omega) only [W1055, s_0, ci_0, r_5, r_2, r_Li, r_4, r_La, h60_10_10, r_49, h60_10_24, s_1, cl_0, s_8, r_In, ci_1, r_52, h60_10_11, ci_m9, r_46, h79_1032, r_47, h79_1038, r_31, h60_10_23, r_21, r_93, h66_79, h67_79, h66_80, h67_80, enR, LG, LSt, LC, nlR, psR, TK, up_s, up_n, up_u, lt_nI, le_nI, eq_nI, true_and, and_true, if_true, if_false, Nat.zero_add, Nat.add_zero, nI_add, ↓reduceIte, Nat.reduceAdd, Nat.reduceMul, Nat.reduceSub, Nat.reduceLT, Nat.reduceLeDiff, Nat.reduceEqDiff, Nat.not_lt_zero, Nat.lt_irrefl, decide_true, BEq.rfl, nm1, nm2, nm3, nm4, nm9, ngc, eq_self, List.length_cons, List.length_nil, h10, h1, h7]
    rw [ih (p + 1) _ (by omega), up_u, up_s, up_n o _ (show 80 ≠ 79 by decide)]
    have : (fun q => if p + 1 ≤ q ∧ q < P then o 80 q else vp_updL (o 79) p (o 80 p) q) = (fun q => if p ≤ q ∧ q < P then o 80 q else o 79 q) := by
      funext q
      by_cases h2 : q = p
      · subst h2; rw [if_neg (by omega), if_pos (by omega), ul_s]
      · rw [ul_n _ _ h2]
        by_cases h3 : p + 1 ≤ q ∧ q < P
        · rw [if_pos h3, if_pos (by omega)]
        · rw [if_neg h3, if_neg (by omega)]
    rw [this]
theorem m_stepWays {num : Int32} {c : Nat → Bool} (h : MLn a (e 74) P N W K O T J) (hb : LB P N W K O T J) (hc : ∀ i, i < N → (c i = true ↔ num = -9 ∨ nI (fe W K J i) = num)) {u : Nat → Int64} (hu : agL P (o 79) u) (hQ : ∀ o', agL P (o' 79) (uad c K O T P N u) → Q none z (Hp X C (a, b, e, o'))) : Cw (d + 3) 1055 [.ref 67, .int num] z (Hp X C (a, b, e, o)) Q := by
  have hP := hb.1
  rw [cw_wp]
  simp (disch := omega) only [W1055, s_0, ci_0, r_5, r_2, r_Li, r_4, r_La, h60_10_10, r_49, h60_10_24, s_1, cl_0, s_8, r_In, ci_1, r_52, h60_10_11, ci_m9, r_46, h79_1032, r_47, h79_1038, r_31, h60_10_23, r_21, r_93, h66_79, h67_79, h66_80, h67_80, enR, LG, LSt, LC, nlR, psR, TK, up_s, up_n, up_u, lt_nI, le_nI, eq_nI, true_and, and_true, if_true, if_false, Nat.zero_add, Nat.add_zero, nI_add, ↓reduceIte, Nat.reduceAdd, Nat.reduceMul, Nat.reduceSub, Nat.reduceLT, Nat.reduceLeDiff, Nat.reduceEqDiff, Nat.not_lt_zero, Nat.lt_irrefl, decide_true, BEq.rfl, nm1, nm2, nm3, nm4, nm9, ngc, eq_self, List.length_cons, List.length_nil]
  rw [lp_msw1 h hP P 0 o (by omega), lp_msw2 h hb hc N 0 _ (by omega), lp_msw4 h hP P 0 _ (by omega)]
  refine hQ _ (fun q hq => ?_)
  rw [up_s, if_pos (by omega), up_s, up_s, up_n o _ (show 79 ≠ 80 by decide)]
  exact aw_ag hb (Nat.le_refl _) hu (fun q hq => if_pos (by omega)) q hq
def cdr (F R : Nat → Nat) (k i : Nat) : Bool := decide (F i = R k)
theorem lp_mdr3 {r m p : Nat} {x3 : Int32} {u : Nat → Int64} (hP : P ≤ 7) (h : MLn a (e 74) P N W K O T J) (hu : agL P (o 79) u) : ∀ (j k : Nat) (s : Int64), k + j = P → (Wp (d + 5) 1054 86 [some (.ref 67), some (.int (nI r)), some (.int (nI p)), some (.int x3), some (.long s), none, some (.int (nI k))] [] z (Hp X C (a, b, e, o)) Q ↔ Q (some (.int (nI 1))) z (Hp X C (a, vp_updL (vp_updL b 3 (foldu (suF u) k j s)) 4 (lN 1), e, o))) := by
  have h10 := h.1
  intro j
  induction j with
  | zero =>
    intro k s hk
    have hk : k = P := by omega
    subst hk
    rw [W1054_86]
    simp (disch := omega) only [W1054, r_4, r_La, r_2, r_Li, h79_1053, r_5, s_43, r_90, s_0, ci_0, h60_10_10, r_49, h60_10_23, r_47, s_1, cl_1, r_52, cl_0, s_8, r_In, ci_1, h60_10_5, h79_1011, h79_1055, r_6, r_3, r_Ll, r_21, h79_1004, h64_69, h66_79, h67_79, enR, LG, LSt, LC, nlR, psR, TK, up_s, up_n, up_u, lt_nI, le_nI, eq_nI, true_and, and_true, if_true, if_false, Nat.zero_add, Nat.add_zero, nI_add, ↓reduceIte, Nat.reduceAdd, Nat.reduceMul, Nat.reduceSub, Nat.reduceLT, Nat.reduceLeDiff, Nat.reduceEqDiff, Nat.not_lt_zero, Nat.lt_irrefl, decide_true, BEq.rfl, nm1, nm2, nm3, nm4, nm9, ngc, eq_self, List.length_cons, List.length_nil, h10, m_tellU, foldu]
  | succ j ih =>
    intro k s hk
    have h1 : k < P := by omega
    have h7 : k < 7 := by omega
    rw [W1054_86]
    simp (disch := omega) only [W1054, r_4, r_La, r_2, r_Li, h79_1053, r_5, s_43, r_90, s_0, ci_0, h60_10_10, r_49, h60_10_23, r_47, s_1, cl_1, r_52, cl_0, s_8, r_In, ci_1, h60_10_5, h79_1011, h79_1055, r_6, r_3, r_Ll, r_21, h79_1004, h64_69, h66_79, h67_79, enR, LG, LSt, LC, nlR, psR, TK, up_s, up_n, up_u, lt_nI, le_nI, eq_nI, true_and, and_true, if_true, if_false, Nat.zero_add, Nat.add_zero, nI_add, ↓reduceIte, Nat.reduceAdd, Nat.reduceMul, Nat.reduceSub, Nat.reduceLT, Nat.reduceLeDiff, Nat.reduceEqDiff, Nat.not_lt_zero, Nat.lt_irrefl, decide_true, BEq.rfl, nm1, nm2, nm3, nm4, nm9, ngc, eq_self, List.length_cons, List.length_nil, h10, h1, h7, hu k h1]
    exact ih (k + 1) _ (by omega)
theorem lp_mdr2 {r m p : Nat} {R : Nat → Nat} {x3 : Int32} (h : MLn a (e 74) P N W K O T J) (hb : LB P N W K O T J) (hr : r < 6) (hm : m ≤ 40) (h69 : e 69 r = nI m) (hR : ∀ k, k < m → e 70 (40 * r + k) = nI (R k) ∧ R k < 10) (hQ : ∀ o', Q (some (.int (nI 1))) z (Hp X C (a, vp_updL (vp_updL b 3 (foldu (suF (uit (cdr (fe W K J) R) K O T P N p m)) 0 P (lN 0))) 4 (lN 1), e, o'))) : ∀ (j k : Nat) (o : Nat → Nat → Int64), k + j = m → agL P (o 79) (uit (cdr (fe W K J) R) K O T P N p k) → Wp (d + 5) 1054 52 [some (.ref 67), some (.int (nI r)), some (.int (nI p)), some (.int x3), some (.int (nI k))] [] z (Hp X C (a, b, e, o)) Q := by
  have hP := hb.1
  have hN := hb.2.1
  intro j
  induction j with
  | zero =>
    intro k o hk hu
    have hk : k = m := by omega
    subst hk
    rw [W1054_52]
    simp (disch := omega) only [W1054, r_4, r_La, r_2, r_Li, h79_1053, r_5, s_43, r_90, s_0, ci_0, h60_10_10, r_49, h60_10_23, r_47, s_1, cl_1, r_52, cl_0, s_8, r_In, ci_1, h60_10_5, h79_1011, h79_1055, r_6, r_3, r_Ll, r_21, h79_1004, h64_69, h66_79, h67_79, enR, LG, LSt, LC, nlR, psR, TK, up_s, up_n, up_u, lt_nI, le_nI, eq_nI, true_and, and_true, if_true, if_false, Nat.zero_add, Nat.add_zero, nI_add, ↓reduceIte, Nat.reduceAdd, Nat.reduceMul, Nat.reduceSub, Nat.reduceLT, Nat.reduceLeDiff, Nat.reduceEqDiff, Nat.not_lt_zero, Nat.lt_irrefl, decide_true, BEq.rfl, nm1, nm2, nm3, nm4, nm9, ngc, eq_self, List.length_cons, List.length_nil, hr, h69]
    rw [lp_mdr3 (m := k) hP h hu P 0 _ (by omega)]
    exact hQ o
  | succ j ih =>
    intro k o hk hu
    have h1 : k < m := by omega
    obtain ⟨r1, r2⟩ := hR k h1
    rw [W1054_52]
    simp (disch := omega) only [W1054, r_4, r_La, r_2, r_Li, h79_1053, r_5, s_43, r_90, s_0, ci_0, h60_10_10, r_49, h60_10_23, r_47, s_1, cl_1, r_52, cl_0, s_8, r_In, ci_1, h60_10_5, h79_1011, h79_1055, r_6, r_3, r_Ll, r_21, h79_1004, h64_69, h66_79, h67_79, enR, LG, LSt, LC, nlR, psR, TK, up_s, up_n, up_u, lt_nI, le_nI, eq_nI, true_and, and_true, if_true, if_false, Nat.zero_add, Nat.add_zero, nI_add, ↓reduceIte, Nat.reduceAdd, Nat.reduceMul, Nat.reduceSub, Nat.reduceLT, Nat.reduceLeDiff, Nat.reduceEqDiff, Nat.not_lt_zero, Nat.lt_irrefl, decide_true, BEq.rfl, nm1, nm2, nm3, nm4, nm9, ngc, eq_self, List.length_cons, List.length_nil, hr, h69, h1, m_rowAt, r1]
    refine m_stepWays (c := cdr (fe W K J) R k) h hb (fun i hi => ?_) hu (fun o' ho' => ?_)
    · have hf := fe_lt hb hi
      unfold cdr
      rw [decide_eq_true_eq, nI_eq (by omega) (by omega)]
      constructor
      · exact Or.inr
      · rintro (h | h)
        · exact absurd h (ni_neg (by omega) (by decide))
        · exact h
    · simp (disch := omega) only [W1054, r_4, r_La, r_2, r_Li, h79_1053, r_5, s_43, r_90, s_0, ci_0, h60_10_10, r_49, h60_10_23, r_47, s_1, cl_1, r_52, cl_0, s_8, r_In, ci_1, h60_10_5, h79_1011, h79_1055, r_6, r_3, r_Ll, r_21, h79_1004, h64_69, h66_79, h67_79, enR, LG, LSt, LC, nlR, psR, TK, up_s, up_n, up_u, lt_nI, le_nI, eq_nI, true_and, and_true, if_true, if_false, Nat.zero_add, Nat.add_zero, nI_add, ↓reduceIte, Nat.reduceAdd, Nat.reduceMul, Nat.reduceSub, Nat.reduceLT, Nat.reduceLeDiff, Nat.reduceEqDiff, Nat.not_lt_zero, Nat.lt_irrefl, decide_true, BEq.rfl, nm1, nm2, nm3, nm4, nm9, ngc, eq_self, List.length_cons, List.length_nil]
      exact ih (k + 1) o' (by omega) ho'
theorem lp_mdr1 {r p : Nat} {x3 : Int32} (h : MLn a (e 74) P N W K O T J) (hP : P ≤ 7) (hp : p < P) (hQ : ∀ o', agL P (o' 79) (ust p) → Wp (d + 5) 1054 52 [some (.ref 67), some (.int (nI r)), some (.int (nI p)), some (.int x3), some (.int (nI 0))] [] z (Hp X C (a, b, e, o')) Q) : ∀ (j k : Nat) (o : Nat → Nat → Int64), k + j = P → (∀ q, q < k → o 79 q = ust p q) → Wp (d + 5) 1054 16 [some (.ref 67), some (.int (nI r)), some (.int (nI p)), some (.int x3), some (.int (nI k))] [] z (Hp X C (a, b, e, o)) Q := by
  have h10 := h.1
  intro j
  induction j with
  | zero =>
    intro k o hk hu
    have hk : k = P := by omega
    subst hk
    rw [W1054_16]
    simp (disch := omega) only [W1054, r_4, r_La, r_2, r_Li, h79_1053, r_5, s_43, r_90, s_0, ci_0, h60_10_10, r_49, h60_10_23, r_47, s_1, cl_1, r_52, cl_0, s_8, r_In, ci_1, h60_10_5, h79_1011, h79_1055, r_6, r_3, r_Ll, r_21, h79_1004, h64_69, h66_79, h67_79, enR, LG, LSt, LC, nlR, psR, TK, up_s, up_n, up_u, lt_nI, le_nI, eq_nI, true_and, and_true, if_true, if_false, Nat.zero_add, Nat.add_zero, nI_add, ↓reduceIte, Nat.reduceAdd, Nat.reduceMul, Nat.reduceSub, Nat.reduceLT, Nat.reduceLeDiff, Nat.reduceEqDiff, Nat.not_lt_zero, Nat.lt_irrefl, decide_true, BEq.rfl, nm1, nm2, nm3, nm4, nm9, ngc, eq_self, List.length_cons, List.length_nil, h10]
    exact hQ o hu
  | succ j ih =>
    intro k o hk hu
    have h1 : k < P := by omega
    have h7 : k < 7 := by omega
    have hgo : ∀ v : Int64, v = ust p k → ∀ q, q < k + 1 → va_up o 79 (vp_updL (o 79) k v) 79 q = ust p q := fun v hv q hq => by
      rw [up_s]
      by_cases h2 : q = k
      · subst h2; rw [ul_s]; exact hv
      · rw [ul_n _ _ h2]; exact hu q (by omega)
    rw [W1054_16]
    by_cases h2 : k = p
    · have e1 : lN 1 = ust p k := by unfold ust; rw [if_pos h2]
      subst h2
      simp (disch := omega) only [W1054, r_4, r_La, r_2, r_Li, h79_1053, r_5, s_43, r_90, s_0, ci_0, h60_10_10, r_49, h60_10_23, r_47, s_1, cl_1, r_52, cl_0, s_8, r_In, ci_1, h60_10_5, h79_1011, h79_1055, r_6, r_3, r_Ll, r_21, h79_1004, h64_69, h66_79, h67_79, enR, LG, LSt, LC, nlR, psR, TK, up_s, up_n, up_u, lt_nI, le_nI, eq_nI, true_and, and_true, if_true, if_false, Nat.zero_add, Nat.add_zero, nI_add, ↓reduceIte, Nat.reduceAdd, Nat.reduceMul, Nat.reduceSub, Nat.reduceLT, Nat.reduceLeDiff, Nat.reduceEqDiff, Nat.not_lt_zero, Nat.lt_irrefl, decide_true, BEq.rfl, nm1, nm2, nm3, nm4, nm9, ngc, eq_self, List.length_cons, List.length_nil, h10, h1, h7]
      exact ih (k + 1) _ (by omega) (hgo _ e1)
    · have e1 : lN 0 = ust p k := by unfold ust; rw [if_neg h2]
      simp (disch := omega) only [W1054, r_4, r_La, r_2, r_Li, h79_1053, r_5, s_43, r_90, s_0, ci_0, h60_10_10, r_49, h60_10_23, r_47, s_1, cl_1, r_52, cl_0, s_8, r_In, ci_1, h60_10_5, h79_1011, h79_1055, r_6, r_3, r_Ll, r_21, h79_1004, h64_69, h66_79, h67_79, enR, LG, LSt, LC, nlR, psR, TK, up_s, up_n, up_u, lt_nI, le_nI, eq_nI, true_and, and_true, if_true, if_false, Nat.zero_add, Nat.add_zero, nI_add, ↓reduceIte, Nat.reduceAdd, Nat.reduceMul, Nat.reduceSub, Nat.reduceLT, Nat.reduceLeDiff, Nat.reduceEqDiff, Nat.not_lt_zero, Nat.lt_irrefl, decide_true, BEq.rfl, nm1, nm2, nm3, nm4, nm9, ngc, eq_self, List.length_cons, List.length_nil, h10, h1, h7, h2]
      exact ih (k + 1) _ (by omega) (hgo _ e1)
-- rounds
def cal (k i : Nat) : Bool := true
theorem lp_mro2 {p m : Nat} (h : MLn a (e 74) P N W K O T J) (hb : LB P N W K O T J) (hp : p < P) (hm : m ≤ 14) (hQ : ∀ o', Q (some (.int (nI 1))) z (Hp X C (a, vp_updL (vp_updL b 3 (uit cal K O T P N p m p)) 4 (lN 1), e, o'))) : ∀ (j k : Nat) (o : Nat → Nat → Int64), k + j = m → agL P (o 79) (uit cal K O T P N p k) → Wp (d + 3) 1073 54 [some (.ref 67), some (.int (nI p)), some (.int (nI m)), some (.int (nI k))] [] z (Hp X C (a, b, e, o)) Q := by
  have hP := hb.1
  intro j
  induction j with
  | zero =>
    intro k o hk hu
    have hk : k = m := by omega
    subst hk
    have h7 : p < 7 := by omega
    rw [W1073_54]
    simp (disch := omega) only [W1073, r_4, r_La, r_2, r_Li, h79_1029, s_40, s_0, ci_0, ci_14, h80_1001, s_41, ci_m1, r_90, r_5, h60_10_10, r_49, h60_10_23, r_47, s_1, cl_1, r_52, cl_0, s_8, r_In, ci_1, ci_m9, h79_1055, h79_1004, h66_79, h67_79, enR, LG, LSt, LC, nlR, psR, TK, up_s, up_n, up_u, lt_nI, le_nI, eq_nI, true_and, and_true, if_true, if_false, Nat.zero_add, Nat.add_zero, nI_add, ↓reduceIte, Nat.reduceAdd, Nat.reduceMul, Nat.reduceSub, Nat.reduceLT, Nat.reduceLeDiff, Nat.reduceEqDiff, Nat.not_lt_zero, Nat.lt_irrefl, decide_true, BEq.rfl, nm1, nm2, nm3, nm4, nm9, ngc, eq_self, List.length_cons, List.length_nil, h7, hu p hp, m_tellU]
    exact hQ o
  | succ j ih =>
    intro k o hk hu
    have h1 : k < m := by omega
    rw [W1073_54]
    simp (disch := omega) only [W1073, r_4, r_La, r_2, r_Li, h79_1029, s_40, s_0, ci_0, ci_14, h80_1001, s_41, ci_m1, r_90, r_5, h60_10_10, r_49, h60_10_23, r_47, s_1, cl_1, r_52, cl_0, s_8, r_In, ci_1, ci_m9, h79_1055, h79_1004, h66_79, h67_79, enR, LG, LSt, LC, nlR, psR, TK, up_s, up_n, up_u, lt_nI, le_nI, eq_nI, true_and, and_true, if_true, if_false, Nat.zero_add, Nat.add_zero, nI_add, ↓reduceIte, Nat.reduceAdd, Nat.reduceMul, Nat.reduceSub, Nat.reduceLT, Nat.reduceLeDiff, Nat.reduceEqDiff, Nat.not_lt_zero, Nat.lt_irrefl, decide_true, BEq.rfl, nm1, nm2, nm3, nm4, nm9, ngc, eq_self, List.length_cons, List.length_nil, h1]
    refine m_stepWays (c := cal k) h hb (fun i hi => ⟨fun _ => Or.inl rfl, fun _ => rfl⟩) hu (fun o' ho' => ?_)
    simp (disch := omega) only [W1073, r_4, r_La, r_2, r_Li, h79_1029, s_40, s_0, ci_0, ci_14, h80_1001, s_41, ci_m1, r_90, r_5, h60_10_10, r_49, h60_10_23, r_47, s_1, cl_1, r_52, cl_0, s_8, r_In, ci_1, ci_m9, h79_1055, h79_1004, h66_79, h67_79, enR, LG, LSt, LC, nlR, psR, TK, up_s, up_n, up_u, lt_nI, le_nI, eq_nI, true_and, and_true, if_true, if_false, Nat.zero_add, Nat.add_zero, nI_add, ↓reduceIte, Nat.reduceAdd, Nat.reduceMul, Nat.reduceSub, Nat.reduceLT, Nat.reduceLeDiff, Nat.reduceEqDiff, Nat.not_lt_zero, Nat.lt_irrefl, decide_true, BEq.rfl, nm1, nm2, nm3, nm4, nm9, ngc, eq_self, List.length_cons, List.length_nil]
    exact ih (k + 1) o' (by omega) ho'
theorem lp_mro1 {p m : Nat} (h : MLn a (e 74) P N W K O T J) (hP : P ≤ 7) (hp : p < P) (hQ : ∀ o', agL P (o' 79) (ust p) → Wp (d + 3) 1073 54 [some (.ref 67), some (.int (nI p)), some (.int (nI m)), some (.int (nI 0))] [] z (Hp X C (a, b, e, o')) Q) : ∀ (j k : Nat) (o : Nat → Nat → Int64), k + j = P → (∀ q, q < k → o 79 q = ust p q) → Wp (d + 3) 1073 22 [some (.ref 67), some (.int (nI p)), some (.int (nI m)), some (.int (nI k))] [] z (Hp X C (a, b, e, o)) Q := by
  have h10 := h.1
  intro j
  induction j with
  | zero =>
    intro k o hk hu
    have hk : k = P := by omega
    subst hk
    rw [W1073_22]
    simp (disch := omega) only [W1073, r_4, r_La, r_2, r_Li, h79_1029, s_40, s_0, ci_0, ci_14, h80_1001, s_41, ci_m1, r_90, r_5, h60_10_10, r_49, h60_10_23, r_47, s_1, cl_1, r_52, cl_0, s_8, r_In, ci_1, ci_m9, h79_1055, h79_1004, h66_79, h67_79, enR, LG, LSt, LC, nlR, psR, TK, up_s, up_n, up_u, lt_nI, le_nI, eq_nI, true_and, and_true, if_true, if_false, Nat.zero_add, Nat.add_zero, nI_add, ↓reduceIte, Nat.reduceAdd, Nat.reduceMul, Nat.reduceSub, Nat.reduceLT, Nat.reduceLeDiff, Nat.reduceEqDiff, Nat.not_lt_zero, Nat.lt_irrefl, decide_true, BEq.rfl, nm1, nm2, nm3, nm4, nm9, ngc, eq_self, List.length_cons, List.length_nil, h10]
    exact hQ o hu
  | succ j ih =>
    intro k o hk hu
    have h1 : k < P := by omega
    have h7 : k < 7 := by omega
    have hgo : ∀ v : Int64, v = ust p k → ∀ q, q < k + 1 → va_up o 79 (vp_updL (o 79) k v) 79 q = ust p q := fun v hv q hq => by
      rw [up_s]
      by_cases h2 : q = k
      · subst h2; rw [ul_s]; exact hv
      · rw [ul_n _ _ h2]; exact hu q (by omega)
    rw [W1073_22]
    by_cases h2 : k = p
    · have e1 : lN 1 = ust p k := by unfold ust; rw [if_pos h2]
      subst h2
      simp (disch := omega) only [W1073, r_4, r_La, r_2, r_Li, h79_1029, s_40, s_0, ci_0, ci_14, h80_1001, s_41, ci_m1, r_90, r_5, h60_10_10, r_49, h60_10_23, r_47, s_1, cl_1, r_52, cl_0, s_8, r_In, ci_1, ci_m9, h79_1055, h79_1004, h66_79, h67_79, enR, LG, LSt, LC, nlR, psR, TK, up_s, up_n, up_u, lt_nI, le_nI, eq_nI, true_and, and_true, if_true, if_false, Nat.zero_add, Nat.add_zero, nI_add, ↓reduceIte, Nat.reduceAdd, Nat.reduceMul, Nat.reduceSub, Nat.reduceLT, Nat.reduceLeDiff, Nat.reduceEqDiff, Nat.not_lt_zero, Nat.lt_irrefl, decide_true, BEq.rfl, nm1, nm2, nm3, nm4, nm9, ngc, eq_self, List.length_cons, List.length_nil, h10, h1, h7]
      exact ih (k + 1) _ (by omega) (hgo _ e1)
    · have e1 : lN 0 = ust p k := by unfold ust; rw [if_neg h2]
      simp (disch := omega) only [W1073, r_4, r_La, r_2, r_Li, h79_1029, s_40, s_0, ci_0, ci_14, h80_1001, s_41, ci_m1, r_90, r_5, h60_10_10, r_49, h60_10_23, r_47, s_1, cl_1, r_52, cl_0, s_8, r_In, ci_1, ci_m9, h79_1055, h79_1004, h66_79, h67_79, enR, LG, LSt, LC, nlR, psR, TK, up_s, up_n, up_u, lt_nI, le_nI, eq_nI, true_and, and_true, if_true, if_false, Nat.zero_add, Nat.add_zero, nI_add, ↓reduceIte, Nat.reduceAdd, Nat.reduceMul, Nat.reduceSub, Nat.reduceLT, Nat.reduceLeDiff, Nat.reduceEqDiff, Nat.not_lt_zero, Nat.lt_irrefl, decide_true, BEq.rfl, nm1, nm2, nm3, nm4, nm9, ngc, eq_self, List.length_cons, List.length_nil, h10, h1, h7, h2]
      exact ih (k + 1) _ (by omega) (hgo _ e1)
end
section
variable {t d : Nat} {z : AZ} {X : Nat × (Nat → Int32)} {C : CT} {M : MT} {s : Nat → Int32} {v : Nat → Int64} {g : Nat → Nat → Int32} {w : Nat → Nat → Int64} {q : Nat → Nat} {ct : Nat → Int32} {cn : Nat → Int32} {cc : Nat → Nat → Int32} {di : Nat → Nat → Int32} {dr : Nat → Nat → Int32} {df : Nat → Nat → Int32} {li : Nat → Nat → Int32} {la : Nat → Nat → Nat → Int32} {sf : Nat → Nat → Int32} {sl : Nat → Nat → Int32} {a : Nat → Int32} {b : Nat → Int64} {e : Nat → Nat → Int32} {o : Nat → Nat → Int64} {B : Nat → Bool} {n : Nat → Nat} {P N W : Nat} {K O T J : Nat → Nat} {l : Nat} {Ds : Nat → Nat} {Dr Df Dp : Nat → Nat → Nat} {KB : Nat → Bool}
variable {Q : Option Value → AZ → AH → Prop}
theorem ag_fil {c : Nat → Bool} {x : Nat} {u : Nat → Int64} {t0 : Nat → Int64} (hb : LB P N W K O T J) (hu : agL 7 (w x) u) : agL 7 (foldu (aiF c K O T P (w x)) 0 N (fil t0 0 7 (lN 0))) (uad c K O T P N u) :=
  aw_ag hb hb.1 (fun q hq => hu q (by have := hb.1; omega)) (fun q hq => if_pos (by omega))
theorem lp_cdr {r m p : Nat} {R : Nat → Nat} {x3 : Int32} (hl : l < 2) (hq : q 0 = l) (hC : CLn (li l) (la l) P N K O T J) (hb : LB P N W K O T J) (hS : SEn (sf 0) (sl 0) N (fe W K J) K O T) (hr : r < 6) (hn : cn r = nI m) (hm : m ≤ 16) (hR : ∀ k, k < m → cc r k = nI (R k) ∧ R k < 10)
    (hQ : ∀ (w' : Nat → Nat → Int64) (x y : Nat), x < 2 → y < 2 → x ≠ y → agL 7 (w' x) (uit (cdr (fe W K J) R) K O T P N p m) → Q (some (.int (nI 1))) z (Hp X (s, vp_updL (vp_updL v 16 (foldu (suF (w' x)) 0 7 (lN 0))) 17 (lN 1), g, w', va_up (va_up q 3 x) 4 y, ct, cn, cc, di, dr, df, li, la, sf, sl) M)) :
    ∀ (j k : Nat) (w : Nat → Nat → Int64) (x y : Nat), k + j = m → x < 2 → y < 2 → x ≠ y → agL 7 (w x) (uit (cdr (fe W K J) R) K O T P N p k) → Wp (d + 4) 924 50 [some (.ref 0), some (.int (nI r)), some (.int (nI p)), some (.int x3), some (.int (nI k))] [] z (Hp X (s, v, g, w, va_up (va_up q 3 x) 4 y, ct, cn, cc, di, dr, df, li, la, sf, sl) M) Q := by
  have hN := hb.2.1
  have hcap : cap r = 40 := if_pos hr
  intro j
  induction j with
  | zero =>
    intro k w x y hk hx hy hxy hu
    have hk : k = m := by omega
    subst hk
    rw [W924_50]
    simp (disch := omega) only [W924, r_2, r_Li, h80_948, s_40, r_4, r_La, h60_9_12, h79_303, s_41, s_0, ci_m1, r_90, h60_9_0, ci_16, h79_955, r_5, h60_9_7, h79_701, ci_0, h60_0_2, r_49, h60_9_5, h79_5, h79_702, s_8, r_In, ci_1, r_52, h79_704, h79_953, h68_1, enR, LG, LSt, LC, nlR, psR, TK, up_s, up_n, up_u, lt_nI, le_nI, eq_nI, true_and, and_true, if_true, if_false, Nat.zero_add, Nat.add_zero, nI_add, ↓reduceIte, Nat.reduceAdd, Nat.reduceMul, Nat.reduceSub, Nat.reduceLT, Nat.reduceLeDiff, Nat.reduceEqDiff, Nat.not_lt_zero, Nat.lt_irrefl, decide_true, BEq.rfl, nm1, nm2, nm3, nm4, nm9, ngc, eq_self, List.length_cons, List.length_nil, hr, hn, c_total (q := va_up (va_up q 3 x) 4 y) hx (by rw [up_n _ _ (by decide), up_s]), c_toldU]
    exact hQ w x y hx hy hxy hu
  | succ j ih =>
    intro k w x y hk hx hy hxy hu
    have h1 : k < m := by omega
    obtain ⟨r1, r2⟩ := hR k h1
    rw [W924_50]
    simp (disch := omega) only [W924, r_2, r_Li, h80_948, s_40, r_4, r_La, h60_9_12, h79_303, s_41, s_0, ci_m1, r_90, h60_9_0, ci_16, h79_955, r_5, h60_9_7, h79_701, ci_0, h60_0_2, r_49, h60_9_5, h79_5, h79_702, s_8, r_In, ci_1, r_52, h79_704, h79_953, h68_1, enR, LG, LSt, LC, nlR, psR, TK, up_s, up_n, up_u, lt_nI, le_nI, eq_nI, true_and, and_true, if_true, if_false, Nat.zero_add, Nat.add_zero, nI_add, ↓reduceIte, Nat.reduceAdd, Nat.reduceMul, Nat.reduceSub, Nat.reduceLT, Nat.reduceLeDiff, Nat.reduceEqDiff, Nat.not_lt_zero, Nat.lt_irrefl, decide_true, BEq.rfl, nm1, nm2, nm3, nm4, nm9, ngc, eq_self, List.length_cons, List.length_nil, hr, hn, h1, c_valueAt (show r < 10 by omega) hn h1 (by omega), r1, hq]
    rw [c_tadv (q := va_up (va_up q 3 x) 4 y) (c := cdr (fe W K J) R k) hl hC hb hx hy hxy (by rw [up_n _ _ (by decide), up_s]) (by rw [up_s]) (fun i hi => by
      have hf := fe_lt hb hi
      unfold cdr
      rw [decide_eq_true_eq, hS.1 i (by omega), if_pos hi, nI_eq (by omega) (by omega)]
      constructor
      · exact Or.inr
      · rintro (h | h)
        · exact absurd h (ni_neg (by omega) (by decide))
        · exact h), up_34]
    simp (disch := omega) only [W924, r_2, r_Li, h80_948, s_40, r_4, r_La, h60_9_12, h79_303, s_41, s_0, ci_m1, r_90, h60_9_0, ci_16, h79_955, r_5, h60_9_7, h79_701, ci_0, h60_0_2, r_49, h60_9_5, h79_5, h79_702, s_8, r_In, ci_1, r_52, h79_704, h79_953, h68_1, enR, LG, LSt, LC, nlR, psR, TK, up_s, up_n, up_u, lt_nI, le_nI, eq_nI, true_and, and_true, if_true, if_false, Nat.zero_add, Nat.add_zero, nI_add, ↓reduceIte, Nat.reduceAdd, Nat.reduceMul, Nat.reduceSub, Nat.reduceLT, Nat.reduceLeDiff, Nat.reduceEqDiff, Nat.not_lt_zero, Nat.lt_irrefl, decide_true, BEq.rfl, nm1, nm2, nm3, nm4, nm9, ngc, eq_self, List.length_cons, List.length_nil]
    refine ih (k + 1) _ y x (by omega) hy hx (Ne.symm hxy) ?_
    rw [up_s]
    exact ag_fil hb hu
theorem lp_cro {m p : Nat} (hl : l < 2) (hq : q 0 = l) (hC : CLn (li l) (la l) P N K O T J) (hb : LB P N W K O T J) (hp : p < 7) (hm : m ≤ 14)
    (hQ : ∀ (w' : Nat → Nat → Int64) (x y : Nat), x < 2 → y < 2 → x ≠ y → agL 7 (w' x) (uit cal K O T P N p m) → Q (some (.int (nI 1))) z (Hp X (s, vp_updL (vp_updL v 16 (w' x p)) 17 (lN 1), g, w', va_up (va_up q 3 x) 4 y, ct, cn, cc, di, dr, df, li, la, sf, sl) M)) :
    ∀ (j k : Nat) (w : Nat → Nat → Int64) (x y : Nat), k + j = m → x < 2 → y < 2 → x ≠ y → agL 7 (w x) (uit cal K O T P N p k) → Wp (d + 4) 935 33 [some (.ref 0), some (.int (nI p)), some (.int (nI m)), some (.int (nI k))] [] z (Hp X (s, v, g, w, va_up (va_up q 3 x) 4 y, ct, cn, cc, di, dr, df, li, la, sf, sl) M) Q := by
  intro j
  induction j with
  | zero =>
    intro k w x y hk hx hy hxy hu
    have hk : k = m := by omega
    subst hk
    rw [W935_33]
    simp (disch := omega) only [W935, r_4, r_La, h60_9_12, r_2, r_Li, h79_303, s_40, s_42, s_0, ci_14, r_51, ci_m1, r_90, h60_9_7, h79_701, ci_0, r_5, r_49, h60_9_5, h79_702, s_8, r_In, ci_1, r_52, h60_7_0, h79_953, h66_ta, enR, LG, LSt, LC, nlR, psR, TK, up_s, up_n, up_u, lt_nI, le_nI, eq_nI, true_and, and_true, if_true, if_false, Nat.zero_add, Nat.add_zero, nI_add, ↓reduceIte, Nat.reduceAdd, Nat.reduceMul, Nat.reduceSub, Nat.reduceLT, Nat.reduceLeDiff, Nat.reduceEqDiff, Nat.not_lt_zero, Nat.lt_irrefl, decide_true, BEq.rfl, nm1, nm2, nm3, nm4, nm9, ngc, eq_self, List.length_cons, List.length_nil, hp, c_toldU]
    exact hQ w x y hx hy hxy hu
  | succ j ih =>
    intro k w x y hk hx hy hxy hu
    have h1 : k < m := by omega
    rw [W935_33]
    simp (disch := omega) only [W935, r_4, r_La, h60_9_12, r_2, r_Li, h79_303, s_40, s_42, s_0, ci_14, r_51, ci_m1, r_90, h60_9_7, h79_701, ci_0, r_5, r_49, h60_9_5, h79_702, s_8, r_In, ci_1, r_52, h60_7_0, h79_953, h66_ta, enR, LG, LSt, LC, nlR, psR, TK, up_s, up_n, up_u, lt_nI, le_nI, eq_nI, true_and, and_true, if_true, if_false, Nat.zero_add, Nat.add_zero, nI_add, ↓reduceIte, Nat.reduceAdd, Nat.reduceMul, Nat.reduceSub, Nat.reduceLT, Nat.reduceLeDiff, Nat.reduceEqDiff, Nat.not_lt_zero, Nat.lt_irrefl, decide_true, BEq.rfl, nm1, nm2, nm3, nm4, nm9, ngc, eq_self, List.length_cons, List.length_nil, h1, hq]
    rw [c_tadv (q := va_up (va_up q 3 x) 4 y) (c := cal k) hl hC hb hx hy hxy (by rw [up_n _ _ (by decide), up_s]) (by rw [up_s]) (fun i hi => ⟨fun _ => Or.inl rfl, fun _ => rfl⟩), up_34]
    simp (disch := omega) only [W935, r_4, r_La, h60_9_12, r_2, r_Li, h79_303, s_40, s_42, s_0, ci_14, r_51, ci_m1, r_90, h60_9_7, h79_701, ci_0, r_5, r_49, h60_9_5, h79_702, s_8, r_In, ci_1, r_52, h60_7_0, h79_953, h66_ta, enR, LG, LSt, LC, nlR, psR, TK, up_s, up_n, up_u, lt_nI, le_nI, eq_nI, true_and, and_true, if_true, if_false, Nat.zero_add, Nat.add_zero, nI_add, ↓reduceIte, Nat.reduceAdd, Nat.reduceMul, Nat.reduceSub, Nat.reduceLT, Nat.reduceLeDiff, Nat.reduceEqDiff, Nat.not_lt_zero, Nat.lt_irrefl, decide_true, BEq.rfl, nm1, nm2, nm3, nm4, nm9, ngc, eq_self, List.length_cons, List.length_nil]
    refine ih (k + 1) _ y x (by omega) hy hx (Ne.symm hxy) ?_
    rw [up_s]
    exact ag_fil hb hu
theorem iq34 (H : RL t z s v g w q ct cn cc di dr df li la sf sl a b e o B n P N W K O T J l Ds Dr Df Dp KB) : ∃ x y, q 3 = x ∧ q 4 = y ∧ x < 2 ∧ y < 2 ∧ x ≠ y := by
  rcases H.2.2.2.2.2.1.1 with ⟨h1, h2⟩ | ⟨h1, h2⟩
  · exact ⟨0, 1, h1, h2, by decide, by decide, by decide⟩
  · exact ⟨1, 0, h1, h2, by decide, by decide, by decide⟩
theorem rl_tally {x y : Nat} {w' o' : Nat → Nat → Int64} {u : Int64} (H : RL t z s v g w q ct cn cc di dr df li la sf sl a b e o B n P N W K O T J l Ds Dr Df Dp KB) (hx : x < 2) (hy : y < 2) (hxy : x ≠ y) : RL (t + 1) z s (vp_updL (vp_updL v 16 u) 17 (lN 1)) g (w') (va_up (va_up q 3 x) 4 y) ct cn cc di dr df li la sf sl a (vp_updL (vp_updL b 3 u) 4 (lN 1)) e (o') B n P N W K O T J l Ds Dr Df Dp KB := by
  obtain ⟨⟨g1, g2, g3, g4, g5⟩, h2, h3, h4, h5, h6, h7⟩ := H
  refine ⟨⟨g1, g2, rfl, rfl, g5⟩, h2, h3, h4, h5, ⟨?_, h6.2⟩, seen_up h7⟩
  rw [up_n _ _ (by decide), up_s, up_s]
  omega
theorem ag_start {p : Nat} (hp : p < 7) (t0 : Nat → Int64) : agL 7 (vp_updL (fil t0 0 7 (lN 0)) p (lN 1)) (ust p) := fun q hq => by
  unfold ust
  by_cases h : q = p
  · subst h; rw [ul_s, if_pos rfl]
  · rw [ul_n _ _ h, if_neg h]; exact if_pos (by omega)
theorem op_rounds {x y : Int32} (H : RL t z s v g w q ct cn cc di dr df li la sf sl a b e o B n P N W K O T J l Ds Dr Df Dp KB) : OPI (d + 20) 935 1073 [.int x, .int y] t z X (s, v, g, w, q, ct, cn, cc, di, dr, df, li, la, sf, sl) (a, b, e, o) := by
  obtain ⟨hb, hl, hq, hC, hs, hM, hS⟩ := rl_land H
  have hP := hb.1
  unfold OPI
  rw [cw_wp]
  rcases ixN x (show P ≤ 80 by omega) with h | ⟨h1, h2, h3⟩ | ⟨p, hp, rfl⟩
  · simp (disch := omega) only [W935, r_4, r_La, h60_9_12, r_2, r_Li, h79_303, s_40, s_42, s_0, ci_14, r_51, ci_m1, r_90, h60_9_7, h79_701, ci_0, r_5, r_49, h60_9_5, h79_702, s_8, r_In, ci_1, r_52, h60_7_0, h79_953, h66_ta, enR, LG, LSt, LC, nlR, psR, TK, up_s, up_n, up_u, lt_nI, le_nI, eq_nI, true_and, and_true, if_true, if_false, Nat.zero_add, Nat.add_zero, nI_add, ↓reduceIte, Nat.reduceAdd, Nat.reduceMul, Nat.reduceSub, Nat.reduceLT, Nat.reduceLeDiff, Nat.reduceEqDiff, Nat.not_lt_zero, Nat.lt_irrefl, decide_true, BEq.rfl, nm1, nm2, nm3, nm4, nm9, ngc, eq_self, List.length_cons, List.length_nil, hq, hl, c_hasPlace hl hC, h]
    refine okc ?_
    rw [cw_wp]
    simp (disch := omega) only [W1073, r_4, r_La, r_2, r_Li, h79_1029, s_40, s_0, ci_0, ci_14, h80_1001, s_41, ci_m1, r_90, r_5, h60_10_10, r_49, h60_10_23, r_47, s_1, cl_1, r_52, cl_0, s_8, r_In, ci_1, ci_m9, h79_1055, h79_1004, h66_79, h67_79, enR, LG, LSt, LC, nlR, psR, TK, up_s, up_n, up_u, lt_nI, le_nI, eq_nI, true_and, and_true, if_true, if_false, Nat.zero_add, Nat.add_zero, nI_add, ↓reduceIte, Nat.reduceAdd, Nat.reduceMul, Nat.reduceSub, Nat.reduceLT, Nat.reduceLeDiff, Nat.reduceEqDiff, Nat.not_lt_zero, Nat.lt_irrefl, decide_true, BEq.rfl, nm1, nm2, nm3, nm4, nm9, ngc, eq_self, List.length_cons, List.length_nil, m_isPlace hM, h]
    exact okm (rl_inv (rl_t H))
  · simp (disch := omega) only [W935, r_4, r_La, h60_9_12, r_2, r_Li, h79_303, s_40, s_42, s_0, ci_14, r_51, ci_m1, r_90, h60_9_7, h79_701, ci_0, r_5, r_49, h60_9_5, h79_702, s_8, r_In, ci_1, r_52, h60_7_0, h79_953, h66_ta, enR, LG, LSt, LC, nlR, psR, TK, up_s, up_n, up_u, lt_nI, le_nI, eq_nI, true_and, and_true, if_true, if_false, Nat.zero_add, Nat.add_zero, nI_add, ↓reduceIte, Nat.reduceAdd, Nat.reduceMul, Nat.reduceSub, Nat.reduceLT, Nat.reduceLeDiff, Nat.reduceEqDiff, Nat.not_lt_zero, Nat.lt_irrefl, decide_true, BEq.rfl, nm1, nm2, nm3, nm4, nm9, ngc, eq_self, List.length_cons, List.length_nil, hq, hl, c_hasPlace hl hC, h1, h2]
    refine okc ?_
    rw [cw_wp]
    simp (disch := omega) only [W1073, r_4, r_La, r_2, r_Li, h79_1029, s_40, s_0, ci_0, ci_14, h80_1001, s_41, ci_m1, r_90, r_5, h60_10_10, r_49, h60_10_23, r_47, s_1, cl_1, r_52, cl_0, s_8, r_In, ci_1, ci_m9, h79_1055, h79_1004, h66_79, h67_79, enR, LG, LSt, LC, nlR, psR, TK, up_s, up_n, up_u, lt_nI, le_nI, eq_nI, true_and, and_true, if_true, if_false, Nat.zero_add, Nat.add_zero, nI_add, ↓reduceIte, Nat.reduceAdd, Nat.reduceMul, Nat.reduceSub, Nat.reduceLT, Nat.reduceLeDiff, Nat.reduceEqDiff, Nat.not_lt_zero, Nat.lt_irrefl, decide_true, BEq.rfl, nm1, nm2, nm3, nm4, nm9, ngc, eq_self, List.length_cons, List.length_nil, m_isPlace hM, h1, h3]
    exact okm (rl_inv (rl_t H))
  · have hi2 := nsub (show P < 65536 by omega) hp
    have hp7 : p < 7 := by omega
    rcases ix y (n := 14) (by decide) with h | ⟨h1, h2, h3⟩ | ⟨m, hm, rfl⟩
    · simp (disch := omega) only [W935, r_4, r_La, h60_9_12, r_2, r_Li, h79_303, s_40, s_42, s_0, ci_14, r_51, ci_m1, r_90, h60_9_7, h79_701, ci_0, r_5, r_49, h60_9_5, h79_702, s_8, r_In, ci_1, r_52, h60_7_0, h79_953, h66_ta, enR, LG, LSt, LC, nlR, psR, TK, up_s, up_n, up_u, lt_nI, le_nI, eq_nI, true_and, and_true, if_true, if_false, Nat.zero_add, Nat.add_zero, nI_add, ↓reduceIte, Nat.reduceAdd, Nat.reduceMul, Nat.reduceSub, Nat.reduceLT, Nat.reduceLeDiff, Nat.reduceEqDiff, Nat.not_lt_zero, Nat.lt_irrefl, decide_true, BEq.rfl, nm1, nm2, nm3, nm4, nm9, ngc, eq_self, List.length_cons, List.length_nil, hq, hl, c_hasPlace hl hC, hp, h]
      refine okc ?_
      rw [cw_wp]
      simp (disch := omega) only [W1073, r_4, r_La, r_2, r_Li, h79_1029, s_40, s_0, ci_0, ci_14, h80_1001, s_41, ci_m1, r_90, r_5, h60_10_10, r_49, h60_10_23, r_47, s_1, cl_1, r_52, cl_0, s_8, r_In, ci_1, ci_m9, h79_1055, h79_1004, h66_79, h67_79, enR, LG, LSt, LC, nlR, psR, TK, up_s, up_n, up_u, lt_nI, le_nI, eq_nI, true_and, and_true, if_true, if_false, Nat.zero_add, Nat.add_zero, nI_add, ↓reduceIte, Nat.reduceAdd, Nat.reduceMul, Nat.reduceSub, Nat.reduceLT, Nat.reduceLeDiff, Nat.reduceEqDiff, Nat.not_lt_zero, Nat.lt_irrefl, decide_true, BEq.rfl, nm1, nm2, nm3, nm4, nm9, ngc, eq_self, List.length_cons, List.length_nil, m_isPlace hM, hi2, m_in, h]
      exact okm (rl_inv (rl_t H))
    · simp (disch := omega) only [W935, r_4, r_La, h60_9_12, r_2, r_Li, h79_303, s_40, s_42, s_0, ci_14, r_51, ci_m1, r_90, h60_9_7, h79_701, ci_0, r_5, r_49, h60_9_5, h79_702, s_8, r_In, ci_1, r_52, h60_7_0, h79_953, h66_ta, enR, LG, LSt, LC, nlR, psR, TK, up_s, up_n, up_u, lt_nI, le_nI, eq_nI, true_and, and_true, if_true, if_false, Nat.zero_add, Nat.add_zero, nI_add, ↓reduceIte, Nat.reduceAdd, Nat.reduceMul, Nat.reduceSub, Nat.reduceLT, Nat.reduceLeDiff, Nat.reduceEqDiff, Nat.not_lt_zero, Nat.lt_irrefl, decide_true, BEq.rfl, nm1, nm2, nm3, nm4, nm9, ngc, eq_self, List.length_cons, List.length_nil, hq, hl, c_hasPlace hl hC, hp, h1, h3]
      refine okc ?_
      rw [cw_wp]
      simp (disch := omega) only [W1073, r_4, r_La, r_2, r_Li, h79_1029, s_40, s_0, ci_0, ci_14, h80_1001, s_41, ci_m1, r_90, r_5, h60_10_10, r_49, h60_10_23, r_47, s_1, cl_1, r_52, cl_0, s_8, r_In, ci_1, ci_m9, h79_1055, h79_1004, h66_79, h67_79, enR, LG, LSt, LC, nlR, psR, TK, up_s, up_n, up_u, lt_nI, le_nI, eq_nI, true_and, and_true, if_true, if_false, Nat.zero_add, Nat.add_zero, nI_add, ↓reduceIte, Nat.reduceAdd, Nat.reduceMul, Nat.reduceSub, Nat.reduceLT, Nat.reduceLeDiff, Nat.reduceEqDiff, Nat.not_lt_zero, Nat.lt_irrefl, decide_true, BEq.rfl, nm1, nm2, nm3, nm4, nm9, ngc, eq_self, List.length_cons, List.length_nil, m_isPlace hM, hi2, m_in, h1, h3]
      exact okm (rl_inv (rl_t H))
    · have hm14 : ¬ 14 < m := by omega
      obtain ⟨x, y, h3, h4, hx, hy, hxy⟩ := iq34 H
      simp (disch := omega) only [W935, r_4, r_La, h60_9_12, r_2, r_Li, h79_303, s_40, s_42, s_0, ci_14, r_51, ci_m1, r_90, h60_9_7, h79_701, ci_0, r_5, r_49, h60_9_5, h79_702, s_8, r_In, ci_1, r_52, h60_7_0, h79_953, h66_ta, enR, LG, LSt, LC, nlR, psR, TK, up_s, up_n, up_u, lt_nI, le_nI, eq_nI, true_and, and_true, if_true, if_false, Nat.zero_add, Nat.add_zero, nI_add, ↓reduceIte, Nat.reduceAdd, Nat.reduceMul, Nat.reduceSub, Nat.reduceLT, Nat.reduceLeDiff, Nat.reduceEqDiff, Nat.not_lt_zero, Nat.lt_irrefl, decide_true, BEq.rfl, nm1, nm2, nm3, nm4, nm9, ngc, eq_self, List.length_cons, List.length_nil, hq, hl, c_hasPlace hl hC, hp, hm14, c_tstart hx h3 hp7]
      have eq34 : va_up (va_up q 3 x) 4 y = q := by rw [up_id h3, up_id h4]
      have := lp_cro (d := d + 15) (z := z) (X := X) (M := (a, b, e, o)) (s := s) (v := v) (g := g) (ct := ct) (cn := cn) (cc := cc) (di := di) (dr := dr) (df := df) (sf := sf) (sl := sl) (Q := OKc (d + 20) 1073 [.int (nI p), .int (nI m)] t X (a, b, e, o)) (m := m) (p := p) hl hq hC hb hp7 hm (fun w' x' y' hx' hy' hxy' hu => ?_) m 0 (va_up w x (vp_updL (fil (w x) 0 7 (lN 0)) p (lN 1))) x y (by omega) hx hy hxy (by rw [up_s]; exact ag_start hp7 _)
      · rw [eq34] at this
        exact this
      · refine okc ?_
        rw [cw_wp]
        simp (disch := omega) only [W1073, r_4, r_La, r_2, r_Li, h79_1029, s_40, s_0, ci_0, ci_14, h80_1001, s_41, ci_m1, r_90, r_5, h60_10_10, r_49, h60_10_23, r_47, s_1, cl_1, r_52, cl_0, s_8, r_In, ci_1, ci_m9, h79_1055, h79_1004, h66_79, h67_79, enR, LG, LSt, LC, nlR, psR, TK, up_s, up_n, up_u, lt_nI, le_nI, eq_nI, true_and, and_true, if_true, if_false, Nat.zero_add, Nat.add_zero, nI_add, ↓reduceIte, Nat.reduceAdd, Nat.reduceMul, Nat.reduceSub, Nat.reduceLT, Nat.reduceLeDiff, Nat.reduceEqDiff, Nat.not_lt_zero, Nat.lt_irrefl, decide_true, BEq.rfl, nm1, nm2, nm3, nm4, nm9, ngc, eq_self, List.length_cons, List.length_nil, m_isPlace hM, hi2, m_in, hm14]
        rw [hu p hp7]
        refine lp_mro1 hM hP hp (fun o1 ho1 => ?_) P 0 o (by omega) (fun q hq => absurd hq (by omega))
        exact lp_mro2 hM hb hp hm (fun o2 => okm (rl_inv (rl_tally H hx' hy' hxy'))) m 0 o1 (by omega) ho1
theorem op_drives {x y : Int32} (H : RL t z s v g w q ct cn cc di dr df li la sf sl a b e o B n P N W K O T J l Ds Dr Df Dp KB) : OPI (d + 20) 924 1054 [.int x, .int y] t z X (s, v, g, w, q, ct, cn, cc, di, dr, df, li, la, sf, sl) (a, b, e, o) := by
  obtain ⟨hb, hl, hq, hC, hs, hM, hS⟩ := rl_land H
  have hP := hb.1
  have hN := hb.2.1
  unfold OPI
  rcases ix x (n := 5) (by decide) with h | ⟨h1, h2, h3⟩ | ⟨r, hr, rfl⟩
  · rw [cw_wp]
    simp (disch := omega) only [W924, r_2, r_Li, h80_948, s_40, r_4, r_La, h60_9_12, h79_303, s_41, s_0, ci_m1, r_90, h60_9_0, ci_16, h79_955, r_5, h60_9_7, h79_701, ci_0, h60_0_2, r_49, h60_9_5, h79_5, h79_702, s_8, r_In, ci_1, r_52, h79_704, h79_953, h68_1, enR, LG, LSt, LC, nlR, psR, TK, up_s, up_n, up_u, lt_nI, le_nI, eq_nI, true_and, and_true, if_true, if_false, Nat.zero_add, Nat.add_zero, nI_add, ↓reduceIte, Nat.reduceAdd, Nat.reduceMul, Nat.reduceSub, Nat.reduceLT, Nat.reduceLeDiff, Nat.reduceEqDiff, Nat.not_lt_zero, Nat.lt_irrefl, decide_true, BEq.rfl, nm1, nm2, nm3, nm4, nm9, ngc, eq_self, List.length_cons, List.length_nil, c_isRow, h]
    refine okc ?_
    rw [cw_wp]
    simp (disch := omega) only [W1054, r_4, r_La, r_2, r_Li, h79_1053, r_5, s_43, r_90, s_0, ci_0, h60_10_10, r_49, h60_10_23, r_47, s_1, cl_1, r_52, cl_0, s_8, r_In, ci_1, h60_10_5, h79_1011, h79_1055, r_6, r_3, r_Ll, r_21, h79_1004, h64_69, h66_79, h67_79, W1053, h80_1007, s_40, h79_1029, s_41, ci_m1, ci_16, h79_1052, (fun d => cw_wp d 1053), enR, LG, LSt, LC, nlR, psR, TK, up_s, up_n, up_u, lt_nI, le_nI, eq_nI, true_and, and_true, if_true, if_false, Nat.zero_add, Nat.add_zero, nI_add, ↓reduceIte, Nat.reduceAdd, Nat.reduceMul, Nat.reduceSub, Nat.reduceLT, Nat.reduceLeDiff, Nat.reduceEqDiff, Nat.not_lt_zero, Nat.lt_irrefl, decide_true, BEq.rfl, nm1, nm2, nm3, nm4, nm9, ngc, eq_self, List.length_cons, List.length_nil, m_isRow, h]
    exact okm (rl_inv (rl_t H))
  · rw [cw_wp]
    simp (disch := omega) only [W924, r_2, r_Li, h80_948, s_40, r_4, r_La, h60_9_12, h79_303, s_41, s_0, ci_m1, r_90, h60_9_0, ci_16, h79_955, r_5, h60_9_7, h79_701, ci_0, h60_0_2, r_49, h60_9_5, h79_5, h79_702, s_8, r_In, ci_1, r_52, h79_704, h79_953, h68_1, enR, LG, LSt, LC, nlR, psR, TK, up_s, up_n, up_u, lt_nI, le_nI, eq_nI, true_and, and_true, if_true, if_false, Nat.zero_add, Nat.add_zero, nI_add, ↓reduceIte, Nat.reduceAdd, Nat.reduceMul, Nat.reduceSub, Nat.reduceLT, Nat.reduceLeDiff, Nat.reduceEqDiff, Nat.not_lt_zero, Nat.lt_irrefl, decide_true, BEq.rfl, nm1, nm2, nm3, nm4, nm9, ngc, eq_self, List.length_cons, List.length_nil, c_isRow, h1, h2]
    refine okc ?_
    rw [cw_wp]
    simp (disch := omega) only [W1054, r_4, r_La, r_2, r_Li, h79_1053, r_5, s_43, r_90, s_0, ci_0, h60_10_10, r_49, h60_10_23, r_47, s_1, cl_1, r_52, cl_0, s_8, r_In, ci_1, h60_10_5, h79_1011, h79_1055, r_6, r_3, r_Ll, r_21, h79_1004, h64_69, h66_79, h67_79, W1053, h80_1007, s_40, h79_1029, s_41, ci_m1, ci_16, h79_1052, (fun d => cw_wp d 1053), enR, LG, LSt, LC, nlR, psR, TK, up_s, up_n, up_u, lt_nI, le_nI, eq_nI, true_and, and_true, if_true, if_false, Nat.zero_add, Nat.add_zero, nI_add, ↓reduceIte, Nat.reduceAdd, Nat.reduceMul, Nat.reduceSub, Nat.reduceLT, Nat.reduceLeDiff, Nat.reduceEqDiff, Nat.not_lt_zero, Nat.lt_irrefl, decide_true, BEq.rfl, nm1, nm2, nm3, nm4, nm9, ngc, eq_self, List.length_cons, List.length_nil, m_isRow, h1, h3]
    exact okm (rl_inv (rl_t H))
  have hr6 : r < 6 := by omega
  have hr5 : ¬ 5 < r := by omega
  rcases ixN y (show P ≤ 80 by omega) with h | ⟨h1, h2, h3⟩ | ⟨p, hp, rfl⟩
  · rw [cw_wp]
    simp (disch := omega) only [W924, r_2, r_Li, h80_948, s_40, r_4, r_La, h60_9_12, h79_303, s_41, s_0, ci_m1, r_90, h60_9_0, ci_16, h79_955, r_5, h60_9_7, h79_701, ci_0, h60_0_2, r_49, h60_9_5, h79_5, h79_702, s_8, r_In, ci_1, r_52, h79_704, h79_953, h68_1, enR, LG, LSt, LC, nlR, psR, TK, up_s, up_n, up_u, lt_nI, le_nI, eq_nI, true_and, and_true, if_true, if_false, Nat.zero_add, Nat.add_zero, nI_add, ↓reduceIte, Nat.reduceAdd, Nat.reduceMul, Nat.reduceSub, Nat.reduceLT, Nat.reduceLeDiff, Nat.reduceEqDiff, Nat.not_lt_zero, Nat.lt_irrefl, decide_true, BEq.rfl, nm1, nm2, nm3, nm4, nm9, ngc, eq_self, List.length_cons, List.length_nil, c_isRow, hr6, hq, c_hasPlace hl hC, h]
    refine okc ?_
    rw [cw_wp]
    simp (disch := omega) only [W1054, r_4, r_La, r_2, r_Li, h79_1053, r_5, s_43, r_90, s_0, ci_0, h60_10_10, r_49, h60_10_23, r_47, s_1, cl_1, r_52, cl_0, s_8, r_In, ci_1, h60_10_5, h79_1011, h79_1055, r_6, r_3, r_Ll, r_21, h79_1004, h64_69, h66_79, h67_79, W1053, h80_1007, s_40, h79_1029, s_41, ci_m1, ci_16, h79_1052, (fun d => cw_wp d 1053), enR, LG, LSt, LC, nlR, psR, TK, up_s, up_n, up_u, lt_nI, le_nI, eq_nI, true_and, and_true, if_true, if_false, Nat.zero_add, Nat.add_zero, nI_add, ↓reduceIte, Nat.reduceAdd, Nat.reduceMul, Nat.reduceSub, Nat.reduceLT, Nat.reduceLeDiff, Nat.reduceEqDiff, Nat.not_lt_zero, Nat.lt_irrefl, decide_true, BEq.rfl, nm1, nm2, nm3, nm4, nm9, ngc, eq_self, List.length_cons, List.length_nil, m_isRow, hr5, m_isPlace hM, h]
    exact okm (rl_inv (rl_t H))
  · rw [cw_wp]
    simp (disch := omega) only [W924, r_2, r_Li, h80_948, s_40, r_4, r_La, h60_9_12, h79_303, s_41, s_0, ci_m1, r_90, h60_9_0, ci_16, h79_955, r_5, h60_9_7, h79_701, ci_0, h60_0_2, r_49, h60_9_5, h79_5, h79_702, s_8, r_In, ci_1, r_52, h79_704, h79_953, h68_1, enR, LG, LSt, LC, nlR, psR, TK, up_s, up_n, up_u, lt_nI, le_nI, eq_nI, true_and, and_true, if_true, if_false, Nat.zero_add, Nat.add_zero, nI_add, ↓reduceIte, Nat.reduceAdd, Nat.reduceMul, Nat.reduceSub, Nat.reduceLT, Nat.reduceLeDiff, Nat.reduceEqDiff, Nat.not_lt_zero, Nat.lt_irrefl, decide_true, BEq.rfl, nm1, nm2, nm3, nm4, nm9, ngc, eq_self, List.length_cons, List.length_nil, c_isRow, hr6, hq, c_hasPlace hl hC, h1, h2]
    refine okc ?_
    rw [cw_wp]
    simp (disch := omega) only [W1054, r_4, r_La, r_2, r_Li, h79_1053, r_5, s_43, r_90, s_0, ci_0, h60_10_10, r_49, h60_10_23, r_47, s_1, cl_1, r_52, cl_0, s_8, r_In, ci_1, h60_10_5, h79_1011, h79_1055, r_6, r_3, r_Ll, r_21, h79_1004, h64_69, h66_79, h67_79, W1053, h80_1007, s_40, h79_1029, s_41, ci_m1, ci_16, h79_1052, (fun d => cw_wp d 1053), enR, LG, LSt, LC, nlR, psR, TK, up_s, up_n, up_u, lt_nI, le_nI, eq_nI, true_and, and_true, if_true, if_false, Nat.zero_add, Nat.add_zero, nI_add, ↓reduceIte, Nat.reduceAdd, Nat.reduceMul, Nat.reduceSub, Nat.reduceLT, Nat.reduceLeDiff, Nat.reduceEqDiff, Nat.not_lt_zero, Nat.lt_irrefl, decide_true, BEq.rfl, nm1, nm2, nm3, nm4, nm9, ngc, eq_self, List.length_cons, List.length_nil, m_isRow, hr5, m_isPlace hM, h1, h3]
    exact okm (rl_inv (rl_t H))
  have hp2 := nsub (show P < 65536 by omega) hp
  rcases rl_r H hr6 with ⟨q1, q2, q3, q4, q5⟩ | ⟨q1, q2, q3, q4, q5, q6⟩
  · rw [cw_wp]
    simp (disch := omega) only [W924, r_2, r_Li, h80_948, s_40, r_4, r_La, h60_9_12, h79_303, s_41, s_0, ci_m1, r_90, h60_9_0, ci_16, h79_955, r_5, h60_9_7, h79_701, ci_0, h60_0_2, r_49, h60_9_5, h79_5, h79_702, s_8, r_In, ci_1, r_52, h79_704, h79_953, h68_1, enR, LG, LSt, LC, nlR, psR, TK, up_s, up_n, up_u, lt_nI, le_nI, eq_nI, true_and, and_true, if_true, if_false, Nat.zero_add, Nat.add_zero, nI_add, ↓reduceIte, Nat.reduceAdd, Nat.reduceMul, Nat.reduceSub, Nat.reduceLT, Nat.reduceLeDiff, Nat.reduceEqDiff, Nat.not_lt_zero, Nat.lt_irrefl, decide_true, BEq.rfl, nm1, nm2, nm3, nm4, nm9, ngc, eq_self, List.length_cons, List.length_nil, c_isRow, hr6, hq, c_hasPlace hl hC, hp, c_felt_no (show r < 10 by omega) q2]
    refine okc ?_
    rw [cw_wp]
    simp (disch := omega) only [W1054, r_4, r_La, r_2, r_Li, h79_1053, r_5, s_43, r_90, s_0, ci_0, h60_10_10, r_49, h60_10_23, r_47, s_1, cl_1, r_52, cl_0, s_8, r_In, ci_1, h60_10_5, h79_1011, h79_1055, r_6, r_3, r_Ll, r_21, h79_1004, h64_69, h66_79, h67_79, W1053, h80_1007, s_40, h79_1029, s_41, ci_m1, ci_16, h79_1052, (fun d => cw_wp d 1053), enR, LG, LSt, LC, nlR, psR, TK, up_s, up_n, up_u, lt_nI, le_nI, eq_nI, true_and, and_true, if_true, if_false, Nat.zero_add, Nat.add_zero, nI_add, ↓reduceIte, Nat.reduceAdd, Nat.reduceMul, Nat.reduceSub, Nat.reduceLT, Nat.reduceLeDiff, Nat.reduceEqDiff, Nat.not_lt_zero, Nat.lt_irrefl, decide_true, BEq.rfl, nm1, nm2, nm3, nm4, nm9, ngc, eq_self, List.length_cons, List.length_nil, m_isRow, hr5, m_isPlace hM, hp2, m_felt_no hr6 q5]
    exact okm (rl_inv (rl_found (k := 1) (by decide) H))
  by_cases hw : 16 < n r
  · rw [cw_wp]
    simp (disch := omega) only [W924, r_2, r_Li, h80_948, s_40, r_4, r_La, h60_9_12, h79_303, s_41, s_0, ci_m1, r_90, h60_9_0, ci_16, h79_955, r_5, h60_9_7, h79_701, ci_0, h60_0_2, r_49, h60_9_5, h79_5, h79_702, s_8, r_In, ci_1, r_52, h79_704, h79_953, h68_1, enR, LG, LSt, LC, nlR, psR, TK, up_s, up_n, up_u, lt_nI, le_nI, eq_nI, true_and, and_true, if_true, if_false, Nat.zero_add, Nat.add_zero, nI_add, ↓reduceIte, Nat.reduceAdd, Nat.reduceMul, Nat.reduceSub, Nat.reduceLT, Nat.reduceLeDiff, Nat.reduceEqDiff, Nat.not_lt_zero, Nat.lt_irrefl, decide_true, BEq.rfl, nm1, nm2, nm3, nm4, nm9, ngc, eq_self, List.length_cons, List.length_nil, c_isRow, hr6, hq, c_hasPlace hl hC, hp, c_felt_size (show r < 10 by omega) q2 q3 (show n r ≤ 80 by omega) hw]
    refine okc ?_
    rw [cw_wp]
    simp (disch := omega) only [W1054, r_4, r_La, r_2, r_Li, h79_1053, r_5, s_43, r_90, s_0, ci_0, h60_10_10, r_49, h60_10_23, r_47, s_1, cl_1, r_52, cl_0, s_8, r_In, ci_1, h60_10_5, h79_1011, h79_1055, r_6, r_3, r_Ll, r_21, h79_1004, h64_69, h66_79, h67_79, W1053, h80_1007, s_40, h79_1029, s_41, ci_m1, ci_16, h79_1052, (fun d => cw_wp d 1053), enR, LG, LSt, LC, nlR, psR, TK, up_s, up_n, up_u, lt_nI, le_nI, eq_nI, true_and, and_true, if_true, if_false, Nat.zero_add, Nat.add_zero, nI_add, ↓reduceIte, Nat.reduceAdd, Nat.reduceMul, Nat.reduceSub, Nat.reduceLT, Nat.reduceLeDiff, Nat.reduceEqDiff, Nat.not_lt_zero, Nat.lt_irrefl, decide_true, BEq.rfl, nm1, nm2, nm3, nm4, nm9, ngc, eq_self, List.length_cons, List.length_nil, m_isRow, hr5, m_isPlace hM, hp2, m_felt_size hr6 q5 q4 hw]
    exact okm (rl_inv (rl_found (k := 5) (by decide) H))
  have hw2 : n r ≤ 16 := by omega
  have hcap : n r ≤ cap r := by rw [show cap r = 40 from if_pos hr6]; exact q4
  cases hf : felt (cc r) (n r) with
  | false =>
    rw [cw_wp]
    simp (disch := omega) only [W924, r_2, r_Li, h80_948, s_40, r_4, r_La, h60_9_12, h79_303, s_41, s_0, ci_m1, r_90, h60_9_0, ci_16, h79_955, r_5, h60_9_7, h79_701, ci_0, h60_0_2, r_49, h60_9_5, h79_5, h79_702, s_8, r_In, ci_1, r_52, h79_704, h79_953, h68_1, enR, LG, LSt, LC, nlR, psR, TK, up_s, up_n, up_u, lt_nI, le_nI, eq_nI, true_and, and_true, if_true, if_false, Nat.zero_add, Nat.add_zero, nI_add, ↓reduceIte, Nat.reduceAdd, Nat.reduceMul, Nat.reduceSub, Nat.reduceLT, Nat.reduceLeDiff, Nat.reduceEqDiff, Nat.not_lt_zero, Nat.lt_irrefl, decide_true, BEq.rfl, nm1, nm2, nm3, nm4, nm9, ngc, eq_self, List.length_cons, List.length_nil, c_isRow, hr6, hq, c_hasPlace hl hC, hp, c_felt_unlike (show r < 10 by omega) q2 q3 hcap hw2 (by omega) hf]
    refine okc ?_
    rw [cw_wp]
    simp (disch := omega) only [W1054, r_4, r_La, r_2, r_Li, h79_1053, r_5, s_43, r_90, s_0, ci_0, h60_10_10, r_49, h60_10_23, r_47, s_1, cl_1, r_52, cl_0, s_8, r_In, ci_1, h60_10_5, h79_1011, h79_1055, r_6, r_3, r_Ll, r_21, h79_1004, h64_69, h66_79, h67_79, W1053, h80_1007, s_40, h79_1029, s_41, ci_m1, ci_16, h79_1052, (fun d => cw_wp d 1053), enR, LG, LSt, LC, nlR, psR, TK, up_s, up_n, up_u, lt_nI, le_nI, eq_nI, true_and, and_true, if_true, if_false, Nat.zero_add, Nat.add_zero, nI_add, ↓reduceIte, Nat.reduceAdd, Nat.reduceMul, Nat.reduceSub, Nat.reduceLT, Nat.reduceLeDiff, Nat.reduceEqDiff, Nat.not_lt_zero, Nat.lt_irrefl, decide_true, BEq.rfl, nm1, nm2, nm3, nm4, nm9, ngc, eq_self, List.length_cons, List.length_nil, m_isRow, hr5, m_isPlace hM, hp2, m_felt_unlike hr6 q5 q4 hw2 (by omega) q6 hf]
    exact okm (rl_inv (rl_found (k := 3) (by decide) H))
  | true =>
    obtain ⟨R, hR⟩ := felt_ok hf
    have hR7 : ∀ k, k < n r → e 70 (40 * r + k) = nI (R k) ∧ R k < 10 := fun k hk => ⟨by rw [q6 k hk]; exact (hR k hk).1, (hR k hk).2⟩
    have hr10 : r < 10 := by omega
    have hSL := sen_SL hb hS
    have hp7 : p < 7 := by omega
    obtain ⟨x, y, h3, h4, hx, hy, hxy⟩ := iq34 H
    rw [cw_wp]
    simp (disch := omega) only [W924, r_2, r_Li, h80_948, s_40, r_4, r_La, h60_9_12, h79_303, s_41, s_0, ci_m1, r_90, h60_9_0, ci_16, h79_955, r_5, h60_9_7, h79_701, ci_0, h60_0_2, r_49, h60_9_5, h79_5, h79_702, s_8, r_In, ci_1, r_52, h79_704, h79_953, h68_1, enR, LG, LSt, LC, nlR, psR, TK, up_s, up_n, up_u, lt_nI, le_nI, eq_nI, true_and, and_true, if_true, if_false, Nat.zero_add, Nat.add_zero, nI_add, ↓reduceIte, Nat.reduceAdd, Nat.reduceMul, Nat.reduceSub, Nat.reduceLT, Nat.reduceLeDiff, Nat.reduceEqDiff, Nat.not_lt_zero, Nat.lt_irrefl, decide_true, BEq.rfl, nm1, nm2, nm3, nm4, nm9, ngc, eq_self, List.length_cons, List.length_nil, c_isRow, hr6, hq, c_hasPlace hl hC, hp, c_felt_ok (show r < 10 by omega) q2 q3 hcap hw2 (by omega) hf, c_tstart hx h3 hp7]
    have eq34 : va_up (va_up q 3 x) 4 y = q := by rw [up_id h3, up_id h4]
    have := lp_cdr (d := d + 15) (z := z) (X := X) (M := (a, b, e, o)) (s := s) (v := v) (g := g) (ct := ct) (cn := cn) (cc := cc) (di := di) (dr := dr) (df := df) (sf := sf) (sl := sl) (Q := OKc (d + 20) 1054 [.int (nI r), .int (nI p)] t X (a, b, e, o)) (r := r) (m := n r) (p := p) (x3 := nI 0) hl hq hC hb hS hr6 q3 hw2 hR (fun w' x' y' hx' hy' hxy' hu => ?_) (n r) 0 (va_up w x (vp_updL (fil (w x) 0 7 (lN 0)) p (lN 1))) x y (by omega) hx hy hxy (by rw [up_s]; exact ag_start hp7 _)
    · rw [eq34] at this
      exact this
    · refine okc ?_
      rw [cw_wp]
      simp (disch := omega) only [W1054, r_4, r_La, r_2, r_Li, h79_1053, r_5, s_43, r_90, s_0, ci_0, h60_10_10, r_49, h60_10_23, r_47, s_1, cl_1, r_52, cl_0, s_8, r_In, ci_1, h60_10_5, h79_1011, h79_1055, r_6, r_3, r_Ll, r_21, h79_1004, h64_69, h66_79, h67_79, W1053, h80_1007, s_40, h79_1029, s_41, ci_m1, ci_16, h79_1052, (fun d => cw_wp d 1053), enR, LG, LSt, LC, nlR, psR, TK, up_s, up_n, up_u, lt_nI, le_nI, eq_nI, true_and, and_true, if_true, if_false, Nat.zero_add, Nat.add_zero, nI_add, ↓reduceIte, Nat.reduceAdd, Nat.reduceMul, Nat.reduceSub, Nat.reduceLT, Nat.reduceLeDiff, Nat.reduceEqDiff, Nat.not_lt_zero, Nat.lt_irrefl, decide_true, BEq.rfl, nm1, nm2, nm3, nm4, nm9, ngc, eq_self, List.length_cons, List.length_nil, m_isRow, hr5, m_isPlace hM, hp2, m_felt_ok hr6 q5 q4 hw2 (by omega) q6 hf]
      have hz := fun q hq => uit_z (c := cdr (fe W K J) R) (p := p) (q := q) hb hp hq (n r)
      have hsum : foldu (suF (w' x')) 0 7 (lN 0) = foldu (suF (uit (cdr (fe W K J) R) K O T P N p (n r))) 0 P (lN 0) := by
        have := su_eq (m := P) (j := 7 - P) (u := w' x') (fun q hq => hu q (by omega)) hz (fun q hq => hu q (by omega))
        rw [show P + (7 - P) = 7 by omega] at this
        exact this
      rw [hsum]
      refine lp_mdr1 hM hP hp (fun o1 ho1 => ?_) P 0 o (by omega) (fun q hq => absurd hq (by omega))
      exact lp_mdr2 hM hb hr6 q4 q5 hR7 (fun o2 => okm (rl_inv (rl_tally H hx' hy' hxy'))) (n r) 0 o1 (by omega) ho1
end

/-! loss, best -/
def lossF (u : Nat → Nat → Bool) (p c : Nat) : Nat := c + cnt (u p) p
def lossN (u : Nat → Nat → Bool) (P : Nat) : Nat := foldu (lossF u) 0 P 0
theorem lsN_succ (u : Nat → Nat → Bool) (p : Nat) : lossN u (p + 1) = lossN u p + cnt (u p) p := by
  unfold lossN
  rw [foldu_last, Nat.zero_add]
  rfl
theorem lsN_congr {u u' : Nat → Nat → Bool} : ∀ P, (∀ p q, p < P → q < p → u p q = u' p q) → lossN u P = lossN u' P := by
  intro P
  induction P with
  | zero => intro _; rfl
  | succ P ih =>
    intro h
    rw [lsN_succ, lsN_succ, ih (fun p q h1 h2 => h p q (by omega) h2), cnt_congr (fun q hq => h P q (by omega) hq)]
theorem lsN_le (u : Nat → Nat → Bool) : ∀ P, P ≤ 7 → lossN u P ≤ 7 * P := by
  intro P
  induction P with
  | zero => intro _; exact Nat.le_refl _
  | succ P ih =>
    intro h
    rw [lsN_succ]
    have := ih (by omega)
    have := cnt_le (u P) P
    omega
/-- pairs told apart in L0 that are alike in L1 -/
def LSSu (L0 L1 : Nat → Nat → Nat) (P : Nat) (u : Nat → Nat → Bool) : Prop := ∀ p q, p < P → q < p → (u p q = true ↔ ¬ alk L0 q p ∧ alk L1 q p)
def LSS (L0 L1 : Nat → Nat → Nat) (P n : Nat) : Prop := ∃ u, LSSu L0 L1 P u ∧ n = lossN u P
theorem ls_ex (L0 L1 : Nat → Nat → Nat) (P : Nat) : ∃ n, LSS L0 L1 P n :=
  ⟨_, fun p q => @decide (¬ alk L0 q p ∧ alk L1 q p) (Classical.propDecidable _), fun p q _ _ => by simp only [decide_eq_true_eq], rfl⟩
theorem ls_eq {L0 L1 : Nat → Nat → Nat} {P n : Nat} {u : Nat → Nat → Bool} (h : LSS L0 L1 P n) (hu : LSSu L0 L1 P u) : lossN u P = n := by
  obtain ⟨u', h1, rfl⟩ := h
  refine lsN_congr P (fun p q hp hq => ?_)
  have h2 := h1 p q hp hq
  have h3 := hu p q hp hq
  cases e1 : u p q <;> cases e2 : u' p q
  · rfl
  · exact absurd (h3.mpr (h2.mp e2)) (by rw [e1]; decide)
  · exact absurd (h2.mpr (h3.mp e1)) (by rw [e2]; decide)
  · rfl
theorem ls_le {L0 L1 : Nat → Nat → Nat} {P n : Nat} (h : LSS L0 L1 P n) (hP : P ≤ 7) : n ≤ 49 := by
  obtain ⟨u', h1, rfl⟩ := h
  have := lsN_le u' P hP
  omega
theorem gr_iff {L : Nat → Nat → Nat} {γ : Nat → Int32} {P p q : Nat} (h : GR L γ P) (hP : P ≤ 7) (hp : p < P) (hq : q < P) : γ p = γ q ↔ alk L q p := by
  obtain ⟨r, a1, a2, a3, a4⟩ := h p hp
  obtain ⟨r', b1, b2, b3, b4⟩ := h q hq
  rw [a2, b2, nI_eq (by omega) (by omega)]
  constructor
  · rintro rfl
    exact alk_t (alk_s b3) a3
  · intro hqp
    have h1 : ¬ r < r' := fun hh => b4 r hh (alk_t a3 (alk_s hqp))
    have h2 : ¬ r' < r := fun hh => a4 r' hh (alk_t b3 hqp)
    omega
theorem fe_pave {W i : Nat} {K J : Nat → Nat} (k : Nat) : fe W (va_up K i 1) J k = if k = i then 0 else fe W K J k := by
  by_cases h : k = i
  · subst h
    rw [if_pos rfl]
    unfold fe
    rw [up_s, if_neg (by decide), if_pos rfl]
  · rw [if_neg h]
    unfold fe
    rw [up_n _ _ h]
theorem lds_pave {N i : Nat} {K O T F : Nat → Nat} (h : K i = 0 ∨ K i = 2) : lds N F (va_up K i 1) O T = lds N F K O T := by
  funext p v
  unfold lds
  refine foldu_congr N 0 0 (fun j c _ _ => ?_)
  show ldsF F (va_up K i 1) O T p v j c = ldsF F K O T p v j c
  unfold ldsF
  rw [ldm_pave h]
theorem mln_pave {a T' T : Nat → Int32} {P N W i : Nat} {K O T0 J : Nat → Nat} (h : MLn a T P N W K O T0 J) (hT : T' = upd T (4 * i) (nI 1)) : MLn a T' P N W (va_up K i 1) O T0 J := by
  subst hT
  obtain ⟨h1, h2, h3, h4⟩ := h
  refine ⟨h1, h2, h3, fun j hj => ?_⟩
  obtain ⟨c1, c2, c3, c4⟩ := h4 j hj
  rw [ud_n _ _ (show 4 * j + 1 ≠ 4 * i by omega), ud_n _ _ (show 4 * j + 2 ≠ 4 * i by omega), ud_n _ _ (show 4 * j + 3 ≠ 4 * i by omega)]
  refine ⟨?_, c2, c3, c4⟩
  by_cases h : j = i
  · subst h; rw [up_s, ud_s]
  · rw [up_n _ _ h, ud_n _ _ (by omega)]; exact c1
theorem lb_pave {P N W i : Nat} {K O T J : Nat → Nat} (hb : LB P N W K O T J) : LB P N W (va_up K i 1) O T J := ⟨hb.1, hb.2.1, hb.2.2.1, hb.2.2.2.1, fun j hj => by
  obtain ⟨c1, c2, c3, c4⟩ := hb.2.2.2.2 j hj
  refine ⟨?_, c2, c3, c4⟩
  by_cases h : j = i
  · subst h; rw [up_s]; decide
  · rw [up_n _ _ h]; exact c1⟩
theorem ud_back {f : Nat → Int32} {k : Nat} {x : Int32} : upd (upd f k x) k (f k) = f := by
  funext j
  by_cases h : j = k
  · subst h; rw [ud_s]
  · rw [ud_n _ _ h, ud_n _ _ h]
/-- the best so far -/
def bsN (ok : Nat → Bool) (ℓ : Nat → Nat) : Nat → Option (Nat × Nat)
  | 0 => none
  | i + 1 => if ok i = true then (match bsN ok ℓ i with
      | none => some (i, ℓ i)
      | some (b, n) => if ℓ i < n then some (i, ℓ i) else some (b, n)) else bsN ok ℓ i
def bsA : Option (Nat × Nat) → Int32
  | none => -9
  | some (b, _) => nI b
def bsB (x : Int32) : Option (Nat × Nat) → Int32
  | none => x
  | some (_, n) => nI n
theorem bsN_lt {ok : Nat → Bool} {ℓ : Nat → Nat} {b n : Nat} (h : ∀ k, ℓ k ≤ 49) : ∀ i, bsN ok ℓ i = some (b, n) → b < i ∧ n ≤ 49 := by
  intro i
  induction i with
  | zero => intro hh; exact absurd hh (by simp [bsN])
  | succ i ih =>
    intro hh
    unfold bsN at hh
    split at hh
    · split at hh
      · have h3 := Prod.mk.inj (Option.some.inj hh); have h4 := h3.1; exact ⟨by omega, by rw [← h3.2]; exact h i⟩
      · rename_i b' n' e1
        split at hh
        · have h3 := Prod.mk.inj (Option.some.inj hh); have h4 := h3.1; exact ⟨by omega, by rw [← h3.2]; exact h i⟩
        · have h3 := Prod.mk.inj (Option.some.inj hh)
          have h4 := h3.1
          have h5 := h3.2
          have := ih e1
          exact ⟨by omega, by omega⟩
    · have := ih hh
      exact ⟨by omega, this.2⟩
section
variable {t d : Nat} {z : AZ} {X : Nat × (Nat → Int32)} {C : CT} {M : MT} {s : Nat → Int32} {v : Nat → Int64} {g : Nat → Nat → Int32} {w : Nat → Nat → Int64} {q : Nat → Nat} {ct : Nat → Int32} {cn : Nat → Int32} {cc : Nat → Nat → Int32} {di : Nat → Nat → Int32} {dr : Nat → Nat → Int32} {df : Nat → Nat → Int32} {li : Nat → Nat → Int32} {la : Nat → Nat → Nat → Int32} {sf : Nat → Nat → Int32} {sl : Nat → Nat → Int32} {a : Nat → Int32} {b : Nat → Int64} {e : Nat → Nat → Int32} {o : Nat → Nat → Int64} {B : Nat → Bool} {n : Nat → Nat} {P N W : Nat} {K O T J : Nat → Nat} {l : Nat} {Ds : Nat → Nat} {Dr Df Dp : Nat → Nat → Nat} {KB : Nat → Bool}
variable {Q : Option Value → AZ → AH → Prop}
theorem lp_la59 {i p c : Nat} (hp : p < P) (hP : P ≤ 7) : ∀ (j q0 : Nat), q0 + j = p → Wp (d + 5) 959 59 [some (.ref 0), some (.int (nI i)), some (.int (nI (c + cnt (fun q => !decide (g 26 p = g 26 q) && decide (g 27 p = g 27 q)) q0))), some (.int (nI p)), some (.int (nI q0))] [] z (Hp X (s, v, g, w, q, ct, cn, cc, di, dr, df, li, la, sf, sl) M) Q = Wp (d + 5) 959 45 [some (.ref 0), some (.int (nI i)), some (.int (nI (c + cnt (fun q => !decide (g 26 p = g 26 q) && decide (g 27 p = g 27 q)) p))), some (.int (nI (p + 1)))] [] z (Hp X (s, v, g, w, q, ct, cn, cc, di, dr, df, li, la, sf, sl) M) Q := by
  intro j
  induction j with
  | zero =>
    intro q0 hj
    have hj : q0 = p := by omega
    subst hj
    rw [W959_59]
    simp (disch := omega) only [W959, r_4, r_La, h60_9_6, h60_9_12, h60_9_14, r_2, r_Li, h79_601, h60_9_9, h60_3_4, h60_4_1, h79_402, s_0, ci_0, r_5, r_49, h60_4_0, r_46, r_47, s_8, r_In, ci_1, r_52, r_90, h64_26, h64_27, enR, LG, LSt, LC, nlR, psR, TK, up_s, up_n, up_u, lt_nI, le_nI, eq_nI, true_and, and_true, if_true, if_false, Nat.zero_add, Nat.add_zero, nI_add, ↓reduceIte, Nat.reduceAdd, Nat.reduceMul, Nat.reduceSub, Nat.reduceLT, Nat.reduceLeDiff, Nat.reduceEqDiff, Nat.not_lt_zero, Nat.lt_irrefl, decide_true, BEq.rfl, nm1, nm2, nm3, nm4, nm9, ngc, eq_self, List.length_cons, List.length_nil]
  | succ j ih =>
    intro q0 hj
    have h1 : q0 < p := by omega
    have h7 : q0 < 7 := by omega
    have h77 : p < 7 := by omega
    rw [← ih (q0 + 1) (by omega), W959_59, cnt_succ]
    by_cases e1 : g 26 p = g 26 q0
    · rw [if_neg (by simp [e1])]
      simp (disch := omega) only [W959, r_4, r_La, h60_9_6, h60_9_12, h60_9_14, r_2, r_Li, h79_601, h60_9_9, h60_3_4, h60_4_1, h79_402, s_0, ci_0, r_5, r_49, h60_4_0, r_46, r_47, s_8, r_In, ci_1, r_52, r_90, h64_26, h64_27, enR, LG, LSt, LC, nlR, psR, TK, up_s, up_n, up_u, lt_nI, le_nI, eq_nI, true_and, and_true, if_true, if_false, Nat.zero_add, Nat.add_zero, nI_add, ↓reduceIte, Nat.reduceAdd, Nat.reduceMul, Nat.reduceSub, Nat.reduceLT, Nat.reduceLeDiff, Nat.reduceEqDiff, Nat.not_lt_zero, Nat.lt_irrefl, decide_true, BEq.rfl, nm1, nm2, nm3, nm4, nm9, ngc, eq_self, List.length_cons, List.length_nil, h1, h7, h77, e1]
    · by_cases e2 : g 27 p = g 27 q0
      · rw [if_pos (by simp [e1, e2])]
        simp (disch := omega) only [W959, r_4, r_La, h60_9_6, h60_9_12, h60_9_14, r_2, r_Li, h79_601, h60_9_9, h60_3_4, h60_4_1, h79_402, s_0, ci_0, r_5, r_49, h60_4_0, r_46, r_47, s_8, r_In, ci_1, r_52, r_90, h64_26, h64_27, enR, LG, LSt, LC, nlR, psR, TK, up_s, up_n, up_u, lt_nI, le_nI, eq_nI, true_and, and_true, if_true, if_false, Nat.zero_add, Nat.add_zero, nI_add, ↓reduceIte, Nat.reduceAdd, Nat.reduceMul, Nat.reduceSub, Nat.reduceLT, Nat.reduceLeDiff, Nat.reduceEqDiff, Nat.not_lt_zero, Nat.lt_irrefl, decide_true, BEq.rfl, nm1, nm2, nm3, nm4, nm9, ngc, eq_self, List.length_cons, List.length_nil, h1, h7, h77, e1, e2, Nat.add_assoc]
      · rw [if_neg (by simp [e2])]
        simp (disch := omega) only [W959, r_4, r_La, h60_9_6, h60_9_12, h60_9_14, r_2, r_Li, h79_601, h60_9_9, h60_3_4, h60_4_1, h79_402, s_0, ci_0, r_5, r_49, h60_4_0, r_46, r_47, s_8, r_In, ci_1, r_52, r_90, h64_26, h64_27, enR, LG, LSt, LC, nlR, psR, TK, up_s, up_n, up_u, lt_nI, le_nI, eq_nI, true_and, and_true, if_true, if_false, Nat.zero_add, Nat.add_zero, nI_add, ↓reduceIte, Nat.reduceAdd, Nat.reduceMul, Nat.reduceSub, Nat.reduceLT, Nat.reduceLeDiff, Nat.reduceEqDiff, Nat.not_lt_zero, Nat.lt_irrefl, decide_true, BEq.rfl, nm1, nm2, nm3, nm4, nm9, ngc, eq_self, List.length_cons, List.length_nil, h1, h7, h77, e1, e2]
theorem lp_la45 {i : Nat} (hl : l < 2) (hq : q 0 = l) (hC : CLn (li l) (la l) P N K O T J) (hP : P ≤ 7) : ∀ (j p : Nat), p + j = P → Wp (d + 5) 959 45 [some (.ref 0), some (.int (nI i)), some (.int (nI (lossN (fun p q => !decide (g 26 p = g 26 q) && decide (g 27 p = g 27 q)) p))), some (.int (nI p))] [] z (Hp X (s, v, g, w, q, ct, cn, cc, di, dr, df, li, la, sf, sl) M) Q = Q (some (.int (nI (lossN (fun p q => !decide (g 26 p = g 26 q) && decide (g 27 p = g 27 q)) P)))) z (Hp X (s, v, g, w, q, ct, cn, cc, di, dr, df, li, la, sf, sl) M) := by
  have h0 := hC.1
  intro j
  induction j with
  | zero =>
    intro p hj
    have hj : p = P := by omega
    subst hj
    rw [W959_45]
    simp (disch := omega) only [W959, r_4, r_La, h60_9_6, h60_9_12, h60_9_14, r_2, r_Li, h79_601, h60_9_9, h60_3_4, h60_4_1, h79_402, s_0, ci_0, r_5, r_49, h60_4_0, r_46, r_47, s_8, r_In, ci_1, r_52, r_90, h64_26, h64_27, enR, LG, LSt, LC, nlR, psR, TK, up_s, up_n, up_u, lt_nI, le_nI, eq_nI, true_and, and_true, if_true, if_false, Nat.zero_add, Nat.add_zero, nI_add, ↓reduceIte, Nat.reduceAdd, Nat.reduceMul, Nat.reduceSub, Nat.reduceLT, Nat.reduceLeDiff, Nat.reduceEqDiff, Nat.not_lt_zero, Nat.lt_irrefl, decide_true, BEq.rfl, nm1, nm2, nm3, nm4, nm9, ngc, eq_self, List.length_cons, List.length_nil, hq, hl, h0]
  | succ j ih =>
    intro p hj
    have h1 : p < P := by omega
    rw [← ih (p + 1) (by omega), W959_45, lsN_succ]
    simp (disch := omega) only [W959, r_4, r_La, h60_9_6, h60_9_12, h60_9_14, r_2, r_Li, h79_601, h60_9_9, h60_3_4, h60_4_1, h79_402, s_0, ci_0, r_5, r_49, h60_4_0, r_46, r_47, s_8, r_In, ci_1, r_52, r_90, h64_26, h64_27, enR, LG, LSt, LC, nlR, psR, TK, up_s, up_n, up_u, lt_nI, le_nI, eq_nI, true_and, and_true, if_true, if_false, Nat.zero_add, Nat.add_zero, nI_add, ↓reduceIte, Nat.reduceAdd, Nat.reduceMul, Nat.reduceSub, Nat.reduceLT, Nat.reduceLeDiff, Nat.reduceEqDiff, Nat.not_lt_zero, Nat.lt_irrefl, decide_true, BEq.rfl, nm1, nm2, nm3, nm4, nm9, ngc, eq_self, List.length_cons, List.length_nil, hq, hl, h0, h1]
    exact lp_la59 h1 hP p 0 (by omega)
theorem c_lossAG {i n : Nat} {L0 : Nat → Nat → Nat} (hl : l < 2) (hq : q 0 = l) (hC : CLn (li l) (la l) P N K O T J) (hb : LB P N W K O T J) (h14 : s 14 = nI W) (hi : i < N) (hK : K i = 0 ∨ K i = 2) (hG : GR L0 (g 26) P) (hn : LSS L0 (lds N (fe W (va_up K i 1) J) K O T) P n)
    (hQ : ∀ (s' : Nat → Int32) (g' sf' sl' : Nat → Nat → Int32), FRs s s' → FRh27 g g' → sf' 0 = sf 0 → sl' 0 = sl 0 → Q (some (.int (nI n))) z (Hp X (s', v, g', w, q, ct, cn, cc, di, dr, df, li, la, sf', sl') M)) : Cw (d + 6) 959 [.ref 0, .int (nI i)] z (Hp X (s, v, g, w, q, ct, cn, cc, di, dr, df, li, la, sf, sl) M) Q := by
  have hP := hb.1
  have h0 := hC.1
  have hN := hb.2.1
  rw [cw_wp]
  simp (disch := omega) only [W959, r_4, r_La, h60_9_6, h60_9_12, h60_9_14, r_2, r_Li, h79_601, h60_9_9, h60_3_4, h60_4_1, h79_402, s_0, ci_0, r_5, r_49, h60_4_0, r_46, r_47, s_8, r_In, ci_1, r_52, r_90, h64_26, h64_27, enR, LG, LSt, LC, nlR, psR, TK, up_s, up_n, up_u, lt_nI, le_nI, eq_nI, true_and, and_true, if_true, if_false, Nat.zero_add, Nat.add_zero, nI_add, ↓reduceIte, Nat.reduceAdd, Nat.reduceMul, Nat.reduceSub, Nat.reduceLT, Nat.reduceLeDiff, Nat.reduceEqDiff, Nat.not_lt_zero, Nat.lt_irrefl, decide_true, BEq.rfl, nm1, nm2, nm3, nm4, nm9, ngc, eq_self, List.length_cons, List.length_nil, hq, h14]
  refine c_learn (c := 1) (F := fe W (va_up K i 1) J) hl hC hb (by decide) (fun k hk => ?_) (fun φ μ hSE => ?_)
  · rw [fe_pave]
    by_cases h : k = i
    · subst h; rw [if_pos rfl, if_pos rfl]
    · rw [if_neg h, if_neg (fun hh => h ((nI_eq (by omega) (by omega)).mp hh))]
  simp (disch := omega) only [W959, r_4, r_La, h60_9_6, h60_9_12, h60_9_14, r_2, r_Li, h79_601, h60_9_9, h60_3_4, h60_4_1, h79_402, s_0, ci_0, r_5, r_49, h60_4_0, r_46, r_47, s_8, r_In, ci_1, r_52, r_90, h64_26, h64_27, enR, LG, LSt, LC, nlR, psR, TK, up_s, up_n, up_u, lt_nI, le_nI, eq_nI, true_and, and_true, if_true, if_false, Nat.zero_add, Nat.add_zero, nI_add, ↓reduceIte, Nat.reduceAdd, Nat.reduceMul, Nat.reduceSub, Nat.reduceLT, Nat.reduceLeDiff, Nat.reduceEqDiff, Nat.not_lt_zero, Nat.lt_irrefl, decide_true, BEq.rfl, nm1, nm2, nm3, nm4, nm9, ngc, eq_self, List.length_cons, List.length_nil, hq, hl, h0]
  refine c_group_27 (cs := 1) (sl := va_up sl 1 μ) (by decide) (by rw [up_s]; exact sen_SL hb hSE) hP (fun s' g' f1 f2 f3 => ?_)
  simp (disch := omega) only [W959, r_4, r_La, h60_9_6, h60_9_12, h60_9_14, r_2, r_Li, h79_601, h60_9_9, h60_3_4, h60_4_1, h79_402, s_0, ci_0, r_5, r_49, h60_4_0, r_46, r_47, s_8, r_In, ci_1, r_52, r_90, h64_26, h64_27, enR, LG, LSt, LC, nlR, psR, TK, up_s, up_n, up_u, lt_nI, le_nI, eq_nI, true_and, and_true, if_true, if_false, Nat.zero_add, Nat.add_zero, nI_add, ↓reduceIte, Nat.reduceAdd, Nat.reduceMul, Nat.reduceSub, Nat.reduceLT, Nat.reduceLeDiff, Nat.reduceEqDiff, Nat.not_lt_zero, Nat.lt_irrefl, decide_true, BEq.rfl, nm1, nm2, nm3, nm4, nm9, ngc, eq_self, List.length_cons, List.length_nil]
  refine Eq.mpr (lp_la45 (g := g') hl hq hC hP P 0 (by omega)) ?_
  rw [ls_eq hn (fun p q hp hq => ?_)]
  · exact hQ s' g' _ _ f1 f2 (up_n _ _ (by decide)) (up_n _ _ (by decide))
  · rw [← gr_iff hG hP hp (show q < P by omega), ← gr_iff f3 hP hp (show q < P by omega), ← f2 26 (by decide) (by decide) (by decide) (by decide)]
    simp
end
/-! loss, best: the model -/
def FRf (e e' : Nat → Nat → Int32) : Prop := ∀ k, k ≠ 84 → k ≠ 85 → k ≠ 88 → e' k = e k
def FRx (e e' : Nat → Nat → Int32) : Prop := ∀ k, k ≠ 83 → k ≠ 84 → k ≠ 85 → k ≠ 88 → e' k = e k
def ALq (L : Nat → Nat → Nat) (p q : Nat) (x : Int32) : Prop := (alk L q p ∧ x = nI 1) ∨ (¬ alk L q p ∧ x = nI 0)
def ALk (L : Nat → Nat → Nat) (P : Nat) (x : Nat → Int32) : Prop := ∀ p q, p < P → q < p → ALq L p q (x (7 * p + q))
section
variable {t d : Nat} {z : AZ} {X : Nat × (Nat → Int32)} {C : CT} {M : MT} {s : Nat → Int32} {v : Nat → Int64} {g : Nat → Nat → Int32} {w : Nat → Nat → Int64} {q : Nat → Nat} {ct : Nat → Int32} {cn : Nat → Int32} {cc : Nat → Nat → Int32} {di : Nat → Nat → Int32} {dr : Nat → Nat → Int32} {df : Nat → Nat → Int32} {li : Nat → Nat → Int32} {la : Nat → Nat → Nat → Int32} {sf : Nat → Nat → Int32} {sl : Nat → Nat → Int32} {a : Nat → Int32} {b : Nat → Int64} {e : Nat → Nat → Int32} {o : Nat → Nat → Int64} {B : Nat → Bool} {n : Nat → Nat} {P N W : Nat} {K O T J : Nat → Nat} {l : Nat} {Ds : Nat → Nat} {Dr Df Dp : Nat → Nat → Nat} {KB : Nat → Bool}
variable {Q : Option Value → AZ → AH → Prop} {L L0 L1 : Nat → Nat → Nat}
theorem lp_lo16 {i p m0 : Nat} (hP7 : P ≤ 7) (hp : p < P) (hm0 : m0 + 100 < 2147483648) (hNX : NX L P (e 83)) (hst : ∀ S v, stp L S v < 2 ^ P)
    (hQ : ∀ (a' : Nat → Int32) (e' : Nat → Nat → Int32) (mk : Nat), FRa a a' → FRf e e' → a' 30 = nI mk → mk ≤ m0 + 7 * (p + 1) → (∀ w, w < 16384 → ∃ v, v ≤ mk ∧ e' 84 w = nI v) → ALk L (p + 1) (e' 88) → Wp (d + 4) 1077 6 [some (.ref 67), some (.int (nI i)), some (.int (nI (p + 1)))] [] z (Hp X C (a', b, e', o)) Q) :
    ∀ (j q0 : Nat) (a' : Nat → Int32) (e' : Nat → Nat → Int32) (mk : Nat), q0 + j = p → FRa a a' → FRf e e' → a' 30 = nI mk → mk ≤ m0 + 7 * p + q0 → (∀ w, w < 16384 → ∃ v, v ≤ mk ∧ e' 84 w = nI v) → ALk L p (e' 88) → (∀ q, q < q0 → ALq L p q (e' 88 (7 * p + q))) → Wp (d + 4) 1077 16 [some (.ref 67), some (.int (nI i)), some (.int (nI p)), some (.int (nI q0))] [] z (Hp X C (a', b, e', o)) Q := by
  intro j
  induction j with
  | zero =>
    intro q0 a' e' mk hj ha he h30 hmk h84 hA hB
    have hj : q0 = p := by omega
    subst hj
    rw [W1077_16]
    simp (disch := omega) only [W1077, r_4, r_La, h79_1064, s_0, ci_0, r_5, r_2, r_Li, h60_10_10, r_49, h60_10_36, ci_7, r_12, r_10, h79_1065, ci_m9, r_47, ci_1, r_52, s_8, r_In, h79_1021, h60_10_13, ci_4, s_41, r_90, h65_74, h70_88, h71_88_0, h71_88_1, enR, LG, LSt, LC, nlR, psR, TK, up_s, up_n, up_u, lt_nI, le_nI, eq_nI, true_and, and_true, if_true, if_false, Nat.zero_add, Nat.add_zero, nI_add, ↓reduceIte, Nat.reduceAdd, Nat.reduceMul, Nat.reduceSub, Nat.reduceLT, Nat.reduceLeDiff, Nat.reduceEqDiff, Nat.not_lt_zero, Nat.lt_irrefl, decide_true, BEq.rfl, nm1, nm2, nm3, nm4, nm9, ngc, eq_self, List.length_cons, List.length_nil]
    refine hQ a' e' mk ha he h30 (by omega) h84 (fun p' q h1 h2 => ?_)
    by_cases h : p' = q0
    · subst h; exact hB q h2
    · exact hA p' q (by omega) h2
  | succ j ih =>
    intro q0 a' e' mk hj ha he h30 hmk h84 hA hB
    have h1 : q0 < p := by omega
    have h83 : NX L P (e' 83) := by rw [he 83 (by decide) (by decide) (by decide)]; exact hNX
    have h49 : 7 * p + q0 < 49 := by omega
    rw [W1077_16]
    simp (disch := omega) only [W1077, r_4, r_La, h79_1064, s_0, ci_0, r_5, r_2, r_Li, h60_10_10, r_49, h60_10_36, ci_7, r_12, r_10, h79_1065, ci_m9, r_47, ci_1, r_52, s_8, r_In, h79_1021, h60_10_13, ci_4, s_41, r_90, h65_74, h70_88, h71_88_0, h71_88_1, enR, LG, LSt, LC, nlR, psR, TK, up_s, up_n, up_u, lt_nI, le_nI, eq_nI, true_and, and_true, if_true, if_false, Nat.zero_add, Nat.add_zero, nI_add, ↓reduceIte, Nat.reduceAdd, Nat.reduceMul, Nat.reduceSub, Nat.reduceLT, Nat.reduceLeDiff, Nat.reduceEqDiff, Nat.not_lt_zero, Nat.lt_irrefl, decide_true, BEq.rfl, nm1, nm2, nm3, nm4, nm9, ngc, eq_self, List.length_cons, List.length_nil, h1, nI_mul]
    refine m_apartOf (L := L) (a := a') (e := e') hP7 (show mk + 1 < 2147483648 by omega) hp (show q0 < P by omega) h83 hst h30 h84 (fun a2 e2 out f1 f2 f3 f4 f5 f6 => ?_)
    have h9 := tdo9 (out := out) (fun m y h => (f6 m y h).1)
    have fa : FRa a a2 := fun k k1 k2 => (f1 k k1 k2).trans (ha k k1 k2)
    have fe : FRf e e2 := fun k k1 k2 k3 => (f2 k k1 k2).trans (he k k1 k2 k3)
    have e88 : e2 88 = e' 88 := f2 88 (by decide) (by decide)
    have fin : ∀ x, ALq L p q0 x → Wp (d + 4) 1077 16 [some (.ref 67), some (.int (nI i)), some (.int (nI p)), some (.int (nI (q0 + 1)))] [] z (Hp X C (a2, b, va_up e2 88 (upd (e2 88) (7 * p + q0) x), o)) Q := fun x hx =>
      ih (q0 + 1) a2 _ (mk + 1) (by omega) fa (fun k k1 k2 k3 => by rw [up_n _ _ k3]; exact fe k k1 k2 k3) f5 (by omega) (by rw [up_n _ _ (by decide)]; exact f3) (fun p' q h1 h2 => by
        rw [up_s, ud_n _ _ (by omega), e88]; exact hA p' q h1 h2) (fun q hq => by
        rw [up_s]
        by_cases h : q = q0
        · subst h; rw [ud_s]; exact hx
        · rw [ud_n _ _ (by omega), e88]; exact hB q (by omega))
    by_cases ho : out = none
    · have hal := (tres_none f4).mp ho
      simp (disch := omega) only [W1077, r_4, r_La, h79_1064, s_0, ci_0, r_5, r_2, r_Li, h60_10_10, r_49, h60_10_36, ci_7, r_12, r_10, h79_1065, ci_m9, r_47, ci_1, r_52, s_8, r_In, h79_1021, h60_10_13, ci_4, s_41, r_90, h65_74, h70_88, h71_88_0, h71_88_1, enR, LG, LSt, LC, nlR, psR, TK, up_s, up_n, up_u, lt_nI, le_nI, eq_nI, true_and, and_true, if_true, if_false, Nat.zero_add, Nat.add_zero, nI_add, ↓reduceIte, Nat.reduceAdd, Nat.reduceMul, Nat.reduceSub, Nat.reduceLT, Nat.reduceLeDiff, Nat.reduceEqDiff, Nat.not_lt_zero, Nat.lt_irrefl, decide_true, BEq.rfl, nm1, nm2, nm3, nm4, nm9, ngc, eq_self, List.length_cons, List.length_nil, h9, ho, h49]
      exact fin _ (Or.inl ⟨alk_s hal, rfl⟩)
    · have hal : ¬ alk L p q0 := fun h => ho ((tres_none f4).mpr h)
      simp (disch := omega) only [W1077, r_4, r_La, h79_1064, s_0, ci_0, r_5, r_2, r_Li, h60_10_10, r_49, h60_10_36, ci_7, r_12, r_10, h79_1065, ci_m9, r_47, ci_1, r_52, s_8, r_In, h79_1021, h60_10_13, ci_4, s_41, r_90, h65_74, h70_88, h71_88_0, h71_88_1, enR, LG, LSt, LC, nlR, psR, TK, up_s, up_n, up_u, lt_nI, le_nI, eq_nI, true_and, and_true, if_true, if_false, Nat.zero_add, Nat.add_zero, nI_add, ↓reduceIte, Nat.reduceAdd, Nat.reduceMul, Nat.reduceSub, Nat.reduceLT, Nat.reduceLeDiff, Nat.reduceEqDiff, Nat.not_lt_zero, Nat.lt_irrefl, decide_true, BEq.rfl, nm1, nm2, nm3, nm4, nm9, ngc, eq_self, List.length_cons, List.length_nil, h9, ho, h49]
      exact fin _ (Or.inr ⟨fun h => hal (alk_s h), rfl⟩)
theorem lp_lo97 {i p c m0 : Nat} {old : Int32} {u : Nat → Nat → Bool} (hP7 : P ≤ 7) (hp : p < P) (hm0 : m0 + 100 < 2147483648) (hNX : NX L1 P (e 83)) (hst : ∀ S v, stp L1 S v < 2 ^ P) (hA : ALk L0 P (e 88)) (hu : LSSu L0 L1 P u)
    (hQ : ∀ (a' : Nat → Int32) (e' : Nat → Nat → Int32) (mk : Nat), FRa a a' → FRe e e' → a' 30 = nI mk → mk ≤ m0 + 7 * (p + 1) → (∀ w, w < 16384 → ∃ v, v ≤ mk ∧ e' 84 w = nI v) → Wp (d + 4) 1077 85 [some (.ref 67), some (.int (nI i)), some (.int old), some (.int (nI (c + cnt (u p) p))), some (.int (nI (p + 1)))] [] z (Hp X C (a', b, e', o)) Q) :
    ∀ (j q0 : Nat) (a' : Nat → Int32) (e' : Nat → Nat → Int32) (mk : Nat), q0 + j = p → FRa a a' → FRe e e' → a' 30 = nI mk → mk ≤ m0 + 7 * p + q0 → (∀ w, w < 16384 → ∃ v, v ≤ mk ∧ e' 84 w = nI v) → Wp (d + 4) 1077 97 [some (.ref 67), some (.int (nI i)), some (.int old), some (.int (nI (c + cnt (u p) q0))), some (.int (nI p)), some (.int (nI q0))] [] z (Hp X C (a', b, e', o)) Q := by
  intro j
  induction j with
  | zero =>
    intro q0 a' e' mk hj ha he h30 hmk h84
    have hj : q0 = p := by omega
    subst hj
    rw [W1077_97]
    simp (disch := omega) only [W1077, r_4, r_La, h79_1064, s_0, ci_0, r_5, r_2, r_Li, h60_10_10, r_49, h60_10_36, ci_7, r_12, r_10, h79_1065, ci_m9, r_47, ci_1, r_52, s_8, r_In, h79_1021, h60_10_13, ci_4, s_41, r_90, h65_74, h70_88, h71_88_0, h71_88_1, enR, LG, LSt, LC, nlR, psR, TK, up_s, up_n, up_u, lt_nI, le_nI, eq_nI, true_and, and_true, if_true, if_false, Nat.zero_add, Nat.add_zero, nI_add, ↓reduceIte, Nat.reduceAdd, Nat.reduceMul, Nat.reduceSub, Nat.reduceLT, Nat.reduceLeDiff, Nat.reduceEqDiff, Nat.not_lt_zero, Nat.lt_irrefl, decide_true, BEq.rfl, nm1, nm2, nm3, nm4, nm9, ngc, eq_self, List.length_cons, List.length_nil]
    exact hQ a' e' mk ha he h30 (by omega) h84
  | succ j ih =>
    intro q0 a' e' mk hj ha he h30 hmk h84
    have h1 : q0 < p := by omega
    have h83 : NX L1 P (e' 83) := by rw [he 83 (by decide) (by decide)]; exact hNX
    have h49 : 7 * p + q0 < 49 := by omega
    have hx : ALq L0 p q0 (e' 88 (7 * p + q0)) := by rw [he 88 (by decide) (by decide)]; exact hA p q0 hp h1
    have hu1 := hu p q0 hp h1
    rw [W1077_97]
    rcases hx with ⟨x1, x2⟩ | ⟨x1, x2⟩
    · have c1 : cnt (u p) (q0 + 1) = cnt (u p) q0 := by rw [cnt_succ, if_neg (fun h => (hu1.mp h).1 x1)]
      simp (disch := omega) only [W1077, r_4, r_La, h79_1064, s_0, ci_0, r_5, r_2, r_Li, h60_10_10, r_49, h60_10_36, ci_7, r_12, r_10, h79_1065, ci_m9, r_47, ci_1, r_52, s_8, r_In, h79_1021, h60_10_13, ci_4, s_41, r_90, h65_74, h70_88, h71_88_0, h71_88_1, enR, LG, LSt, LC, nlR, psR, TK, up_s, up_n, up_u, lt_nI, le_nI, eq_nI, true_and, and_true, if_true, if_false, Nat.zero_add, Nat.add_zero, nI_add, ↓reduceIte, Nat.reduceAdd, Nat.reduceMul, Nat.reduceSub, Nat.reduceLT, Nat.reduceLeDiff, Nat.reduceEqDiff, Nat.not_lt_zero, Nat.lt_irrefl, decide_true, BEq.rfl, nm1, nm2, nm3, nm4, nm9, ngc, eq_self, List.length_cons, List.length_nil, h1, nI_mul, h49, x2]
      rw [← c1]
      exact ih (q0 + 1) a' e' mk (by omega) ha he h30 (by omega) h84
    · simp (disch := omega) only [W1077, r_4, r_La, h79_1064, s_0, ci_0, r_5, r_2, r_Li, h60_10_10, r_49, h60_10_36, ci_7, r_12, r_10, h79_1065, ci_m9, r_47, ci_1, r_52, s_8, r_In, h79_1021, h60_10_13, ci_4, s_41, r_90, h65_74, h70_88, h71_88_0, h71_88_1, enR, LG, LSt, LC, nlR, psR, TK, up_s, up_n, up_u, lt_nI, le_nI, eq_nI, true_and, and_true, if_true, if_false, Nat.zero_add, Nat.add_zero, nI_add, ↓reduceIte, Nat.reduceAdd, Nat.reduceMul, Nat.reduceSub, Nat.reduceLT, Nat.reduceLeDiff, Nat.reduceEqDiff, Nat.not_lt_zero, Nat.lt_irrefl, decide_true, BEq.rfl, nm1, nm2, nm3, nm4, nm9, ngc, eq_self, List.length_cons, List.length_nil, h1, nI_mul, h49, x2]
      refine m_apartOf (L := L1) (a := a') (e := e') hP7 (show mk + 1 < 2147483648 by omega) hp (show q0 < P by omega) h83 hst h30 h84 (fun a2 e2 out f1 f2 f3 f4 f5 f6 => ?_)
      have h9 := tdo9 (out := out) (fun m y h => (f6 m y h).1)
      have fa : FRa a a2 := fun k k1 k2 => (f1 k k1 k2).trans (ha k k1 k2)
      have fe : FRe e e2 := fun k k1 k2 => (f2 k k1 k2).trans (he k k1 k2)
      by_cases ho : out = none
      · have hal := (tres_none f4).mp ho
        have c1 : c + cnt (u p) (q0 + 1) = c + cnt (u p) q0 + 1 := by rw [cnt_succ, if_pos (hu1.mpr ⟨x1, alk_s hal⟩), Nat.add_assoc]
        simp (disch := omega) only [W1077, r_4, r_La, h79_1064, s_0, ci_0, r_5, r_2, r_Li, h60_10_10, r_49, h60_10_36, ci_7, r_12, r_10, h79_1065, ci_m9, r_47, ci_1, r_52, s_8, r_In, h79_1021, h60_10_13, ci_4, s_41, r_90, h65_74, h70_88, h71_88_0, h71_88_1, enR, LG, LSt, LC, nlR, psR, TK, up_s, up_n, up_u, lt_nI, le_nI, eq_nI, true_and, and_true, if_true, if_false, Nat.zero_add, Nat.add_zero, nI_add, ↓reduceIte, Nat.reduceAdd, Nat.reduceMul, Nat.reduceSub, Nat.reduceLT, Nat.reduceLeDiff, Nat.reduceEqDiff, Nat.not_lt_zero, Nat.lt_irrefl, decide_true, BEq.rfl, nm1, nm2, nm3, nm4, nm9, ngc, eq_self, List.length_cons, List.length_nil, h9, ho]
        rw [← c1]
        exact ih (q0 + 1) a2 e2 (mk + 1) (by omega) fa fe f5 (by omega) f3
      · have hal : ¬ alk L1 p q0 := fun h => ho ((tres_none f4).mpr h)
        have c1 : cnt (u p) (q0 + 1) = cnt (u p) q0 := by rw [cnt_succ, if_neg (fun h => hal (alk_s (hu1.mp h).2))]
        simp (disch := omega) only [W1077, r_4, r_La, h79_1064, s_0, ci_0, r_5, r_2, r_Li, h60_10_10, r_49, h60_10_36, ci_7, r_12, r_10, h79_1065, ci_m9, r_47, ci_1, r_52, s_8, r_In, h79_1021, h60_10_13, ci_4, s_41, r_90, h65_74, h70_88, h71_88_0, h71_88_1, enR, LG, LSt, LC, nlR, psR, TK, up_s, up_n, up_u, lt_nI, le_nI, eq_nI, true_and, and_true, if_true, if_false, Nat.zero_add, Nat.add_zero, nI_add, ↓reduceIte, Nat.reduceAdd, Nat.reduceMul, Nat.reduceSub, Nat.reduceLT, Nat.reduceLeDiff, Nat.reduceEqDiff, Nat.not_lt_zero, Nat.lt_irrefl, decide_true, BEq.rfl, nm1, nm2, nm3, nm4, nm9, ngc, eq_self, List.length_cons, List.length_nil, h9, ho]
        rw [← c1]
        exact ih (q0 + 1) a2 e2 (mk + 1) (by omega) fa fe f5 (by omega) f3
theorem lp_lo85 {i m0 : Nat} {old : Int32} {u : Nat → Nat → Bool} (h40 : 4 * i < 80) (hM : a 10 = nI P) (hP7 : P ≤ 7) (hm0 : m0 + 100 < 2147483648) (hNX : NX L1 P (e 83)) (hst : ∀ S v, stp L1 S v < 2 ^ P) (hA : ALk L0 P (e 88)) (hu : LSSu L0 L1 P u)
    (hQ : ∀ (a' : Nat → Int32) (e' : Nat → Nat → Int32) (mk : Nat), FRa a a' → FRe e e' → a' 30 = nI mk → mk ≤ m0 + 7 * P → (∀ w, w < 16384 → ∃ v, v ≤ mk ∧ e' 84 w = nI v) → Q (some (.int (nI (lossN u P)))) z (Hp X C (a', b, va_up e' 74 (upd (e' 74) (4 * i) old), o))) :
    ∀ (j p : Nat) (a' : Nat → Int32) (e' : Nat → Nat → Int32) (mk : Nat), p + j = P → FRa a a' → FRe e e' → a' 30 = nI mk → mk ≤ m0 + 7 * p → (∀ w, w < 16384 → ∃ v, v ≤ mk ∧ e' 84 w = nI v) → Wp (d + 4) 1077 85 [some (.ref 67), some (.int (nI i)), some (.int old), some (.int (nI (lossN u p))), some (.int (nI p))] [] z (Hp X C (a', b, e', o)) Q := by
  intro j
  induction j with
  | zero =>
    intro p a' e' mk hj ha he h30 hmk h84
    have hj : p = P := by omega
    subst hj
    have h10 : a' 10 = nI p := by rw [ha 10 (by decide) (by decide)]; exact hM
    rw [W1077_85]
    simp (disch := omega) only [W1077, r_4, r_La, h79_1064, s_0, ci_0, r_5, r_2, r_Li, h60_10_10, r_49, h60_10_36, ci_7, r_12, r_10, h79_1065, ci_m9, r_47, ci_1, r_52, s_8, r_In, h79_1021, h60_10_13, ci_4, s_41, r_90, h65_74, h70_88, h71_88_0, h71_88_1, enR, LG, LSt, LC, nlR, psR, TK, up_s, up_n, up_u, lt_nI, le_nI, eq_nI, true_and, and_true, if_true, if_false, Nat.zero_add, Nat.add_zero, nI_add, ↓reduceIte, Nat.reduceAdd, Nat.reduceMul, Nat.reduceSub, Nat.reduceLT, Nat.reduceLeDiff, Nat.reduceEqDiff, Nat.not_lt_zero, Nat.lt_irrefl, decide_true, BEq.rfl, nm1, nm2, nm3, nm4, nm9, ngc, eq_self, List.length_cons, List.length_nil, h10, nI_mul, h40]
    exact hQ a' e' mk ha he h30 hmk h84
  | succ j ih =>
    intro p a' e' mk hj ha he h30 hmk h84
    have h1 : p < P := by omega
    have h10 : a' 10 = nI P := by rw [ha 10 (by decide) (by decide)]; exact hM
    rw [W1077_85]
    simp (disch := omega) only [W1077, r_4, r_La, h79_1064, s_0, ci_0, r_5, r_2, r_Li, h60_10_10, r_49, h60_10_36, ci_7, r_12, r_10, h79_1065, ci_m9, r_47, ci_1, r_52, s_8, r_In, h79_1021, h60_10_13, ci_4, s_41, r_90, h65_74, h70_88, h71_88_0, h71_88_1, enR, LG, LSt, LC, nlR, psR, TK, up_s, up_n, up_u, lt_nI, le_nI, eq_nI, true_and, and_true, if_true, if_false, Nat.zero_add, Nat.add_zero, nI_add, ↓reduceIte, Nat.reduceAdd, Nat.reduceMul, Nat.reduceSub, Nat.reduceLT, Nat.reduceLeDiff, Nat.reduceEqDiff, Nat.not_lt_zero, Nat.lt_irrefl, decide_true, BEq.rfl, nm1, nm2, nm3, nm4, nm9, ngc, eq_self, List.length_cons, List.length_nil, h10, h1]
    exact lp_lo97 hP7 h1 hm0 hNX hst hA hu (fun a2 e2 mk2 f1 f2 f3 f4 f5 => by
      rw [← lsN_succ]
      exact ih (p + 1) a2 e2 mk2 (by omega) f1 f2 f3 f4 f5) p 0 a' e' mk (by omega) ha he h30 (by omega) h84
theorem lp_lo6 {i m0 n : Nat} (hM : MLn a (e 74) P N W K O T J) (hb : LB P N W K O T J) (hi : i < N) (hK : K i = 0 ∨ K i = 2) (hm0 : m0 + 200 < 2147483648) (hNX : NX (lds N (fe W K J) K O T) P (e 83)) (hn : LSS (lds N (fe W K J) K O T) (lds N (fe W (va_up K i 1) J) K O T) P n)
    (hQ : ∀ (a' : Nat → Int32) (e' : Nat → Nat → Int32) (mk : Nat), FRa a a' → FRx e e' → a' 30 = nI mk → mk ≤ m0 + 98 → (∀ w, w < 16384 → ∃ v, v ≤ mk ∧ e' 84 w = nI v) → Q (some (.int (nI n))) z (Hp X C (a', b, e', o))) :
    ∀ (j p : Nat) (a' : Nat → Int32) (e' : Nat → Nat → Int32) (mk : Nat), p + j = P → FRa a a' → FRf e e' → a' 30 = nI mk → mk ≤ m0 + 7 * p → (∀ w, w < 16384 → ∃ v, v ≤ mk ∧ e' 84 w = nI v) → ALk (lds N (fe W K J) K O T) p (e' 88) → Wp (d + 4) 1077 6 [some (.ref 67), some (.int (nI i)), some (.int (nI p))] [] z (Hp X C (a', b, e', o)) Q := by
  have hP7 := hb.1
  have hN := hb.2.1
  intro j
  induction j with
  | zero =>
    intro p a' e' mk hj ha he h30 hmk h84 hA
    have hj : p = P := by omega
    subst hj
    have h10 : a' 10 = nI p := by rw [ha 10 (by decide) (by decide)]; exact hM.1
    have h40 : 4 * i < 80 := by omega
    have hM1 : MLn a' (e' 74) p N W K O T J := mln_fr hM (fun k hk => ha k (by omega) (by omega)) (he 74 (by decide) (by decide) (by decide))
    obtain ⟨u, hu, rfl⟩ := hn
    rw [W1077_6]
    simp (disch := omega) only [W1077, r_4, r_La, h79_1064, s_0, ci_0, r_5, r_2, r_Li, h60_10_10, r_49, h60_10_36, ci_7, r_12, r_10, h79_1065, ci_m9, r_47, ci_1, r_52, s_8, r_In, h79_1021, h60_10_13, ci_4, s_41, r_90, h65_74, h70_88, h71_88_0, h71_88_1, enR, LG, LSt, LC, nlR, psR, TK, up_s, up_n, up_u, lt_nI, le_nI, eq_nI, true_and, and_true, if_true, if_false, Nat.zero_add, Nat.add_zero, nI_add, ↓reduceIte, Nat.reduceAdd, Nat.reduceMul, Nat.reduceSub, Nat.reduceLT, Nat.reduceLeDiff, Nat.reduceEqDiff, Nat.not_lt_zero, Nat.lt_irrefl, decide_true, BEq.rfl, nm1, nm2, nm3, nm4, nm9, ngc, eq_self, List.length_cons, List.length_nil, h10, m_of, nI_mul, h40]
    refine m_setNext (a := a') (e := va_up e' 74 (upd (e' 74) (4 * i) (nI 1))) (K := va_up K i 1) (mln_pave hM1 (up_s _ _ _)) (lb_pave hb) (fun γ hγ => ?_)
    rw [lds_pave hK] at hγ
    simp (disch := omega) only [W1077, r_4, r_La, h79_1064, s_0, ci_0, r_5, r_2, r_Li, h60_10_10, r_49, h60_10_36, ci_7, r_12, r_10, h79_1065, ci_m9, r_47, ci_1, r_52, s_8, r_In, h79_1021, h60_10_13, ci_4, s_41, r_90, h65_74, h70_88, h71_88_0, h71_88_1, enR, LG, LSt, LC, nlR, psR, TK, up_s, up_n, up_u, lt_nI, le_nI, eq_nI, true_and, and_true, if_true, if_false, Nat.zero_add, Nat.add_zero, nI_add, ↓reduceIte, Nat.reduceAdd, Nat.reduceMul, Nat.reduceSub, Nat.reduceLT, Nat.reduceLeDiff, Nat.reduceEqDiff, Nat.not_lt_zero, Nat.lt_irrefl, decide_true, BEq.rfl, nm1, nm2, nm3, nm4, nm9, ngc, eq_self, List.length_cons, List.length_nil]
    refine lp_lo85 (L0 := lds N (fe W K J) K O T) (L1 := lds N (fe W (va_up K i 1) J) K O T) (a := a') (e := va_up (va_up e' 74 (upd (e' 74) (4 * i) (nI 1))) 83 γ) (m0 := m0 + 49) (u := u) h40 h10 hP7 (by omega) (by exact hγ) (fun S v => ?_) hA hu (fun a3 e3 mk3 f1 f2 f3 f4 f5 => ?_) p 0 a' _ mk (by omega) (fun _ _ _ => rfl) (fun _ _ _ => rfl) h30 (by omega) h84
    · rw [← lds_pave hK]; exact stp_lt (lb_pave hb)
    · refine hQ a3 _ mk3 (fun k k1 k2 => (f1 k k1 k2).trans (ha k k1 k2)) (fun k k1 k2 k3 k4 => ?_) f3 (by omega) (by rw [up_n _ _ (by decide)]; exact f5)
      by_cases h74 : k = 74
      · subst h74
        rw [up_s, f2 74 (by decide) (by decide), up_n _ _ (by decide), up_s, ud_back]
        exact he 74 (by decide) (by decide) (by decide)
      · rw [up_n _ _ h74, f2 k k2 k3, up_n _ _ k1, up_n _ _ h74]
        exact he k k2 k3 k4
  | succ j ih =>
    intro p a' e' mk hj ha he h30 hmk h84 hA
    have h1 : p < P := by omega
    have h10 : a' 10 = nI P := by rw [ha 10 (by decide) (by decide)]; exact hM.1
    rw [W1077_6]
    simp (disch := omega) only [W1077, r_4, r_La, h79_1064, s_0, ci_0, r_5, r_2, r_Li, h60_10_10, r_49, h60_10_36, ci_7, r_12, r_10, h79_1065, ci_m9, r_47, ci_1, r_52, s_8, r_In, h79_1021, h60_10_13, ci_4, s_41, r_90, h65_74, h70_88, h71_88_0, h71_88_1, enR, LG, LSt, LC, nlR, psR, TK, up_s, up_n, up_u, lt_nI, le_nI, eq_nI, true_and, and_true, if_true, if_false, Nat.zero_add, Nat.add_zero, nI_add, ↓reduceIte, Nat.reduceAdd, Nat.reduceMul, Nat.reduceSub, Nat.reduceLT, Nat.reduceLeDiff, Nat.reduceEqDiff, Nat.not_lt_zero, Nat.lt_irrefl, decide_true, BEq.rfl, nm1, nm2, nm3, nm4, nm9, ngc, eq_self, List.length_cons, List.length_nil, h10, h1]
    exact lp_lo16 (m0 := m0) hP7 h1 (by omega) hNX (fun S v => stp_lt hb) (fun a2 e2 mk2 f1 f2 f3 f4 f5 f6 => ih (p + 1) a2 e2 mk2 (by omega) f1 f2 f3 f4 f5 f6) p 0 a' e' mk (by omega) ha he h30 (by omega) h84 hA (fun q hq => absurd hq (by omega))
theorem m_lossOf {i m0 n : Nat} (hM : MLn a (e 74) P N W K O T J) (hb : LB P N W K O T J) (hi : i < N) (hK : K i = 0 ∨ K i = 2) (hm0 : m0 + 200 < 2147483648) (h30 : a 30 = nI m0) (h84 : ∀ w, w < 16384 → ∃ v, v ≤ m0 ∧ e 84 w = nI v) (hn : LSS (lds N (fe W K J) K O T) (lds N (fe W (va_up K i 1) J) K O T) P n)
    (hQ : ∀ (a' : Nat → Int32) (e' : Nat → Nat → Int32) (mk : Nat), FRa a a' → FRx e e' → a' 30 = nI mk → mk ≤ m0 + 98 → (∀ w, w < 16384 → ∃ v, v ≤ mk ∧ e' 84 w = nI v) → Q (some (.int (nI n))) z (Hp X C (a', b, e', o))) : Cw (d + 5) 1077 [.ref 67, .int (nI i)] z (Hp X C (a, b, e, o)) Q := by
  rw [cw_wp]
  simp (disch := omega) only [W1077, r_4, r_La, h79_1064, s_0, ci_0, r_5, r_2, r_Li, h60_10_10, r_49, h60_10_36, ci_7, r_12, r_10, h79_1065, ci_m9, r_47, ci_1, r_52, s_8, r_In, h79_1021, h60_10_13, ci_4, s_41, r_90, h65_74, h70_88, h71_88_0, h71_88_1, enR, LG, LSt, LC, nlR, psR, TK, up_s, up_n, up_u, lt_nI, le_nI, eq_nI, true_and, and_true, if_true, if_false, Nat.zero_add, Nat.add_zero, nI_add, ↓reduceIte, Nat.reduceAdd, Nat.reduceMul, Nat.reduceSub, Nat.reduceLT, Nat.reduceLeDiff, Nat.reduceEqDiff, Nat.not_lt_zero, Nat.lt_irrefl, decide_true, BEq.rfl, nm1, nm2, nm3, nm4, nm9, ngc, eq_self, List.length_cons, List.length_nil]
  refine m_setNext hM hb (fun γ hγ => ?_)
  simp (disch := omega) only [W1077, r_4, r_La, h79_1064, s_0, ci_0, r_5, r_2, r_Li, h60_10_10, r_49, h60_10_36, ci_7, r_12, r_10, h79_1065, ci_m9, r_47, ci_1, r_52, s_8, r_In, h79_1021, h60_10_13, ci_4, s_41, r_90, h65_74, h70_88, h71_88_0, h71_88_1, enR, LG, LSt, LC, nlR, psR, TK, up_s, up_n, up_u, lt_nI, le_nI, eq_nI, true_and, and_true, if_true, if_false, Nat.zero_add, Nat.add_zero, nI_add, ↓reduceIte, Nat.reduceAdd, Nat.reduceMul, Nat.reduceSub, Nat.reduceLT, Nat.reduceLeDiff, Nat.reduceEqDiff, Nat.not_lt_zero, Nat.lt_irrefl, decide_true, BEq.rfl, nm1, nm2, nm3, nm4, nm9, ngc, eq_self, List.length_cons, List.length_nil]
  exact lp_lo6 (m0 := m0) (e := va_up e 83 γ) hM hb hi hK hm0 (by exact hγ) hn (fun a' e' mk f1 f2 f3 f4 f5 => hQ a' e' mk f1 (fun k k1 k2 k3 k4 => (f2 k k1 k2 k3 k4).trans (up_n _ _ k1)) f3 f4 f5) P 0 a _ m0 (by omega) (fun _ _ _ => rfl) (fun _ _ _ _ => rfl) h30 (by omega) h84 (fun p q hp => absurd hp (by omega))
theorem op_loss {x : Int32} (H : RL t z s v g w q ct cn cc di dr df li la sf sl a b e o B n P N W K O T J l Ds Dr Df Dp KB) (ht : t < 1000000) : OPI (d + 20) 938 1078 [.int x] t z X (s, v, g, w, q, ct, cn, cc, di, dr, df, li, la, sf, sl) (a, b, e, o) := by
  obtain ⟨hb, hl, hq, hC, hs, hM, hS⟩ := rl_land H
  have hP := hb.1
  have hN := hb.2.1
  have h0 := hC.1
  unfold OPI
  rw [cw_wp]
  rcases ixN x (show N ≤ 80 by omega) with h | ⟨h1, h2, h3⟩ | ⟨i, hi, rfl⟩
  · simp (disch := omega) only [W938, r_4, r_La, h60_9_12, r_2, r_Li, h79_304, s_41, s_0, ci_m1, r_90, h79_314, ci_m4, h60_9_9, h60_9_5, h60_3_4, h60_4_0, h79_402, h79_959, enR, LG, LSt, LC, nlR, psR, TK, up_s, up_n, up_u, lt_nI, le_nI, eq_nI, true_and, and_true, if_true, if_false, Nat.zero_add, Nat.add_zero, nI_add, ↓reduceIte, Nat.reduceAdd, Nat.reduceMul, Nat.reduceSub, Nat.reduceLT, Nat.reduceLeDiff, Nat.reduceEqDiff, Nat.not_lt_zero, Nat.lt_irrefl, decide_true, BEq.rfl, nm1, nm2, nm3, nm4, nm9, ngc, eq_self, List.length_cons, List.length_nil, hq, hl, c_hasRoad hl hC, h]
    refine okc ?_
    rw [cw_wp]
    simp (disch := omega) only [W1078, r_4, r_La, r_2, r_Li, h79_1030, s_41, s_0, ci_m1, r_90, h79_1075, s_40, h79_1077, r_52, ci_m4, enR, LG, LSt, LC, nlR, psR, TK, up_s, up_n, up_u, lt_nI, le_nI, eq_nI, true_and, and_true, if_true, if_false, Nat.zero_add, Nat.add_zero, nI_add, ↓reduceIte, Nat.reduceAdd, Nat.reduceMul, Nat.reduceSub, Nat.reduceLT, Nat.reduceLeDiff, Nat.reduceEqDiff, Nat.not_lt_zero, Nat.lt_irrefl, decide_true, BEq.rfl, nm1, nm2, nm3, nm4, nm9, ngc, eq_self, List.length_cons, List.length_nil, m_isRoad hM, h]
    exact okm (rl_inv (rl_t H))
  · simp (disch := omega) only [W938, r_4, r_La, h60_9_12, r_2, r_Li, h79_304, s_41, s_0, ci_m1, r_90, h79_314, ci_m4, h60_9_9, h60_9_5, h60_3_4, h60_4_0, h79_402, h79_959, enR, LG, LSt, LC, nlR, psR, TK, up_s, up_n, up_u, lt_nI, le_nI, eq_nI, true_and, and_true, if_true, if_false, Nat.zero_add, Nat.add_zero, nI_add, ↓reduceIte, Nat.reduceAdd, Nat.reduceMul, Nat.reduceSub, Nat.reduceLT, Nat.reduceLeDiff, Nat.reduceEqDiff, Nat.not_lt_zero, Nat.lt_irrefl, decide_true, BEq.rfl, nm1, nm2, nm3, nm4, nm9, ngc, eq_self, List.length_cons, List.length_nil, hq, hl, c_hasRoad hl hC, h1, h2]
    refine okc ?_
    rw [cw_wp]
    simp (disch := omega) only [W1078, r_4, r_La, r_2, r_Li, h79_1030, s_41, s_0, ci_m1, r_90, h79_1075, s_40, h79_1077, r_52, ci_m4, enR, LG, LSt, LC, nlR, psR, TK, up_s, up_n, up_u, lt_nI, le_nI, eq_nI, true_and, and_true, if_true, if_false, Nat.zero_add, Nat.add_zero, nI_add, ↓reduceIte, Nat.reduceAdd, Nat.reduceMul, Nat.reduceSub, Nat.reduceLT, Nat.reduceLeDiff, Nat.reduceEqDiff, Nat.not_lt_zero, Nat.lt_irrefl, decide_true, BEq.rfl, nm1, nm2, nm3, nm4, nm9, ngc, eq_self, List.length_cons, List.length_nil, m_isRoad hM, h1, h3]
    exact okm (rl_inv (rl_t H))
  have hi2 := nsub (show N < 65536 by omega) hi
  obtain ⟨b1, b2, b3, b4⟩ := hb.2.2.2.2 i hi
  obtain ⟨e1, e2, e3, e4⟩ := hM.2.2.2 i hi
  by_cases hp : K i = 0 ∨ K i = 2
  · obtain ⟨n0, hn⟩ := ls_ex (lds N (fe W K J) K O T) (lds N (fe W (va_up K i 1) J) K O T) P
    obtain ⟨mk, k30, kmk, k84⟩ := id H.2.2.2.2.2.2
    simp (disch := omega) only [W938, r_4, r_La, h60_9_12, r_2, r_Li, h79_304, s_41, s_0, ci_m1, r_90, h79_314, ci_m4, h60_9_9, h60_9_5, h60_3_4, h60_4_0, h79_402, h79_959, enR, LG, LSt, LC, nlR, psR, TK, up_s, up_n, up_u, lt_nI, le_nI, eq_nI, true_and, and_true, if_true, if_false, Nat.zero_add, Nat.add_zero, nI_add, ↓reduceIte, Nat.reduceAdd, Nat.reduceMul, Nat.reduceSub, Nat.reduceLT, Nat.reduceLeDiff, Nat.reduceEqDiff, Nat.not_lt_zero, Nat.lt_irrefl, decide_true, BEq.rfl, nm1, nm2, nm3, nm4, nm9, ngc, eq_self, List.length_cons, List.length_nil, hq, hl, h0, hp, c_hasRoadn hl hC hi hN, c_canPave hl hC hb hi]
    refine c_group_26 (show 0 < 2 by decide) (sen_SL hb hS) hP (fun s1 g1 f1 f2 f3 => ?_)
    simp (disch := omega) only [W938, r_4, r_La, h60_9_12, r_2, r_Li, h79_304, s_41, s_0, ci_m1, r_90, h79_314, ci_m4, h60_9_9, h60_9_5, h60_3_4, h60_4_0, h79_402, h79_959, enR, LG, LSt, LC, nlR, psR, TK, up_s, up_n, up_u, lt_nI, le_nI, eq_nI, true_and, and_true, if_true, if_false, Nat.zero_add, Nat.add_zero, nI_add, ↓reduceIte, Nat.reduceAdd, Nat.reduceMul, Nat.reduceSub, Nat.reduceLT, Nat.reduceLeDiff, Nat.reduceEqDiff, Nat.not_lt_zero, Nat.lt_irrefl, decide_true, BEq.rfl, nm1, nm2, nm3, nm4, nm9, ngc, eq_self, List.length_cons, List.length_nil]
    refine c_lossAG (n := n0) (s := s1) (g := g1) hl hq hC hb (by rw [f1 14 (by decide) (by decide)]; exact hs) hi hp f3 hn (fun s2 g2 sf2 sl2 r1 r2 r3 r4 => ?_)
    simp (disch := omega) only [W938, r_4, r_La, h60_9_12, r_2, r_Li, h79_304, s_41, s_0, ci_m1, r_90, h79_314, ci_m4, h60_9_9, h60_9_5, h60_3_4, h60_4_0, h79_402, h79_959, enR, LG, LSt, LC, nlR, psR, TK, up_s, up_n, up_u, lt_nI, le_nI, eq_nI, true_and, and_true, if_true, if_false, Nat.zero_add, Nat.add_zero, nI_add, ↓reduceIte, Nat.reduceAdd, Nat.reduceMul, Nat.reduceSub, Nat.reduceLT, Nat.reduceLeDiff, Nat.reduceEqDiff, Nat.not_lt_zero, Nat.lt_irrefl, decide_true, BEq.rfl, nm1, nm2, nm3, nm4, nm9, ngc, eq_self, List.length_cons, List.length_nil]
    refine okc ?_
    rw [cw_wp]
    have hm : (K i = 0) ∨ ¬ (K i = 0) ∧ K i = 2 := by omega
    have fin : ∀ (a' : Nat → Int32) (e' : Nat → Nat → Int32) (mk' : Nat), FRa a a' → FRx e e' → a' 30 = nI mk' → mk' ≤ mk + 98 → (∀ w, w < 16384 → ∃ v, v ≤ mk' ∧ e' 84 w = nI v) → RL (t + 1) z (s2) v (g2) w q ct cn cc di dr df li la (sf2) (sl2) (a') b (e') o B n P N W K O T J l Ds Dr Df Dp KB := fun a' e' mk' w1 w2 w3 w4 w5 => by
      have ha' : ∀ k, k < 30 → a' k = a k := fun k hk => w1 k (by omega) (by omega)
      exact rl_fr (mk := mk') H (fun k hk => (r1 k (by omega) (by omega)).trans (f1 k (by omega) (by omega))) ((r2 32 (by decide) (by decide) (by decide) (by decide)).trans (f2 32 (by decide) (by decide) (by decide) (by decide))) r3 r4 ha' (fun k k1 k2 k3 => w2 k (by omega) (by omega) (by omega) (by omega)) (mln_fr hM ha' (w2 74 (by decide) (by decide) (by decide) (by decide))) w3 (by omega) w5
    rcases hm with hm | ⟨hm, hm2⟩
    · simp (disch := omega) only [W1078, r_4, r_La, r_2, r_Li, h79_1030, s_41, s_0, ci_m1, r_90, h79_1075, s_40, h79_1077, r_52, ci_m4, W1075, ci_0, h79_1021, ci_2, r_47, ci_1, r_94, s_Z0, s_Z1, (fun d => cw_wp d 1075), enR, LG, LSt, LC, nlR, psR, TK, up_s, up_n, up_u, lt_nI, le_nI, eq_nI, true_and, and_true, if_true, if_false, Nat.zero_add, Nat.add_zero, nI_add, ↓reduceIte, Nat.reduceAdd, Nat.reduceMul, Nat.reduceSub, Nat.reduceLT, Nat.reduceLeDiff, Nat.reduceEqDiff, Nat.not_lt_zero, Nat.lt_irrefl, decide_true, BEq.rfl, nm1, nm2, nm3, nm4, nm9, ngc, eq_self, List.length_cons, List.length_nil, m_isRoad hM, hi2, m_of, e1, hm]
      refine m_lossOf hM hb hi hp (by omega) k30 k84 hn (fun a' e' mk' w1 w2 w3 w4 w5 => ?_)
      simp (disch := omega) only [W1078, r_4, r_La, r_2, r_Li, h79_1030, s_41, s_0, ci_m1, r_90, h79_1075, s_40, h79_1077, r_52, ci_m4, enR, LG, LSt, LC, nlR, psR, TK, up_s, up_n, up_u, lt_nI, le_nI, eq_nI, true_and, and_true, if_true, if_false, Nat.zero_add, Nat.add_zero, nI_add, ↓reduceIte, Nat.reduceAdd, Nat.reduceMul, Nat.reduceSub, Nat.reduceLT, Nat.reduceLeDiff, Nat.reduceEqDiff, Nat.not_lt_zero, Nat.lt_irrefl, decide_true, BEq.rfl, nm1, nm2, nm3, nm4, nm9, ngc, eq_self, List.length_cons, List.length_nil]
      exact okm (rl_inv (fin a' e' mk' w1 w2 w3 w4 w5))
    · simp (disch := omega) only [W1078, r_4, r_La, r_2, r_Li, h79_1030, s_41, s_0, ci_m1, r_90, h79_1075, s_40, h79_1077, r_52, ci_m4, W1075, ci_0, h79_1021, ci_2, r_47, ci_1, r_94, s_Z0, s_Z1, (fun d => cw_wp d 1075), enR, LG, LSt, LC, nlR, psR, TK, up_s, up_n, up_u, lt_nI, le_nI, eq_nI, true_and, and_true, if_true, if_false, Nat.zero_add, Nat.add_zero, nI_add, ↓reduceIte, Nat.reduceAdd, Nat.reduceMul, Nat.reduceSub, Nat.reduceLT, Nat.reduceLeDiff, Nat.reduceEqDiff, Nat.not_lt_zero, Nat.lt_irrefl, decide_true, BEq.rfl, nm1, nm2, nm3, nm4, nm9, ngc, eq_self, List.length_cons, List.length_nil, m_isRoad hM, hi2, m_of, e1, hm2]
      refine m_lossOf hM hb hi hp (by omega) k30 k84 hn (fun a' e' mk' w1 w2 w3 w4 w5 => ?_)
      simp (disch := omega) only [W1078, r_4, r_La, r_2, r_Li, h79_1030, s_41, s_0, ci_m1, r_90, h79_1075, s_40, h79_1077, r_52, ci_m4, enR, LG, LSt, LC, nlR, psR, TK, up_s, up_n, up_u, lt_nI, le_nI, eq_nI, true_and, and_true, if_true, if_false, Nat.zero_add, Nat.add_zero, nI_add, ↓reduceIte, Nat.reduceAdd, Nat.reduceMul, Nat.reduceSub, Nat.reduceLT, Nat.reduceLeDiff, Nat.reduceEqDiff, Nat.not_lt_zero, Nat.lt_irrefl, decide_true, BEq.rfl, nm1, nm2, nm3, nm4, nm9, ngc, eq_self, List.length_cons, List.length_nil]
      exact okm (rl_inv (fin a' e' mk' w1 w2 w3 w4 w5))
  · have hp1 : ¬ K i = 0 := fun h => hp (Or.inl h)
    have hp2 : ¬ K i = 2 := fun h => hp (Or.inr h)
    simp (disch := omega) only [W938, r_4, r_La, h60_9_12, r_2, r_Li, h79_304, s_41, s_0, ci_m1, r_90, h79_314, ci_m4, h60_9_9, h60_9_5, h60_3_4, h60_4_0, h79_402, h79_959, enR, LG, LSt, LC, nlR, psR, TK, up_s, up_n, up_u, lt_nI, le_nI, eq_nI, true_and, and_true, if_true, if_false, Nat.zero_add, Nat.add_zero, nI_add, ↓reduceIte, Nat.reduceAdd, Nat.reduceMul, Nat.reduceSub, Nat.reduceLT, Nat.reduceLeDiff, Nat.reduceEqDiff, Nat.not_lt_zero, Nat.lt_irrefl, decide_true, BEq.rfl, nm1, nm2, nm3, nm4, nm9, ngc, eq_self, List.length_cons, List.length_nil, hq, hl, hp, c_hasRoadn hl hC hi hN, c_canPave hl hC hb hi]
    refine okc ?_
    rw [cw_wp]
    simp (disch := omega) only [W1078, r_4, r_La, r_2, r_Li, h79_1030, s_41, s_0, ci_m1, r_90, h79_1075, s_40, h79_1077, r_52, ci_m4, W1075, ci_0, h79_1021, ci_2, r_47, ci_1, r_94, s_Z0, s_Z1, (fun d => cw_wp d 1075), enR, LG, LSt, LC, nlR, psR, TK, up_s, up_n, up_u, lt_nI, le_nI, eq_nI, true_and, and_true, if_true, if_false, Nat.zero_add, Nat.add_zero, nI_add, ↓reduceIte, Nat.reduceAdd, Nat.reduceMul, Nat.reduceSub, Nat.reduceLT, Nat.reduceLeDiff, Nat.reduceEqDiff, Nat.not_lt_zero, Nat.lt_irrefl, decide_true, BEq.rfl, nm1, nm2, nm3, nm4, nm9, ngc, eq_self, List.length_cons, List.length_nil, m_isRoad hM, hi2, m_of, e1, hp1, hp2]
    exact okm (rl_inv (rl_t H))
end
/-! best -/
section
variable {t d : Nat} {z : AZ} {X : Nat × (Nat → Int32)} {C : CT} {M : MT} {s : Nat → Int32} {v : Nat → Int64} {g : Nat → Nat → Int32} {w : Nat → Nat → Int64} {q : Nat → Nat} {ct : Nat → Int32} {cn : Nat → Int32} {cc : Nat → Nat → Int32} {di : Nat → Nat → Int32} {dr : Nat → Nat → Int32} {df : Nat → Nat → Int32} {li : Nat → Nat → Int32} {la : Nat → Nat → Nat → Int32} {sf : Nat → Nat → Int32} {sl : Nat → Nat → Int32} {a : Nat → Int32} {b : Nat → Int64} {e : Nat → Nat → Int32} {o : Nat → Nat → Int64} {B : Nat → Bool} {n : Nat → Nat} {P N W : Nat} {K O T J : Nat → Nat} {l : Nat} {Ds : Nat → Nat} {Dr Df Dp : Nat → Nat → Nat} {KB : Nat → Bool}
variable {Q : Option Value → AZ → AH → Prop} {ℓ : Nat → Nat}
def okp (K : Nat → Nat) (i : Nat) : Bool := decide (K i = 0 ∨ K i = 2)
theorem lp_be32 (hl : l < 2) (hq : q 0 = l) (hC : CLn (li l) (la l) P N K O T J) (hb : LB P N W K O T J) (h14 : s 14 = nI W) (hG : GR (lds N (fe W K J) K O T) (g 26) P) (hn : ∀ i, LSS (lds N (fe W K J) K O T) (lds N (fe W (va_up K i 1) J) K O T) P (ℓ i))
    (hQ0 : ∀ (s' : Nat → Int32) (g' sf' sl' : Nat → Nat → Int32), FRs s s' → g' 32 = g 32 → sf' 0 = sf 0 → sl' 0 = sl 0 → bsN (okp K) ℓ N = none → Q (some (.int (-9))) z (Hp X (s', v, g', w, q, ct, cn, cc, di, dr, df, li, la, sf', sl') M))
    (hQ1 : ∀ (s' : Nat → Int32) (g' sf' sl' : Nat → Nat → Int32) (b' n' : Nat), FRs s s' → g' 32 = g 32 → sf' 0 = sf 0 → sl' 0 = sl 0 → bsN (okp K) ℓ N = some (b', n') → Q (some (.int (nI b'))) z (Hp X (va_up s' 15 (nI n'), v, g', w, q, ct, cn, cc, di, dr, df, li, la, sf', sl') M)) :
    ∀ (j i : Nat) (s' : Nat → Int32) (g' sf' sl' : Nat → Nat → Int32), i + j = N → FRs s s' → g' 26 = g 26 → g' 32 = g 32 → sf' 0 = sf 0 → sl' 0 = sl 0 → Wp (d + 6) 939 32 [some (.ref 0), some (.int (bsA (bsN (okp K) ℓ i))), some (.int (bsB (nI 0) (bsN (okp K) ℓ i))), some (.int (nI i))] [] z (Hp X (s', v, g', w, q, ct, cn, cc, di, dr, df, li, la, sf', sl') M) Q := by
  have hP := hb.1
  have hN := hb.2.1
  have h9 := hC.2.1
  have hle : ∀ k, ℓ k ≤ 49 := fun k => ls_le (hn k) hP
  intro j
  induction j with
  | zero =>
    intro i s' g' sf' sl' hj hs h26 h32 hsf hsl
    have hj : i = N := by omega
    subst hj
    rw [W939_32]
    cases h : bsN (okp K) ℓ i with
    | none =>
      simp (disch := omega) only [W939, r_4, r_La, h60_9_9, h60_9_5, h60_9_12, h60_3_4, h60_4_0, h79_402, s_0, ci_m9, r_5, ci_0, r_2, r_Li, h60_3_5, r_49, h79_314, s_40, h79_959, r_46, s_8, r_In, ci_1, r_52, h61_9_15, r_90, enR, LG, LSt, LC, nlR, psR, TK, up_s, up_n, up_u, lt_nI, le_nI, eq_nI, true_and, and_true, if_true, if_false, Nat.zero_add, Nat.add_zero, nI_add, ↓reduceIte, Nat.reduceAdd, Nat.reduceMul, Nat.reduceSub, Nat.reduceLT, Nat.reduceLeDiff, Nat.reduceEqDiff, Nat.not_lt_zero, Nat.lt_irrefl, decide_true, BEq.rfl, nm1, nm2, nm3, nm4, nm9, ngc, eq_self, List.length_cons, List.length_nil, hq, hl, h9, bsA, bsB]
      exact hQ0 s' g' sf' sl' hs h32 hsf hsl h
    | some bn =>
      obtain ⟨b', n'⟩ := bn
      obtain ⟨u1, u2⟩ := bsN_lt hle i h
      have hm9 : (nI b' = -9) = False := nm9 (by omega)
      simp (disch := omega) only [W939, r_4, r_La, h60_9_9, h60_9_5, h60_9_12, h60_3_4, h60_4_0, h79_402, s_0, ci_m9, r_5, ci_0, r_2, r_Li, h60_3_5, r_49, h79_314, s_40, h79_959, r_46, s_8, r_In, ci_1, r_52, h61_9_15, r_90, enR, LG, LSt, LC, nlR, psR, TK, up_s, up_n, up_u, lt_nI, le_nI, eq_nI, true_and, and_true, if_true, if_false, Nat.zero_add, Nat.add_zero, nI_add, ↓reduceIte, Nat.reduceAdd, Nat.reduceMul, Nat.reduceSub, Nat.reduceLT, Nat.reduceLeDiff, Nat.reduceEqDiff, Nat.not_lt_zero, Nat.lt_irrefl, decide_true, BEq.rfl, nm1, nm2, nm3, nm4, nm9, ngc, eq_self, List.length_cons, List.length_nil, hq, hl, h9, bsA, bsB, hm9]
      exact hQ1 s' g' sf' sl' b' n' hs h32 hsf hsl h
  | succ j ih =>
    intro i s' g' sf' sl' hj hs h26 h32 hsf hsl
    have h1 : i < N := by omega
    rw [W939_32]
    by_cases hp : K i = 0 ∨ K i = 2
    · have hok : okp K i = true := decide_eq_true hp
      have ih2 := fun (s2 : Nat → Int32) (g2 sf2 sl2 : Nat → Nat → Int32) f1 f2 f3 f4 f5 => ih (i + 1) s2 g2 sf2 sl2 (by omega) f1 f2 f3 f4 f5
      rw [bsN, if_pos hok] at ih2
      simp (disch := omega) only [W939, r_4, r_La, h60_9_9, h60_9_5, h60_9_12, h60_3_4, h60_4_0, h79_402, s_0, ci_m9, r_5, ci_0, r_2, r_Li, h60_3_5, r_49, h79_314, s_40, h79_959, r_46, s_8, r_In, ci_1, r_52, h61_9_15, r_90, enR, LG, LSt, LC, nlR, psR, TK, up_s, up_n, up_u, lt_nI, le_nI, eq_nI, true_and, and_true, if_true, if_false, Nat.zero_add, Nat.add_zero, nI_add, ↓reduceIte, Nat.reduceAdd, Nat.reduceMul, Nat.reduceSub, Nat.reduceLT, Nat.reduceLeDiff, Nat.reduceEqDiff, Nat.not_lt_zero, Nat.lt_irrefl, decide_true, BEq.rfl, nm1, nm2, nm3, nm4, nm9, ngc, eq_self, List.length_cons, List.length_nil, hq, hl, h9, h1, hp, c_canPave hl hC hb h1]
      refine c_lossAG (n := ℓ i) (s := s') (g := g') (sf := sf') (sl := sl') hl hq hC hb (by rw [hs 14 (by decide) (by decide)]; exact h14) h1 hp (by rw [h26]; exact hG) (hn i) (fun s2 g2 sf2 sl2 r1 r2 r3 r4 => ?_)
      have k1 : FRs s s2 := fun k k1 k2 => (r1 k k1 k2).trans (hs k k1 k2)
      have k2 : g2 26 = g 26 := (r2 26 (by decide) (by decide) (by decide) (by decide)).trans h26
      have k3 : g2 32 = g 32 := (r2 32 (by decide) (by decide) (by decide) (by decide)).trans h32
      have ih3 := ih2 s2 g2 sf2 sl2 k1 k2 k3 (r3.trans hsf) (r4.trans hsl)
      have hli := hle i
      cases h : bsN (okp K) ℓ i with
      | none =>
        rw [h] at ih3
        simp (disch := omega) only [W939, r_4, r_La, h60_9_9, h60_9_5, h60_9_12, h60_3_4, h60_4_0, h79_402, s_0, ci_m9, r_5, ci_0, r_2, r_Li, h60_3_5, r_49, h79_314, s_40, h79_959, r_46, s_8, r_In, ci_1, r_52, h61_9_15, r_90, enR, LG, LSt, LC, nlR, psR, TK, up_s, up_n, up_u, lt_nI, le_nI, eq_nI, true_and, and_true, if_true, if_false, Nat.zero_add, Nat.add_zero, nI_add, ↓reduceIte, Nat.reduceAdd, Nat.reduceMul, Nat.reduceSub, Nat.reduceLT, Nat.reduceLeDiff, Nat.reduceEqDiff, Nat.not_lt_zero, Nat.lt_irrefl, decide_true, BEq.rfl, nm1, nm2, nm3, nm4, nm9, ngc, eq_self, List.length_cons, List.length_nil, bsA, bsB]
        exact ih3
      | some bn =>
        obtain ⟨b', n'⟩ := bn
        obtain ⟨u1, u2⟩ := bsN_lt hle i h
        have hm9 : (nI b' = -9) = False := nm9 (by omega)
        rw [h] at ih3
        by_cases hlt : ℓ i < n'
        · simp only [hlt, if_true] at ih3
          simp (disch := omega) only [W939, r_4, r_La, h60_9_9, h60_9_5, h60_9_12, h60_3_4, h60_4_0, h79_402, s_0, ci_m9, r_5, ci_0, r_2, r_Li, h60_3_5, r_49, h79_314, s_40, h79_959, r_46, s_8, r_In, ci_1, r_52, h61_9_15, r_90, enR, LG, LSt, LC, nlR, psR, TK, up_s, up_n, up_u, lt_nI, le_nI, eq_nI, true_and, and_true, if_true, if_false, Nat.zero_add, Nat.add_zero, nI_add, ↓reduceIte, Nat.reduceAdd, Nat.reduceMul, Nat.reduceSub, Nat.reduceLT, Nat.reduceLeDiff, Nat.reduceEqDiff, Nat.not_lt_zero, Nat.lt_irrefl, decide_true, BEq.rfl, nm1, nm2, nm3, nm4, nm9, ngc, eq_self, List.length_cons, List.length_nil, bsA, bsB, hm9, hlt]
          exact ih3
        · simp only [hlt, if_false] at ih3
          simp (disch := omega) only [W939, r_4, r_La, h60_9_9, h60_9_5, h60_9_12, h60_3_4, h60_4_0, h79_402, s_0, ci_m9, r_5, ci_0, r_2, r_Li, h60_3_5, r_49, h79_314, s_40, h79_959, r_46, s_8, r_In, ci_1, r_52, h61_9_15, r_90, enR, LG, LSt, LC, nlR, psR, TK, up_s, up_n, up_u, lt_nI, le_nI, eq_nI, true_and, and_true, if_true, if_false, Nat.zero_add, Nat.add_zero, nI_add, ↓reduceIte, Nat.reduceAdd, Nat.reduceMul, Nat.reduceSub, Nat.reduceLT, Nat.reduceLeDiff, Nat.reduceEqDiff, Nat.not_lt_zero, Nat.lt_irrefl, decide_true, BEq.rfl, nm1, nm2, nm3, nm4, nm9, ngc, eq_self, List.length_cons, List.length_nil, bsA, bsB, hm9, hlt]
          exact ih3
    · have hok : ¬ okp K i = true := by simpa [okp] using hp
      have ih2 := ih (i + 1) s' g' sf' sl' (by omega) hs h26 h32 hsf hsl
      rw [bsN, if_neg hok] at ih2
      simp (disch := omega) only [W939, r_4, r_La, h60_9_9, h60_9_5, h60_9_12, h60_3_4, h60_4_0, h79_402, s_0, ci_m9, r_5, ci_0, r_2, r_Li, h60_3_5, r_49, h79_314, s_40, h79_959, r_46, s_8, r_In, ci_1, r_52, h61_9_15, r_90, enR, LG, LSt, LC, nlR, psR, TK, up_s, up_n, up_u, lt_nI, le_nI, eq_nI, true_and, and_true, if_true, if_false, Nat.zero_add, Nat.add_zero, nI_add, ↓reduceIte, Nat.reduceAdd, Nat.reduceMul, Nat.reduceSub, Nat.reduceLT, Nat.reduceLeDiff, Nat.reduceEqDiff, Nat.not_lt_zero, Nat.lt_irrefl, decide_true, BEq.rfl, nm1, nm2, nm3, nm4, nm9, ngc, eq_self, List.length_cons, List.length_nil, hq, hl, h9, h1, hp, c_canPave hl hC hb h1]
      exact ih2
theorem lp_be8 {m0 : Nat} (hM : MLn a (e 74) P N W K O T J) (hb : LB P N W K O T J) (hm0 : m0 + 1200 < 2147483648) (hn : ∀ i, LSS (lds N (fe W K J) K O T) (lds N (fe W (va_up K i 1) J) K O T) P (ℓ i))
    (hQ0 : ∀ (a' : Nat → Int32) (e' : Nat → Nat → Int32) (mk : Nat), FRa a a' → FRx e e' → a' 30 = nI mk → mk ≤ m0 + 98 * N → (∀ w, w < 16384 → ∃ v, v ≤ mk ∧ e' 84 w = nI v) → bsN (okp K) ℓ N = none → Q (some (.int (-9))) z (Hp X C (a', b, e', o)))
    (hQ1 : ∀ (a' : Nat → Int32) (e' : Nat → Nat → Int32) (mk b' n' : Nat), FRa a a' → FRx e e' → a' 30 = nI mk → mk ≤ m0 + 98 * N → (∀ w, w < 16384 → ∃ v, v ≤ mk ∧ e' 84 w = nI v) → bsN (okp K) ℓ N = some (b', n') → Q (some (.int (nI b'))) z (Hp X C (va_up a' 2 (nI n'), b, e', o))) :
    ∀ (j i : Nat) (a' : Nat → Int32) (e' : Nat → Nat → Int32) (mk : Nat), i + j = N → FRa a a' → FRx e e' → a' 30 = nI mk → mk ≤ m0 + 98 * i → (∀ w, w < 16384 → ∃ v, v ≤ mk ∧ e' 84 w = nI v) → Wp (d + 5) 1079 8 [some (.ref 67), some (.int (bsA (bsN (okp K) ℓ i))), some (.int (bsB (nI 1048576) (bsN (okp K) ℓ i))), some (.int (nI i))] [] z (Hp X C (a', b, e', o)) Q := by
  have hP := hb.1
  have hN := hb.2.1
  have hle : ∀ k, ℓ k ≤ 49 := fun k => ls_le (hn k) hP
  intro j
  induction j with
  | zero =>
    intro i a' e' mk hj ha he h30 hmk h84
    have hj : i = N := by omega
    subst hj
    have h11 : a' 11 = nI i := by rw [ha 11 (by decide) (by decide)]; exact hM.2.1
    rw [W1079_8]
    cases h : bsN (okp K) ℓ i with
    | none =>
      simp (disch := omega) only [W1079, s_0, ci_m9, r_5, ci_1048576, ci_0, r_2, r_Li, r_4, r_La, h60_10_11, r_49, h79_1075, s_40, h79_1077, r_52, s_8, r_In, ci_1, r_47, h79_1003, r_90, enR, LG, LSt, LC, nlR, psR, TK, up_s, up_n, up_u, lt_nI, le_nI, eq_nI, true_and, and_true, if_true, if_false, Nat.zero_add, Nat.add_zero, nI_add, ↓reduceIte, Nat.reduceAdd, Nat.reduceMul, Nat.reduceSub, Nat.reduceLT, Nat.reduceLeDiff, Nat.reduceEqDiff, Nat.not_lt_zero, Nat.lt_irrefl, decide_true, BEq.rfl, nm1, nm2, nm3, nm4, nm9, ngc, eq_self, List.length_cons, List.length_nil, h11, bsA, bsB]
      exact hQ0 a' e' mk ha he h30 hmk h84 h
    | some bn =>
      obtain ⟨b', n'⟩ := bn
      obtain ⟨u1, u2⟩ := bsN_lt hle i h
      have hm9 : (nI b' = -9) = False := nm9 (by omega)
      simp (disch := omega) only [W1079, s_0, ci_m9, r_5, ci_1048576, ci_0, r_2, r_Li, r_4, r_La, h60_10_11, r_49, h79_1075, s_40, h79_1077, r_52, s_8, r_In, ci_1, r_47, h79_1003, r_90, enR, LG, LSt, LC, nlR, psR, TK, up_s, up_n, up_u, lt_nI, le_nI, eq_nI, true_and, and_true, if_true, if_false, Nat.zero_add, Nat.add_zero, nI_add, ↓reduceIte, Nat.reduceAdd, Nat.reduceMul, Nat.reduceSub, Nat.reduceLT, Nat.reduceLeDiff, Nat.reduceEqDiff, Nat.not_lt_zero, Nat.lt_irrefl, decide_true, BEq.rfl, nm1, nm2, nm3, nm4, nm9, ngc, eq_self, List.length_cons, List.length_nil, h11, bsA, bsB, hm9, m_ask]
      exact hQ1 a' e' mk b' n' ha he h30 hmk h84 h
  | succ j ih =>
    intro i a' e' mk hj ha he h30 hmk h84
    have h1 : i < N := by omega
    have h11 : a' 11 = nI N := by rw [ha 11 (by decide) (by decide)]; exact hM.2.1
    have hM1 : MLn a' (e' 74) P N W K O T J := mln_fr hM (fun k hk => ha k (by omega) (by omega)) (he 74 (by decide) (by decide) (by decide) (by decide))
    obtain ⟨b1, b2, b3, b4⟩ := hb.2.2.2.2 i h1
    obtain ⟨e1, e2, e3, e4⟩ := hM1.2.2.2 i h1
    have hli := hle i
    rw [W1079_8]
    by_cases hp : K i = 0 ∨ K i = 2
    · have hok : okp K i = true := decide_eq_true hp
      have ih2 := fun (a2 : Nat → Int32) (e2 : Nat → Nat → Int32) (mk2 : Nat) f1 f2 f3 f4 f5 => ih (i + 1) a2 e2 mk2 (by omega) f1 f2 f3 f4 f5
      rw [bsN, if_pos hok] at ih2
      have hm : (K i = 0) ∨ ¬ (K i = 0) ∧ K i = 2 := by omega
      cases h : bsN (okp K) ℓ i with
      | none =>
        rcases hm with hm | ⟨hm, hm2⟩
        · simp (disch := omega) only [W1079, s_0, ci_m9, r_5, ci_1048576, ci_0, r_2, r_Li, r_4, r_La, h60_10_11, r_49, h79_1075, s_40, h79_1077, r_52, s_8, r_In, ci_1, r_47, h79_1003, r_90, W1075, h79_1021, ci_2, r_94, s_Z0, s_Z1, (fun d => cw_wp d 1075), enR, LG, LSt, LC, nlR, psR, TK, up_s, up_n, up_u, lt_nI, le_nI, eq_nI, true_and, and_true, if_true, if_false, Nat.zero_add, Nat.add_zero, nI_add, ↓reduceIte, Nat.reduceAdd, Nat.reduceMul, Nat.reduceSub, Nat.reduceLT, Nat.reduceLeDiff, Nat.reduceEqDiff, Nat.not_lt_zero, Nat.lt_irrefl, decide_true, BEq.rfl, nm1, nm2, nm3, nm4, nm9, ngc, eq_self, List.length_cons, List.length_nil, h11, h1, m_of, e1, hm, bsA, bsB]
          refine m_lossOf (a := a') (e := e') hM1 hb h1 hp (by omega) h30 h84 (hn i) (fun a2 e2 mk2 w1 w2 w3 w4 w5 => ?_)
          have ih3 := ih2 a2 e2 mk2 (fun k k1 k2 => (w1 k k1 k2).trans (ha k k1 k2)) (fun k k1 k2 k3 k4 => (w2 k k1 k2 k3 k4).trans (he k k1 k2 k3 k4)) w3 (by omega) w5
          rw [h] at ih3
          have hlt : ℓ i < 1048576 := by omega
          simp (disch := omega) only [W1079, s_0, ci_m9, r_5, ci_1048576, ci_0, r_2, r_Li, r_4, r_La, h60_10_11, r_49, h79_1075, s_40, h79_1077, r_52, s_8, r_In, ci_1, r_47, h79_1003, r_90, enR, LG, LSt, LC, nlR, psR, TK, up_s, up_n, up_u, lt_nI, le_nI, eq_nI, true_and, and_true, if_true, if_false, Nat.zero_add, Nat.add_zero, nI_add, ↓reduceIte, Nat.reduceAdd, Nat.reduceMul, Nat.reduceSub, Nat.reduceLT, Nat.reduceLeDiff, Nat.reduceEqDiff, Nat.not_lt_zero, Nat.lt_irrefl, decide_true, BEq.rfl, nm1, nm2, nm3, nm4, nm9, ngc, eq_self, List.length_cons, List.length_nil, hlt]
          exact ih3
        · simp (disch := omega) only [W1079, s_0, ci_m9, r_5, ci_1048576, ci_0, r_2, r_Li, r_4, r_La, h60_10_11, r_49, h79_1075, s_40, h79_1077, r_52, s_8, r_In, ci_1, r_47, h79_1003, r_90, W1075, h79_1021, ci_2, r_94, s_Z0, s_Z1, (fun d => cw_wp d 1075), enR, LG, LSt, LC, nlR, psR, TK, up_s, up_n, up_u, lt_nI, le_nI, eq_nI, true_and, and_true, if_true, if_false, Nat.zero_add, Nat.add_zero, nI_add, ↓reduceIte, Nat.reduceAdd, Nat.reduceMul, Nat.reduceSub, Nat.reduceLT, Nat.reduceLeDiff, Nat.reduceEqDiff, Nat.not_lt_zero, Nat.lt_irrefl, decide_true, BEq.rfl, nm1, nm2, nm3, nm4, nm9, ngc, eq_self, List.length_cons, List.length_nil, h11, h1, m_of, e1, hm2, bsA, bsB]
          refine m_lossOf (a := a') (e := e') hM1 hb h1 hp (by omega) h30 h84 (hn i) (fun a2 e2 mk2 w1 w2 w3 w4 w5 => ?_)
          have ih3 := ih2 a2 e2 mk2 (fun k k1 k2 => (w1 k k1 k2).trans (ha k k1 k2)) (fun k k1 k2 k3 k4 => (w2 k k1 k2 k3 k4).trans (he k k1 k2 k3 k4)) w3 (by omega) w5
          rw [h] at ih3
          have hlt : ℓ i < 1048576 := by omega
          simp (disch := omega) only [W1079, s_0, ci_m9, r_5, ci_1048576, ci_0, r_2, r_Li, r_4, r_La, h60_10_11, r_49, h79_1075, s_40, h79_1077, r_52, s_8, r_In, ci_1, r_47, h79_1003, r_90, enR, LG, LSt, LC, nlR, psR, TK, up_s, up_n, up_u, lt_nI, le_nI, eq_nI, true_and, and_true, if_true, if_false, Nat.zero_add, Nat.add_zero, nI_add, ↓reduceIte, Nat.reduceAdd, Nat.reduceMul, Nat.reduceSub, Nat.reduceLT, Nat.reduceLeDiff, Nat.reduceEqDiff, Nat.not_lt_zero, Nat.lt_irrefl, decide_true, BEq.rfl, nm1, nm2, nm3, nm4, nm9, ngc, eq_self, List.length_cons, List.length_nil, hlt]
          exact ih3
      | some bn =>
        obtain ⟨b', n'⟩ := bn
        obtain ⟨u1, u2⟩ := bsN_lt hle i h
        have fin : ∀ (a2 : Nat → Int32) (e2 : Nat → Nat → Int32) (mk2 : Nat), FRa a' a2 → FRx e' e2 → a2 30 = nI mk2 → mk2 ≤ mk + 98 → (∀ w, w < 16384 → ∃ v, v ≤ mk2 ∧ e2 84 w = nI v) → Wp (d + 5) 1079 8 [some (.ref 67), some (.int (if ℓ i < n' then nI i else nI b')), some (.int (if ℓ i < n' then nI (ℓ i) else nI n')), some (.int (nI (i + 1)))] [] z (Hp X C (a2, b, e2, o)) Q := fun a2 e2 mk2 w1 w2 w3 w4 w5 => by
          have ih3 := ih2 a2 e2 mk2 (fun k k1 k2 => (w1 k k1 k2).trans (ha k k1 k2)) (fun k k1 k2 k3 k4 => (w2 k k1 k2 k3 k4).trans (he k k1 k2 k3 k4)) w3 (by omega) w5
          rw [h] at ih3
          by_cases hlt : ℓ i < n'
          · simp only [hlt, if_true] at ih3 ⊢
            exact ih3
          · simp only [hlt, if_false] at ih3 ⊢
            exact ih3
        rcases hm with hm | ⟨hm, hm2⟩
        · simp (disch := omega) only [W1079, s_0, ci_m9, r_5, ci_1048576, ci_0, r_2, r_Li, r_4, r_La, h60_10_11, r_49, h79_1075, s_40, h79_1077, r_52, s_8, r_In, ci_1, r_47, h79_1003, r_90, W1075, h79_1021, ci_2, r_94, s_Z0, s_Z1, (fun d => cw_wp d 1075), enR, LG, LSt, LC, nlR, psR, TK, up_s, up_n, up_u, lt_nI, le_nI, eq_nI, true_and, and_true, if_true, if_false, Nat.zero_add, Nat.add_zero, nI_add, ↓reduceIte, Nat.reduceAdd, Nat.reduceMul, Nat.reduceSub, Nat.reduceLT, Nat.reduceLeDiff, Nat.reduceEqDiff, Nat.not_lt_zero, Nat.lt_irrefl, decide_true, BEq.rfl, nm1, nm2, nm3, nm4, nm9, ngc, eq_self, List.length_cons, List.length_nil, h11, h1, m_of, e1, hm, bsA, bsB]
          refine m_lossOf (a := a') (e := e') hM1 hb h1 hp (by omega) h30 h84 (hn i) (fun a2 e2 mk2 w1 w2 w3 w4 w5 => ?_)
          have ih3 := fin a2 e2 mk2 w1 w2 w3 w4 w5
          by_cases hlt : ℓ i < n'
          · rw [if_pos hlt, if_pos hlt] at ih3
            simp (disch := omega) only [W1079, s_0, ci_m9, r_5, ci_1048576, ci_0, r_2, r_Li, r_4, r_La, h60_10_11, r_49, h79_1075, s_40, h79_1077, r_52, s_8, r_In, ci_1, r_47, h79_1003, r_90, enR, LG, LSt, LC, nlR, psR, TK, up_s, up_n, up_u, lt_nI, le_nI, eq_nI, true_and, and_true, if_true, if_false, Nat.zero_add, Nat.add_zero, nI_add, ↓reduceIte, Nat.reduceAdd, Nat.reduceMul, Nat.reduceSub, Nat.reduceLT, Nat.reduceLeDiff, Nat.reduceEqDiff, Nat.not_lt_zero, Nat.lt_irrefl, decide_true, BEq.rfl, nm1, nm2, nm3, nm4, nm9, ngc, eq_self, List.length_cons, List.length_nil, hlt]
            exact ih3
          · rw [if_neg hlt, if_neg hlt] at ih3
            simp (disch := omega) only [W1079, s_0, ci_m9, r_5, ci_1048576, ci_0, r_2, r_Li, r_4, r_La, h60_10_11, r_49, h79_1075, s_40, h79_1077, r_52, s_8, r_In, ci_1, r_47, h79_1003, r_90, enR, LG, LSt, LC, nlR, psR, TK, up_s, up_n, up_u, lt_nI, le_nI, eq_nI, true_and, and_true, if_true, if_false, Nat.zero_add, Nat.add_zero, nI_add, ↓reduceIte, Nat.reduceAdd, Nat.reduceMul, Nat.reduceSub, Nat.reduceLT, Nat.reduceLeDiff, Nat.reduceEqDiff, Nat.not_lt_zero, Nat.lt_irrefl, decide_true, BEq.rfl, nm1, nm2, nm3, nm4, nm9, ngc, eq_self, List.length_cons, List.length_nil, hlt]
            exact ih3
        · simp (disch := omega) only [W1079, s_0, ci_m9, r_5, ci_1048576, ci_0, r_2, r_Li, r_4, r_La, h60_10_11, r_49, h79_1075, s_40, h79_1077, r_52, s_8, r_In, ci_1, r_47, h79_1003, r_90, W1075, h79_1021, ci_2, r_94, s_Z0, s_Z1, (fun d => cw_wp d 1075), enR, LG, LSt, LC, nlR, psR, TK, up_s, up_n, up_u, lt_nI, le_nI, eq_nI, true_and, and_true, if_true, if_false, Nat.zero_add, Nat.add_zero, nI_add, ↓reduceIte, Nat.reduceAdd, Nat.reduceMul, Nat.reduceSub, Nat.reduceLT, Nat.reduceLeDiff, Nat.reduceEqDiff, Nat.not_lt_zero, Nat.lt_irrefl, decide_true, BEq.rfl, nm1, nm2, nm3, nm4, nm9, ngc, eq_self, List.length_cons, List.length_nil, h11, h1, m_of, e1, hm2, bsA, bsB]
          refine m_lossOf (a := a') (e := e') hM1 hb h1 hp (by omega) h30 h84 (hn i) (fun a2 e2 mk2 w1 w2 w3 w4 w5 => ?_)
          have ih3 := fin a2 e2 mk2 w1 w2 w3 w4 w5
          by_cases hlt : ℓ i < n'
          · rw [if_pos hlt, if_pos hlt] at ih3
            simp (disch := omega) only [W1079, s_0, ci_m9, r_5, ci_1048576, ci_0, r_2, r_Li, r_4, r_La, h60_10_11, r_49, h79_1075, s_40, h79_1077, r_52, s_8, r_In, ci_1, r_47, h79_1003, r_90, enR, LG, LSt, LC, nlR, psR, TK, up_s, up_n, up_u, lt_nI, le_nI, eq_nI, true_and, and_true, if_true, if_false, Nat.zero_add, Nat.add_zero, nI_add, ↓reduceIte, Nat.reduceAdd, Nat.reduceMul, Nat.reduceSub, Nat.reduceLT, Nat.reduceLeDiff, Nat.reduceEqDiff, Nat.not_lt_zero, Nat.lt_irrefl, decide_true, BEq.rfl, nm1, nm2, nm3, nm4, nm9, ngc, eq_self, List.length_cons, List.length_nil, hlt]
            exact ih3
          · rw [if_neg hlt, if_neg hlt] at ih3
            simp (disch := omega) only [W1079, s_0, ci_m9, r_5, ci_1048576, ci_0, r_2, r_Li, r_4, r_La, h60_10_11, r_49, h79_1075, s_40, h79_1077, r_52, s_8, r_In, ci_1, r_47, h79_1003, r_90, enR, LG, LSt, LC, nlR, psR, TK, up_s, up_n, up_u, lt_nI, le_nI, eq_nI, true_and, and_true, if_true, if_false, Nat.zero_add, Nat.add_zero, nI_add, ↓reduceIte, Nat.reduceAdd, Nat.reduceMul, Nat.reduceSub, Nat.reduceLT, Nat.reduceLeDiff, Nat.reduceEqDiff, Nat.not_lt_zero, Nat.lt_irrefl, decide_true, BEq.rfl, nm1, nm2, nm3, nm4, nm9, ngc, eq_self, List.length_cons, List.length_nil, hlt]
            exact ih3
    · have hok : ¬ okp K i = true := by simpa [okp] using hp
      have hp1 : ¬ K i = 0 := fun h => hp (Or.inl h)
      have hp2 : ¬ K i = 2 := fun h => hp (Or.inr h)
      have ih2 := ih (i + 1) a' e' mk (by omega) ha he h30 (by omega) h84
      rw [bsN, if_neg hok] at ih2
      cases h : bsN (okp K) ℓ i with
      | none =>
        rw [h] at ih2
        simp (disch := omega) only [W1079, s_0, ci_m9, r_5, ci_1048576, ci_0, r_2, r_Li, r_4, r_La, h60_10_11, r_49, h79_1075, s_40, h79_1077, r_52, s_8, r_In, ci_1, r_47, h79_1003, r_90, W1075, h79_1021, ci_2, r_94, s_Z0, s_Z1, (fun d => cw_wp d 1075), enR, LG, LSt, LC, nlR, psR, TK, up_s, up_n, up_u, lt_nI, le_nI, eq_nI, true_and, and_true, if_true, if_false, Nat.zero_add, Nat.add_zero, nI_add, ↓reduceIte, Nat.reduceAdd, Nat.reduceMul, Nat.reduceSub, Nat.reduceLT, Nat.reduceLeDiff, Nat.reduceEqDiff, Nat.not_lt_zero, Nat.lt_irrefl, decide_true, BEq.rfl, nm1, nm2, nm3, nm4, nm9, ngc, eq_self, List.length_cons, List.length_nil, h11, h1, m_of, e1, hp1, hp2, bsA, bsB]
        exact ih2
      | some bn =>
        obtain ⟨b', n'⟩ := bn
        obtain ⟨u1, u2⟩ := bsN_lt hle i h
        rw [h] at ih2
        have hlt : ¬ 1048576 < n' := by omega
        simp (disch := omega) only [W1079, s_0, ci_m9, r_5, ci_1048576, ci_0, r_2, r_Li, r_4, r_La, h60_10_11, r_49, h79_1075, s_40, h79_1077, r_52, s_8, r_In, ci_1, r_47, h79_1003, r_90, W1075, h79_1021, ci_2, r_94, s_Z0, s_Z1, (fun d => cw_wp d 1075), enR, LG, LSt, LC, nlR, psR, TK, up_s, up_n, up_u, lt_nI, le_nI, eq_nI, true_and, and_true, if_true, if_false, Nat.zero_add, Nat.add_zero, nI_add, ↓reduceIte, Nat.reduceAdd, Nat.reduceMul, Nat.reduceSub, Nat.reduceLT, Nat.reduceLeDiff, Nat.reduceEqDiff, Nat.not_lt_zero, Nat.lt_irrefl, decide_true, BEq.rfl, nm1, nm2, nm3, nm4, nm9, ngc, eq_self, List.length_cons, List.length_nil, h11, h1, m_of, e1, hp1, hp2, bsA, bsB, hlt]
        exact ih2
theorem op_best (H : RL t z s v g w q ct cn cc di dr df li la sf sl a b e o B n P N W K O T J l Ds Dr Df Dp KB) (ht : t < 1000000) : OPI (d + 20) 939 1079 [] t z X (s, v, g, w, q, ct, cn, cc, di, dr, df, li, la, sf, sl) (a, b, e, o) := by
  obtain ⟨hb, hl, hq, hC, hs, hM, hS⟩ := rl_land H
  have hP := hb.1
  have hN := hb.2.1
  have h0 := hC.1
  obtain ⟨mk, k30, kmk, k84⟩ := id H.2.2.2.2.2.2
  obtain ⟨ℓ, hℓ⟩ : ∃ ℓ : Nat → Nat, ∀ i, LSS (lds N (fe W K J) K O T) (lds N (fe W (va_up K i 1) J) K O T) P (ℓ i) := ⟨fun i => Classical.choose (ls_ex _ _ P), fun i => Classical.choose_spec (ls_ex (lds N (fe W K J) K O T) (lds N (fe W (va_up K i 1) J) K O T) P)⟩
  have fin : ∀ (s' : Nat → Int32) (g' sf' sl' : Nat → Nat → Int32) (a' : Nat → Int32) (e' : Nat → Nat → Int32) (mk' : Nat), FRs s s' → g' 32 = g 32 → sf' 0 = sf 0 → sl' 0 = sl 0 → FRa a a' → FRx e e' → a' 30 = nI mk' → mk' ≤ mk + 98 * N → (∀ w, w < 16384 → ∃ v, v ≤ mk' ∧ e' 84 w = nI v) → RL (t + 1) z (s') v (g') w q ct cn cc di dr df li la (sf') (sl') (a') b (e') o B n P N W K O T J l Ds Dr Df Dp KB := fun s' g' sf' sl' a' e' mk' f1 f2 f3 f4 w1 w2 w3 w4 w5 => by
    have ha' : ∀ k, k < 30 → a' k = a k := fun k hk => w1 k (by omega) (by omega)
    exact rl_fr (mk := mk') H (fun k hk => f1 k (by omega) (by omega)) f2 f3 f4 ha' (fun k k1 k2 k3 => w2 k (by omega) (by omega) (by omega) (by omega)) (mln_fr hM ha' (w2 74 (by decide) (by decide) (by decide) (by decide))) w3 (by omega) w5
  unfold OPI
  rw [cw_wp]
  simp (disch := omega) only [W939, r_4, r_La, h60_9_9, h60_9_5, h60_9_12, h60_3_4, h60_4_0, h79_402, s_0, ci_m9, r_5, ci_0, r_2, r_Li, h60_3_5, r_49, h79_314, s_40, h79_959, r_46, s_8, r_In, ci_1, r_52, h61_9_15, r_90, enR, LG, LSt, LC, nlR, psR, TK, up_s, up_n, up_u, lt_nI, le_nI, eq_nI, true_and, and_true, if_true, if_false, Nat.zero_add, Nat.add_zero, nI_add, ↓reduceIte, Nat.reduceAdd, Nat.reduceMul, Nat.reduceSub, Nat.reduceLT, Nat.reduceLeDiff, Nat.reduceEqDiff, Nat.not_lt_zero, Nat.lt_irrefl, decide_true, BEq.rfl, nm1, nm2, nm3, nm4, nm9, ngc, eq_self, List.length_cons, List.length_nil, hq, hl, h0]
  refine c_group_26 (show 0 < 2 by decide) (sen_SL hb hS) hP (fun s1 g1 f1 f2 f3 => ?_)
  simp (disch := omega) only [W939, r_4, r_La, h60_9_9, h60_9_5, h60_9_12, h60_3_4, h60_4_0, h79_402, s_0, ci_m9, r_5, ci_0, r_2, r_Li, h60_3_5, r_49, h79_314, s_40, h79_959, r_46, s_8, r_In, ci_1, r_52, h61_9_15, r_90, enR, LG, LSt, LC, nlR, psR, TK, up_s, up_n, up_u, lt_nI, le_nI, eq_nI, true_and, and_true, if_true, if_false, Nat.zero_add, Nat.add_zero, nI_add, ↓reduceIte, Nat.reduceAdd, Nat.reduceMul, Nat.reduceSub, Nat.reduceLT, Nat.reduceLeDiff, Nat.reduceEqDiff, Nat.not_lt_zero, Nat.lt_irrefl, decide_true, BEq.rfl, nm1, nm2, nm3, nm4, nm9, ngc, eq_self, List.length_cons, List.length_nil]
  refine lp_be32 (ℓ := ℓ) (s := s1) (g := g1) hl hq hC hb (by rw [f1 14 (by decide) (by decide)]; exact hs) f3 hℓ (fun s2 g2 sf2 sl2 r1 r2 r3 r4 hbs => ?_) (fun s2 g2 sf2 sl2 b' n' r1 r2 r3 r4 hbs => ?_) N 0 s1 g1 sf sl (by omega) (fun _ _ _ => rfl) rfl rfl rfl rfl
  · have k1 : FRs s s2 := fun k k1 k2 => (r1 k k1 k2).trans (f1 k k1 k2)
    have k3 : g2 32 = g 32 := r2.trans (f2 32 (by decide) (by decide) (by decide) (by decide))
    refine okc ?_
    rw [cw_wp]
    simp (disch := omega) only [W1079, s_0, ci_m9, r_5, ci_1048576, ci_0, r_2, r_Li, r_4, r_La, h60_10_11, r_49, h79_1075, s_40, h79_1077, r_52, s_8, r_In, ci_1, r_47, h79_1003, r_90, enR, LG, LSt, LC, nlR, psR, TK, up_s, up_n, up_u, lt_nI, le_nI, eq_nI, true_and, and_true, if_true, if_false, Nat.zero_add, Nat.add_zero, nI_add, ↓reduceIte, Nat.reduceAdd, Nat.reduceMul, Nat.reduceSub, Nat.reduceLT, Nat.reduceLeDiff, Nat.reduceEqDiff, Nat.not_lt_zero, Nat.lt_irrefl, decide_true, BEq.rfl, nm1, nm2, nm3, nm4, nm9, ngc, eq_self, List.length_cons, List.length_nil]
    refine lp_be8 (ℓ := ℓ) (m0 := mk) hM hb (by omega) hℓ (fun a' e' mk' w1 w2 w3 w4 w5 hbs2 => ?_) (fun a' e' mk' b' n' w1 w2 w3 w4 w5 hbs2 => ?_) N 0 a e mk (by omega) (fun _ _ _ => rfl) (fun _ _ _ _ _ => rfl) k30 (by omega) k84
    · exact okm (rl_inv (fin s2 g2 sf2 sl2 a' e' mk' k1 k3 r3 r4 w1 w2 w3 w4 w5))
    · rw [hbs] at hbs2; exact absurd hbs2 (by simp)
  · have k1 : FRs s s2 := fun k k1 k2 => (r1 k k1 k2).trans (f1 k k1 k2)
    have k3 : g2 32 = g 32 := r2.trans (f2 32 (by decide) (by decide) (by decide) (by decide))
    refine okc ?_
    rw [cw_wp]
    simp (disch := omega) only [W1079, s_0, ci_m9, r_5, ci_1048576, ci_0, r_2, r_Li, r_4, r_La, h60_10_11, r_49, h79_1075, s_40, h79_1077, r_52, s_8, r_In, ci_1, r_47, h79_1003, r_90, enR, LG, LSt, LC, nlR, psR, TK, up_s, up_n, up_u, lt_nI, le_nI, eq_nI, true_and, and_true, if_true, if_false, Nat.zero_add, Nat.add_zero, nI_add, ↓reduceIte, Nat.reduceAdd, Nat.reduceMul, Nat.reduceSub, Nat.reduceLT, Nat.reduceLeDiff, Nat.reduceEqDiff, Nat.not_lt_zero, Nat.lt_irrefl, decide_true, BEq.rfl, nm1, nm2, nm3, nm4, nm9, ngc, eq_self, List.length_cons, List.length_nil]
    refine lp_be8 (ℓ := ℓ) (m0 := mk) hM hb (by omega) hℓ (fun a' e' mk' w1 w2 w3 w4 w5 hbs2 => ?_) (fun a' e' mk' b2 n2 w1 w2 w3 w4 w5 hbs2 => ?_) N 0 a e mk (by omega) (fun _ _ _ => rfl) (fun _ _ _ _ _ => rfl) k30 (by omega) k84
    · rw [hbs] at hbs2; exact absurd hbs2 (by simp)
    · rw [hbs] at hbs2
      cases hbs2
      exact okm (rl_inv (rl_ask0 (fin s2 g2 sf2 sl2 a' e' mk' k1 k3 r3 r4 w1 w2 w3 w4 w5)))
end
/-! tour: what is reached in so many steps -/
def scT (K O T : Nat → Nat) (i x : Nat) : Option Nat := match ldm K O T i (x / 1024) with
  | none => none
  | some q => some (1024 * q + (x % 1024 ||| 2 ^ i))
def RNt (N : Nat) (K O T : Nat → Nat) (p0 : Nat) : Nat → Nat → Prop
  | 0, x => x = 1024 * p0
  | r + 1, x => RNt N K O T p0 r x ∨ ∃ y i, RNt N K O T p0 r y ∧ i < N ∧ scT K O T i y = some x
def DNt (N : Nat) (K O T : Nat → Nat) (p0 : Nat) : Nat → Nat → Prop
  | 0, x => x = 1024 * p0
  | r + 1, x => RNt N K O T p0 (r + 1) x ∧ ¬ RNt N K O T p0 r x
def TSo (N : Nat) (K O T : Nat → Nat) (p0 : Nat) : Option (Nat × Nat) → Prop
  | none => ∀ d p, ¬ RNt N K O T p0 d (1024 * p + (2 ^ N - 1))
  | some (d, p) => p < 7 ∧ d < 16384 ∧ RNt N K O T p0 d (1024 * p + (2 ^ N - 1)) ∧ (∀ p', p' < p → ¬ RNt N K O T p0 d (1024 * p' + (2 ^ N - 1))) ∧ ∀ d' p', d' < d → ¬ RNt N K O T p0 d' (1024 * p' + (2 ^ N - 1))
theorem ts_eq {N p0 : Nat} {K O T : Nat → Nat} {x y : Option (Nat × Nat)} (hx : TSo N K O T p0 x) (hy : TSo N K O T p0 y) : x = y := by
  cases x with
  | none =>
    cases y with
    | none => rfl
    | some w => obtain ⟨d, p⟩ := w; exact absurd hy.2.2.1 (hx d p)
  | some w =>
    obtain ⟨d, p⟩ := w
    cases y with
    | none => exact absurd hx.2.2.1 (hy d p)
    | some w' =>
      obtain ⟨d', p'⟩ := w'
      obtain ⟨-, -, a3, a4, a5⟩ := hx
      obtain ⟨-, -, b3, b4, b5⟩ := hy
      have h1 : ¬ d < d' := fun h => b5 d p h a3
      have h2 : ¬ d' < d := fun h => a5 d' p' h b3
      have h3 : d = d' := by omega
      subst h3
      have h4 : ¬ p < p' := fun h => b4 p h a3
      have h5 : ¬ p' < p := fun h => a4 p' h b3
      have h6 : p = p' := by omega
      subst h6
      rfl
theorem sc_some {K O T : Nat → Nat} {i x y : Nat} (h : scT K O T i x = some y) : ∃ q, ldm K O T i (x / 1024) = some q ∧ y = 1024 * q + (x % 1024 ||| 2 ^ i) := by
  unfold scT at h
  cases e : ldm K O T i (x / 1024) with
  | none => rw [e] at h; exact absurd h (by simp)
  | some q => rw [e] at h; exact ⟨q, rfl, (Option.some.inj h).symm⟩
theorem or_1024 {a i : Nat} (ha : a < 1024) (hi : i < 10) : a ||| 2 ^ i < 1024 := or_lt (n := 10) ha hi
theorem sc_lt {P N W p0 i x y : Nat} {K O T J : Nat → Nat} (hb : LB P N W K O T J) (hi : i < N) (hx : x % 1024 < 2 ^ N) (h : scT K O T i x = some y) : y < 1024 * P ∧ y % 1024 < 2 ^ N := by
  obtain ⟨q, h1, rfl⟩ := sc_some h
  have h2 := ldm_lt hb hi h1
  have hN := hb.2.1
  have h3 : x % 1024 ||| 2 ^ i < 2 ^ N := or_lt hx hi
  have h4 := or_1024 (a := x % 1024) (i := i) (by omega) (by omega)
  have h5 : (1024 * q + (x % 1024 ||| 2 ^ i)) % 1024 = (x % 1024 ||| 2 ^ i) := by omega
  rw [h5]
  exact ⟨by omega, h3⟩
theorem rn_lt {P N W p0 : Nat} {K O T J : Nat → Nat} (hb : LB P N W K O T J) (hp : p0 < P) : ∀ r x, RNt N K O T p0 r x → x < 1024 * P ∧ x % 1024 < 2 ^ N := by
  intro r
  induction r with
  | zero =>
    intro x h
    have h : x = 1024 * p0 := h
    have := Nat.two_pow_pos N
    omega
  | succ r ih =>
    intro x h
    rcases h with h | ⟨y, i, h1, h2, h3⟩
    · exact ih x h
    · exact sc_lt (p0 := p0) hb h2 (ih y h1).2 h3
theorem rn_mono {N p0 r x : Nat} {K O T : Nat → Nat} (h : RNt N K O T p0 r x) : ∀ k, RNt N K O T p0 (r + k) x := by
  intro k
  induction k with
  | zero => exact h
  | succ k ih => exact Or.inl ih
theorem dn_rn {N p0 r x : Nat} {K O T : Nat → Nat} (h : DNt N K O T p0 r x) : RNt N K O T p0 r x := by
  cases r with
  | zero => exact h
  | succ r => exact h.1
theorem dn_succ {N p0 r x : Nat} {K O T : Nat → Nat} : RNt N K O T p0 (r + 1) x ↔ RNt N K O T p0 r x ∨ ∃ y i, DNt N K O T p0 r y ∧ i < N ∧ scT K O T i y = some x := by
  constructor
  · intro h
    rcases h with h | ⟨y, i, h1, h2, h3⟩
    · exact Or.inl h
    · cases r with
      | zero => exact Or.inr ⟨y, i, h1, h2, h3⟩
      | succ r =>
        by_cases h4 : RNt N K O T p0 r y
        · exact Or.inl (Or.inr ⟨y, i, h4, h2, h3⟩)
        · exact Or.inr ⟨y, i, ⟨h1, h4⟩, h2, h3⟩
  · intro h
    rcases h with h | ⟨y, i, h1, h2, h3⟩
    · exact Or.inl h
    · exact Or.inr ⟨y, i, dn_rn h1, h2, h3⟩
theorem dn_pos {N p0 r x : Nat} {K O T : Nat → Nat} (h : DNt N K O T p0 (r + 1) x) : ∃ y, DNt N K O T p0 r y := by
  rcases dn_succ.mp h.1 with h1 | ⟨y, i, h1, -, -⟩
  · exact absurd h1 h.2
  · exact ⟨y, h1⟩
theorem cnt_lt {p q : Nat → Bool} {j : Nat} (hpq : ∀ i, p i = true → q i = true) (h1 : q j = true) (h2 : ¬ p j = true) : ∀ n, j < n → cnt p n < cnt q n := by
  have hle : ∀ n, cnt p n ≤ cnt q n := by
    intro n
    induction n with
    | zero => exact Nat.le_refl _
    | succ n ih =>
      rw [cnt_succ, cnt_succ]
      by_cases h : p n = true
      · rw [if_pos h, if_pos (hpq n h)]; omega
      · rw [if_neg h]; split <;> omega
  intro n
  induction n with
  | zero => intro h; omega
  | succ n ih =>
    intro hj
    rw [cnt_succ, cnt_succ]
    by_cases hjn : j = n
    · subst hjn
      rw [if_pos h1, if_neg h2]
      have := hle j
      omega
    · have := ih (by omega)
      by_cases h : p n = true
      · rw [if_pos h, if_pos (hpq n h)]; omega
      · rw [if_neg h]; split <;> omega
theorem dn_cnt {P N W p0 : Nat} {K O T J : Nat → Nat} (hb : LB P N W K O T J) (hp : p0 < P) : ∀ r x, DNt N K O T p0 r x → r < cnt (fun x => @decide (RNt N K O T p0 r x) (Classical.propDecidable _)) 7168 := by
  have hP := hb.1
  intro r
  induction r with
  | zero =>
    intro x h
    have := cnt_lt (p := fun _ => false) (q := fun x => @decide (RNt N K O T p0 0 x) (Classical.propDecidable _)) (j := x) (fun i h => absurd h (by decide)) (by simp only [decide_eq_true_eq]; exact h) (by decide) 7168 (by have := (rn_lt hb hp 0 x h).1; omega)
    omega
  | succ r ih =>
    intro x h
    obtain ⟨y, hy⟩ := dn_pos h
    have h1 := ih y hy
    have h2 := cnt_lt (p := fun x => @decide (RNt N K O T p0 r x) (Classical.propDecidable _)) (q := fun x => @decide (RNt N K O T p0 (r + 1) x) (Classical.propDecidable _)) (j := x) (fun i h => by
      simp only [decide_eq_true_eq] at h ⊢; exact Or.inl h) (by simp only [decide_eq_true_eq]; exact h.1) (by simp only [decide_eq_true_eq]; exact h.2) 7168 (by have := (rn_lt hb hp _ x h.1).1; omega)
    omega
theorem dn_lt {P N W p0 r x : Nat} {K O T J : Nat → Nat} (hb : LB P N W K O T J) (hp : p0 < P) (h : DNt N K O T p0 r x) : r < 7168 := by
  have := dn_cnt hb hp r x h
  have := cnt_le (fun x => @decide (RNt N K O T p0 r x) (Classical.propDecidable _)) 7168
  omega
/-- what is reached is on some level -/
theorem rn_dn {N p0 : Nat} {K O T : Nat → Nat} {x : Nat} : ∀ r, RNt N K O T p0 r x → ∃ k, k ≤ r ∧ DNt N K O T p0 k x := by
  intro r
  induction r with
  | zero => intro h; exact ⟨0, Nat.le_refl _, h⟩
  | succ r ih =>
    intro h
    by_cases h1 : RNt N K O T p0 r x
    · obtain ⟨k, k1, k2⟩ := ih h1
      exact ⟨k, by omega, k2⟩
    · exact ⟨r + 1, Nat.le_refl _, h, h1⟩
/-- a level without any ends all -/
theorem dn_end {N p0 r : Nat} {K O T : Nat → Nat} (h : ∀ x, ¬ DNt N K O T p0 r x) : ∀ k x, ¬ DNt N K O T p0 (r + k) x := by
  intro k
  induction k with
  | zero => exact h
  | succ k ih =>
    intro x hx
    obtain ⟨y, hy⟩ := dn_pos hx
    exact ih y hy
theorem laF_bit {K O T : Nat → Nat} {i S q : Nat} : (laF K O T i S).testBit q = true ↔ ∃ p, S.testBit p = true ∧ ldm K O T i p = some q := by
  have hb : ∀ (c : Prop) [Decidable c] (t : Nat), (if c then 2 ^ t else 0).testBit q = true ↔ c ∧ t = q := fun c _ t => by
    by_cases hc : c
    · rw [if_pos hc, Nat.testBit_two_pow]; simp [hc]
    · rw [if_neg hc]; simp [hc]
  unfold laF
  rw [Nat.testBit_or, Bool.or_eq_true, hb, hb]
  constructor
  · rintro (⟨h1, rfl⟩ | ⟨⟨h1, h2⟩, rfl⟩)
    · exact ⟨O i, h1, if_pos rfl⟩
    · refine ⟨T i, h1, ?_⟩
      unfold ldm
      by_cases h : O i = T i
      · rw [if_pos h, h]
      · rw [if_neg h, if_pos ⟨rfl, h2⟩]
  · rintro ⟨p, h1, h2⟩
    unfold ldm at h2
    by_cases h : O i = p
    · subst h
      rw [if_pos rfl] at h2
      exact Or.inl ⟨h1, Option.some.inj h2⟩
    · rw [if_neg h] at h2
      by_cases h3 : T i = p ∧ K i ≠ 4
      · obtain ⟨rfl, h4⟩ := h3
        rw [if_pos ⟨rfl, h4⟩] at h2
        exact Or.inr ⟨⟨h1, h4⟩, Option.some.inj h2⟩
      · rw [if_neg h3] at h2; exact absurd h2 (by simp)
/-- an array of sets: place b at S -/
def BMt (σ : Nat → Int32) (R : Nat → Prop) : Prop := ∀ S, S < 1024 → ∃ m, m < 128 ∧ σ S = nI m ∧ ∀ b, m.testBit b = true ↔ R (1024 * b + S)
theorem bm_ext {σ : Nat → Int32} {R R' : Nat → Prop} (h : BMt σ R) (he : ∀ x, R x ↔ R' x) : BMt σ R' := fun S hS => by
  obtain ⟨m, h1, h2, h3⟩ := h S hS
  exact ⟨m, h1, h2, fun b => (h3 b).trans (he _)⟩
theorem bm_step {σ θ : Nat → Int32} {A C A' : Nat → Prop} {S la : Nat} (hσ : BMt σ (fun x => C x ∨ A x)) (hθ : BMt θ (fun x => A x ∧ ¬ C x)) (hS : S < 1024) (hla : la < 128) (hA' : ∀ x, A' x ↔ A x ∨ ∃ q, la.testBit q = true ∧ x = 1024 * q + S) :
    ∃ m mt y, m < 128 ∧ mt < 128 ∧ y < 128 ∧ σ S = nI m ∧ θ S = nI mt ∧ nI la &&& (nI m ^^^ (-1)) = nI y ∧ BMt (upd σ S (nI (m ||| y))) (fun x => C x ∨ A' x) ∧ BMt (upd θ S (nI (mt ||| y))) (fun x => A' x ∧ ¬ C x) ∧ ((∃ x, A' x ∧ ¬ C x) ↔ (∃ x, A x ∧ ¬ C x) ∨ y ≠ 0) := by
  obtain ⟨m, h1, h2, h3⟩ := hσ S hS
  obtain ⟨mt, g1, g2, g3⟩ := hθ S hS
  have e31 : ∀ q, la.testBit q = true → q < 31 := fun q hq => by
    have := Nat.ge_two_pow_of_testBit hq
    by_cases h : q < 31
    · exact h
    · have h5 : (2 : Nat) ^ 31 ≤ 2 ^ q := Nat.pow_le_pow_right (by decide) (by omega)
      omega
  have hy : ∀ q, (sto (fun j => la.testBit j && !m.testBit j) 31).testBit q = true ↔ la.testBit q = true ∧ ¬ m.testBit q = true := fun q => by
    rw [sto_bit]
    constructor
    · intro h; simp at h; exact ⟨h.2.1, by simp [h.2.2]⟩
    · rintro ⟨k1, k2⟩; have := e31 q k1; simp [k1, k2, this]
  have hyl : sto (fun j => la.testBit j && !m.testBit j) 31 < 128 := Nat.lt_pow_two_of_testBit (n := 7) _ (fun i hi => by
    by_cases h : (sto (fun j => la.testBit j && !m.testBit j) 31).testBit i = true
    · have h4 := ((hy i).mp h).1
      have := Nat.ge_two_pow_of_testBit h4
      have h5 : (2 : Nat) ^ 7 ≤ 2 ^ i := Nat.pow_le_pow_right (by decide) hi
      omega
    · simpa using h)
  have hor : ∀ a, a < 128 → a ||| sto (fun j => la.testBit j && !m.testBit j) 31 < 128 := fun a ha => Nat.or_lt_two_pow (n := 7) ha hyl
  refine ⟨m, mt, _, h1, g1, hyl, h2, g2, nI_andn (by omega), fun S' hS' => ?_, fun S' hS' => ?_, ?_⟩
  · by_cases hSS : S' = S
    · subst hSS
      refine ⟨_, hor m h1, ud_s _ _ _, fun b => ?_⟩
      rw [Nat.testBit_or, Bool.or_eq_true, h3, hy, h3, hA']
      constructor
      · rintro ((h | h) | ⟨h, -⟩)
        · exact Or.inl h
        · exact Or.inr (Or.inl h)
        · exact Or.inr (Or.inr ⟨b, h, rfl⟩)
      · rintro (h | h | ⟨q, k1, k2⟩)
        · exact Or.inl (Or.inl h)
        · exact Or.inl (Or.inr h)
        · have : b = q := by omega
          subst this
          by_cases h : C (1024 * b + S') ∨ A (1024 * b + S')
          · exact Or.inl h
          · exact Or.inr ⟨k1, h⟩
    · obtain ⟨m', k1, k2, k3⟩ := hσ S' hS'
      refine ⟨m', k1, by rw [ud_n _ _ hSS]; exact k2, fun b => (k3 b).trans ?_⟩
      rw [hA']
      constructor
      · rintro (h | h)
        · exact Or.inl h
        · exact Or.inr (Or.inl h)
      · rintro (h | h | ⟨q, -, h⟩)
        · exact Or.inl h
        · exact Or.inr h
        · exact absurd h (by omega)
  · by_cases hSS : S' = S
    · subst hSS
      refine ⟨_, hor mt g1, ud_s _ _ _, fun b => ?_⟩
      rw [Nat.testBit_or, Bool.or_eq_true, g3, hy, h3, hA']
      constructor
      · rintro (⟨h, h'⟩ | ⟨h, h'⟩)
        · exact ⟨Or.inl h, h'⟩
        · exact ⟨Or.inr ⟨b, h, rfl⟩, fun hh => h' (Or.inl hh)⟩
      · rintro ⟨h | ⟨q, k1, k2⟩, h'⟩
        · exact Or.inl ⟨h, h'⟩
        · have : b = q := by omega
          subst this
          by_cases h : A (1024 * b + S')
          · exact Or.inl ⟨h, h'⟩
          · exact Or.inr ⟨k1, fun hh => hh.elim h' h⟩
    · obtain ⟨m', k1, k2, k3⟩ := hθ S' hS'
      refine ⟨m', k1, by rw [ud_n _ _ hSS]; exact k2, fun b => (k3 b).trans ?_⟩
      rw [hA']
      constructor
      · rintro ⟨h, h'⟩; exact ⟨Or.inl h, h'⟩
      · rintro ⟨h | ⟨q, -, h⟩, h'⟩
        · exact ⟨h, h'⟩
        · exact absurd h (by omega)
  · constructor
    · rintro ⟨x, h, h'⟩
      rcases (hA' x).mp h with h | ⟨q, k1, rfl⟩
      · exact Or.inl ⟨x, h, h'⟩
      · by_cases h : A (1024 * q + S)
        · exact Or.inl ⟨_, h, h'⟩
        · refine Or.inr (fun h0 => ?_)
          have := (hy q).mpr ⟨k1, fun hh => ((h3 q).mp hh).elim h' h⟩
          rw [h0] at this
          simp at this
    · rintro (⟨x, h, h'⟩ | h)
      · exact ⟨x, (hA' x).mpr (Or.inl h), h'⟩
      · obtain ⟨q, hq⟩ := Nat.exists_testBit_of_ne_zero h
        obtain ⟨k1, k2⟩ := (hy q).mp hq
        exact ⟨1024 * q + S, (hA' _).mpr (Or.inr ⟨q, k1, rfl⟩), fun hh => k2 ((h3 q).mpr (Or.inl hh))⟩
theorem bnu_low {S x : Nat} (hx : S.testBit x = true) (hl : ∀ j, j < x → ¬ S.testBit j = true) : ∀ p b, b ≤ x → x < b + p → bnu p b S 0 0 = some x := by
  intro p
  induction p with
  | zero => intro b h1 h2; omega
  | succ p ih =>
    intro b h1 h2
    unfold bnu
    by_cases h : b = x
    · subst h; rw [if_pos hx, if_pos rfl]
    · rw [if_neg (hl b (by omega))]
      exact ih (b + 1) (by omega) (by omega)
/-! tour: the class's rounds -/
/-- what the round's first part has found: all of the sets below S0, and of S0 by the first i0 ROADS -/
def PGt (N : Nat) (K O T : Nat → Nat) (D : Nat → Prop) (S0 i0 x : Nat) : Prop := ∃ S i b, (S < S0 ∨ (S = S0 ∧ i < i0)) ∧ S < 1024 ∧ i < N ∧ D (1024 * b + S) ∧ scT K O T i (1024 * b + S) = some x
theorem sc_at {K O T : Nat → Nat} {i b S x : Nat} (hS : S < 1024) : scT K O T i (1024 * b + S) = some x ↔ ∃ q, ldm K O T i b = some q ∧ x = 1024 * q + (S ||| 2 ^ i) := by
  unfold scT
  rw [show (1024 * b + S) / 1024 = b by omega, show (1024 * b + S) % 1024 = S by omega]
  cases h : ldm K O T i b with
  | none => simp
  | some q => simp only [Option.some.injEq]; exact ⟨fun h => ⟨q, rfl, h.symm⟩, fun ⟨q', h1, h2⟩ => by subst h1; exact h2.symm⟩
theorem pg_step {N : Nat} {K O T : Nat → Nat} {D : Nat → Prop} {S i m : Nat} (hS : S < 1024) (hi : i < N) (hm : ∀ b, m.testBit b = true ↔ D (1024 * b + S)) (x : Nat) : PGt N K O T D S (i + 1) x ↔ PGt N K O T D S i x ∨ ∃ q, (laF K O T i m).testBit q = true ∧ x = 1024 * q + (S ||| 2 ^ i) := by
  constructor
  · rintro ⟨S', i', b, h1, h2, h3, h4, h5⟩
    by_cases h : S' = S ∧ i' = i
    · obtain ⟨rfl, rfl⟩ := h
      obtain ⟨q, k1, k2⟩ := (sc_at hS).mp h5
      exact Or.inr ⟨q, laF_bit.mpr ⟨b, (hm b).mpr h4, k1⟩, k2⟩
    · exact Or.inl ⟨S', i', b, by omega, h2, h3, h4, h5⟩
  · rintro (⟨S', i', b, h1, h2, h3, h4, h5⟩ | ⟨q, h1, rfl⟩)
    · exact ⟨S', i', b, by omega, h2, h3, h4, h5⟩
    · obtain ⟨b, k1, k2⟩ := laF_bit.mp h1
      exact ⟨S, i, b, Or.inr ⟨rfl, by omega⟩, hS, hi, (hm b).mp k1, (sc_at hS).mpr ⟨q, k2, rfl⟩⟩
theorem pg_next {N : Nat} {K O T : Nat → Nat} {D : Nat → Prop} {S x : Nat} : PGt N K O T D (S + 1) 0 x ↔ PGt N K O T D S N x := by
  constructor
  · rintro ⟨S', i', b, h1, h2, h3, h4, h5⟩
    exact ⟨S', i', b, by omega, h2, h3, h4, h5⟩
  · rintro ⟨S', i', b, h1, h2, h3, h4, h5⟩
    exact ⟨S', i', b, by omega, h2, h3, h4, h5⟩
theorem pg_skip {N : Nat} {K O T : Nat → Nat} {D : Nat → Prop} {S x : Nat} (h : ∀ b, ¬ D (1024 * b + S)) : PGt N K O T D (S + 1) 0 x ↔ PGt N K O T D S 0 x := by
  constructor
  · rintro ⟨S', i', b, h1, h2, h3, h4, h5⟩
    by_cases hS : S' = S
    · subst hS; exact absurd h4 (h b)
    · exact ⟨S', i', b, by omega, h2, h3, h4, h5⟩
  · rintro ⟨S', i', b, h1, h2, h3, h4, h5⟩
    exact ⟨S', i', b, by omega, h2, h3, h4, h5⟩
section
variable {t d : Nat} {z : AZ} {X : Nat × (Nat → Int32)} {C : CT} {M : MT} {s : Nat → Int32} {v : Nat → Int64} {g : Nat → Nat → Int32} {w : Nat → Nat → Int64} {q : Nat → Nat} {ct : Nat → Int32} {cn : Nat → Int32} {cc : Nat → Nat → Int32} {di : Nat → Nat → Int32} {dr : Nat → Nat → Int32} {df : Nat → Nat → Int32} {li : Nat → Nat → Int32} {la : Nat → Nat → Nat → Int32} {sf : Nat → Nat → Int32} {sl : Nat → Nat → Int32} {a : Nat → Int32} {b : Nat → Int64} {e : Nat → Nat → Int32} {o : Nat → Nat → Int64} {B : Nat → Bool} {n : Nat → Nat} {P N W : Nat} {K O T J : Nat → Nat} {l : Nat} {Ds : Nat → Nat} {Dr Df Dp : Nat → Nat → Nat} {KB : Nat → Bool}
variable {Q : Option Value → AZ → AH → Prop} {D R : Nat → Prop}
/-- the round under way -/
def AVt (N : Nat) (K O T : Nat → Nat) (D R : Nat → Prop) (S0 i0 : Nat) (g90 gt : Nat → Int32) : Prop := BMt g90 (fun x => R x ∨ PGt N K O T D S0 i0 x) ∧ BMt gt (fun x => PGt N K O T D S0 i0 x ∧ ¬ R x)
theorem lp_av5 {S m : Nat} {β : Bool} (hl : l < 2) (hC : CLn (li l) (la l) P N K O T J) (hb : LB P N W K O T J) (h10 : q 10 ≠ 0) (h8 : q 8 < 2) (h9 : q 9 < 2) (h89 : q 8 ≠ q 9) (hS : S < 1024) (hm7 : m < 128) (hm : ∀ b, m.testBit b = true ↔ D (1024 * b + S)) (hgS : g (91 + q 8) S = nI m)
    (hQ : ∀ (g' : Nat → Nat → Int32) (γ : Bool), (∀ k, k ≠ 90 → k ≠ 91 + q 9 → g' k = g k) → AVt N K O T D R S N (g' 90) (g' (91 + q 9)) → ((β || γ) = true ↔ ∃ x, PGt N K O T D S N x ∧ ¬ R x) → Q (some (.int (bI γ))) z (Hp X (s, v, g', w, q, ct, cn, cc, di, dr, df, li, la, sf, sl) M)) :
    ∀ (j i : Nat) (g' : Nat → Nat → Int32) (γ : Bool), i + j = N → (∀ k, k ≠ 90 → k ≠ 91 + q 9 → g' k = g k) → AVt N K O T D R S i (g' 90) (g' (91 + q 9)) → ((β || γ) = true ↔ ∃ x, PGt N K O T D S i x ∧ ¬ R x) → Wp (d + 2) 803 5 [some (.ref 89), some (.ref (lo l)), some (.int (nI S)), some (.int (bI γ)), some (.int (nI i))] [] z (Hp X (s, v, g', w, q, ct, cn, cc, di, dr, df, li, la, sf, sl) M) Q := by
  have hN := hb.2.1
  have hP := hb.1
  have e11 := hC.2.1
  intro j
  induction j with
  | zero =>
    intro i g' γ hj hg hA hβ
    have hj : i = N := by omega
    subst hj
    rw [W803_5]
    simp (disch := omega) only [W803, s_0, ci_0, r_5, r_2, r_Li, r_4, r_La, h60_3_5, r_49, ci_1, r_18, r_16, ci_1023, r_15, h60_8_2, h79_307, h60_8_1, ci_m1, r_17, r_31, h60_8_3, s_40, r_52, s_8, r_In, r_94, s_Z0, s_Z1, h64_90, h65_90, h64_to, h65_to, enR, LG, LSt, LC, nlR, psR, TK, up_s, up_n, up_u, lt_nI, le_nI, eq_nI, true_and, and_true, if_true, if_false, Nat.zero_add, Nat.add_zero, nI_add, ↓reduceIte, Nat.reduceAdd, Nat.reduceMul, Nat.reduceSub, Nat.reduceLT, Nat.reduceLeDiff, Nat.reduceEqDiff, Nat.not_lt_zero, Nat.lt_irrefl, decide_true, BEq.rfl, nm1, nm2, nm3, nm4, nm9, ngc, eq_self, List.length_cons, List.length_nil, hl, e11]
    exact hQ g' γ hg hA hβ
  | succ j ih =>
    intro i g' γ hj hg hA hβ
    have h1 : i < N := by omega
    have h31 : i < 31 := by omega
    have hT : S ||| 2 ^ i < 1024 := or_1024 hS (by omega)
    have hla : laF K O T i m < 128 := by
      refine Nat.lt_pow_two_of_testBit (n := 7) _ (fun k hk => ?_)
      by_cases h : (laF K O T i m).testBit k = true
      · obtain ⟨p, -, k2⟩ := laF_bit.mp h
        have := ldm_lt hb h1 k2
        omega
      · simpa using h
    have e1 : g' (91 + q 8) S = nI m := by rw [hg _ (by omega) (by omega)]; exact hgS
    have e2 : (S ||| 2 ^ i) &&& 1023 = (S ||| 2 ^ i) := by
      rw [show 1023 = 2 ^ 10 - 1 from rfl, Nat.and_two_pow_sub_one_eq_mod]
      exact Nat.mod_eq_of_lt hT
    obtain ⟨mm, mt, y, m1, m2, m3, m4, m5, m6, m7, m8, m9⟩ := bm_step hA.1 hA.2 hT hla (pg_step (N := N) (K := K) (O := O) (T := T) (D := D) hS h1 hm)
    have hih := fun (γ' : Bool) (hγ : γ' = (γ || decide (y ≠ 0))) => ih (i + 1) (va_up (va_up g' 90 (upd (g' 90) (S ||| 2 ^ i) (nI (mm ||| y)))) (91 + q 9) (upd (g' (91 + q 9)) (S ||| 2 ^ i) (nI (mt ||| y)))) γ' (by omega) (fun k k1 k2 => by rw [up_n _ _ k2, up_n _ _ k1]; exact hg k k1 k2) (by
      rw [up_s, up_n _ _ (show (90 : Nat) ≠ 91 + q 9 by omega), up_s]
      exact ⟨m7, m8⟩) (by
      rw [m9, ← hβ, hγ]
      simp [or_assoc])
    rw [W803_5]
    cases γ with
    | false =>
      by_cases hy : y = 0
      · subst hy
        simp (disch := omega) only [W803, s_0, ci_0, r_5, r_2, r_Li, r_4, r_La, h60_3_5, r_49, ci_1, r_18, r_16, ci_1023, r_15, h60_8_2, h79_307, h60_8_1, ci_m1, r_17, r_31, h60_8_3, s_40, r_52, s_8, r_In, r_94, s_Z0, s_Z1, h64_90, h65_90, h64_to, h65_to, enR, LG, LSt, LC, nlR, psR, TK, up_s, up_n, up_u, lt_nI, le_nI, eq_nI, true_and, and_true, if_true, if_false, Nat.zero_add, Nat.add_zero, nI_add, ↓reduceIte, Nat.reduceAdd, Nat.reduceMul, Nat.reduceSub, Nat.reduceLT, Nat.reduceLeDiff, Nat.reduceEqDiff, Nat.not_lt_zero, Nat.lt_irrefl, decide_true, BEq.rfl, nm1, nm2, nm3, nm4, nm9, ngc, eq_self, List.length_cons, List.length_nil, hl, e11, h1, h31, h10, h8, h9, hS, hT, e1, e2, nI_bit, nI_or, nI_and, c_leadAll hl hC hb h1, m4, m5, m6, bI, Bool.false_eq_true, Nat.or_zero, Nat.or_self]
        exact hih false (by simp)
      · simp (disch := omega) only [W803, s_0, ci_0, r_5, r_2, r_Li, r_4, r_La, h60_3_5, r_49, ci_1, r_18, r_16, ci_1023, r_15, h60_8_2, h79_307, h60_8_1, ci_m1, r_17, r_31, h60_8_3, s_40, r_52, s_8, r_In, r_94, s_Z0, s_Z1, h64_90, h65_90, h64_to, h65_to, enR, LG, LSt, LC, nlR, psR, TK, up_s, up_n, up_u, lt_nI, le_nI, eq_nI, true_and, and_true, if_true, if_false, Nat.zero_add, Nat.add_zero, nI_add, ↓reduceIte, Nat.reduceAdd, Nat.reduceMul, Nat.reduceSub, Nat.reduceLT, Nat.reduceLeDiff, Nat.reduceEqDiff, Nat.not_lt_zero, Nat.lt_irrefl, decide_true, BEq.rfl, nm1, nm2, nm3, nm4, nm9, ngc, eq_self, List.length_cons, List.length_nil, hl, e11, h1, h31, h10, h8, h9, hS, hT, e1, e2, nI_bit, nI_or, nI_and, c_leadAll hl hC hb h1, m4, m5, m6, hy, bI, Bool.false_eq_true, Nat.zero_or]
        exact hih true (by simp [hy])
    | true =>
      by_cases hy : y = 0
      · subst hy
        simp (disch := omega) only [W803, s_0, ci_0, r_5, r_2, r_Li, r_4, r_La, h60_3_5, r_49, ci_1, r_18, r_16, ci_1023, r_15, h60_8_2, h79_307, h60_8_1, ci_m1, r_17, r_31, h60_8_3, s_40, r_52, s_8, r_In, r_94, s_Z0, s_Z1, h64_90, h65_90, h64_to, h65_to, enR, LG, LSt, LC, nlR, psR, TK, up_s, up_n, up_u, lt_nI, le_nI, eq_nI, true_and, and_true, if_true, if_false, Nat.zero_add, Nat.add_zero, nI_add, ↓reduceIte, Nat.reduceAdd, Nat.reduceMul, Nat.reduceSub, Nat.reduceLT, Nat.reduceLeDiff, Nat.reduceEqDiff, Nat.not_lt_zero, Nat.lt_irrefl, decide_true, BEq.rfl, nm1, nm2, nm3, nm4, nm9, ngc, eq_self, List.length_cons, List.length_nil, hl, e11, h1, h31, h10, h8, h9, hS, hT, e1, e2, nI_bit, nI_or, nI_and, c_leadAll hl hC hb h1, m4, m5, m6, bI, Nat.or_zero]
        exact hih true (by simp)
      · simp (disch := omega) only [W803, s_0, ci_0, r_5, r_2, r_Li, r_4, r_La, h60_3_5, r_49, ci_1, r_18, r_16, ci_1023, r_15, h60_8_2, h79_307, h60_8_1, ci_m1, r_17, r_31, h60_8_3, s_40, r_52, s_8, r_In, r_94, s_Z0, s_Z1, h64_90, h65_90, h64_to, h65_to, enR, LG, LSt, LC, nlR, psR, TK, up_s, up_n, up_u, lt_nI, le_nI, eq_nI, true_and, and_true, if_true, if_false, Nat.zero_add, Nat.add_zero, nI_add, ↓reduceIte, Nat.reduceAdd, Nat.reduceMul, Nat.reduceSub, Nat.reduceLT, Nat.reduceLeDiff, Nat.reduceEqDiff, Nat.not_lt_zero, Nat.lt_irrefl, decide_true, BEq.rfl, nm1, nm2, nm3, nm4, nm9, ngc, eq_self, List.length_cons, List.length_nil, hl, e11, h1, h31, h10, h8, h9, hS, hT, e1, e2, nI_bit, nI_or, nI_and, c_leadAll hl hC hb h1, m4, m5, m6, hy, bI, Nat.or_self]
        exact hih true (by simp)
theorem c_advF {S m : Nat} {β : Bool} (hl : l < 2) (hC : CLn (li l) (la l) P N K O T J) (hb : LB P N W K O T J) (h10 : q 10 ≠ 0) (h8 : q 8 < 2) (h9 : q 9 < 2) (h89 : q 8 ≠ q 9) (hS : S < 1024) (hm7 : m < 128) (hm : ∀ b, m.testBit b = true ↔ D (1024 * b + S)) (hgS : g (91 + q 8) S = nI m) (hA : AVt N K O T D R S 0 (g 90) (g (91 + q 9))) (hβ : β = true ↔ ∃ x, PGt N K O T D S 0 x ∧ ¬ R x)
    (hQ : ∀ (g' : Nat → Nat → Int32) (γ : Bool), (∀ k, k ≠ 90 → k ≠ 91 + q 9 → g' k = g k) → AVt N K O T D R S N (g' 90) (g' (91 + q 9)) → ((β || γ) = true ↔ ∃ x, PGt N K O T D S N x ∧ ¬ R x) → Q (some (.int (bI γ))) z (Hp X (s, v, g', w, q, ct, cn, cc, di, dr, df, li, la, sf, sl) M)) : Cw (d + 3) 803 [.ref 89, .ref (lo l), .int (nI S)] z (Hp X (s, v, g, w, q, ct, cn, cc, di, dr, df, li, la, sf, sl) M) Q := by
  rw [cw_wp]
  simp (disch := omega) only [W803, s_0, ci_0, r_5, r_2, r_Li, r_4, r_La, h60_3_5, r_49, ci_1, r_18, r_16, ci_1023, r_15, h60_8_2, h79_307, h60_8_1, ci_m1, r_17, r_31, h60_8_3, s_40, r_52, s_8, r_In, r_94, s_Z0, s_Z1, h64_90, h65_90, h64_to, h65_to, enR, LG, LSt, LC, nlR, psR, TK, up_s, up_n, up_u, lt_nI, le_nI, eq_nI, true_and, and_true, if_true, if_false, Nat.zero_add, Nat.add_zero, nI_add, ↓reduceIte, Nat.reduceAdd, Nat.reduceMul, Nat.reduceSub, Nat.reduceLT, Nat.reduceLeDiff, Nat.reduceEqDiff, Nat.not_lt_zero, Nat.lt_irrefl, decide_true, BEq.rfl, nm1, nm2, nm3, nm4, nm9, ngc, eq_self, List.length_cons, List.length_nil]
  exact lp_av5 (β := β) hl hC hb h10 h8 h9 h89 hS hm7 hm hgS hQ N 0 g false (by omega) (fun _ _ _ => rfl) hA (by rw [← hβ]; simp)
theorem lp_ad13 (hl : l < 2) (hC : CLn (li l) (la l) P N K O T J) (hb : LB P N W K O T J) (h10 : q 10 ≠ 0) (h8 : q 8 < 2) (h9 : q 9 < 2) (h89 : q 8 ≠ q 9) (hD : BMt (g (91 + q 8)) D)
    (hQ : ∀ (g' : Nat → Nat → Int32) (β : Bool), (∀ k, k ≠ 90 → k ≠ 91 + q 9 → g' k = g k) → AVt N K O T D R (2 ^ N) 0 (g' 90) (g' (91 + q 9)) → (β = true ↔ ∃ x, PGt N K O T D (2 ^ N) 0 x ∧ ¬ R x) → Q (some (.int (bI β))) z (Hp X (s, v, g', w, va_up (va_up q 8 (q 9)) 9 (q 8), ct, cn, cc, di, dr, df, li, la, sf, sl) M)) :
    ∀ (j S : Nat) (g' : Nat → Nat → Int32) (β : Bool), S + j = 2 ^ N → (∀ k, k ≠ 90 → k ≠ 91 + q 9 → g' k = g k) → AVt N K O T D R S 0 (g' 90) (g' (91 + q 9)) → (β = true ↔ ∃ x, PGt N K O T D S 0 x ∧ ¬ R x) → Wp (d + 3) 802 13 [some (.ref 89), some (.ref (lo l)), some (.int (nI (2 ^ N - 1))), some (.int (bI β)), some (.int (nI S))] [] z (Hp X (s, v, g', w, q, ct, cn, cc, di, dr, df, li, la, sf, sl) M) Q := by
  have hN := hb.2.1
  have h1024 : 2 ^ N ≤ 1024 := Nat.pow_le_pow_right (n := 2) (by decide) hN
  have h0 := Nat.two_pow_pos N
  intro j
  induction j with
  | zero =>
    intro S g' β hj hg hA hβ
    have hj : S = 2 ^ N := by omega
    subst hj
    have hlt : 2 ^ N - 1 < 2 ^ N := by omega
    rw [W802_13]
    cases β with
    | false =>
      simp (disch := omega) only [W802, r_4, r_La, h60_8_3, s_0, ci_0, h80_1300, r_5, r_2, r_Li, r_50, h60_8_2, s_40, h79_803, ci_1, s_8, r_In, r_52, r_7, h61_8_2, h61_8_3, r_94, s_Z0, s_Z1, h64_to, enR, LG, LSt, LC, nlR, psR, TK, up_s, up_n, up_u, lt_nI, le_nI, eq_nI, true_and, and_true, if_true, if_false, Nat.zero_add, Nat.add_zero, nI_add, ↓reduceIte, Nat.reduceAdd, Nat.reduceMul, Nat.reduceSub, Nat.reduceLT, Nat.reduceLeDiff, Nat.reduceEqDiff, Nat.not_lt_zero, Nat.lt_irrefl, decide_true, BEq.rfl, nm1, nm2, nm3, nm4, nm9, ngc, eq_self, List.length_cons, List.length_nil, h10, h8, h9, hlt, bI, Bool.false_eq_true]
      exact hQ g' false hg hA hβ
    | true =>
      simp (disch := omega) only [W802, r_4, r_La, h60_8_3, s_0, ci_0, h80_1300, r_5, r_2, r_Li, r_50, h60_8_2, s_40, h79_803, ci_1, s_8, r_In, r_52, r_7, h61_8_2, h61_8_3, r_94, s_Z0, s_Z1, h64_to, enR, LG, LSt, LC, nlR, psR, TK, up_s, up_n, up_u, lt_nI, le_nI, eq_nI, true_and, and_true, if_true, if_false, Nat.zero_add, Nat.add_zero, nI_add, ↓reduceIte, Nat.reduceAdd, Nat.reduceMul, Nat.reduceSub, Nat.reduceLT, Nat.reduceLeDiff, Nat.reduceEqDiff, Nat.not_lt_zero, Nat.lt_irrefl, decide_true, BEq.rfl, nm1, nm2, nm3, nm4, nm9, ngc, eq_self, List.length_cons, List.length_nil, h10, h8, h9, hlt, bI]
      exact hQ g' true hg hA hβ
  | succ j ih =>
    intro S g' β hj hg hA hβ
    have h1 : ¬ 2 ^ N - 1 < S := by omega
    have hS : S < 1024 := by omega
    obtain ⟨m, m1, m2, m3⟩ := hD S hS
    have e1 : g' (91 + q 8) S = nI m := by rw [hg _ (by omega) (by omega)]; exact m2
    rw [W802_13]
    by_cases hm : m = 0
    · subst hm
      have hno : ∀ b, ¬ D (1024 * b + S) := fun b hd => by
        have := (m3 b).mpr hd
        simp at this
      have ih2 := ih (S + 1) g' β (by omega) hg ⟨bm_ext hA.1 (fun x => by rw [pg_skip hno]), bm_ext hA.2 (fun x => by rw [pg_skip hno])⟩ (hβ.trans ⟨fun ⟨x, x1, x2⟩ => ⟨x, (pg_skip hno).mpr x1, x2⟩, fun ⟨x, x1, x2⟩ => ⟨x, (pg_skip hno).mp x1, x2⟩⟩)
      simp (disch := omega) only [W802, r_4, r_La, h60_8_3, s_0, ci_0, h80_1300, r_5, r_2, r_Li, r_50, h60_8_2, s_40, h79_803, ci_1, s_8, r_In, r_52, r_7, h61_8_2, h61_8_3, r_94, s_Z0, s_Z1, h64_to, enR, LG, LSt, LC, nlR, psR, TK, up_s, up_n, up_u, lt_nI, le_nI, eq_nI, true_and, and_true, if_true, if_false, Nat.zero_add, Nat.add_zero, nI_add, ↓reduceIte, Nat.reduceAdd, Nat.reduceMul, Nat.reduceSub, Nat.reduceLT, Nat.reduceLeDiff, Nat.reduceEqDiff, Nat.not_lt_zero, Nat.lt_irrefl, decide_true, BEq.rfl, nm1, nm2, nm3, nm4, nm9, ngc, eq_self, List.length_cons, List.length_nil, h10, h8, h9, h1, hS, e1]
      exact ih2
    · simp (disch := omega) only [W802, r_4, r_La, h60_8_3, s_0, ci_0, h80_1300, r_5, r_2, r_Li, r_50, h60_8_2, s_40, h79_803, ci_1, s_8, r_In, r_52, r_7, h61_8_2, h61_8_3, r_94, s_Z0, s_Z1, h64_to, enR, LG, LSt, LC, nlR, psR, TK, up_s, up_n, up_u, lt_nI, le_nI, eq_nI, true_and, and_true, if_true, if_false, Nat.zero_add, Nat.add_zero, nI_add, ↓reduceIte, Nat.reduceAdd, Nat.reduceMul, Nat.reduceSub, Nat.reduceLT, Nat.reduceLeDiff, Nat.reduceEqDiff, Nat.not_lt_zero, Nat.lt_irrefl, decide_true, BEq.rfl, nm1, nm2, nm3, nm4, nm9, ngc, eq_self, List.length_cons, List.length_nil, h10, h8, h9, h1, hS, e1, hm]
      refine c_advF (g := g') (β := β) hl hC hb h10 h8 h9 h89 hS m1 m3 e1 hA hβ (fun g2 γ f1 f2 f3 => ?_)
      have ih2 := fun (β' : Bool) (hb' : β' = (β || γ)) => ih (S + 1) g2 β' (by omega) (fun k k1 k2 => (f1 k k1 k2).trans (hg k k1 k2)) ⟨bm_ext f2.1 (fun x => by rw [pg_next]), bm_ext f2.2 (fun x => by rw [pg_next])⟩ (by
        rw [hb', f3]
        exact ⟨fun ⟨x, x1, x2⟩ => ⟨x, pg_next.mpr x1, x2⟩, fun ⟨x, x1, x2⟩ => ⟨x, pg_next.mp x1, x2⟩⟩)
      cases γ with
      | false =>
        simp (disch := omega) only [W802, r_4, r_La, h60_8_3, s_0, ci_0, h80_1300, r_5, r_2, r_Li, r_50, h60_8_2, s_40, h79_803, ci_1, s_8, r_In, r_52, r_7, h61_8_2, h61_8_3, r_94, s_Z0, s_Z1, h64_to, enR, LG, LSt, LC, nlR, psR, TK, up_s, up_n, up_u, lt_nI, le_nI, eq_nI, true_and, and_true, if_true, if_false, Nat.zero_add, Nat.add_zero, nI_add, ↓reduceIte, Nat.reduceAdd, Nat.reduceMul, Nat.reduceSub, Nat.reduceLT, Nat.reduceLeDiff, Nat.reduceEqDiff, Nat.not_lt_zero, Nat.lt_irrefl, decide_true, BEq.rfl, nm1, nm2, nm3, nm4, nm9, ngc, eq_self, List.length_cons, List.length_nil, bI, Bool.false_eq_true]
        exact ih2 β (by simp)
      | true =>
        simp (disch := omega) only [W802, r_4, r_La, h60_8_3, s_0, ci_0, h80_1300, r_5, r_2, r_Li, r_50, h60_8_2, s_40, h79_803, ci_1, s_8, r_In, r_52, r_7, h61_8_2, h61_8_3, r_94, s_Z0, s_Z1, h64_to, enR, LG, LSt, LC, nlR, psR, TK, up_s, up_n, up_u, lt_nI, le_nI, eq_nI, true_and, and_true, if_true, if_false, Nat.zero_add, Nat.add_zero, nI_add, ↓reduceIte, Nat.reduceAdd, Nat.reduceMul, Nat.reduceSub, Nat.reduceLT, Nat.reduceLeDiff, Nat.reduceEqDiff, Nat.not_lt_zero, Nat.lt_irrefl, decide_true, BEq.rfl, nm1, nm2, nm3, nm4, nm9, ngc, eq_self, List.length_cons, List.length_nil, bI]
        exact ih2 true (by simp)
theorem c_adv (hl : l < 2) (hC : CLn (li l) (la l) P N K O T J) (hb : LB P N W K O T J) (h10 : q 10 ≠ 0) (h8 : q 8 < 2) (h9 : q 9 < 2) (h89 : q 8 ≠ q 9) (hD : BMt (g (91 + q 8)) D) (hR : BMt (g 90) R)
    (hQ : ∀ (g' : Nat → Nat → Int32) (β : Bool), (∀ k, k ≠ 90 → k ≠ 91 + q 9 → g' k = g k) → AVt N K O T D R (2 ^ N) 0 (g' 90) (g' (91 + q 9)) → (β = true ↔ ∃ x, PGt N K O T D (2 ^ N) 0 x ∧ ¬ R x) → Q (some (.int (bI β))) z (Hp X (s, v, g', w, va_up (va_up q 8 (q 9)) 9 (q 8), ct, cn, cc, di, dr, df, li, la, sf, sl) M)) : Cw (d + 4) 802 [.ref 89, .ref (lo l), .int (nI (2 ^ N - 1))] z (Hp X (s, v, g, w, q, ct, cn, cc, di, dr, df, li, la, sf, sl) M) Q := by
  have hpg : ∀ x, ¬ PGt N K O T D 0 0 x := fun x ⟨S, i, b, h1, _⟩ => by omega
  rw [cw_wp]
  simp (disch := omega) only [W802, r_4, r_La, h60_8_3, s_0, ci_0, h80_1300, r_5, r_2, r_Li, r_50, h60_8_2, s_40, h79_803, ci_1, s_8, r_In, r_52, r_7, h61_8_2, h61_8_3, r_94, s_Z0, s_Z1, h64_to, enR, LG, LSt, LC, nlR, psR, TK, up_s, up_n, up_u, lt_nI, le_nI, eq_nI, true_and, and_true, if_true, if_false, Nat.zero_add, Nat.add_zero, nI_add, ↓reduceIte, Nat.reduceAdd, Nat.reduceMul, Nat.reduceSub, Nat.reduceLT, Nat.reduceLeDiff, Nat.reduceEqDiff, Nat.not_lt_zero, Nat.lt_irrefl, decide_true, BEq.rfl, nm1, nm2, nm3, nm4, nm9, ngc, eq_self, List.length_cons, List.length_nil, h10, h8, h9, f_to]
  refine lp_ad13 (R := R) (g := va_up g (91 + q 9) (fil (g (91 + q 9)) 0 1024 (nI 0))) hl hC hb h10 h8 h9 h89 (by rw [up_n _ _ (by omega)]; exact hD) (fun g' β f1 f2 f3 => hQ g' β (fun k k1 k2 => by rw [f1 k k1 k2, up_n _ _ k2]) f2 f3) (2 ^ N) 0 _ false (by omega) (fun _ _ _ => rfl) ⟨?_, ?_⟩ (iff_of_false (by decide) (fun ⟨x, h, _⟩ => hpg x h))
  · rw [up_n _ _ (by omega)]
    exact bm_ext hR (fun x => ⟨Or.inl, fun h => h.elim id (fun h => absurd h (hpg x))⟩)
  · rw [up_s]
    exact fun S hS => ⟨0, by decide, if_pos ⟨by omega, hS⟩, fun b => ⟨fun h => by simp at h, fun h => absurd h.1 (hpg _)⟩⟩
end
/-! tour: the class's shortest -/
theorem low_bit {S : Nat} : ∀ n, S.testBit n = true → ∃ x, S.testBit x = true ∧ ∀ j, j < x → ¬ S.testBit j = true := by
  intro n
  induction n using Nat.strongRecOn with
  | ind n ih =>
    intro h
    by_cases h1 : ∃ j, j < n ∧ S.testBit j = true
    · obtain ⟨j, j1, j2⟩ := h1
      exact ih j j1 j2
    · exact ⟨n, h, fun j hj hh => h1 ⟨j, hj, hh⟩⟩
theorem pg_all {N P W p0 r : Nat} {K O T J : Nat → Nat} (hb : LB P N W K O T J) (hp : p0 < P) (x : Nat) : (RNt N K O T p0 r x ∨ PGt N K O T (DNt N K O T p0 r) (2 ^ N) 0 x) ↔ RNt N K O T p0 (r + 1) x := by
  rw [dn_succ]
  constructor
  · rintro (h | ⟨S, i, b, h1, h2, h3, h4, h5⟩)
    · exact Or.inl h
    · exact Or.inr ⟨1024 * b + S, i, h4, h3, h5⟩
  · rintro (h | ⟨y, i, h1, h2, h3⟩)
    · exact Or.inl h
    · refine Or.inr ⟨y % 1024, i, y / 1024, Or.inl (rn_lt hb hp r y (dn_rn h1)).2, by omega, h2, ?_, ?_⟩
      · rw [show 1024 * (y / 1024) + y % 1024 = y by omega]; exact h1
      · rw [show 1024 * (y / 1024) + y % 1024 = y by omega]; exact h3
theorem pg_new {N P W p0 r : Nat} {K O T J : Nat → Nat} (hb : LB P N W K O T J) (hp : p0 < P) (x : Nat) : (PGt N K O T (DNt N K O T p0 r) (2 ^ N) 0 x ∧ ¬ RNt N K O T p0 r x) ↔ DNt N K O T p0 (r + 1) x := by
  have := pg_all (r := r) hb hp x
  constructor
  · rintro ⟨h1, h2⟩; exact ⟨this.mp (Or.inr h1), h2⟩
  · rintro ⟨h1, h2⟩; exact ⟨(this.mpr h1).elim (fun h => absurd h h2) id, h2⟩
theorem ts_none {N p0 r : Nat} {K O T : Nat → Nat} (hF : ∀ k p, k < r → ¬ DNt N K O T p0 k (1024 * p + (2 ^ N - 1))) (he : ∀ x, ¬ DNt N K O T p0 r x) : TSo N K O T p0 none := fun d p h => by
  obtain ⟨k, k1, k2⟩ := rn_dn d h
  by_cases hk : k < r
  · exact hF k p hk k2
  · have := dn_end he (k - r) (1024 * p + (2 ^ N - 1))
    rw [show r + (k - r) = k by omega] at this
    exact this k2
theorem ts_some {N p0 r p : Nat} {K O T : Nat → Nat} (hp : p < 7) (hr : r < 16384) (hF : ∀ k p, k < r → ¬ DNt N K O T p0 k (1024 * p + (2 ^ N - 1))) (h1 : DNt N K O T p0 r (1024 * p + (2 ^ N - 1))) (h2 : ∀ p', p' < p → ¬ DNt N K O T p0 r (1024 * p' + (2 ^ N - 1))) : TSo N K O T p0 (some (r, p)) := by
  refine ⟨hp, hr, dn_rn h1, fun p' hp' h => ?_, fun d' p' hd h => ?_⟩
  · obtain ⟨k, k1, k2⟩ := rn_dn r h
    by_cases hk : k = r
    · subst hk; exact h2 p' hp' k2
    · exact hF k p' (by omega) k2
  · obtain ⟨k, k1, k2⟩ := rn_dn d' h
    exact hF k p' (by omega) k2
section
variable {t d : Nat} {z : AZ} {X : Nat × (Nat → Int32)} {C : CT} {M : MT} {s : Nat → Int32} {v : Nat → Int64} {g : Nat → Nat → Int32} {w : Nat → Nat → Int64} {q : Nat → Nat} {ct : Nat → Int32} {cn : Nat → Int32} {cc : Nat → Nat → Int32} {di : Nat → Nat → Int32} {dr : Nat → Nat → Int32} {df : Nat → Nat → Int32} {li : Nat → Nat → Int32} {la : Nat → Nat → Nat → Int32} {sf : Nat → Nat → Int32} {sl : Nat → Nat → Int32} {a : Nat → Int32} {b : Nat → Int64} {e : Nat → Nat → Int32} {o : Nat → Nat → Int64} {B : Nat → Bool} {n : Nat → Nat} {P N W : Nat} {K O T J : Nat → Nat} {l : Nat} {Ds : Nat → Nat} {Dr Df Dp : Nat → Nat → Nat} {KB : Nat → Bool}
variable {Q : Option Value → AZ → AH → Prop}
theorem lp_sh53 {p0 : Nat} (hl : l < 2) (hC : CLn (li l) (la l) P N K O T J) (hb : LB P N W K O T J) (hp : p0 < P)
    (hQ0 : ∀ (g' : Nat → Nat → Int32) (q' : Nat → Nat), (∀ k, k < 90 → g' k = g k) → (∀ k, k ≠ 8 → k ≠ 9 → q' k = q k) → ((q' 8 = 0 ∧ q' 9 = 1) ∨ (q' 8 = 1 ∧ q' 9 = 0)) → TSo N K O T p0 none → Q (some (.int (-9))) z (Hp X (s, v, g', w, q', ct, cn, cc, di, dr, df, li, la, sf, sl) M))
    (hQ1 : ∀ (g' : Nat → Nat → Int32) (q' : Nat → Nat) (r p : Nat), (∀ k, k < 90 → g' k = g k) → (∀ k, k ≠ 8 → k ≠ 9 → q' k = q k) → ((q' 8 = 0 ∧ q' 9 = 1) ∨ (q' 8 = 1 ∧ q' 9 = 0)) → TSo N K O T p0 (some (r, p)) → Q (some (.int (nI r))) z (Hp X (va_up s 23 (nI p), v, g', w, q', ct, cn, cc, di, dr, df, li, la, sf, sl) M)) (h10 : q 10 ≠ 0) :
    ∀ (j r : Nat) (g' : Nat → Nat → Int32) (q' : Nat → Nat) (β : Bool), r + j = 7169 → (∀ k, k < 90 → g' k = g k) → (∀ k, k ≠ 8 → k ≠ 9 → q' k = q k) → ((q' 8 = 0 ∧ q' 9 = 1) ∨ (q' 8 = 1 ∧ q' 9 = 0)) → BMt (g' 90) (RNt N K O T p0 r) → BMt (g' (91 + q' 8)) (DNt N K O T p0 r) → (β = true ↔ ∃ x, DNt N K O T p0 r x) → (∀ k p, k < r → ¬ DNt N K O T p0 k (1024 * p + (2 ^ N - 1))) → Wp (d + 4) 801 53 [some (.ref 89), some (.ref (lo l)), some (.int (nI p0)), some (.int (nI (2 ^ N - 1))), some (.int (bI β)), some (.int (nI r))] [] z (Hp X (s, v, g', w, q', ct, cn, cc, di, dr, df, li, la, sf, sl) M) Q := by
  have hN := hb.2.1
  have h1024 : 2 ^ N ≤ 1024 := Nat.pow_le_pow_right (n := 2) (by decide) hN
  have h0 := Nat.two_pow_pos N
  intro j
  induction j with
  | zero =>
    intro r g' q' β hj hg hq hqq hR hD hβ hF
    have hj : r = 7169 := by omega
    subst hj
    rw [W801_53]
    simp (disch := omega) only [W801, s_0, ci_1, r_4, r_La, h60_3_5, r_18, r_11, ci_1023, r_15, r_5, h60_8_1, ci_0, h80_1300, h60_8_2, r_2, r_Li, ci_7168, r_50, s_40, h80_964, h61_8_0, r_90, h79_802, s_8, r_In, r_52, ci_m9, h64_90, h65_90, h64_to, h65_to, enR, LG, LSt, LC, nlR, psR, TK, up_s, up_n, up_u, lt_nI, le_nI, eq_nI, true_and, and_true, if_true, if_false, Nat.zero_add, Nat.add_zero, nI_add, ↓reduceIte, Nat.reduceAdd, Nat.reduceMul, Nat.reduceSub, Nat.reduceLT, Nat.reduceLeDiff, Nat.reduceEqDiff, Nat.not_lt_zero, Nat.lt_irrefl, decide_true, BEq.rfl, nm1, nm2, nm3, nm4, nm9, ngc, eq_self, List.length_cons, List.length_nil]
    exact hQ0 g' q' hg hq hqq (ts_none hF (fun x hx => by have := dn_lt hb hp hx; omega))
  | succ j ih =>
    intro r g' q' β hj hg hq hqq hR hD hβ hF
    have h1 : ¬ 7168 < r := by omega
    have h10' : q' 10 ≠ 0 := by rw [hq 10 (by decide) (by decide)]; exact h10
    have h8 : q' 8 < 2 := by omega
    have h9 : q' 9 < 2 := by omega
    have h89 : q' 8 ≠ q' 9 := by omega
    rw [W801_53]
    cases β with
    | false =>
      simp (disch := omega) only [W801, s_0, ci_1, r_4, r_La, h60_3_5, r_18, r_11, ci_1023, r_15, r_5, h60_8_1, ci_0, h80_1300, h60_8_2, r_2, r_Li, ci_7168, r_50, s_40, h80_964, h61_8_0, r_90, h79_802, s_8, r_In, r_52, ci_m9, h64_90, h65_90, h64_to, h65_to, enR, LG, LSt, LC, nlR, psR, TK, up_s, up_n, up_u, lt_nI, le_nI, eq_nI, true_and, and_true, if_true, if_false, Nat.zero_add, Nat.add_zero, nI_add, ↓reduceIte, Nat.reduceAdd, Nat.reduceMul, Nat.reduceSub, Nat.reduceLT, Nat.reduceLeDiff, Nat.reduceEqDiff, Nat.not_lt_zero, Nat.lt_irrefl, decide_true, BEq.rfl, nm1, nm2, nm3, nm4, nm9, ngc, eq_self, List.length_cons, List.length_nil, h1, bI, Bool.false_eq_true]
      exact hQ0 g' q' hg hq hqq (ts_none hF (fun x hx => absurd (hβ.mpr ⟨x, hx⟩) (by decide)))
    | true =>
      have hU : 2 ^ N - 1 < 1024 := by omega
      obtain ⟨m, m1, m2, m3⟩ := hD (2 ^ N - 1) hU
      by_cases hm : m = 0
      · subst hm
        simp (disch := omega) only [W801, s_0, ci_1, r_4, r_La, h60_3_5, r_18, r_11, ci_1023, r_15, r_5, h60_8_1, ci_0, h80_1300, h60_8_2, r_2, r_Li, ci_7168, r_50, s_40, h80_964, h61_8_0, r_90, h79_802, s_8, r_In, r_52, ci_m9, h64_90, h65_90, h64_to, h65_to, enR, LG, LSt, LC, nlR, psR, TK, up_s, up_n, up_u, lt_nI, le_nI, eq_nI, true_and, and_true, if_true, if_false, Nat.zero_add, Nat.add_zero, nI_add, ↓reduceIte, Nat.reduceAdd, Nat.reduceMul, Nat.reduceSub, Nat.reduceLT, Nat.reduceLeDiff, Nat.reduceEqDiff, Nat.not_lt_zero, Nat.lt_irrefl, decide_true, BEq.rfl, nm1, nm2, nm3, nm4, nm9, ngc, eq_self, List.length_cons, List.length_nil, h1, bI, h10', h8, h9, hU, m2]
        refine c_adv (g := g') (q := q') (D := DNt N K O T p0 r) (R := RNt N K O T p0 r) hl hC hb h10' h8 h9 h89 hD hR (fun g2 β2 f1 f2 f3 => ?_)
        have e8 : va_up (va_up q' 8 (q' 9)) 9 (q' 8) 8 = q' 9 := by rw [up_n _ _ (by decide), up_s]
        simp (disch := omega) only [W801, s_0, ci_1, r_4, r_La, h60_3_5, r_18, r_11, ci_1023, r_15, r_5, h60_8_1, ci_0, h80_1300, h60_8_2, r_2, r_Li, ci_7168, r_50, s_40, h80_964, h61_8_0, r_90, h79_802, s_8, r_In, r_52, ci_m9, h64_90, h65_90, h64_to, h65_to, enR, LG, LSt, LC, nlR, psR, TK, up_s, up_n, up_u, lt_nI, le_nI, eq_nI, true_and, and_true, if_true, if_false, Nat.zero_add, Nat.add_zero, nI_add, ↓reduceIte, Nat.reduceAdd, Nat.reduceMul, Nat.reduceSub, Nat.reduceLT, Nat.reduceLeDiff, Nat.reduceEqDiff, Nat.not_lt_zero, Nat.lt_irrefl, decide_true, BEq.rfl, nm1, nm2, nm3, nm4, nm9, ngc, eq_self, List.length_cons, List.length_nil]
        refine ih (r + 1) g2 _ β2 (by omega) (fun k hk => (f1 k (by omega) (by omega)).trans (hg k hk)) (fun k k1 k2 => by rw [up_n _ _ k2, up_n _ _ k1]; exact hq k k1 k2) (by rw [e8, up_s]; omega) (bm_ext f2.1 (fun x => pg_all hb hp x)) (by rw [e8]; exact bm_ext f2.2 (fun x => pg_new hb hp x)) (by
          rw [f3]
          exact ⟨fun ⟨x, hx⟩ => ⟨x, (pg_new hb hp x).mp hx⟩, fun ⟨x, hx⟩ => ⟨x, (pg_new hb hp x).mpr hx⟩⟩) (fun k p hk hd => ?_)
        by_cases hkr : k = r
        · subst hkr
          have := (m3 p).mpr hd
          simp at this
        · exact hF k p (by omega) hd
      · obtain ⟨n, hn⟩ := Nat.exists_testBit_of_ne_zero hm
        obtain ⟨p, p1, p2⟩ := low_bit n hn
        have p7 : p < 7 := by
          have := Nat.ge_two_pow_of_testBit p1
          by_cases h : p < 7
          · exact h
          · have h5 : (2 : Nat) ^ 7 ≤ 2 ^ p := Nat.pow_le_pow_right (by decide) (by omega)
            omega
        have eb := bnu_low p1 p2 10 0 (by omega) (by omega)
        simp (disch := omega) only [W801, s_0, ci_1, r_4, r_La, h60_3_5, r_18, r_11, ci_1023, r_15, r_5, h60_8_1, ci_0, h80_1300, h60_8_2, r_2, r_Li, ci_7168, r_50, s_40, h80_964, h61_8_0, r_90, h79_802, s_8, r_In, r_52, ci_m9, h64_90, h65_90, h64_to, h65_to, enR, LG, LSt, LC, nlR, psR, TK, up_s, up_n, up_u, lt_nI, le_nI, eq_nI, true_and, and_true, if_true, if_false, Nat.zero_add, Nat.add_zero, nI_add, ↓reduceIte, Nat.reduceAdd, Nat.reduceMul, Nat.reduceSub, Nat.reduceLT, Nat.reduceLeDiff, Nat.reduceEqDiff, Nat.not_lt_zero, Nat.lt_irrefl, decide_true, BEq.rfl, nm1, nm2, nm3, nm4, nm9, ngc, eq_self, List.length_cons, List.length_nil, h1, bI, h10', h8, h9, hU, m2, hm, c_bitN, eb, o2i]
        exact hQ1 g' q' r p hg hq hqq (ts_some p7 (by omega) hF ((m3 p).mp p1) (fun p' hp' hd => p2 p' hp' ((m3 p').mpr hd)))
theorem c_short {p0 : Nat} (hl : l < 2) (hC : CLn (li l) (la l) P N K O T J) (hb : LB P N W K O T J) (hp : p0 < P) (h10 : q 10 ≠ 0) (hqq : (q 8 = 0 ∧ q 9 = 1) ∨ (q 8 = 1 ∧ q 9 = 0))
    (hQ0 : ∀ (g' : Nat → Nat → Int32) (q' : Nat → Nat), (∀ k, k < 90 → g' k = g k) → (∀ k, k ≠ 8 → k ≠ 9 → q' k = q k) → ((q' 8 = 0 ∧ q' 9 = 1) ∨ (q' 8 = 1 ∧ q' 9 = 0)) → TSo N K O T p0 none → Q (some (.int (-9))) z (Hp X (s, v, g', w, q', ct, cn, cc, di, dr, df, li, la, sf, sl) M))
    (hQ1 : ∀ (g' : Nat → Nat → Int32) (q' : Nat → Nat) (r p : Nat), (∀ k, k < 90 → g' k = g k) → (∀ k, k ≠ 8 → k ≠ 9 → q' k = q k) → ((q' 8 = 0 ∧ q' 9 = 1) ∨ (q' 8 = 1 ∧ q' 9 = 0)) → TSo N K O T p0 (some (r, p)) → Q (some (.int (nI r))) z (Hp X (va_up s 23 (nI p), v, g', w, q', ct, cn, cc, di, dr, df, li, la, sf, sl) M)) : Cw (d + 5) 801 [.ref 89, .ref (lo l), .int (nI p0)] z (Hp X (s, v, g, w, q, ct, cn, cc, di, dr, df, li, la, sf, sl) M) Q := by
  have hN := hb.2.1
  have hP := hb.1
  have e11 := hC.2.1
  have h1024 : 2 ^ N ≤ 1024 := Nat.pow_le_pow_right (n := 2) (by decide) hN
  have h0 := Nat.two_pow_pos N
  have h8 : q 8 < 2 := by omega
  have h31 : N < 31 := by omega
  have hp31 : p0 < 31 := by omega
  have e2 : (2 ^ N - 1) &&& 1023 = 2 ^ N - 1 := by
    rw [show 1023 = 2 ^ 10 - 1 from rfl, Nat.and_two_pow_sub_one_eq_mod]
    exact Nat.mod_eq_of_lt (by omega)
  have hone : ∀ (σ : Nat → Int32), BMt (upd (fil σ 0 1024 (nI 0)) 0 (nI (2 ^ p0))) (fun x => x = 1024 * p0) := fun σ S hS => by
    by_cases h : S = 0
    · subst h
      refine ⟨2 ^ p0, ?_, ud_s _ _ _, fun b => ?_⟩
      · have : (2 : Nat) ^ p0 < 2 ^ 7 := Nat.pow_lt_pow_right (by decide) (by omega)
        omega
      · rw [Nat.testBit_two_pow]; simp; omega
    · refine ⟨0, by decide, ?_, fun b => ⟨fun hh => by simp at hh, fun hh => by omega⟩⟩
      rw [ud_n _ _ h]
      exact if_pos ⟨by omega, hS⟩
  rw [cw_wp]
  simp (disch := omega) only [W801, s_0, ci_1, r_4, r_La, h60_3_5, r_18, r_11, ci_1023, r_15, r_5, h60_8_1, ci_0, h80_1300, h60_8_2, r_2, r_Li, ci_7168, r_50, s_40, h80_964, h61_8_0, r_90, h79_802, s_8, r_In, r_52, ci_m9, h64_90, h65_90, h64_to, h65_to, enR, LG, LSt, LC, nlR, psR, TK, up_s, up_n, up_u, lt_nI, le_nI, eq_nI, true_and, and_true, if_true, if_false, Nat.zero_add, Nat.add_zero, nI_add, ↓reduceIte, Nat.reduceAdd, Nat.reduceMul, Nat.reduceSub, Nat.reduceLT, Nat.reduceLeDiff, Nat.reduceEqDiff, Nat.not_lt_zero, Nat.lt_irrefl, decide_true, BEq.rfl, nm1, nm2, nm3, nm4, nm9, ngc, eq_self, List.length_cons, List.length_nil, hl, e11, h31, hp31, h10, h8, nI_bit, nI_sub, nI_and, e2, f_90, f_to]
  refine lp_sh53 hl hC hb hp hQ0 hQ1 h10 7169 0 _ q true (by omega) (fun k hk => ?_) (fun _ _ _ => rfl) hqq ?_ ?_ (iff_of_true rfl ⟨1024 * p0, rfl⟩) (fun k p hk => absurd hk (by omega))
  · rw [up_n _ _ (by omega), up_n _ _ (by omega)]
    done
  · done
  · done
end
/-! tour: the model -/
def TQx (N : Nat) (K O T : Nat → Nat) (p0 n h i0 : Nat) (ss dd : Nat → Nat) (e86 e87 : Nat → Int32) : Prop :=
  (∀ j, j < n → e87 j = nI (ss j) ∧ ss j < 7168 ∧ ss j % 1024 < 2 ^ N ∧ e86 (ss j) = nI (dd j) ∧ dd j ≤ j ∧ RNt N K O T p0 (dd j) (ss j)) ∧
  (∀ x, x < 7168 → e86 x = -9 ∨ ∃ j, j < n ∧ ss j = x) ∧ cnt (fun x => !decide (e86 x = -9)) 7168 = n ∧
  (∀ j k, j ≤ k → k < n → dd j ≤ dd k) ∧ (∀ k, k < n → h < n → dd k ≤ dd h + 1) ∧
  (∀ j i y, (j < h ∨ (j = h ∧ i < i0)) → j < n → i < N → scT K O T i (ss j) = some y → ∃ k, k < n ∧ ss k = y ∧ dd k ≤ dd j + 1) ∧ 0 < n ∧ ss 0 = 1024 * p0 ∧ dd 0 = 0
def TOx (N h : Nat) (ss dd : Nat → Nat) : Option (Nat × Nat) → Prop
  | none => ∀ j, j < h → ss j % 1024 ≠ 2 ^ N - 1
  | some (d, p) => (∃ j, j < h ∧ ss j = 1024 * p + (2 ^ N - 1) ∧ dd j = d) ∧ ∀ k, k < h → ss k % 1024 = 2 ^ N - 1 → d ≤ dd k ∧ (dd k = d → p ≤ ss k / 1024)
section
variable {N p0 n h i0 : Nat} {K O T : Nat → Nat} {ss dd : Nat → Nat} {e86 e87 : Nat → Int32}
theorem tq_room (H : TQx N K O T p0 n h i0 ss dd e86 e87) {y : Nat} (hy : y < 7168) (h9 : e86 y = -9) : n < 7168 := by
  have h1 := cnt_ins (S := fun x => !decide (e86 x = -9)) (q := y) (by simpa using h9) 7168
  rw [if_pos hy, H.2.2.1] at h1
  have := cnt_le (va_up (fun x => !decide (e86 x = -9)) y true) 7168
  omega
theorem tq_n (H : TQx N K O T p0 n h i0 ss dd e86 e87) : n ≤ 7168 := by
  rw [← H.2.2.1]; exact cnt_le _ _
theorem tq_skip (H : TQx N K O T p0 n h i0 ss dd e86 e87) (hh : h < n) (hs : ∀ y, scT K O T i0 (ss h) = some y → y < 7168 ∧ ¬ e86 y = -9) : TQx N K O T p0 n h (i0 + 1) ss dd e86 e87 := by
  obtain ⟨h1, h2, h3, h4, h5, h6, h7⟩ := H
  refine ⟨h1, h2, h3, h4, h5, fun j i y k1 k2 k3 k4 => ?_, h7⟩
  by_cases hji : j = h ∧ i = i0
  · obtain ⟨rfl, rfl⟩ := hji
    obtain ⟨g1, g2⟩ := hs y k4
    rcases h2 y g1 with g3 | ⟨k, g3, g4⟩
    · exact absurd g3 g2
    · exact ⟨k, g3, g4, h5 k g3 hh⟩
  · exact h6 j i y (by omega) k2 k3 k4
theorem tq_next (H : TQx N K O T p0 n h N ss dd e86 e87) (hh : h < n) : TQx N K O T p0 n (h + 1) 0 ss dd e86 e87 := by
  obtain ⟨h1, h2, h3, h4, h5, h6, h7⟩ := H
  refine ⟨h1, h2, h3, h4, fun k k1 k2 => ?_, fun j i y k1 k2 k3 k4 => ?_, h7⟩
  · have := h5 k k1 hh
    have := h4 h (h + 1) (by omega) k2
    omega
  · exact h6 j i y (by omega) k2 k3 k4
theorem tq_add (H : TQx N K O T p0 n h i0 ss dd e86 e87) (hh : h < n) (hi : i0 < N) {y : Nat} (hy : y < 7168) (hy2 : y % 1024 < 2 ^ N) (hs : scT K O T i0 (ss h) = some y) (h9 : e86 y = -9) : TQx N K O T p0 (n + 1) h (i0 + 1) (va_up ss n y) (va_up dd n (dd h + 1)) (upd e86 y (nI (dd h + 1))) (upd e87 n (nI y)) := by
  have hn := tq_room H hy h9
  obtain ⟨h1, h2, h3, h4, h5, h6, h7, h8, h10⟩ := H
  have hdh := (h1 h hh).2.2.2.2.1
  have hne : ∀ j, j < n → ss j ≠ y := fun j hj he => by
    obtain ⟨-, -, -, g4, g5, -⟩ := h1 j hj
    rw [he, h9] at g4
    exact ni_neg (c := -9) (q := dd j) (by omega) (by decide) g4.symm
  refine ⟨fun j hj => ?_, fun x hx => ?_, ?_, fun j k k1 k2 => ?_, fun k k1 k2 => ?_, fun j i y' k1 k2 k3 k4 => ?_, by omega, ?_, ?_⟩
  · by_cases hjn : j = n
    · subst hjn
      rw [ud_s, up_s, up_s, ud_s]
      exact ⟨rfl, hy, hy2, rfl, by omega, Or.inr ⟨ss h, i0, (h1 h hh).2.2.2.2.2, hi, hs⟩⟩
    · obtain ⟨g1, g2, g3, g4, g5, g6⟩ := h1 j (by omega)
      rw [ud_n _ _ hjn, up_n _ _ hjn, up_n _ _ hjn, ud_n _ _ (hne j (by omega))]
      exact ⟨g1, g2, g3, g4, g5, g6⟩
  · by_cases hxy : x = y
    · subst hxy; exact Or.inr ⟨n, by omega, up_s _ _ _⟩
    · rw [ud_n _ _ hxy]
      rcases h2 x hx with g | ⟨j, g1, g2⟩
      · exact Or.inl g
      · exact Or.inr ⟨j, by omega, by rw [up_n _ _ (by omega)]; exact g2⟩
  · have e : (fun x => !decide (upd e86 y (nI (dd h + 1)) x = -9)) = va_up (fun x => !decide (e86 x = -9)) y true := by
      funext x
      by_cases hxy : x = y
      · subst hxy
        rw [ud_s, up_s]
        have : ¬ nI (dd h + 1) = -9 := ni_neg (by omega) (by decide)
        simp [this]
      · rw [ud_n _ _ hxy, up_n _ _ hxy]
    rw [e, cnt_ins (by simpa using h9), if_pos hy, h3]
  · by_cases hkn : k = n
    · subst hkn
      rw [up_s]
      by_cases hjk : j = k
      · subst hjk; rw [up_s]; exact Nat.le_refl _
      · rw [up_n _ _ hjk]; exact h5 j (by omega) hh
    · rw [up_n _ _ hkn, up_n _ _ (by omega)]; exact h4 j k k1 (by omega)
  · rw [up_n _ _ (show h ≠ n by omega)]
    by_cases hkn : k = n
    · subst hkn; rw [up_s]; exact Nat.le_refl _
    · rw [up_n _ _ hkn]; exact h5 k (by omega) hh
  · have hjn : j ≠ n := by omega
    rw [up_n _ _ hjn] at k4 ⊢
    by_cases hji : j = h ∧ i = i0
    · obtain ⟨rfl, rfl⟩ := hji
      rw [hs] at k4
      cases k4
      exact ⟨n, by omega, up_s _ _ _, by rw [up_s]; exact Nat.le_refl _⟩
    · obtain ⟨k, g1, g2, g3⟩ := h6 j i y' (by omega) (by omega) k3 k4
      exact ⟨k, by omega, by rw [up_n _ _ (by omega)]; exact g2, by rw [up_n _ _ (by omega)]; exact g3⟩
  · rw [up_n _ _ (by omega)]; exact h8
  · rw [up_n _ _ (by omega)]; exact h10
theorem tq_all (H : TQx N K O T p0 n n i0 ss dd e86 e87) : ∀ r y, RNt N K O T p0 r y → ∃ k, k < n ∧ ss k = y ∧ dd k ≤ r := by
  obtain ⟨h1, h2, h3, h4, h5, h6, h7, h8, h10⟩ := H
  intro r
  induction r with
  | zero =>
    intro y hy
    have hy : y = 1024 * p0 := hy
    exact ⟨0, h7, by rw [h8, hy], by omega⟩
  | succ r ih =>
    intro y hy
    rcases hy with hy | ⟨y', i, k1, k2, k3⟩
    · obtain ⟨k, g1, g2, g3⟩ := ih y hy
      exact ⟨k, g1, g2, by omega⟩
    · obtain ⟨k, g1, g2, g3⟩ := ih y' k1
      subst g2
      obtain ⟨k', f1, f2, f3⟩ := h6 k i y (Or.inl g1) g1 k2 k3
      exact ⟨k', f1, f2, by omega⟩
theorem tq_ts (H : TQx N K O T p0 n n i0 ss dd e86 e87) (hN : N ≤ 10) {out : Option (Nat × Nat)} (hO : TOx N n ss dd out) : TSo N K O T p0 out := by
  have hn := tq_n H
  have hall := tq_all H
  have h1024 : 2 ^ N ≤ 1024 := Nat.pow_le_pow_right (n := 2) (by decide) hN
  have h0 := Nat.two_pow_pos N
  cases out with
  | none =>
    intro d p hd
    obtain ⟨k, k1, k2, k3⟩ := hall _ _ hd
    exact hO k k1 (by omega)
  | some w =>
    obtain ⟨d, p⟩ := w
    obtain ⟨⟨j, j1, j2, j3⟩, hk⟩ := hO
    obtain ⟨g1, g2, g3, g4, g5, g6⟩ := H.1 j j1
    refine ⟨by omega, by omega, ?_, fun p' hp' hd => ?_, fun d' p' hd' hd => ?_⟩
    · rw [← j2, ← j3]; exact g6
    · obtain ⟨k, k1, k2, k3⟩ := hall _ _ hd
      obtain ⟨f1, f2⟩ := hk k k1 (by omega)
      have := f2 (by omega)
      omega
    · obtain ⟨k, k1, k2, k3⟩ := hall _ _ hd
      obtain ⟨f1, f2⟩ := hk k k1 (by omega)
      omega
theorem to_skip {out : Option (Nat × Nat)} (hO : TOx N h ss dd out) (hs : ss h % 1024 ≠ 2 ^ N - 1) : TOx N (h + 1) ss dd out := by
  cases out with
  | none =>
    intro j hj
    by_cases hjh : j = h
    · subst hjh; exact hs
    · exact hO j (by omega)
  | some w =>
    obtain ⟨d, p⟩ := w
    obtain ⟨⟨j, j1, j2, j3⟩, hk⟩ := hO
    refine ⟨⟨j, by omega, j2, j3⟩, fun k k1 k2 => ?_⟩
    by_cases hkh : k = h
    · subst hkh; exact absurd k2 hs
    · exact hk k (by omega) k2
def toNx (d p : Nat) : Option (Nat × Nat) → Option (Nat × Nat)
  | none => some (d, p)
  | some (d', p') => if d = d' then some (d', if p < p' then p else p') else some (d', p')
theorem to_take {out : Option (Nat × Nat)} (hO : TOx N h ss dd out) (hs : ss h % 1024 = 2 ^ N - 1) (hd : ∀ j, j < h → dd j ≤ dd h) : TOx N (h + 1) ss dd (toNx (dd h) (ss h / 1024) out) := by
  have e : ss h = 1024 * (ss h / 1024) + (2 ^ N - 1) := by omega
  cases out with
  | none =>
    refine ⟨⟨h, by omega, e, rfl⟩, fun k k1 k2 => ?_⟩
    by_cases hkh : k = h
    · subst hkh; exact ⟨Nat.le_refl _, fun _ => Nat.le_refl _⟩
    · exact absurd k2 (hO k (by omega))
  | some w =>
    obtain ⟨d, p⟩ := w
    obtain ⟨⟨j, j1, j2, j3⟩, hk⟩ := hO
    have hdj := hd j j1
    unfold toNx
    by_cases h1 : dd h = d
    · rw [if_pos h1]
      by_cases h2 : ss h / 1024 < p
      · rw [if_pos h2]
        refine ⟨⟨h, by omega, e, h1⟩, fun k k1 k2 => ?_⟩
        by_cases hkh : k = h
        · subst hkh; exact ⟨by omega, fun _ => Nat.le_refl _⟩
        · obtain ⟨f1, f2⟩ := hk k (by omega) k2
          exact ⟨f1, fun hh => by have := f2 hh; omega⟩
      · rw [if_neg h2]
        refine ⟨⟨j, by omega, j2, j3⟩, fun k k1 k2 => ?_⟩
        by_cases hkh : k = h
        · subst hkh; exact ⟨by omega, fun _ => by omega⟩
        · exact hk k (by omega) k2
    · rw [if_neg h1]
      refine ⟨⟨j, by omega, j2, j3⟩, fun k k1 k2 => ?_⟩
      by_cases hkh : k = h
      · subst hkh; exact ⟨by omega, fun hh => absurd hh h1⟩
      · exact hk k (by omega) k2
end
/-! tour: the model's walk -/
section
variable {t d : Nat} {z : AZ} {X : Nat × (Nat → Int32)} {C : CT} {M : MT} {s : Nat → Int32} {v : Nat → Int64} {g : Nat → Nat → Int32} {w : Nat → Nat → Int64} {q : Nat → Nat} {ct : Nat → Int32} {cn : Nat → Int32} {cc : Nat → Nat → Int32} {di : Nat → Nat → Int32} {dr : Nat → Nat → Int32} {df : Nat → Nat → Int32} {li : Nat → Nat → Int32} {la : Nat → Nat → Nat → Int32} {sf : Nat → Nat → Int32} {sl : Nat → Nat → Int32} {a : Nat → Int32} {b : Nat → Int64} {e : Nat → Nat → Int32} {o : Nat → Nat → Int64} {B : Nat → Bool} {n : Nat → Nat} {P N W : Nat} {K O T J : Nat → Nat} {l : Nat} {Ds : Nat → Nat} {Dr Df Dp : Nat → Nat → Nat} {KB : Nat → Bool}
variable {Q : Option Value → AZ → AH → Prop}
def FRt (e e' : Nat → Nat → Int32) : Prop := ∀ k, k ≠ 86 → k ≠ 87 → e' k = e k
theorem lp_tw12 {p0 : Nat} (hQ : ∀ σ : Nat → Int32, (∀ x, x < 7168 → σ x = -9) → Wp (d + 2) 1074 12 [some (.ref 67), some (.int (nI p0)), some (.int (nI 7168))] [] z (Hp X C (a, b, va_up e 86 σ, o)) Q) : ∀ (j k : Nat) (σ : Nat → Int32), k + j = 7168 → (∀ x, x < k → σ x = -9) → Wp (d + 2) 1074 12 [some (.ref 67), some (.int (nI p0)), some (.int (nI k))] [] z (Hp X C (a, b, va_up e 86 σ, o)) Q := by
  intro j
  induction j with
  | zero =>
    intro k σ hk hσ
    have hk : k = 7168 := by omega
    subst hk
    exact hQ σ hσ
  | succ j ih =>
    intro k σ hk hσ
    have h1 : k < 7168 := by omega
    rw [W1074_12]
    simp (disch := omega) only [W1074, r_4, r_La, r_2, r_Li, h79_1029, s_41, s_0, ci_m1, r_90, ci_0, r_5, ci_7168, r_49, h60_10_34, ci_m9, s_8, r_In, ci_1, r_52, h60_10_11, r_18, r_11, h60_10_35, ci_1024, r_12, s_13, s_14, r_47, r_46, h79_1038, r_16, r_10, h79_1003, h64_86, h65_86, h64_87, h65_87, enR, LG, LSt, LC, nlR, psR, TK, up_s, up_n, up_u, lt_nI, le_nI, eq_nI, true_and, and_true, if_true, if_false, Nat.zero_add, Nat.add_zero, nI_add, ↓reduceIte, Nat.reduceAdd, Nat.reduceMul, Nat.reduceSub, Nat.reduceLT, Nat.reduceLeDiff, Nat.reduceEqDiff, Nat.not_lt_zero, Nat.lt_irrefl, decide_true, BEq.rfl, nm1, nm2, nm3, nm4, nm9, ngc, eq_self, List.length_cons, List.length_nil, h1]
    refine ih (k + 1) _ (by omega) (fun x hx => ?_)
    by_cases hxk : x = k
    · subst hxk; exact ud_s _ _ _
    · rw [ud_n _ _ hxk]; exact hσ x (by omega)
theorem lp_tw173 {p0 n0 h : Nat} {c4 c5 : Int32} {ss dd : Nat → Nat} (hM : MLn a (e 74) P N W K O T J) (hb : LB P N W K O T J)
    (hQ : ∀ (e' : Nat → Nat → Int32) (n : Nat) (ss' dd' : Nat → Nat), FRt e e' → n0 ≤ n → TQx N K O T p0 n h N ss' dd' (e' 86) (e' 87) → (∀ j, j < n0 → ss' j = ss j ∧ dd' j = dd j) → Wp (d + 2) 1074 77 [some (.ref 67), some (.int (nI p0)), some (.int (nI (2 ^ N - 1))), some (.int (nI n)), some (.int c4), some (.int c5), some (.int (nI (h + 1)))] [] z (Hp X C (a, b, e', o)) Q) (hh : h < n0) :
    ∀ (j i n : Nat) (e' : Nat → Nat → Int32) (ss' dd' : Nat → Nat), i + j = N → FRt e e' → n0 ≤ n → TQx N K O T p0 n h i ss' dd' (e' 86) (e' 87) → (∀ j, j < n0 → ss' j = ss j ∧ dd' j = dd j) → Wp (d + 2) 1074 173 [some (.ref 67), some (.int (nI p0)), some (.int (nI (2 ^ N - 1))), some (.int (nI n)), some (.int c4), some (.int c5), some (.int (nI h)), some (.int (nI (ss h / 1024))), some (.int (nI (ss h % 1024))), some (.int (nI (dd h))), some (.int (nI i))] [] z (Hp X C (a, b, e', o)) Q := by
  have hN := hb.2.1
  have hP := hb.1
  intro j
  induction j with
  | zero =>
    intro i n e' ss' dd' hj he hn hT hsd
    have hj : i = N := by omega
    subst hj
    have e11 : a 11 = nI i := hM.2.1
    rw [W1074_173]
    simp (disch := omega) only [W1074, r_4, r_La, r_2, r_Li, h79_1029, s_41, s_0, ci_m1, r_90, ci_0, r_5, ci_7168, r_49, h60_10_34, ci_m9, s_8, r_In, ci_1, r_52, h60_10_11, r_18, r_11, h60_10_35, ci_1024, r_12, s_13, s_14, r_47, r_46, h79_1038, r_16, r_10, h79_1003, h64_86, h65_86, h64_87, h65_87, enR, LG, LSt, LC, nlR, psR, TK, up_s, up_n, up_u, lt_nI, le_nI, eq_nI, true_and, and_true, if_true, if_false, Nat.zero_add, Nat.add_zero, nI_add, ↓reduceIte, Nat.reduceAdd, Nat.reduceMul, Nat.reduceSub, Nat.reduceLT, Nat.reduceLeDiff, Nat.reduceEqDiff, Nat.not_lt_zero, Nat.lt_irrefl, decide_true, BEq.rfl, nm1, nm2, nm3, nm4, nm9, ngc, eq_self, List.length_cons, List.length_nil, e11]
    exact hQ e' n ss' dd' he hn hT hsd
  | succ j ih =>
    intro i n e' ss' dd' hj he hn hT hsd
    have h1 : i < N := by omega
    have h31 : i < 31 := by omega
    have e11 : a 11 = nI N := hM.2.1
    have hM1 : MLn a (e' 74) P N W K O T J := by rw [he 74 (by decide) (by decide)]; exact hM
    obtain ⟨s1, s2⟩ := hsd h hh
    obtain ⟨g1, g2, g3, g4, g5, g6⟩ := hT.1 h (by omega)
    rw [s1] at g2 g3
    rw [s2] at g5
    have hpl : ss h / 1024 < 65536 := by omega
    have hS : ss h % 1024 < 1024 := Nat.mod_lt _ (by decide)
    have hor := or_1024 (i := i) hS (by omega)
    rw [W1074_173]
    cases hld : ldm K O T i (ss h / 1024) with
    | none =>
      have hsc : scT K O T i (ss h) = none := by unfold scT; rw [hld]
      have ih2 := ih (i + 1) n e' ss' dd' (by omega) he hn (tq_skip hT (by omega) (fun y hy => by rw [s1, hsc] at hy; exact absurd hy (by simp))) hsd
      simp (disch := omega) only [W1074, r_4, r_La, r_2, r_Li, h79_1029, s_41, s_0, ci_m1, r_90, ci_0, r_5, ci_7168, r_49, h60_10_34, ci_m9, s_8, r_In, ci_1, r_52, h60_10_11, r_18, r_11, h60_10_35, ci_1024, r_12, s_13, s_14, r_47, r_46, h79_1038, r_16, r_10, h79_1003, h64_86, h65_86, h64_87, h65_87, enR, LG, LSt, LC, nlR, psR, TK, up_s, up_n, up_u, lt_nI, le_nI, eq_nI, true_and, and_true, if_true, if_false, Nat.zero_add, Nat.add_zero, nI_add, ↓reduceIte, Nat.reduceAdd, Nat.reduceMul, Nat.reduceSub, Nat.reduceLT, Nat.reduceLeDiff, Nat.reduceEqDiff, Nat.not_lt_zero, Nat.lt_irrefl, decide_true, BEq.rfl, nm1, nm2, nm3, nm4, nm9, ngc, eq_self, List.length_cons, List.length_nil, e11, h1, m_leads hM1 hb h1 hpl, hld, o2i]
      exact ih2
    | some t2 =>
      have ht2 := ldm_lt hb h1 hld
      have hy : 1024 * t2 + (ss h % 1024 ||| 2 ^ i) < 7168 := by omega
      have hsc : scT K O T i (ss' h) = some (1024 * t2 + (ss h % 1024 ||| 2 ^ i)) := by rw [s1]; unfold scT; rw [hld]
      have hm9 : (nI t2 = -9) = False := nm9 (by omega)
      by_cases hf : e' 86 (1024 * t2 + (ss h % 1024 ||| 2 ^ i)) = -9
      · have hroom := tq_room hT hy hf
        have hlt := (sc_lt (p0 := p0) (x := ss' h) hb h1 (by rw [s1]; exact g3) hsc).2
        have ht := tq_add hT (by omega) h1 hy hlt hsc hf
        have ih2 := ih (i + 1) (n + 1) (va_up (va_up e' 86 (upd (e' 86) (1024 * t2 + (ss h % 1024 ||| 2 ^ i)) (nI (dd h + 1)))) 87 (upd (e' 87) n (nI (1024 * t2 + (ss h % 1024 ||| 2 ^ i))))) _ _ (by omega) (fun k k1 k2 => by rw [up_n _ _ k2, up_n _ _ k1]; exact he k k1 k2) (by omega) (by
          rw [up_s, up_n _ _ (by decide), up_s]
          rw [s2] at ht
          exact ht) (fun j' hj' => by rw [up_n _ _ (by omega), up_n _ _ (by omega)]; exact hsd j' hj')
        simp (disch := omega) only [W1074, r_4, r_La, r_2, r_Li, h79_1029, s_41, s_0, ci_m1, r_90, ci_0, r_5, ci_7168, r_49, h60_10_34, ci_m9, s_8, r_In, ci_1, r_52, h60_10_11, r_18, r_11, h60_10_35, ci_1024, r_12, s_13, s_14, r_47, r_46, h79_1038, r_16, r_10, h79_1003, h64_86, h65_86, h64_87, h65_87, enR, LG, LSt, LC, nlR, psR, TK, up_s, up_n, up_u, lt_nI, le_nI, eq_nI, true_and, and_true, if_true, if_false, Nat.zero_add, Nat.add_zero, nI_add, ↓reduceIte, Nat.reduceAdd, Nat.reduceMul, Nat.reduceSub, Nat.reduceLT, Nat.reduceLeDiff, Nat.reduceEqDiff, Nat.not_lt_zero, Nat.lt_irrefl, decide_true, BEq.rfl, nm1, nm2, nm3, nm4, nm9, ngc, eq_self, List.length_cons, List.length_nil, e11, h1, h31, m_leads hM1 hb h1 hpl, hld, o2i, hm9, nI_mul, nI_bit, nI_or, hy, hf, hroom]
        exact ih2
      · have ih2 := ih (i + 1) n e' ss' dd' (by omega) he hn (tq_skip hT (by omega) (fun y hy2 => by
          rw [hsc] at hy2
          cases hy2
          exact ⟨hy, hf⟩)) hsd
        simp (disch := omega) only [W1074, r_4, r_La, r_2, r_Li, h79_1029, s_41, s_0, ci_m1, r_90, ci_0, r_5, ci_7168, r_49, h60_10_34, ci_m9, s_8, r_In, ci_1, r_52, h60_10_11, r_18, r_11, h60_10_35, ci_1024, r_12, s_13, s_14, r_47, r_46, h79_1038, r_16, r_10, h79_1003, h64_86, h65_86, h64_87, h65_87, enR, LG, LSt, LC, nlR, psR, TK, up_s, up_n, up_u, lt_nI, le_nI, eq_nI, true_and, and_true, if_true, if_false, Nat.zero_add, Nat.add_zero, nI_add, ↓reduceIte, Nat.reduceAdd, Nat.reduceMul, Nat.reduceSub, Nat.reduceLT, Nat.reduceLeDiff, Nat.reduceEqDiff, Nat.not_lt_zero, Nat.lt_irrefl, decide_true, BEq.rfl, nm1, nm2, nm3, nm4, nm9, ngc, eq_self, List.length_cons, List.length_nil, e11, h1, h31, m_leads hM1 hb h1 hpl, hld, o2i, hm9, nI_mul, nI_bit, nI_or, hy, hf]
        exact ih2
theorem lp_tw77 {p0 : Nat} (hM : MLn a (e 74) P N W K O T J) (hb : LB P N W K O T J)
    (hQ0 : ∀ (e' : Nat → Nat → Int32), FRt e e' → TSo N K O T p0 none → Q (some (.int (-9))) z (Hp X C (a, b, e', o)))
    (hQ1 : ∀ (e' : Nat → Nat → Int32) (d1 p1 : Nat), FRt e e' → TSo N K O T p0 (some (d1, p1)) → Q (some (.int (nI d1))) z (Hp X C (va_up a 2 (nI p1), b, e', o))) :
    ∀ (j h n : Nat) (e' : Nat → Nat → Int32) (ss dd : Nat → Nat) (out : Option (Nat × Nat)), h + j = 7169 → h ≤ n → FRt e e' → TQx N K O T p0 n h 0 ss dd (e' 86) (e' 87) → TOx N h ss dd out → Wp (d + 2) 1074 77 [some (.ref 67), some (.int (nI p0)), some (.int (nI (2 ^ N - 1))), some (.int (nI n)), some (.int (bsA out)), some (.int (bsB (-9) out)), some (.int (nI h))] [] z (Hp X C (a, b, e', o)) Q := by
  have hN := hb.2.1
  have hP := hb.1
  have h1024 : 2 ^ N ≤ 1024 := Nat.pow_le_pow_right (n := 2) (by decide) hN
  have h0 := Nat.two_pow_pos N
  intro j
  induction j with
  | zero =>
    intro h n e' ss dd out hj hhn he hT hO
    have := tq_n hT
    omega
  | succ j ih =>
    intro h n e' ss dd out hj hhn he hT hO
    have hn := tq_n hT
    by_cases hh : h = n
    · subst hh
      have hts := tq_ts hT hN hO
      rw [W1074_77]
      cases out with
      | none =>
        simp (disch := omega) only [W1074, r_4, r_La, r_2, r_Li, h79_1029, s_41, s_0, ci_m1, r_90, ci_0, r_5, ci_7168, r_49, h60_10_34, ci_m9, s_8, r_In, ci_1, r_52, h60_10_11, r_18, r_11, h60_10_35, ci_1024, r_12, s_13, s_14, r_47, r_46, h79_1038, r_16, r_10, h79_1003, h64_86, h65_86, h64_87, h65_87, enR, LG, LSt, LC, nlR, psR, TK, up_s, up_n, up_u, lt_nI, le_nI, eq_nI, true_and, and_true, if_true, if_false, Nat.zero_add, Nat.add_zero, nI_add, ↓reduceIte, Nat.reduceAdd, Nat.reduceMul, Nat.reduceSub, Nat.reduceLT, Nat.reduceLeDiff, Nat.reduceEqDiff, Nat.not_lt_zero, Nat.lt_irrefl, decide_true, BEq.rfl, nm1, nm2, nm3, nm4, nm9, ngc, eq_self, List.length_cons, List.length_nil, bsA, bsB]
        exact hQ0 e' he hts
      | some w =>
        obtain ⟨d1, p1⟩ := w
        obtain ⟨t1, t2, -⟩ := id hts
        have hm9 : (nI d1 = -9) = False := nm9 (by omega)
        simp (disch := omega) only [W1074, r_4, r_La, r_2, r_Li, h79_1029, s_41, s_0, ci_m1, r_90, ci_0, r_5, ci_7168, r_49, h60_10_34, ci_m9, s_8, r_In, ci_1, r_52, h60_10_11, r_18, r_11, h60_10_35, ci_1024, r_12, s_13, s_14, r_47, r_46, h79_1038, r_16, r_10, h79_1003, h64_86, h65_86, h64_87, h65_87, enR, LG, LSt, LC, nlR, psR, TK, up_s, up_n, up_u, lt_nI, le_nI, eq_nI, true_and, and_true, if_true, if_false, Nat.zero_add, Nat.add_zero, nI_add, ↓reduceIte, Nat.reduceAdd, Nat.reduceMul, Nat.reduceSub, Nat.reduceLT, Nat.reduceLeDiff, Nat.reduceEqDiff, Nat.not_lt_zero, Nat.lt_irrefl, decide_true, BEq.rfl, nm1, nm2, nm3, nm4, nm9, ngc, eq_self, List.length_cons, List.length_nil, bsA, bsB, hm9, m_ask]
        exact hQ1 e' d1 p1 he hts
    · have hlt : h < n := by omega
      have hh7 : h < 7168 := by omega
      obtain ⟨g1, g2, g3, g4, g5, g6⟩ := hT.1 h hlt
      have fin : ∀ out', TOx N (h + 1) ss dd out' → Wp (d + 2) 1074 173 [some (.ref 67), some (.int (nI p0)), some (.int (nI (2 ^ N - 1))), some (.int (nI n)), some (.int (bsA out')), some (.int (bsB (-9) out')), some (.int (nI h)), some (.int (nI (ss h / 1024))), some (.int (nI (ss h % 1024))), some (.int (nI (dd h))), some (.int (nI 0))] [] z (Hp X C (a, b, e', o)) Q := fun out' hO' =>
        lp_tw173 (e := e') (by rw [he 74 (by decide) (by decide)]; exact hM) hb (fun e2 n2 ss2 dd2 f1 f2 f3 f4 => ih (h + 1) n2 e2 ss2 dd2 out' (by omega) (by omega) (fun k k1 k2 => (f1 k k1 k2).trans (he k k1 k2)) (tq_next f3 (by omega)) (by
          have hsame : ∀ j, j < h + 1 → ss2 j = ss j ∧ dd2 j = dd j := fun j hj => f4 j (by omega)
          cases out' with
          | none => exact fun j hj => by rw [(hsame j hj).1]; exact hO' j hj
          | some w =>
            obtain ⟨d1, p1⟩ := w
            obtain ⟨⟨j, j1, j2, j3⟩, hk⟩ := hO'
            exact ⟨⟨j, j1, by rw [(hsame j j1).1]; exact j2, by rw [(hsame j j1).2]; exact j3⟩, fun k k1 k2 => by
              rw [(hsame k k1).1] at k2 ⊢
              rw [(hsame k k1).2]
              exact hk k k1 k2⟩)) hlt N 0 n e' ss dd (by omega) (fun _ _ _ => rfl) (Nat.le_refl _) hT (fun _ _ => ⟨rfl, rfl⟩)
      rw [W1074_77]
      by_cases hf : ss h % 1024 = 2 ^ N - 1
      · have hto := to_take hO hf (fun j hj => hT.2.2.2.1 j h (by omega) hlt)
        cases out with
        | none =>
          have f2 := fin _ hto
          simp (disch := omega) only [W1074, r_4, r_La, r_2, r_Li, h79_1029, s_41, s_0, ci_m1, r_90, ci_0, r_5, ci_7168, r_49, h60_10_34, ci_m9, s_8, r_In, ci_1, r_52, h60_10_11, r_18, r_11, h60_10_35, ci_1024, r_12, s_13, s_14, r_47, r_46, h79_1038, r_16, r_10, h79_1003, h64_86, h65_86, h64_87, h65_87, enR, LG, LSt, LC, nlR, psR, TK, up_s, up_n, up_u, lt_nI, le_nI, eq_nI, true_and, and_true, if_true, if_false, Nat.zero_add, Nat.add_zero, nI_add, ↓reduceIte, Nat.reduceAdd, Nat.reduceMul, Nat.reduceSub, Nat.reduceLT, Nat.reduceLeDiff, Nat.reduceEqDiff, Nat.not_lt_zero, Nat.lt_irrefl, decide_true, BEq.rfl, nm1, nm2, nm3, nm4, nm9, ngc, eq_self, List.length_cons, List.length_nil, hlt, hh7, g1, g2, g4, nI_div, nI_rem, hf, bsA, bsB]
          rw [hf] at f2
          exact f2
        | some w =>
          obtain ⟨d1, p1⟩ := w
          obtain ⟨⟨j1, i1, i2, i3⟩, -⟩ := id hO
          obtain ⟨r1, r2, r3, r4, r5, r6⟩ := hT.1 j1 (by omega)
          have hd1 : d1 < 7168 := by omega
          have hp1 : p1 < 7 := by omega
          have hm9 : (nI d1 = -9) = False := nm9 (by omega)
          have hm92 : (nI p1 = -9) = False := nm9 (by omega)
          have f2 := fin _ hto
          rw [hf] at f2
          by_cases hd : dd h = d1
          · by_cases hp : ss h / 1024 < p1
            · simp only [toNx, hd, if_pos, hp] at f2
              simp (disch := omega) only [W1074, r_4, r_La, r_2, r_Li, h79_1029, s_41, s_0, ci_m1, r_90, ci_0, r_5, ci_7168, r_49, h60_10_34, ci_m9, s_8, r_In, ci_1, r_52, h60_10_11, r_18, r_11, h60_10_35, ci_1024, r_12, s_13, s_14, r_47, r_46, h79_1038, r_16, r_10, h79_1003, h64_86, h65_86, h64_87, h65_87, enR, LG, LSt, LC, nlR, psR, TK, up_s, up_n, up_u, lt_nI, le_nI, eq_nI, true_and, and_true, if_true, if_false, Nat.zero_add, Nat.add_zero, nI_add, ↓reduceIte, Nat.reduceAdd, Nat.reduceMul, Nat.reduceSub, Nat.reduceLT, Nat.reduceLeDiff, Nat.reduceEqDiff, Nat.not_lt_zero, Nat.lt_irrefl, decide_true, BEq.rfl, nm1, nm2, nm3, nm4, nm9, ngc, eq_self, List.length_cons, List.length_nil, hlt, hh7, g1, g2, g4, nI_div, nI_rem, hf, bsA, bsB, hm9, hm92, hd, hp]
              exact f2
            · simp only [toNx, hd, if_true, hp, if_false] at f2
              simp (disch := omega) only [W1074, r_4, r_La, r_2, r_Li, h79_1029, s_41, s_0, ci_m1, r_90, ci_0, r_5, ci_7168, r_49, h60_10_34, ci_m9, s_8, r_In, ci_1, r_52, h60_10_11, r_18, r_11, h60_10_35, ci_1024, r_12, s_13, s_14, r_47, r_46, h79_1038, r_16, r_10, h79_1003, h64_86, h65_86, h64_87, h65_87, enR, LG, LSt, LC, nlR, psR, TK, up_s, up_n, up_u, lt_nI, le_nI, eq_nI, true_and, and_true, if_true, if_false, Nat.zero_add, Nat.add_zero, nI_add, ↓reduceIte, Nat.reduceAdd, Nat.reduceMul, Nat.reduceSub, Nat.reduceLT, Nat.reduceLeDiff, Nat.reduceEqDiff, Nat.not_lt_zero, Nat.lt_irrefl, decide_true, BEq.rfl, nm1, nm2, nm3, nm4, nm9, ngc, eq_self, List.length_cons, List.length_nil, hlt, hh7, g1, g2, g4, nI_div, nI_rem, hf, bsA, bsB, hm9, hm92, hd, hp]
              exact f2
          · simp only [toNx, hd, if_false] at f2
            simp (disch := omega) only [W1074, r_4, r_La, r_2, r_Li, h79_1029, s_41, s_0, ci_m1, r_90, ci_0, r_5, ci_7168, r_49, h60_10_34, ci_m9, s_8, r_In, ci_1, r_52, h60_10_11, r_18, r_11, h60_10_35, ci_1024, r_12, s_13, s_14, r_47, r_46, h79_1038, r_16, r_10, h79_1003, h64_86, h65_86, h64_87, h65_87, enR, LG, LSt, LC, nlR, psR, TK, up_s, up_n, up_u, lt_nI, le_nI, eq_nI, true_and, and_true, if_true, if_false, Nat.zero_add, Nat.add_zero, nI_add, ↓reduceIte, Nat.reduceAdd, Nat.reduceMul, Nat.reduceSub, Nat.reduceLT, Nat.reduceLeDiff, Nat.reduceEqDiff, Nat.not_lt_zero, Nat.lt_irrefl, decide_true, BEq.rfl, nm1, nm2, nm3, nm4, nm9, ngc, eq_self, List.length_cons, List.length_nil, hlt, hh7, g1, g2, g4, nI_div, nI_rem, hf, bsA, bsB, hm9, hm92, hd]
            exact f2
      · have f2 := fin _ (to_skip hO hf)
        simp (disch := omega) only [W1074, r_4, r_La, r_2, r_Li, h79_1029, s_41, s_0, ci_m1, r_90, ci_0, r_5, ci_7168, r_49, h60_10_34, ci_m9, s_8, r_In, ci_1, r_52, h60_10_11, r_18, r_11, h60_10_35, ci_1024, r_12, s_13, s_14, r_47, r_46, h79_1038, r_16, r_10, h79_1003, h64_86, h65_86, h64_87, h65_87, enR, LG, LSt, LC, nlR, psR, TK, up_s, up_n, up_u, lt_nI, le_nI, eq_nI, true_and, and_true, if_true, if_false, Nat.zero_add, Nat.add_zero, nI_add, ↓reduceIte, Nat.reduceAdd, Nat.reduceMul, Nat.reduceSub, Nat.reduceLT, Nat.reduceLeDiff, Nat.reduceEqDiff, Nat.not_lt_zero, Nat.lt_irrefl, decide_true, BEq.rfl, nm1, nm2, nm3, nm4, nm9, ngc, eq_self, List.length_cons, List.length_nil, hlt, hh7, g1, g2, g4, nI_div, nI_rem, hf]
        exact f2
theorem m_tour {p0 : Nat} (hM : MLn a (e 74) P N W K O T J) (hb : LB P N W K O T J) (hp : p0 < P)
    (hQ0 : ∀ (e' : Nat → Nat → Int32), FRt e e' → TSo N K O T p0 none → Q (some (.int (-9))) z (Hp X C (a, b, e', o)))
    (hQ1 : ∀ (e' : Nat → Nat → Int32) (d1 p1 : Nat), FRt e e' → TSo N K O T p0 (some (d1, p1)) → Q (some (.int (nI d1))) z (Hp X C (va_up a 2 (nI p1), b, e', o))) : Cw (d + 3) 1074 [.ref 67, .int (nI p0)] z (Hp X C (a, b, e, o)) Q := by
  have hN := hb.2.1
  have hP := hb.1
  have e11 := hM.2.1
  have hp2 := nsub (show P < 65536 by omega) hp
  have h31 : N < 31 := by omega
  have h7 : 1024 * p0 < 7168 := by omega
  have h0 := Nat.two_pow_pos N
  rw [cw_wp]
  simp (disch := omega) only [W1074, r_4, r_La, r_2, r_Li, h79_1029, s_41, s_0, ci_m1, r_90, ci_0, r_5, ci_7168, r_49, h60_10_34, ci_m9, s_8, r_In, ci_1, r_52, h60_10_11, r_18, r_11, h60_10_35, ci_1024, r_12, s_13, s_14, r_47, r_46, h79_1038, r_16, r_10, h79_1003, h64_86, h65_86, h64_87, h65_87, enR, LG, LSt, LC, nlR, psR, TK, up_s, up_n, up_u, lt_nI, le_nI, eq_nI, true_and, and_true, if_true, if_false, Nat.zero_add, Nat.add_zero, nI_add, ↓reduceIte, Nat.reduceAdd, Nat.reduceMul, Nat.reduceSub, Nat.reduceLT, Nat.reduceLeDiff, Nat.reduceEqDiff, Nat.not_lt_zero, Nat.lt_irrefl, decide_true, BEq.rfl, nm1, nm2, nm3, nm4, nm9, ngc, eq_self, List.length_cons, List.length_nil, m_isPlace hM, hp2]
  have key := lp_tw12 (d := d) (z := z) (X := X) (C := C) (a := a) (b := b) (e := e) (o := o) (Q := Q) (p0 := p0) (fun σ hσ => ?_) 7168 0 (e 86) (by omega) (fun x hx => absurd hx (by omega))
  · rw [up_id (rfl : e 86 = e 86)] at key
    exact key
  · rw [W1074_12]
    simp (disch := omega) only [W1074, r_4, r_La, r_2, r_Li, h79_1029, s_41, s_0, ci_m1, r_90, ci_0, r_5, ci_7168, r_49, h60_10_34, ci_m9, s_8, r_In, ci_1, r_52, h60_10_11, r_18, r_11, h60_10_35, ci_1024, r_12, s_13, s_14, r_47, r_46, h79_1038, r_16, r_10, h79_1003, h64_86, h65_86, h64_87, h65_87, enR, LG, LSt, LC, nlR, psR, TK, up_s, up_n, up_u, lt_nI, le_nI, eq_nI, true_and, and_true, if_true, if_false, Nat.zero_add, Nat.add_zero, nI_add, ↓reduceIte, Nat.reduceAdd, Nat.reduceMul, Nat.reduceSub, Nat.reduceLT, Nat.reduceLeDiff, Nat.reduceEqDiff, Nat.not_lt_zero, Nat.lt_irrefl, decide_true, BEq.rfl, nm1, nm2, nm3, nm4, nm9, ngc, eq_self, List.length_cons, List.length_nil, e11, h31, nI_bit, nI_sub, nI_mul, h7]
    refine lp_tw77 (p0 := p0) hM hb (fun e' f1 f2 => hQ0 e' f1 f2) (fun e' d1 p1 f1 f2 => hQ1 e' d1 p1 f1 f2) 7169 0 1 _ (fun _ => 1024 * p0) (fun _ => 0) none (by omega) (by omega) (fun k k1 k2 => ?_) ⟨fun j hj => ?_, fun x hx => ?_, ?_, fun _ _ _ _ => Nat.le_refl _, fun _ _ _ => by omega, fun j i y h1 => by omega, by omega, rfl, rfl⟩ (fun j hj => absurd hj (by omega))
    · simp (disch := omega) only [up_n]
    · have hj : j = 0 := by omega
      subst hj
      simp (disch := omega) only [up_n, up_s, ud_s]
      exact ⟨trivial, h7, by rw [show 1024 * p0 % 1024 = 0 by omega]; exact h0, trivial, Nat.le_refl _, rfl⟩
    · simp (disch := omega) only [up_n, up_s]
      by_cases h : x = 1024 * p0
      · exact Or.inr ⟨0, by omega, h.symm⟩
      · rw [ud_n _ _ h]; exact Or.inl (hσ x hx)
    · simp (disch := omega) only [up_n, up_s]
      have e1 : cnt (fun x => !decide (upd σ (1024 * p0) (nI 0) x = -9)) 7168 = cnt (va_up (fun _ => false) (1024 * p0) true) 7168 := cnt_congr (fun x hx => by
        by_cases h : x = 1024 * p0
        · subst h; rw [ud_s, up_s]; decide
        · rw [ud_n _ _ h, up_n _ _ h, hσ x hx]; decide)
      rw [e1, cnt_ins rfl, if_pos h7, cnt_ext (p := fun _ => false) (Nat.zero_le 7168) (fun _ _ => rfl)]
      rfl
end

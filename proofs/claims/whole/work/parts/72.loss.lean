/-! loss, best -/
def lossF (u : Nat → Nat → Bool) (p c : Nat) : Nat := c + cnt (u p) p
def lossN (u : Nat → Nat → Bool) (P : Nat) : Nat := foldu (lossF u) 0 P 0
theorem lsN_succ (u : Nat → Nat → Bool) (p : Nat) : lossN u (p + 1) = lossN u p + cnt (u p) p := by
  unfold lossN
  rw [foldu_last, Nat.zero_add]
  rfl
theorem lsN_congr {u u' : Nat → Nat → Bool} : ∀ P, (∀ p q, p < P → q < p → u p q = u' p q) → lossN u P = lossN u' P := by
  intro P
  induction P with
  | zero => intro _; rfl
  | succ P ih =>
    intro h
    rw [lsN_succ, lsN_succ, ih (fun p q h1 h2 => h p q (by omega) h2), cnt_congr (fun q hq => h P q (by omega) hq)]
theorem lsN_le (u : Nat → Nat → Bool) : ∀ P, P ≤ 7 → lossN u P ≤ 7 * P := by
  intro P
  induction P with
  | zero => intro _; exact Nat.le_refl _
  | succ P ih =>
    intro h
    rw [lsN_succ]
    have := ih (by omega)
    have := cnt_le (u P) P
    omega
/-- pairs told apart in L0 that are alike in L1 -/
def LSSu (L0 L1 : Nat → Nat → Nat) (P : Nat) (u : Nat → Nat → Bool) : Prop := ∀ p q, p < P → q < p → (u p q = true ↔ ¬ alk L0 q p ∧ alk L1 q p)
def LSS (L0 L1 : Nat → Nat → Nat) (P n : Nat) : Prop := ∃ u, LSSu L0 L1 P u ∧ n = lossN u P
theorem ls_ex (L0 L1 : Nat → Nat → Nat) (P : Nat) : ∃ n, LSS L0 L1 P n :=
  ⟨_, fun p q => @decide (¬ alk L0 q p ∧ alk L1 q p) (Classical.propDecidable _), fun p q _ _ => by simp only [decide_eq_true_eq], rfl⟩
theorem ls_eq {L0 L1 : Nat → Nat → Nat} {P n : Nat} {u : Nat → Nat → Bool} (h : LSS L0 L1 P n) (hu : LSSu L0 L1 P u) : lossN u P = n := by
  obtain ⟨u', h1, rfl⟩ := h
  refine lsN_congr P (fun p q hp hq => ?_)
  have h2 := h1 p q hp hq
  have h3 := hu p q hp hq
  cases e1 : u p q <;> cases e2 : u' p q
  · rfl
  · exact absurd (h3.mpr (h2.mp e2)) (by rw [e1]; decide)
  · exact absurd (h2.mpr (h3.mp e1)) (by rw [e2]; decide)
  · rfl
theorem ls_le {L0 L1 : Nat → Nat → Nat} {P n : Nat} (h : LSS L0 L1 P n) (hP : P ≤ 7) : n ≤ 49 := by
  obtain ⟨u', h1, rfl⟩ := h
  have := lsN_le u' P hP
  omega
theorem gr_iff {L : Nat → Nat → Nat} {γ : Nat → Int32} {P p q : Nat} (h : GR L γ P) (hP : P ≤ 7) (hp : p < P) (hq : q < P) : γ p = γ q ↔ alk L q p := by
  obtain ⟨r, a1, a2, a3, a4⟩ := h p hp
  obtain ⟨r', b1, b2, b3, b4⟩ := h q hq
  rw [a2, b2, nI_eq (by omega) (by omega)]
  constructor
  · rintro rfl
    exact alk_t (alk_s b3) a3
  · intro hqp
    have h1 : ¬ r < r' := fun hh => b4 r hh (alk_t a3 (alk_s hqp))
    have h2 : ¬ r' < r := fun hh => a4 r' hh (alk_t b3 hqp)
    omega
theorem fe_pave {W i : Nat} {K J : Nat → Nat} (k : Nat) : fe W (va_up K i 1) J k = if k = i then 0 else fe W K J k := by
  by_cases h : k = i
  · subst h
    rw [if_pos rfl]
    unfold fe
    rw [up_s, if_neg (by decide), if_pos rfl]
  · rw [if_neg h]
    unfold fe
    rw [up_n _ _ h]
theorem lds_pave {N i : Nat} {K O T F : Nat → Nat} (h : K i = 0 ∨ K i = 2) : lds N F (va_up K i 1) O T = lds N F K O T := by
  funext p v
  unfold lds
  refine foldu_congr N 0 0 (fun j c _ _ => ?_)
  show ldsF F (va_up K i 1) O T p v j c = ldsF F K O T p v j c
  unfold ldsF
  rw [ldm_pave h]
theorem mln_pave {a T' T : Nat → Int32} {P N W i : Nat} {K O T0 J : Nat → Nat} (h : MLn a T P N W K O T0 J) (hT : T' = upd T (4 * i) (nI 1)) : MLn a T' P N W (va_up K i 1) O T0 J := by
  subst hT
  obtain ⟨h1, h2, h3, h4⟩ := h
  refine ⟨h1, h2, h3, fun j hj => ?_⟩
  obtain ⟨c1, c2, c3, c4⟩ := h4 j hj
  rw [ud_n _ _ (show 4 * j + 1 ≠ 4 * i by omega), ud_n _ _ (show 4 * j + 2 ≠ 4 * i by omega), ud_n _ _ (show 4 * j + 3 ≠ 4 * i by omega)]
  refine ⟨?_, c2, c3, c4⟩
  by_cases h : j = i
  · subst h; rw [up_s, ud_s]
  · rw [up_n _ _ h, ud_n _ _ (by omega)]; exact c1
theorem lb_pave {P N W i : Nat} {K O T J : Nat → Nat} (hb : LB P N W K O T J) : LB P N W (va_up K i 1) O T J := ⟨hb.1, hb.2.1, hb.2.2.1, hb.2.2.2.1, fun j hj => by
  obtain ⟨c1, c2, c3, c4⟩ := hb.2.2.2.2 j hj
  refine ⟨?_, c2, c3, c4⟩
  by_cases h : j = i
  · subst h; rw [up_s]; decide
  · rw [up_n _ _ h]; exact c1⟩
theorem ud_back {f : Nat → Int32} {k : Nat} {x : Int32} : upd (upd f k x) k (f k) = f := by
  funext j
  by_cases h : j = k
  · subst h; rw [ud_s]
  · rw [ud_n _ _ h, ud_n _ _ h]
/-- the best so far -/
def bsN (ok : Nat → Bool) (ℓ : Nat → Nat) : Nat → Option (Nat × Nat)
  | 0 => none
  | i + 1 => if ok i = true then (match bsN ok ℓ i with
      | none => some (i, ℓ i)
      | some (b, n) => if ℓ i < n then some (i, ℓ i) else some (b, n)) else bsN ok ℓ i
def bsA : Option (Nat × Nat) → Int32
  | none => -9
  | some (b, _) => nI b
def bsB (x : Int32) : Option (Nat × Nat) → Int32
  | none => x
  | some (_, n) => nI n
theorem bsN_lt {ok : Nat → Bool} {ℓ : Nat → Nat} (h : ∀ k, ℓ k ≤ 49) : ∀ (i : Nat) {b n : Nat}, bsN ok ℓ i = some (b, n) → b < i ∧ n ≤ 49 := by
  intro i
  induction i with
  | zero => intro b n hh; exact absurd hh (by simp [bsN])
  | succ i ih =>
    intro b n hh
    unfold bsN at hh
    split at hh
    · split at hh
      · have h3 := Prod.mk.inj (Option.some.inj hh); have h4 := h3.1; exact ⟨by omega, by rw [← h3.2]; exact h i⟩
      · rename_i b' n' e1
        split at hh
        · have h3 := Prod.mk.inj (Option.some.inj hh); have h4 := h3.1; exact ⟨by omega, by rw [← h3.2]; exact h i⟩
        · have h3 := Prod.mk.inj (Option.some.inj hh)
          have h4 := h3.1
          have h5 := h3.2
          have := ih e1
          exact ⟨by omega, by omega⟩
    · have := ih hh
      exact ⟨by omega, this.2⟩
section
variable {t d : Nat} {z : AZ} {X : Nat × (Nat → Int32)} {C : CT} {M : MT} {s : Nat → Int32} {v : Nat → Int64} {g : Nat → Nat → Int32} {w : Nat → Nat → Int64} {q : Nat → Nat} {ct : Nat → Int32} {cn : Nat → Int32} {cc : Nat → Nat → Int32} {di : Nat → Nat → Int32} {dr : Nat → Nat → Int32} {df : Nat → Nat → Int32} {li : Nat → Nat → Int32} {la : Nat → Nat → Nat → Int32} {sf : Nat → Nat → Int32} {sl : Nat → Nat → Int32} {a : Nat → Int32} {b : Nat → Int64} {e : Nat → Nat → Int32} {o : Nat → Nat → Int64} {B : Nat → Bool} {n : Nat → Nat} {P N W : Nat} {K O T J : Nat → Nat} {l : Nat} {Ds : Nat → Nat} {Dr Df Dp : Nat → Nat → Nat} {KB : Nat → Bool}
variable {Q : Option Value → AZ → AH → Prop}
theorem lp_la59 {i p c : Nat} (hp : p < P) (hP : P ≤ 7) : ∀ (j q0 : Nat), q0 + j = p → Wp (d + 5) 959 59 [some (.ref 0), some (.int (nI i)), some (.int (nI (c + cnt (fun q => !decide (g 26 p = g 26 q) && decide (g 27 p = g 27 q)) q0))), some (.int (nI p)), some (.int (nI q0))] [] z (Hp X (s, v, g, w, q, ct, cn, cc, di, dr, df, li, la, sf, sl) M) Q = Wp (d + 5) 959 45 [some (.ref 0), some (.int (nI i)), some (.int (nI (c + cnt (fun q => !decide (g 26 p = g 26 q) && decide (g 27 p = g 27 q)) p))), some (.int (nI (p + 1)))] [] z (Hp X (s, v, g, w, q, ct, cn, cc, di, dr, df, li, la, sf, sl) M) Q := by
  intro j
  induction j with
  | zero =>
    intro q0 hj
    have hj : q0 = p := by omega
    subst hj
    rw [W959_59]
    simp (disch := omega) only [W959, r_4, r_La, h60_9_6, h60_9_12, h60_9_14, r_2, r_Li, h79_601, h60_9_9, h60_3_4, h60_4_1, h79_402, s_0, ci_0, r_5, r_49, h60_4_0, r_46, r_47, s_8, r_In, ci_1, r_52, r_90, h64_26, h64_27, enR, LG, LSt, LC, nlR, psR, TK, up_s, up_n, up_u, lt_nI, le_nI, eq_nI, true_and, and_true, if_true, if_false, Nat.zero_add, Nat.add_zero, nI_add, ↓reduceIte, Nat.reduceAdd, Nat.reduceMul, Nat.reduceSub, Nat.reduceLT, Nat.reduceLeDiff, Nat.reduceEqDiff, Nat.not_lt_zero, Nat.lt_irrefl, decide_true, BEq.rfl, nm1, nm2, nm3, nm4, nm9, ngc, eq_self, List.length_cons, List.length_nil]
  | succ j ih =>
    intro q0 hj
    have h1 : q0 < p := by omega
    have h7 : q0 < 7 := by omega
    have h77 : p < 7 := by omega
    rw [← ih (q0 + 1) (by omega), W959_59, cnt_succ]
    by_cases e1 : g 26 p = g 26 q0
    · rw [if_neg (by simp [e1])]
      simp (disch := omega) only [W959, r_4, r_La, h60_9_6, h60_9_12, h60_9_14, r_2, r_Li, h79_601, h60_9_9, h60_3_4, h60_4_1, h79_402, s_0, ci_0, r_5, r_49, h60_4_0, r_46, r_47, s_8, r_In, ci_1, r_52, r_90, h64_26, h64_27, enR, LG, LSt, LC, nlR, psR, TK, up_s, up_n, up_u, lt_nI, le_nI, eq_nI, true_and, and_true, if_true, if_false, Nat.zero_add, Nat.add_zero, nI_add, ↓reduceIte, Nat.reduceAdd, Nat.reduceMul, Nat.reduceSub, Nat.reduceLT, Nat.reduceLeDiff, Nat.reduceEqDiff, Nat.not_lt_zero, Nat.lt_irrefl, decide_true, BEq.rfl, nm1, nm2, nm3, nm4, nm9, ngc, eq_self, List.length_cons, List.length_nil, h1, h7, h77, e1]
    · by_cases e2 : g 27 p = g 27 q0
      · rw [if_pos (by simp [e1, e2])]
        simp (disch := omega) only [W959, r_4, r_La, h60_9_6, h60_9_12, h60_9_14, r_2, r_Li, h79_601, h60_9_9, h60_3_4, h60_4_1, h79_402, s_0, ci_0, r_5, r_49, h60_4_0, r_46, r_47, s_8, r_In, ci_1, r_52, r_90, h64_26, h64_27, enR, LG, LSt, LC, nlR, psR, TK, up_s, up_n, up_u, lt_nI, le_nI, eq_nI, true_and, and_true, if_true, if_false, Nat.zero_add, Nat.add_zero, nI_add, ↓reduceIte, Nat.reduceAdd, Nat.reduceMul, Nat.reduceSub, Nat.reduceLT, Nat.reduceLeDiff, Nat.reduceEqDiff, Nat.not_lt_zero, Nat.lt_irrefl, decide_true, BEq.rfl, nm1, nm2, nm3, nm4, nm9, ngc, eq_self, List.length_cons, List.length_nil, h1, h7, h77, e1, e2, Nat.add_assoc]
      · rw [if_neg (by simp [e2])]
        simp (disch := omega) only [W959, r_4, r_La, h60_9_6, h60_9_12, h60_9_14, r_2, r_Li, h79_601, h60_9_9, h60_3_4, h60_4_1, h79_402, s_0, ci_0, r_5, r_49, h60_4_0, r_46, r_47, s_8, r_In, ci_1, r_52, r_90, h64_26, h64_27, enR, LG, LSt, LC, nlR, psR, TK, up_s, up_n, up_u, lt_nI, le_nI, eq_nI, true_and, and_true, if_true, if_false, Nat.zero_add, Nat.add_zero, nI_add, ↓reduceIte, Nat.reduceAdd, Nat.reduceMul, Nat.reduceSub, Nat.reduceLT, Nat.reduceLeDiff, Nat.reduceEqDiff, Nat.not_lt_zero, Nat.lt_irrefl, decide_true, BEq.rfl, nm1, nm2, nm3, nm4, nm9, ngc, eq_self, List.length_cons, List.length_nil, h1, h7, h77, e1, e2]
theorem lp_la45 {i : Nat} (hl : l < 2) (hq : q 0 = l) (hC : CLn (li l) (la l) P N K O T J) (hP : P ≤ 7) : ∀ (j p : Nat), p + j = P → Wp (d + 5) 959 45 [some (.ref 0), some (.int (nI i)), some (.int (nI (lossN (fun p q => !decide (g 26 p = g 26 q) && decide (g 27 p = g 27 q)) p))), some (.int (nI p))] [] z (Hp X (s, v, g, w, q, ct, cn, cc, di, dr, df, li, la, sf, sl) M) Q = Q (some (.int (nI (lossN (fun p q => !decide (g 26 p = g 26 q) && decide (g 27 p = g 27 q)) P)))) z (Hp X (s, v, g, w, q, ct, cn, cc, di, dr, df, li, la, sf, sl) M) := by
  have h0 := hC.1
  intro j
  induction j with
  | zero =>
    intro p hj
    have hj : p = P := by omega
    subst hj
    rw [W959_45]
    simp (disch := omega) only [W959, r_4, r_La, h60_9_6, h60_9_12, h60_9_14, r_2, r_Li, h79_601, h60_9_9, h60_3_4, h60_4_1, h79_402, s_0, ci_0, r_5, r_49, h60_4_0, r_46, r_47, s_8, r_In, ci_1, r_52, r_90, h64_26, h64_27, enR, LG, LSt, LC, nlR, psR, TK, up_s, up_n, up_u, lt_nI, le_nI, eq_nI, true_and, and_true, if_true, if_false, Nat.zero_add, Nat.add_zero, nI_add, ↓reduceIte, Nat.reduceAdd, Nat.reduceMul, Nat.reduceSub, Nat.reduceLT, Nat.reduceLeDiff, Nat.reduceEqDiff, Nat.not_lt_zero, Nat.lt_irrefl, decide_true, BEq.rfl, nm1, nm2, nm3, nm4, nm9, ngc, eq_self, List.length_cons, List.length_nil, hq, hl, h0]
  | succ j ih =>
    intro p hj
    have h1 : p < P := by omega
    rw [← ih (p + 1) (by omega), W959_45, lsN_succ]
    simp (disch := omega) only [W959, r_4, r_La, h60_9_6, h60_9_12, h60_9_14, r_2, r_Li, h79_601, h60_9_9, h60_3_4, h60_4_1, h79_402, s_0, ci_0, r_5, r_49, h60_4_0, r_46, r_47, s_8, r_In, ci_1, r_52, r_90, h64_26, h64_27, enR, LG, LSt, LC, nlR, psR, TK, up_s, up_n, up_u, lt_nI, le_nI, eq_nI, true_and, and_true, if_true, if_false, Nat.zero_add, Nat.add_zero, nI_add, ↓reduceIte, Nat.reduceAdd, Nat.reduceMul, Nat.reduceSub, Nat.reduceLT, Nat.reduceLeDiff, Nat.reduceEqDiff, Nat.not_lt_zero, Nat.lt_irrefl, decide_true, BEq.rfl, nm1, nm2, nm3, nm4, nm9, ngc, eq_self, List.length_cons, List.length_nil, hq, hl, h0, h1]
    exact lp_la59 h1 hP p 0 (by omega)
theorem c_lossAG {i n : Nat} {L0 : Nat → Nat → Nat} (hl : l < 2) (hq : q 0 = l) (hC : CLn (li l) (la l) P N K O T J) (hb : LB P N W K O T J) (h14 : s 14 = nI W) (hi : i < N) (hK : K i = 0 ∨ K i = 2) (hG : GR L0 (g 26) P) (hn : LSS L0 (lds N (fe W (va_up K i 1) J) K O T) P n)
    (hQ : ∀ (s' : Nat → Int32) (g' sf' sl' : Nat → Nat → Int32), FRs s s' → FRh27 g g' → sf' 0 = sf 0 → sl' 0 = sl 0 → Q (some (.int (nI n))) z (Hp X (s', v, g', w, q, ct, cn, cc, di, dr, df, li, la, sf', sl') M)) : Cw (d + 6) 959 [.ref 0, .int (nI i)] z (Hp X (s, v, g, w, q, ct, cn, cc, di, dr, df, li, la, sf, sl) M) Q := by
  have hP := hb.1
  have h0 := hC.1
  have hN := hb.2.1
  rw [cw_wp]
  simp (disch := omega) only [W959, r_4, r_La, h60_9_6, h60_9_12, h60_9_14, r_2, r_Li, h79_601, h60_9_9, h60_3_4, h60_4_1, h79_402, s_0, ci_0, r_5, r_49, h60_4_0, r_46, r_47, s_8, r_In, ci_1, r_52, r_90, h64_26, h64_27, enR, LG, LSt, LC, nlR, psR, TK, up_s, up_n, up_u, lt_nI, le_nI, eq_nI, true_and, and_true, if_true, if_false, Nat.zero_add, Nat.add_zero, nI_add, ↓reduceIte, Nat.reduceAdd, Nat.reduceMul, Nat.reduceSub, Nat.reduceLT, Nat.reduceLeDiff, Nat.reduceEqDiff, Nat.not_lt_zero, Nat.lt_irrefl, decide_true, BEq.rfl, nm1, nm2, nm3, nm4, nm9, ngc, eq_self, List.length_cons, List.length_nil, hq, h14]
  refine c_learn (c := 1) (F := fe W (va_up K i 1) J) hl hC hb (by decide) (fun k hk => ?_) (fun φ μ hSE => ?_)
  · rw [fe_pave]
    by_cases h : k = i
    · subst h; rw [if_pos rfl, if_pos rfl]
    · rw [if_neg h, if_neg (fun hh => h ((nI_eq (by omega) (by omega)).mp hh))]
  simp (disch := omega) only [W959, r_4, r_La, h60_9_6, h60_9_12, h60_9_14, r_2, r_Li, h79_601, h60_9_9, h60_3_4, h60_4_1, h79_402, s_0, ci_0, r_5, r_49, h60_4_0, r_46, r_47, s_8, r_In, ci_1, r_52, r_90, h64_26, h64_27, enR, LG, LSt, LC, nlR, psR, TK, up_s, up_n, up_u, lt_nI, le_nI, eq_nI, true_and, and_true, if_true, if_false, Nat.zero_add, Nat.add_zero, nI_add, ↓reduceIte, Nat.reduceAdd, Nat.reduceMul, Nat.reduceSub, Nat.reduceLT, Nat.reduceLeDiff, Nat.reduceEqDiff, Nat.not_lt_zero, Nat.lt_irrefl, decide_true, BEq.rfl, nm1, nm2, nm3, nm4, nm9, ngc, eq_self, List.length_cons, List.length_nil, hq, hl, h0]
  refine c_group_27 (cs := 1) (sl := va_up sl 1 μ) (by decide) (by rw [up_s]; exact sen_SL hb hSE) hP (fun s' g' f1 f2 f3 => ?_)
  simp (disch := omega) only [W959, r_4, r_La, h60_9_6, h60_9_12, h60_9_14, r_2, r_Li, h79_601, h60_9_9, h60_3_4, h60_4_1, h79_402, s_0, ci_0, r_5, r_49, h60_4_0, r_46, r_47, s_8, r_In, ci_1, r_52, r_90, h64_26, h64_27, enR, LG, LSt, LC, nlR, psR, TK, up_s, up_n, up_u, lt_nI, le_nI, eq_nI, true_and, and_true, if_true, if_false, Nat.zero_add, Nat.add_zero, nI_add, ↓reduceIte, Nat.reduceAdd, Nat.reduceMul, Nat.reduceSub, Nat.reduceLT, Nat.reduceLeDiff, Nat.reduceEqDiff, Nat.not_lt_zero, Nat.lt_irrefl, decide_true, BEq.rfl, nm1, nm2, nm3, nm4, nm9, ngc, eq_self, List.length_cons, List.length_nil]
  refine Eq.mpr (lp_la45 (g := g') hl hq hC hP P 0 (by omega)) ?_
  rw [ls_eq hn (fun p q hp hq => ?_)]
  · exact hQ s' g' _ _ f1 f2 (up_n _ _ (by decide)) (up_n _ _ (by decide))
  · rw [← gr_iff hG hP hp (show q < P by omega), ← gr_iff f3 hP hp (show q < P by omega), ← f2 26 (by decide) (by decide) (by decide) (by decide)]
    simp
end

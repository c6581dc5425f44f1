/-! tour: the class's rounds -/
/-- what the round's first part has found: all of the sets below S0, and of S0 by the first i0 ROADS -/
def PGt (N : Nat) (K O T : Nat → Nat) (D : Nat → Prop) (S0 i0 x : Nat) : Prop := ∃ S i b, (S < S0 ∨ (S = S0 ∧ i < i0)) ∧ S < 1024 ∧ i < N ∧ D (1024 * b + S) ∧ scT K O T i (1024 * b + S) = some x
theorem sc_at {K O T : Nat → Nat} {i b S x : Nat} (hS : S < 1024) : scT K O T i (1024 * b + S) = some x ↔ ∃ q, ldm K O T i b = some q ∧ x = 1024 * q + (S ||| 2 ^ i) := by
  unfold scT
  rw [show (1024 * b + S) / 1024 = b by omega, show (1024 * b + S) % 1024 = S by omega]
  cases h : ldm K O T i b with
  | none => simp
  | some q => simp only [Option.some.injEq]; exact ⟨fun h => ⟨q, rfl, h.symm⟩, fun ⟨q', h1, h2⟩ => by subst h1; exact h2.symm⟩
theorem pg_step {N : Nat} {K O T : Nat → Nat} {D : Nat → Prop} {S i m : Nat} (hS : S < 1024) (hi : i < N) (hm : ∀ b, m.testBit b = true ↔ D (1024 * b + S)) (x : Nat) : PGt N K O T D S (i + 1) x ↔ PGt N K O T D S i x ∨ ∃ q, (laF K O T i m).testBit q = true ∧ x = 1024 * q + (S ||| 2 ^ i) := by
  constructor
  · rintro ⟨S', i', b, h1, h2, h3, h4, h5⟩
    by_cases h : S' = S ∧ i' = i
    · obtain ⟨rfl, rfl⟩ := h
      obtain ⟨q, k1, k2⟩ := (sc_at hS).mp h5
      exact Or.inr ⟨q, laF_bit.mpr ⟨b, (hm b).mpr h4, k1⟩, k2⟩
    · exact Or.inl ⟨S', i', b, by omega, h2, h3, h4, h5⟩
  · rintro (⟨S', i', b, h1, h2, h3, h4, h5⟩ | ⟨q, h1, rfl⟩)
    · exact ⟨S', i', b, by omega, h2, h3, h4, h5⟩
    · obtain ⟨b, k1, k2⟩ := laF_bit.mp h1
      exact ⟨S, i, b, Or.inr ⟨rfl, by omega⟩, hS, hi, (hm b).mp k1, (sc_at hS).mpr ⟨q, k2, rfl⟩⟩
theorem pg_next {N : Nat} {K O T : Nat → Nat} {D : Nat → Prop} {S x : Nat} : PGt N K O T D (S + 1) 0 x ↔ PGt N K O T D S N x := by
  constructor
  · rintro ⟨S', i', b, h1, h2, h3, h4, h5⟩
    exact ⟨S', i', b, by omega, h2, h3, h4, h5⟩
  · rintro ⟨S', i', b, h1, h2, h3, h4, h5⟩
    exact ⟨S', i', b, by omega, h2, h3, h4, h5⟩
theorem pg_skip {N : Nat} {K O T : Nat → Nat} {D : Nat → Prop} {S x : Nat} (h : ∀ b, ¬ D (1024 * b + S)) : PGt N K O T D (S + 1) 0 x ↔ PGt N K O T D S 0 x := by
  constructor
  · rintro ⟨S', i', b, h1, h2, h3, h4, h5⟩
    by_cases hS : S' = S
    · subst hS; exact absurd h4 (h b)
    · exact ⟨S', i', b, by omega, h2, h3, h4, h5⟩
  · rintro ⟨S', i', b, h1, h2, h3, h4, h5⟩
    exact ⟨S', i', b, by omega, h2, h3, h4, h5⟩
section
variable {t d : Nat} {z : AZ} {X : Nat × (Nat → Int32)} {C : CT} {M : MT} {s : Nat → Int32} {v : Nat → Int64} {g : Nat → Nat → Int32} {w : Nat → Nat → Int64} {q : Nat → Nat} {ct : Nat → Int32} {cn : Nat → Int32} {cc : Nat → Nat → Int32} {di : Nat → Nat → Int32} {dr : Nat → Nat → Int32} {df : Nat → Nat → Int32} {li : Nat → Nat → Int32} {la : Nat → Nat → Nat → Int32} {sf : Nat → Nat → Int32} {sl : Nat → Nat → Int32} {a : Nat → Int32} {b : Nat → Int64} {e : Nat → Nat → Int32} {o : Nat → Nat → Int64} {B : Nat → Bool} {n : Nat → Nat} {P N W : Nat} {K O T J : Nat → Nat} {l : Nat} {Ds : Nat → Nat} {Dr Df Dp : Nat → Nat → Nat} {KB : Nat → Bool}
variable {Q : Option Value → AZ → AH → Prop} {D R : Nat → Prop}
/-- the round under way -/
def AVt (N : Nat) (K O T : Nat → Nat) (D R : Nat → Prop) (S0 i0 : Nat) (g90 gt : Nat → Int32) : Prop := BMt g90 (fun x => R x ∨ PGt N K O T D S0 i0 x) ∧ BMt gt (fun x => PGt N K O T D S0 i0 x ∧ ¬ R x)
theorem lp_av5 {S m : Nat} {β : Bool} (hl : l < 2) (hC : CLn (li l) (la l) P N K O T J) (hb : LB P N W K O T J) (h10 : q 10 ≠ 0) (h8 : q 8 < 2) (h9 : q 9 < 2) (h89 : q 8 ≠ q 9) (hS : S < 1024) (hm7 : m < 128) (hm : ∀ b, m.testBit b = true ↔ D (1024 * b + S)) (hgS : g (91 + q 8) S = nI m)
    (hQ : ∀ (g' : Nat → Nat → Int32) (γ : Bool), (∀ k, k ≠ 90 → k ≠ 91 + q 9 → g' k = g k) → AVt N K O T D R S N (g' 90) (g' (91 + q 9)) → ((β || γ) = true ↔ ∃ x, PGt N K O T D S N x ∧ ¬ R x) → Q (some (.int (bI γ))) z (Hp X (s, v, g', w, q, ct, cn, cc, di, dr, df, li, la, sf, sl) M)) :
    ∀ (j i : Nat) (g' : Nat → Nat → Int32) (γ : Bool), i + j = N → (∀ k, k ≠ 90 → k ≠ 91 + q 9 → g' k = g k) → AVt N K O T D R S i (g' 90) (g' (91 + q 9)) → ((β || γ) = true ↔ ∃ x, PGt N K O T D S i x ∧ ¬ R x) → Wp (d + 2) 803 5 [some (.ref 89), some (.ref (lo l)), some (.int (nI S)), some (.int (bI γ)), some (.int (nI i))] [] z (Hp X (s, v, g', w, q, ct, cn, cc, di, dr, df, li, la, sf, sl) M) Q := by
  have hN := hb.2.1
  have hP := hb.1
  have e11 := hC.2.1
  intro j
  induction j with
  | zero =>
    intro i g' γ hj hg hA hβ
    have hj : i = N := by omega
    subst hj
    rw [W803_5]
    cases γ with
    | false =>
      simp (disch := omega) only [W803, s_0, ci_0, r_5, r_2, r_Li, r_4, r_La, h60_3_5, r_49, ci_1, r_18, r_16, ci_1023, r_15, h60_8_2, h79_307, h60_8_1, ci_m1, r_17, r_31, h60_8_3, s_40, r_52, s_8, r_In, r_94, s_Z0, s_Z1, h64_90, h65_90, h64_to, h65_to, enR, LG, LSt, LC, nlR, psR, TK, up_s, up_n, up_u, lt_nI, le_nI, eq_nI, true_and, and_true, if_true, if_false, Nat.zero_add, Nat.add_zero, nI_add, ↓reduceIte, Nat.reduceAdd, Nat.reduceMul, Nat.reduceSub, Nat.reduceLT, Nat.reduceLeDiff, Nat.reduceEqDiff, Nat.not_lt_zero, Nat.lt_irrefl, decide_true, BEq.rfl, nm1, nm2, nm3, nm4, nm9, ngc, eq_self, List.length_cons, List.length_nil, hl, e11, bI, Bool.false_eq_true]
      exact hQ g' false hg hA hβ
    | true =>
      simp (disch := omega) only [W803, s_0, ci_0, r_5, r_2, r_Li, r_4, r_La, h60_3_5, r_49, ci_1, r_18, r_16, ci_1023, r_15, h60_8_2, h79_307, h60_8_1, ci_m1, r_17, r_31, h60_8_3, s_40, r_52, s_8, r_In, r_94, s_Z0, s_Z1, h64_90, h65_90, h64_to, h65_to, enR, LG, LSt, LC, nlR, psR, TK, up_s, up_n, up_u, lt_nI, le_nI, eq_nI, true_and, and_true, if_true, if_false, Nat.zero_add, Nat.add_zero, nI_add, ↓reduceIte, Nat.reduceAdd, Nat.reduceMul, Nat.reduceSub, Nat.reduceLT, Nat.reduceLeDiff, Nat.reduceEqDiff, Nat.not_lt_zero, Nat.lt_irrefl, decide_true, BEq.rfl, nm1, nm2, nm3, nm4, nm9, ngc, eq_self, List.length_cons, List.length_nil, hl, e11, bI]
      exact hQ g' true hg hA hβ
  | succ j ih =>
    intro i g' γ hj hg hA hβ
    have h1 : i < N := by omega
    have h31 : i < 31 := by omega
    have hT : S ||| 2 ^ i < 1024 := or_1024 hS (by omega)
    have hla : laF K O T i m < 128 := by
      refine Nat.lt_pow_two_of_testBit (n := 7) _ (fun k hk => ?_)
      by_cases h : (laF K O T i m).testBit k = true
      · obtain ⟨p, -, k2⟩ := laF_bit.mp h
        have := ldm_lt hb h1 k2
        omega
      · simpa using h
    have e1 : g' (91 + q 8) S = nI m := by rw [hg _ (by omega) (by omega)]; exact hgS
    have e2 : (S ||| 2 ^ i) &&& 1023 = (S ||| 2 ^ i) := by
      rw [show 1023 = 2 ^ 10 - 1 from rfl, Nat.and_two_pow_sub_one_eq_mod]
      exact Nat.mod_eq_of_lt hT
    obtain ⟨mm, mt, y, m1, m2, m3, m4, m5, m6, m7, m8, m9⟩ := bm_step hA.1 hA.2 hT hla (pg_step (N := N) (K := K) (O := O) (T := T) (D := D) hS h1 hm)
    have hih := fun (γ' : Bool) (hγ : γ' = (γ || decide (y ≠ 0))) => ih (i + 1) (va_up (va_up g' 90 (upd (g' 90) (S ||| 2 ^ i) (nI (mm ||| y)))) (91 + q 9) (upd (g' (91 + q 9)) (S ||| 2 ^ i) (nI (mt ||| y)))) γ' (by omega) (fun k k1 k2 => by rw [up_n _ _ k2, up_n _ _ k1]; exact hg k k1 k2) (by
      rw [up_s, up_n _ _ (show (90 : Nat) ≠ 91 + q 9 by omega), up_s]
      exact ⟨m7, m8⟩) (by
      rw [m9, ← hβ, hγ]
      simp [or_assoc])
    rw [W803_5]
    cases γ with
    | false =>
      by_cases hy : y = 0
      · subst hy
        simp (disch := omega) only [W803, s_0, ci_0, r_5, r_2, r_Li, r_4, r_La, h60_3_5, r_49, ci_1, r_18, r_16, ci_1023, r_15, h60_8_2, h79_307, h60_8_1, ci_m1, r_17, r_31, h60_8_3, s_40, r_52, s_8, r_In, r_94, s_Z0, s_Z1, h64_90, h65_90, h64_to, h65_to, enR, LG, LSt, LC, nlR, psR, TK, up_s, up_n, up_u, lt_nI, le_nI, eq_nI, true_and, and_true, if_true, if_false, Nat.zero_add, Nat.add_zero, nI_add, ↓reduceIte, Nat.reduceAdd, Nat.reduceMul, Nat.reduceSub, Nat.reduceLT, Nat.reduceLeDiff, Nat.reduceEqDiff, Nat.not_lt_zero, Nat.lt_irrefl, decide_true, BEq.rfl, nm1, nm2, nm3, nm4, nm9, ngc, eq_self, List.length_cons, List.length_nil, hl, e11, h1, h31, h10, h8, h9, hS, hT, e1, e2, nI_bit, nI_or, nI_and, c_leadAll hl hC hb h1, m4, m5, m6, bI, Bool.false_eq_true, Nat.reduceOr]
        exact hih false (by simp)
      · simp (disch := omega) only [W803, s_0, ci_0, r_5, r_2, r_Li, r_4, r_La, h60_3_5, r_49, ci_1, r_18, r_16, ci_1023, r_15, h60_8_2, h79_307, h60_8_1, ci_m1, r_17, r_31, h60_8_3, s_40, r_52, s_8, r_In, r_94, s_Z0, s_Z1, h64_90, h65_90, h64_to, h65_to, enR, LG, LSt, LC, nlR, psR, TK, up_s, up_n, up_u, lt_nI, le_nI, eq_nI, true_and, and_true, if_true, if_false, Nat.zero_add, Nat.add_zero, nI_add, ↓reduceIte, Nat.reduceAdd, Nat.reduceMul, Nat.reduceSub, Nat.reduceLT, Nat.reduceLeDiff, Nat.reduceEqDiff, Nat.not_lt_zero, Nat.lt_irrefl, decide_true, BEq.rfl, nm1, nm2, nm3, nm4, nm9, ngc, eq_self, List.length_cons, List.length_nil, hl, e11, h1, h31, h10, h8, h9, hS, hT, e1, e2, nI_bit, nI_or, nI_and, c_leadAll hl hC hb h1, m4, m5, m6, hy, bI, Bool.false_eq_true, Nat.reduceOr]
        exact hih true (by simp [hy])
    | true =>
      by_cases hy : y = 0
      · subst hy
        simp (disch := omega) only [W803, s_0, ci_0, r_5, r_2, r_Li, r_4, r_La, h60_3_5, r_49, ci_1, r_18, r_16, ci_1023, r_15, h60_8_2, h79_307, h60_8_1, ci_m1, r_17, r_31, h60_8_3, s_40, r_52, s_8, r_In, r_94, s_Z0, s_Z1, h64_90, h65_90, h64_to, h65_to, enR, LG, LSt, LC, nlR, psR, TK, up_s, up_n, up_u, lt_nI, le_nI, eq_nI, true_and, and_true, if_true, if_false, Nat.zero_add, Nat.add_zero, nI_add, ↓reduceIte, Nat.reduceAdd, Nat.reduceMul, Nat.reduceSub, Nat.reduceLT, Nat.reduceLeDiff, Nat.reduceEqDiff, Nat.not_lt_zero, Nat.lt_irrefl, decide_true, BEq.rfl, nm1, nm2, nm3, nm4, nm9, ngc, eq_self, List.length_cons, List.length_nil, hl, e11, h1, h31, h10, h8, h9, hS, hT, e1, e2, nI_bit, nI_or, nI_and, c_leadAll hl hC hb h1, m4, m5, m6, bI, Nat.reduceOr]
        exact hih true (by simp)
      · simp (disch := omega) only [W803, s_0, ci_0, r_5, r_2, r_Li, r_4, r_La, h60_3_5, r_49, ci_1, r_18, r_16, ci_1023, r_15, h60_8_2, h79_307, h60_8_1, ci_m1, r_17, r_31, h60_8_3, s_40, r_52, s_8, r_In, r_94, s_Z0, s_Z1, h64_90, h65_90, h64_to, h65_to, enR, LG, LSt, LC, nlR, psR, TK, up_s, up_n, up_u, lt_nI, le_nI, eq_nI, true_and, and_true, if_true, if_false, Nat.zero_add, Nat.add_zero, nI_add, ↓reduceIte, Nat.reduceAdd, Nat.reduceMul, Nat.reduceSub, Nat.reduceLT, Nat.reduceLeDiff, Nat.reduceEqDiff, Nat.not_lt_zero, Nat.lt_irrefl, decide_true, BEq.rfl, nm1, nm2, nm3, nm4, nm9, ngc, eq_self, List.length_cons, List.length_nil, hl, e11, h1, h31, h10, h8, h9, hS, hT, e1, e2, nI_bit, nI_or, nI_and, c_leadAll hl hC hb h1, m4, m5, m6, hy, bI, Nat.reduceOr]
        exact hih true (by simp)
theorem c_advF {S m : Nat} {β : Bool} (hl : l < 2) (hC : CLn (li l) (la l) P N K O T J) (hb : LB P N W K O T J) (h10 : q 10 ≠ 0) (h8 : q 8 < 2) (h9 : q 9 < 2) (h89 : q 8 ≠ q 9) (hS : S < 1024) (hm7 : m < 128) (hm : ∀ b, m.testBit b = true ↔ D (1024 * b + S)) (hgS : g (91 + q 8) S = nI m) (hA : AVt N K O T D R S 0 (g 90) (g (91 + q 9))) (hβ : β = true ↔ ∃ x, PGt N K O T D S 0 x ∧ ¬ R x)
    (hQ : ∀ (g' : Nat → Nat → Int32) (γ : Bool), (∀ k, k ≠ 90 → k ≠ 91 + q 9 → g' k = g k) → AVt N K O T D R S N (g' 90) (g' (91 + q 9)) → ((β || γ) = true ↔ ∃ x, PGt N K O T D S N x ∧ ¬ R x) → Q (some (.int (bI γ))) z (Hp X (s, v, g', w, q, ct, cn, cc, di, dr, df, li, la, sf, sl) M)) : Cw (d + 3) 803 [.ref 89, .ref (lo l), .int (nI S)] z (Hp X (s, v, g, w, q, ct, cn, cc, di, dr, df, li, la, sf, sl) M) Q := by
  rw [cw_wp]
  simp (disch := omega) only [W803, s_0, ci_0, r_5, r_2, r_Li, r_4, r_La, h60_3_5, r_49, ci_1, r_18, r_16, ci_1023, r_15, h60_8_2, h79_307, h60_8_1, ci_m1, r_17, r_31, h60_8_3, s_40, r_52, s_8, r_In, r_94, s_Z0, s_Z1, h64_90, h65_90, h64_to, h65_to, enR, LG, LSt, LC, nlR, psR, TK, up_s, up_n, up_u, lt_nI, le_nI, eq_nI, true_and, and_true, if_true, if_false, Nat.zero_add, Nat.add_zero, nI_add, ↓reduceIte, Nat.reduceAdd, Nat.reduceMul, Nat.reduceSub, Nat.reduceLT, Nat.reduceLeDiff, Nat.reduceEqDiff, Nat.not_lt_zero, Nat.lt_irrefl, decide_true, BEq.rfl, nm1, nm2, nm3, nm4, nm9, ngc, eq_self, List.length_cons, List.length_nil]
  exact lp_av5 (β := β) hl hC hb h10 h8 h9 h89 hS hm7 hm hgS hQ N 0 g false (by omega) (fun _ _ _ => rfl) hA (by rw [← hβ]; simp)
theorem lp_ad13 (hl : l < 2) (hC : CLn (li l) (la l) P N K O T J) (hb : LB P N W K O T J) (h10 : q 10 ≠ 0) (h8 : q 8 < 2) (h9 : q 9 < 2) (h89 : q 8 ≠ q 9) (hD : BMt (g (91 + q 8)) D)
    (hQ : ∀ (g' : Nat → Nat → Int32) (β : Bool), (∀ k, k ≠ 90 → k ≠ 91 + q 9 → g' k = g k) → AVt N K O T D R (2 ^ N) 0 (g' 90) (g' (91 + q 9)) → (β = true ↔ ∃ x, PGt N K O T D (2 ^ N) 0 x ∧ ¬ R x) → Q (some (.int (bI β))) z (Hp X (s, v, g', w, va_up (va_up q 8 (q 9)) 9 (q 8), ct, cn, cc, di, dr, df, li, la, sf, sl) M)) :
    ∀ (j S : Nat) (g' : Nat → Nat → Int32) (β : Bool), S + j = 2 ^ N → (∀ k, k ≠ 90 → k ≠ 91 + q 9 → g' k = g k) → AVt N K O T D R S 0 (g' 90) (g' (91 + q 9)) → (β = true ↔ ∃ x, PGt N K O T D S 0 x ∧ ¬ R x) → Wp (d + 3) 802 13 [some (.ref 89), some (.ref (lo l)), some (.int (nI (2 ^ N - 1))), some (.int (bI β)), some (.int (nI S))] [] z (Hp X (s, v, g', w, q, ct, cn, cc, di, dr, df, li, la, sf, sl) M) Q := by
  have hN := hb.2.1
  have h1024 : 2 ^ N ≤ 1024 := Nat.pow_le_pow_right (n := 2) (by decide) hN
  have h0 := Nat.two_pow_pos N
  intro j
  induction j with
  | zero =>
    intro S g' β hj hg hA hβ
    have hj : S = 2 ^ N := by omega
    subst hj
    have hlt : 2 ^ N - 1 < 2 ^ N := by omega
    have hq8 : va_up q 8 (q 9) 10 ≠ 0 := by rw [up_n _ _ (by decide)]; exact h10
    rw [W802_13]
    cases β with
    | false =>
      simp (disch := omega) only [W802, r_4, r_La, h60_8_3, s_0, ci_0, h80_1300, r_5, r_2, r_Li, r_50, h60_8_2, s_40, h79_803, ci_1, s_8, r_In, r_52, r_7, h61_8_2, h61_8_3, r_94, s_Z0, s_Z1, h64_to, enR, LG, LSt, LC, nlR, psR, TK, up_s, up_n, up_u, lt_nI, le_nI, eq_nI, true_and, and_true, if_true, if_false, Nat.zero_add, Nat.add_zero, nI_add, ↓reduceIte, Nat.reduceAdd, Nat.reduceMul, Nat.reduceSub, Nat.reduceLT, Nat.reduceLeDiff, Nat.reduceEqDiff, Nat.not_lt_zero, Nat.lt_irrefl, decide_true, BEq.rfl, nm1, nm2, nm3, nm4, nm9, ngc, eq_self, List.length_cons, List.length_nil, h10, h8, h9, hlt, bI, Bool.false_eq_true]
      exact hQ g' false hg hA hβ
    | true =>
      simp (disch := omega) only [W802, r_4, r_La, h60_8_3, s_0, ci_0, h80_1300, r_5, r_2, r_Li, r_50, h60_8_2, s_40, h79_803, ci_1, s_8, r_In, r_52, r_7, h61_8_2, h61_8_3, r_94, s_Z0, s_Z1, h64_to, enR, LG, LSt, LC, nlR, psR, TK, up_s, up_n, up_u, lt_nI, le_nI, eq_nI, true_and, and_true, if_true, if_false, Nat.zero_add, Nat.add_zero, nI_add, ↓reduceIte, Nat.reduceAdd, Nat.reduceMul, Nat.reduceSub, Nat.reduceLT, Nat.reduceLeDiff, Nat.reduceEqDiff, Nat.not_lt_zero, Nat.lt_irrefl, decide_true, BEq.rfl, nm1, nm2, nm3, nm4, nm9, ngc, eq_self, List.length_cons, List.length_nil, h10, h8, h9, hlt, bI]
      exact hQ g' true hg hA hβ
  | succ j ih =>
    intro S g' β hj hg hA hβ
    have h1 : ¬ 2 ^ N - 1 < S := by omega
    have hS : S < 1024 := by omega
    obtain ⟨m, m1, m2, m3⟩ := hD S hS
    have e1 : g' (91 + q 8) S = nI m := by rw [hg _ (by omega) (by omega)]; exact m2
    rw [W802_13]
    by_cases hm : m = 0
    · subst hm
      have hno : ∀ b, ¬ D (1024 * b + S) := fun b hd => by
        have := (m3 b).mpr hd
        simp at this
      have ih2 := ih (S + 1) g' β (by omega) hg ⟨bm_ext hA.1 (fun x => by rw [pg_skip hno]), bm_ext hA.2 (fun x => by rw [pg_skip hno])⟩ (hβ.trans ⟨fun ⟨x, x1, x2⟩ => ⟨x, (pg_skip hno).mpr x1, x2⟩, fun ⟨x, x1, x2⟩ => ⟨x, (pg_skip hno).mp x1, x2⟩⟩)
      simp (disch := omega) only [W802, r_4, r_La, h60_8_3, s_0, ci_0, h80_1300, r_5, r_2, r_Li, r_50, h60_8_2, s_40, h79_803, ci_1, s_8, r_In, r_52, r_7, h61_8_2, h61_8_3, r_94, s_Z0, s_Z1, h64_to, enR, LG, LSt, LC, nlR, psR, TK, up_s, up_n, up_u, lt_nI, le_nI, eq_nI, true_and, and_true, if_true, if_false, Nat.zero_add, Nat.add_zero, nI_add, ↓reduceIte, Nat.reduceAdd, Nat.reduceMul, Nat.reduceSub, Nat.reduceLT, Nat.reduceLeDiff, Nat.reduceEqDiff, Nat.not_lt_zero, Nat.lt_irrefl, decide_true, BEq.rfl, nm1, nm2, nm3, nm4, nm9, ngc, eq_self, List.length_cons, List.length_nil, h10, h8, h9, h1, hS, e1]
      exact ih2
    · simp (disch := omega) only [W802, r_4, r_La, h60_8_3, s_0, ci_0, h80_1300, r_5, r_2, r_Li, r_50, h60_8_2, s_40, h79_803, ci_1, s_8, r_In, r_52, r_7, h61_8_2, h61_8_3, r_94, s_Z0, s_Z1, h64_to, enR, LG, LSt, LC, nlR, psR, TK, up_s, up_n, up_u, lt_nI, le_nI, eq_nI, true_and, and_true, if_true, if_false, Nat.zero_add, Nat.add_zero, nI_add, ↓reduceIte, Nat.reduceAdd, Nat.reduceMul, Nat.reduceSub, Nat.reduceLT, Nat.reduceLeDiff, Nat.reduceEqDiff, Nat.not_lt_zero, Nat.lt_irrefl, decide_true, BEq.rfl, nm1, nm2, nm3, nm4, nm9, ngc, eq_self, List.length_cons, List.length_nil, h10, h8, h9, h1, hS, e1, hm]
      refine c_advF (g := g') (β := β) hl hC hb h10 h8 h9 h89 hS m1 m3 e1 hA hβ (fun g2 γ f1 f2 f3 => ?_)
      have ih2 := fun (β' : Bool) (hb' : β' = (β || γ)) => ih (S + 1) g2 β' (by omega) (fun k k1 k2 => (f1 k k1 k2).trans (hg k k1 k2)) ⟨bm_ext f2.1 (fun x => by rw [pg_next]), bm_ext f2.2 (fun x => by rw [pg_next])⟩ (by
        rw [hb', f3]
        exact ⟨fun ⟨x, x1, x2⟩ => ⟨x, pg_next.mpr x1, x2⟩, fun ⟨x, x1, x2⟩ => ⟨x, pg_next.mp x1, x2⟩⟩)
      cases γ with
      | false =>
        simp (disch := omega) only [W802, r_4, r_La, h60_8_3, s_0, ci_0, h80_1300, r_5, r_2, r_Li, r_50, h60_8_2, s_40, h79_803, ci_1, s_8, r_In, r_52, r_7, h61_8_2, h61_8_3, r_94, s_Z0, s_Z1, h64_to, enR, LG, LSt, LC, nlR, psR, TK, up_s, up_n, up_u, lt_nI, le_nI, eq_nI, true_and, and_true, if_true, if_false, Nat.zero_add, Nat.add_zero, nI_add, ↓reduceIte, Nat.reduceAdd, Nat.reduceMul, Nat.reduceSub, Nat.reduceLT, Nat.reduceLeDiff, Nat.reduceEqDiff, Nat.not_lt_zero, Nat.lt_irrefl, decide_true, BEq.rfl, nm1, nm2, nm3, nm4, nm9, ngc, eq_self, List.length_cons, List.length_nil, bI, Bool.false_eq_true]
        exact ih2 β (by simp)
      | true =>
        simp (disch := omega) only [W802, r_4, r_La, h60_8_3, s_0, ci_0, h80_1300, r_5, r_2, r_Li, r_50, h60_8_2, s_40, h79_803, ci_1, s_8, r_In, r_52, r_7, h61_8_2, h61_8_3, r_94, s_Z0, s_Z1, h64_to, enR, LG, LSt, LC, nlR, psR, TK, up_s, up_n, up_u, lt_nI, le_nI, eq_nI, true_and, and_true, if_true, if_false, Nat.zero_add, Nat.add_zero, nI_add, ↓reduceIte, Nat.reduceAdd, Nat.reduceMul, Nat.reduceSub, Nat.reduceLT, Nat.reduceLeDiff, Nat.reduceEqDiff, Nat.not_lt_zero, Nat.lt_irrefl, decide_true, BEq.rfl, nm1, nm2, nm3, nm4, nm9, ngc, eq_self, List.length_cons, List.length_nil, bI]
        exact ih2 true (by simp)
theorem c_adv (hl : l < 2) (hC : CLn (li l) (la l) P N K O T J) (hb : LB P N W K O T J) (h10 : q 10 ≠ 0) (h8 : q 8 < 2) (h9 : q 9 < 2) (h89 : q 8 ≠ q 9) (hD : BMt (g (91 + q 8)) D) (hR : BMt (g 90) R)
    (hQ : ∀ (g' : Nat → Nat → Int32) (β : Bool), (∀ k, k ≠ 90 → k ≠ 91 + q 9 → g' k = g k) → AVt N K O T D R (2 ^ N) 0 (g' 90) (g' (91 + q 9)) → (β = true ↔ ∃ x, PGt N K O T D (2 ^ N) 0 x ∧ ¬ R x) → Q (some (.int (bI β))) z (Hp X (s, v, g', w, va_up (va_up q 8 (q 9)) 9 (q 8), ct, cn, cc, di, dr, df, li, la, sf, sl) M)) : Cw (d + 4) 802 [.ref 89, .ref (lo l), .int (nI (2 ^ N - 1))] z (Hp X (s, v, g, w, q, ct, cn, cc, di, dr, df, li, la, sf, sl) M) Q := by
  have hpg : ∀ x, ¬ PGt N K O T D 0 0 x := fun x ⟨S, i, b, h1, _⟩ => by omega
  rw [cw_wp]
  simp (disch := omega) only [W802, r_4, r_La, h60_8_3, s_0, ci_0, h80_1300, r_5, r_2, r_Li, r_50, h60_8_2, s_40, h79_803, ci_1, s_8, r_In, r_52, r_7, h61_8_2, h61_8_3, r_94, s_Z0, s_Z1, h64_to, enR, LG, LSt, LC, nlR, psR, TK, up_s, up_n, up_u, lt_nI, le_nI, eq_nI, true_and, and_true, if_true, if_false, Nat.zero_add, Nat.add_zero, nI_add, ↓reduceIte, Nat.reduceAdd, Nat.reduceMul, Nat.reduceSub, Nat.reduceLT, Nat.reduceLeDiff, Nat.reduceEqDiff, Nat.not_lt_zero, Nat.lt_irrefl, decide_true, BEq.rfl, nm1, nm2, nm3, nm4, nm9, ngc, eq_self, List.length_cons, List.length_nil, h10, h8, h9, f_to]
  refine lp_ad13 (R := R) (g := va_up g (91 + q 9) (fil (g (91 + q 9)) 0 1024 (nI 0))) hl hC hb h10 h8 h9 h89 (by rw [up_n _ _ (by omega)]; exact hD) (fun g' β f1 f2 f3 => hQ g' β (fun k k1 k2 => by rw [f1 k k1 k2, up_n _ _ k2]) f2 f3) (2 ^ N) 0 _ false (by omega) (fun _ _ _ => rfl) ⟨?_, ?_⟩ (iff_of_false (by decide) (fun ⟨x, h, _⟩ => hpg x h))
  · rw [up_n _ _ (by omega)]
    exact bm_ext hR (fun x => ⟨Or.inl, fun h => h.elim id (fun h => absurd h (hpg x))⟩)
  · rw [up_s]
    exact fun S hS => ⟨0, by decide, if_pos ⟨by omega, hS⟩, fun b => ⟨fun h => by simp at h, fun h => absurd h.1 (hpg _)⟩⟩
end

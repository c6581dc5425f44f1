/-! tour: the class's shortest -/
theorem low_bit {S : Nat} : ∀ n, S.testBit n = true → ∃ x, S.testBit x = true ∧ ∀ j, j < x → ¬ S.testBit j = true := by
  intro n
  induction n using Nat.strongRecOn with
  | ind n ih =>
    intro h
    by_cases h1 : ∃ j, j < n ∧ S.testBit j = true
    · obtain ⟨j, j1, j2⟩ := h1
      exact ih j j1 j2
    · exact ⟨n, h, fun j hj hh => h1 ⟨j, hj, hh⟩⟩
theorem pg_all {N P W p0 r : Nat} {K O T J : Nat → Nat} (hb : LB P N W K O T J) (hp : p0 < P) (x : Nat) : (RNt N K O T p0 r x ∨ PGt N K O T (DNt N K O T p0 r) (2 ^ N) 0 x) ↔ RNt N K O T p0 (r + 1) x := by
  rw [dn_succ]
  constructor
  · rintro (h | ⟨S, i, b, h1, h2, h3, h4, h5⟩)
    · exact Or.inl h
    · exact Or.inr ⟨1024 * b + S, i, h4, h3, h5⟩
  · rintro (h | ⟨y, i, h1, h2, h3⟩)
    · exact Or.inl h
    · refine Or.inr ⟨y % 1024, i, y / 1024, Or.inl (rn_lt hb hp r y (dn_rn h1)).2, by omega, h2, ?_, ?_⟩
      · rw [show 1024 * (y / 1024) + y % 1024 = y by omega]; exact h1
      · rw [show 1024 * (y / 1024) + y % 1024 = y by omega]; exact h3
theorem pg_new {N P W p0 r : Nat} {K O T J : Nat → Nat} (hb : LB P N W K O T J) (hp : p0 < P) (x : Nat) : (PGt N K O T (DNt N K O T p0 r) (2 ^ N) 0 x ∧ ¬ RNt N K O T p0 r x) ↔ DNt N K O T p0 (r + 1) x := by
  have := pg_all (r := r) hb hp x
  constructor
  · rintro ⟨h1, h2⟩; exact ⟨this.mp (Or.inr h1), h2⟩
  · rintro ⟨h1, h2⟩; exact ⟨(this.mpr h1).elim (fun h => absurd h h2) id, h2⟩
theorem ts_none {N p0 r : Nat} {K O T : Nat → Nat} (hF : ∀ k p, k < r → ¬ DNt N K O T p0 k (1024 * p + (2 ^ N - 1))) (he : ∀ x, ¬ DNt N K O T p0 r x) : TSo N K O T p0 none := fun d p h => by
  obtain ⟨k, k1, k2⟩ := rn_dn d h
  by_cases hk : k < r
  · exact hF k p hk k2
  · have := dn_end he (k - r) (1024 * p + (2 ^ N - 1))
    rw [show r + (k - r) = k by omega] at this
    exact this k2
theorem ts_some {N p0 r p : Nat} {K O T : Nat → Nat} (hp : p < 7) (hr : r < 16384) (hF : ∀ k p, k < r → ¬ DNt N K O T p0 k (1024 * p + (2 ^ N - 1))) (h1 : DNt N K O T p0 r (1024 * p + (2 ^ N - 1))) (h2 : ∀ p', p' < p → ¬ DNt N K O T p0 r (1024 * p' + (2 ^ N - 1))) : TSo N K O T p0 (some (r, p)) := by
  refine ⟨hp, hr, dn_rn h1, fun p' hp' h => ?_, fun d' p' hd h => ?_⟩
  · obtain ⟨k, k1, k2⟩ := rn_dn r h
    by_cases hk : k = r
    · subst hk; exact h2 p' hp' k2
    · exact hF k p' (by omega) k2
  · obtain ⟨k, k1, k2⟩ := rn_dn d' h
    exact hF k p' (by omega) k2
section
variable {t d : Nat} {z : AZ} {X : Nat × (Nat → Int32)} {C : CT} {M : MT} {s : Nat → Int32} {v : Nat → Int64} {g : Nat → Nat → Int32} {w : Nat → Nat → Int64} {q : Nat → Nat} {ct : Nat → Int32} {cn : Nat → Int32} {cc : Nat → Nat → Int32} {di : Nat → Nat → Int32} {dr : Nat → Nat → Int32} {df : Nat → Nat → Int32} {li : Nat → Nat → Int32} {la : Nat → Nat → Nat → Int32} {sf : Nat → Nat → Int32} {sl : Nat → Nat → Int32} {a : Nat → Int32} {b : Nat → Int64} {e : Nat → Nat → Int32} {o : Nat → Nat → Int64} {B : Nat → Bool} {n : Nat → Nat} {P N W : Nat} {K O T J : Nat → Nat} {l : Nat} {Ds : Nat → Nat} {Dr Df Dp : Nat → Nat → Nat} {KB : Nat → Bool}
variable {Q : Option Value → AZ → AH → Prop}
theorem lp_sh53 {p0 : Nat} (hl : l < 2) (hC : CLn (li l) (la l) P N K O T J) (hb : LB P N W K O T J) (hp : p0 < P)
    (hQ0 : ∀ (g' : Nat → Nat → Int32) (q' : Nat → Nat), (∀ k, k < 90 → g' k = g k) → (∀ k, k ≠ 8 → k ≠ 9 → q' k = q k) → ((q' 8 = 0 ∧ q' 9 = 1) ∨ (q' 8 = 1 ∧ q' 9 = 0)) → TSo N K O T p0 none → Q (some (.int (-9))) z (Hp X (s, v, g', w, q', ct, cn, cc, di, dr, df, li, la, sf, sl) M))
    (hQ1 : ∀ (g' : Nat → Nat → Int32) (q' : Nat → Nat) (r p : Nat), (∀ k, k < 90 → g' k = g k) → (∀ k, k ≠ 8 → k ≠ 9 → q' k = q k) → ((q' 8 = 0 ∧ q' 9 = 1) ∨ (q' 8 = 1 ∧ q' 9 = 0)) → TSo N K O T p0 (some (r, p)) → Q (some (.int (nI r))) z (Hp X (va_up s 23 (nI p), v, g', w, q', ct, cn, cc, di, dr, df, li, la, sf, sl) M)) (h10 : q 10 ≠ 0) :
    ∀ (j r : Nat) (g' : Nat → Nat → Int32) (q' : Nat → Nat) (β : Bool), r + j = 7169 → (∀ k, k < 90 → g' k = g k) → (∀ k, k ≠ 8 → k ≠ 9 → q' k = q k) → ((q' 8 = 0 ∧ q' 9 = 1) ∨ (q' 8 = 1 ∧ q' 9 = 0)) → BMt (g' 90) (RNt N K O T p0 r) → BMt (g' (91 + q' 8)) (DNt N K O T p0 r) → (β = true ↔ ∃ x, DNt N K O T p0 r x) → (∀ k p, k < r → ¬ DNt N K O T p0 k (1024 * p + (2 ^ N - 1))) → Wp (d + 4) 801 53 [some (.ref 89), some (.ref (lo l)), some (.int (nI p0)), some (.int (nI (2 ^ N - 1))), some (.int (bI β)), some (.int (nI r))] [] z (Hp X (s, v, g', w, q', ct, cn, cc, di, dr, df, li, la, sf, sl) M) Q := by
  have hN := hb.2.1
  have h1024 : 2 ^ N ≤ 1024 := Nat.pow_le_pow_right (n := 2) (by decide) hN
  have h0 := Nat.two_pow_pos N
  intro j
  induction j with
  | zero =>
    intro r g' q' β hj hg hq hqq hR hD hβ hF
    have hj : r = 7169 := by omega
    subst hj
    rw [W801_53]
    simp (disch := omega) only [W801, s_0, ci_1, r_4, r_La, h60_3_5, r_18, r_11, ci_1023, r_15, r_5, h60_8_1, ci_0, h80_1300, h60_8_2, r_2, r_Li, ci_7168, r_50, s_40, h80_964, h61_8_0, r_90, h79_802, s_8, r_In, r_52, ci_m9, h64_90, h65_90, h64_to, h65_to, enR, LG, LSt, LC, nlR, psR, TK, up_s, up_n, up_u, lt_nI, le_nI, eq_nI, true_and, and_true, if_true, if_false, Nat.zero_add, Nat.add_zero, nI_add, ↓reduceIte, Nat.reduceAdd, Nat.reduceMul, Nat.reduceSub, Nat.reduceLT, Nat.reduceLeDiff, Nat.reduceEqDiff, Nat.not_lt_zero, Nat.lt_irrefl, decide_true, BEq.rfl, nm1, nm2, nm3, nm4, nm9, ngc, eq_self, List.length_cons, List.length_nil]
    exact hQ0 g' q' hg hq hqq (ts_none hF (fun x hx => by have := dn_lt hb hp hx; omega))
  | succ j ih =>
    intro r g' q' β hj hg hq hqq hR hD hβ hF
    have h1 : ¬ 7168 < r := by omega
    have h10' : q' 10 ≠ 0 := by rw [hq 10 (by decide) (by decide)]; exact h10
    have h8 : q' 8 < 2 := by omega
    have h9 : q' 9 < 2 := by omega
    have h89 : q' 8 ≠ q' 9 := by omega
    rw [W801_53]
    cases β with
    | false =>
      simp (disch := omega) only [W801, s_0, ci_1, r_4, r_La, h60_3_5, r_18, r_11, ci_1023, r_15, r_5, h60_8_1, ci_0, h80_1300, h60_8_2, r_2, r_Li, ci_7168, r_50, s_40, h80_964, h61_8_0, r_90, h79_802, s_8, r_In, r_52, ci_m9, h64_90, h65_90, h64_to, h65_to, enR, LG, LSt, LC, nlR, psR, TK, up_s, up_n, up_u, lt_nI, le_nI, eq_nI, true_and, and_true, if_true, if_false, Nat.zero_add, Nat.add_zero, nI_add, ↓reduceIte, Nat.reduceAdd, Nat.reduceMul, Nat.reduceSub, Nat.reduceLT, Nat.reduceLeDiff, Nat.reduceEqDiff, Nat.not_lt_zero, Nat.lt_irrefl, decide_true, BEq.rfl, nm1, nm2, nm3, nm4, nm9, ngc, eq_self, List.length_cons, List.length_nil, h1, bI, Bool.false_eq_true]
      exact hQ0 g' q' hg hq hqq (ts_none hF (fun x hx => absurd (hβ.mpr ⟨x, hx⟩) (by decide)))
    | true =>
      have hU : 2 ^ N - 1 < 1024 := by omega
      obtain ⟨m, m1, m2, m3⟩ := hD (2 ^ N - 1) hU
      by_cases hm : m = 0
      · subst hm
        simp (disch := omega) only [W801, s_0, ci_1, r_4, r_La, h60_3_5, r_18, r_11, ci_1023, r_15, r_5, h60_8_1, ci_0, h80_1300, h60_8_2, r_2, r_Li, ci_7168, r_50, s_40, h80_964, h61_8_0, r_90, h79_802, s_8, r_In, r_52, ci_m9, h64_90, h65_90, h64_to, h65_to, enR, LG, LSt, LC, nlR, psR, TK, up_s, up_n, up_u, lt_nI, le_nI, eq_nI, true_and, and_true, if_true, if_false, Nat.zero_add, Nat.add_zero, nI_add, ↓reduceIte, Nat.reduceAdd, Nat.reduceMul, Nat.reduceSub, Nat.reduceLT, Nat.reduceLeDiff, Nat.reduceEqDiff, Nat.not_lt_zero, Nat.lt_irrefl, decide_true, BEq.rfl, nm1, nm2, nm3, nm4, nm9, ngc, eq_self, List.length_cons, List.length_nil, h1, bI, h10', h8, h9, hU, m2]
        refine c_adv (g := g') (q := q') (D := DNt N K O T p0 r) (R := RNt N K O T p0 r) hl hC hb h10' h8 h9 h89 hD hR (fun g2 β2 f1 f2 f3 => ?_)
        have e8 : va_up (va_up q' 8 (q' 9)) 9 (q' 8) 8 = q' 9 := by rw [up_n _ _ (by decide), up_s]
        simp (disch := omega) only [W801, s_0, ci_1, r_4, r_La, h60_3_5, r_18, r_11, ci_1023, r_15, r_5, h60_8_1, ci_0, h80_1300, h60_8_2, r_2, r_Li, ci_7168, r_50, s_40, h80_964, h61_8_0, r_90, h79_802, s_8, r_In, r_52, ci_m9, h64_90, h65_90, h64_to, h65_to, enR, LG, LSt, LC, nlR, psR, TK, up_s, up_n, up_u, lt_nI, le_nI, eq_nI, true_and, and_true, if_true, if_false, Nat.zero_add, Nat.add_zero, nI_add, ↓reduceIte, Nat.reduceAdd, Nat.reduceMul, Nat.reduceSub, Nat.reduceLT, Nat.reduceLeDiff, Nat.reduceEqDiff, Nat.not_lt_zero, Nat.lt_irrefl, decide_true, BEq.rfl, nm1, nm2, nm3, nm4, nm9, ngc, eq_self, List.length_cons, List.length_nil]
        refine ih (r + 1) g2 _ β2 (by omega) (fun k hk => (f1 k (by omega) (by omega)).trans (hg k hk)) (fun k k1 k2 => by rw [up_n _ _ k2, up_n _ _ k1]; exact hq k k1 k2) (by rw [e8, up_s]; omega) (bm_ext f2.1 (fun x => pg_all hb hp x)) (by rw [e8]; exact bm_ext f2.2 (fun x => pg_new hb hp x)) (by
          rw [f3]
          exact ⟨fun ⟨x, hx⟩ => ⟨x, (pg_new hb hp x).mp hx⟩, fun ⟨x, hx⟩ => ⟨x, (pg_new hb hp x).mpr hx⟩⟩) (fun k p hk hd => ?_)
        by_cases hkr : k = r
        · subst hkr
          have := (m3 p).mpr hd
          simp at this
        · exact hF k p (by omega) hd
      · obtain ⟨n, hn⟩ := Nat.exists_testBit_of_ne_zero hm
        obtain ⟨p, p1, p2⟩ := low_bit n hn
        have p7 : p < 7 := by
          have := Nat.ge_two_pow_of_testBit p1
          by_cases h : p < 7
          · exact h
          · have h5 : (2 : Nat) ^ 7 ≤ 2 ^ p := Nat.pow_le_pow_right (by decide) (by omega)
            omega
        have eb := bnu_low p1 p2 10 0 (by omega) (by omega)
        simp (disch := omega) only [W801, s_0, ci_1, r_4, r_La, h60_3_5, r_18, r_11, ci_1023, r_15, r_5, h60_8_1, ci_0, h80_1300, h60_8_2, r_2, r_Li, ci_7168, r_50, s_40, h80_964, h61_8_0, r_90, h79_802, s_8, r_In, r_52, ci_m9, h64_90, h65_90, h64_to, h65_to, enR, LG, LSt, LC, nlR, psR, TK, up_s, up_n, up_u, lt_nI, le_nI, eq_nI, true_and, and_true, if_true, if_false, Nat.zero_add, Nat.add_zero, nI_add, ↓reduceIte, Nat.reduceAdd, Nat.reduceMul, Nat.reduceSub, Nat.reduceLT, Nat.reduceLeDiff, Nat.reduceEqDiff, Nat.not_lt_zero, Nat.lt_irrefl, decide_true, BEq.rfl, nm1, nm2, nm3, nm4, nm9, ngc, eq_self, List.length_cons, List.length_nil, h1, bI, h10', h8, h9, hU, m2, hm, c_bitN, eb, o2i]
        exact hQ1 g' q' r p hg hq hqq (ts_some p7 (by omega) hF ((m3 p).mp p1) (fun p' hp' hd => p2 p' hp' ((m3 p').mpr hd)))
theorem c_short {p0 : Nat} (hl : l < 2) (hC : CLn (li l) (la l) P N K O T J) (hb : LB P N W K O T J) (hp : p0 < P) (h10 : q 10 ≠ 0) (hqq : (q 8 = 0 ∧ q 9 = 1) ∨ (q 8 = 1 ∧ q 9 = 0))
    (hQ0 : ∀ (g' : Nat → Nat → Int32) (q' : Nat → Nat), (∀ k, k < 90 → g' k = g k) → (∀ k, k ≠ 8 → k ≠ 9 → q' k = q k) → ((q' 8 = 0 ∧ q' 9 = 1) ∨ (q' 8 = 1 ∧ q' 9 = 0)) → TSo N K O T p0 none → Q (some (.int (-9))) z (Hp X (s, v, g', w, q', ct, cn, cc, di, dr, df, li, la, sf, sl) M))
    (hQ1 : ∀ (g' : Nat → Nat → Int32) (q' : Nat → Nat) (r p : Nat), (∀ k, k < 90 → g' k = g k) → (∀ k, k ≠ 8 → k ≠ 9 → q' k = q k) → ((q' 8 = 0 ∧ q' 9 = 1) ∨ (q' 8 = 1 ∧ q' 9 = 0)) → TSo N K O T p0 (some (r, p)) → Q (some (.int (nI r))) z (Hp X (va_up s 23 (nI p), v, g', w, q', ct, cn, cc, di, dr, df, li, la, sf, sl) M)) : Cw (d + 5) 801 [.ref 89, .ref (lo l), .int (nI p0)] z (Hp X (s, v, g, w, q, ct, cn, cc, di, dr, df, li, la, sf, sl) M) Q := by
  have hN := hb.2.1
  have hP := hb.1
  have e11 := hC.2.1
  have h1024 : 2 ^ N ≤ 1024 := Nat.pow_le_pow_right (n := 2) (by decide) hN
  have h0 := Nat.two_pow_pos N
  have h8 : q 8 < 2 := by omega
  have h31 : N < 31 := by omega
  have hp31 : p0 < 31 := by omega
  have e2 : (2 ^ N - 1) &&& 1023 = 2 ^ N - 1 := by
    rw [show 1023 = 2 ^ 10 - 1 from rfl, Nat.and_two_pow_sub_one_eq_mod]
    exact Nat.mod_eq_of_lt (by omega)
  have hone : ∀ (σ : Nat → Int32), BMt (upd (fil σ 0 1024 (nI 0)) 0 (nI (2 ^ p0))) (fun x => x = 1024 * p0) := fun σ S hS => by
    by_cases h : S = 0
    · subst h
      refine ⟨2 ^ p0, ?_, ud_s _ _ _, fun b => ?_⟩
      · have : (2 : Nat) ^ p0 < 2 ^ 7 := Nat.pow_lt_pow_right (by decide) (by omega)
        omega
      · rw [Nat.testBit_two_pow]; simp; omega
    · refine ⟨0, by decide, ?_, fun b => ⟨fun hh => by simp at hh, fun hh => by omega⟩⟩
      rw [ud_n _ _ h]
      exact if_pos ⟨by omega, hS⟩
  rw [cw_wp]
  simp (disch := omega) only [W801, s_0, ci_1, r_4, r_La, h60_3_5, r_18, r_11, ci_1023, r_15, r_5, h60_8_1, ci_0, h80_1300, h60_8_2, r_2, r_Li, ci_7168, r_50, s_40, h80_964, h61_8_0, r_90, h79_802, s_8, r_In, r_52, ci_m9, h64_90, h65_90, h64_to, h65_to, enR, LG, LSt, LC, nlR, psR, TK, up_s, up_n, up_u, lt_nI, le_nI, eq_nI, true_and, and_true, if_true, if_false, Nat.zero_add, Nat.add_zero, nI_add, ↓reduceIte, Nat.reduceAdd, Nat.reduceMul, Nat.reduceSub, Nat.reduceLT, Nat.reduceLeDiff, Nat.reduceEqDiff, Nat.not_lt_zero, Nat.lt_irrefl, decide_true, BEq.rfl, nm1, nm2, nm3, nm4, nm9, ngc, eq_self, List.length_cons, List.length_nil, hl, e11, h31, hp31, h10, h8, nI_bit, nI_sub, nI_and, e2, f_90, f_to]
  refine lp_sh53 hl hC hb hp hQ0 hQ1 h10 7169 0 _ q true (by omega) (fun k hk => ?_) (fun _ _ _ => rfl) hqq ?_ ?_ (iff_of_true rfl ⟨1024 * p0, rfl⟩) (fun k p hk => absurd hk (by omega))
  · simp (disch := omega) only [up_n]
  · simp (disch := omega) only [up_n, up_s]
    exact hone _
  · simp (disch := omega) only [up_n, up_s]
    exact hone _
end

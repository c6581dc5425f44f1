/-! where, next -/
theorem and_nz {x y : Nat} : x &&& y ≠ 0 ↔ ∃ j, x.testBit j = true ∧ y.testBit j = true := by
  constructor
  · intro h
    by_cases h2 : ∃ j, x.testBit j = true ∧ y.testBit j = true
    · exact h2
    · refine absurd (Nat.eq_of_testBit_eq (fun j => ?_)) h
      rw [Nat.testBit_and, Nat.zero_testBit]
      cases hx : x.testBit j with
      | false => rfl
      | true =>
        cases hy : y.testBit j with
        | false => rfl
        | true => exact absurd ⟨j, hx, hy⟩ h2
  · rintro ⟨j, h1, h2⟩ h
    have := congrArg (fun s => s.testBit j) h
    simp [h1, h2] at this
theorem nz_bit {x : Nat} : x ≠ 0 ↔ ∃ j, x.testBit j = true := by
  have := and_nz (x := x) (y := x)
  rw [Nat.and_self] at this
  rw [this]
  exact ⟨fun ⟨j, h, _⟩ => ⟨j, h⟩, fun ⟨j, h⟩ => ⟨j, h, h⟩⟩
theorem beg_bit (L : Nat → Nat → Nat) (v G j : Nat) : (foldu (bgF L v G) 0 7 0).testBit j = true ↔ j < 7 ∧ L j v &&& G ≠ 0 := by
  rw [foldu_or (c := fun p => p = j ∧ L p v &&& G ≠ 0) 7 0 0 (fun i x _ _ => ?_)]
  · constructor
    · rintro (h | ⟨i, -, h1, rfl, h2⟩)
      · simp at h
      · exact ⟨by omega, h2⟩
    · rintro ⟨h1, h2⟩
      exact Or.inr ⟨j, by omega, by omega, rfl, h2⟩
  · show (bgF L v G i x).testBit j = true ↔ _
    unfold bgF
    by_cases h : L i v &&& G = 0
    · rw [if_pos h]; simp [h]
    · rw [if_neg h, or_pow]; simp [h]
theorem stp_one (L : Nat → Nat → Nat) {p v : Nat} (hp : p < 7) : stp L (2 ^ p) v = L p v := by
  apply eq_bits
  intro j
  rw [stp_bit]
  constructor
  · rintro ⟨q, h1, h2, h3⟩
    rw [Nat.testBit_two_pow, decide_eq_true_eq] at h2
    subst h2; exact h3
  · intro h
    exact ⟨p, hp, Nat.testBit_two_pow_self, h⟩
theorem run_last (L : Nat → Nat → Nat) (R : Nat → Nat) (k j S : Nat) : run L R k (j + 1) S = stp L (run L R k j S) (R (k + j)) := foldu_last _ _ _ _
theorem bgn_bit (L : Nat → Nat → Nat) (R : Nat → Nat) (k p : Nat) : ∀ (j G : Nat), p < 7 → ((bgn L R k j G).testBit p = true ↔ run L R k j (2 ^ p) &&& G ≠ 0) := by
  intro j
  induction j with
  | zero =>
    intro G hp
    show G.testBit p = true ↔ 2 ^ p &&& G ≠ 0
    rw [and_nz]
    constructor
    · intro h; exact ⟨p, Nat.testBit_two_pow_self, h⟩
    · rintro ⟨q, h1, h2⟩
      rw [Nat.testBit_two_pow, decide_eq_true_eq] at h1
      subst h1; exact h2
  | succ j ih =>
    intro G hp
    show (bgn L R k j (foldu (bgF L (R (k + j)) G) 0 7 0)).testBit p = true ↔ _
    rw [ih _ hp, run_last, and_nz, and_nz]
    constructor
    · rintro ⟨q, h1, h2⟩
      obtain ⟨h3, h4⟩ := (beg_bit _ _ _ _).mp h2
      obtain ⟨i, h5, h6⟩ := and_nz.mp h4
      exact ⟨i, (stp_bit _ _ _ _).mpr ⟨q, h3, h1, h5⟩, h6⟩
    · rintro ⟨i, h1, h2⟩
      obtain ⟨q, h3, h4, h5⟩ := (stp_bit _ _ _ _).mp h1
      exact ⟨q, h4, (beg_bit _ _ _ _).mpr ⟨h3, and_nz.mpr ⟨i, h5, h2⟩⟩⟩
theorem bgn_lt (L : Nat → Nat → Nat) (R : Nat → Nat) (k : Nat) : ∀ (j G : Nat), G < 2 ^ 7 → bgn L R k j G < 2 ^ 7 := by
  intro j
  induction j with
  | zero => intro G h; exact h
  | succ j ih =>
    intro G h
    refine ih _ (Nat.lt_pow_two_of_testBit _ (fun i hi => ?_))
    cases hb : (foldu (bgF L (R (k + j)) G) 0 7 0).testBit i with
    | false => rfl
    | true => have := ((beg_bit _ _ _ _).mp hb).1; omega
theorem run_in {P N W : Nat} {K O T J F R : Nat → Nat} (hb : LB P N W K O T J) {k j S : Nat} (hS : S < 2 ^ P) : run (lds N F K O T) R k j S < 2 ^ P := by
  cases j with
  | zero => exact hS
  | succ j => rw [run_last]; exact stp_lt hb
/-- a run from a place that there is comes to something exactly if begun says so -/
theorem bgn_all {P N W : Nat} {K O T J F R : Nat → Nat} (hb : LB P N W K O T J) {k j p : Nat} (hp : p < P) : ((bgn (lds N F K O T) R k j (2 ^ P - 1)).testBit p = true ↔ run (lds N F K O T) R k j (2 ^ p) ≠ 0) := by
  have hP := hb.1
  rw [bgn_bit _ _ _ _ _ _ (by omega), and_nz, nz_bit]
  have h1 : run (lds N F K O T) R k j (2 ^ p) < 2 ^ P := run_in hb (Nat.pow_lt_pow_right (by decide) hp)
  constructor
  · rintro ⟨i, h2, -⟩; exact ⟨i, h2⟩
  · rintro ⟨i, h2⟩
    refine ⟨i, h2, ?_⟩
    rw [Nat.testBit_two_pow_sub_one, decide_eq_true_eq]
    exact Nat.lt_of_not_le (fun h => by
      rw [Nat.testBit_lt_two_pow (Nat.lt_of_lt_of_le h1 (Nat.pow_le_pow_right (by decide) h))] at h2
      cases h2)
def whF (L : Nat → Nat → Nat) (R : Nat → Nat) (n p b : Nat) : Nat := if run L R 0 n (2 ^ p) = 0 then b else b ||| 2 ^ p
theorem where_eq {P N W : Nat} {K O T J F R : Nat → Nat} {n : Nat} (hb : LB P N W K O T J) : foldu (whF (lds N F K O T) R n) 0 P 0 = bgn (lds N F K O T) R 0 n (2 ^ P - 1) := by
  have hP := hb.1
  have hall : 2 ^ P - 1 < 2 ^ 7 := by have := pow_le7 hP; have := Nat.two_pow_pos P; show _ < 128; omega
  apply eq_bits
  intro j
  rw [foldu_or (c := fun p => p = j ∧ run (lds N F K O T) R 0 n (2 ^ p) ≠ 0) P 0 0 (fun i x _ _ => ?_)]
  · constructor
    · rintro (h | ⟨i, -, h1, rfl, h2⟩)
      · simp at h
      · exact (bgn_all hb (by omega)).mpr h2
    · intro h
      have hj7 : j < 7 := Nat.lt_of_not_le (fun h7 => by
        have h2 := bgn_lt (lds N F K O T) R 0 n _ hall
        rw [Nat.testBit_lt_two_pow (Nat.lt_of_lt_of_le h2 (Nat.pow_le_pow_right (by decide) h7))] at h
        cases h)
      have hjP : j < P := Nat.lt_of_not_le (fun h7 => by
        have h2 := (bgn_bit _ _ _ _ _ _ hj7).mp h
        obtain ⟨i, h3, h4⟩ := and_nz.mp h2
        cases n with
        | zero =>
          have h3' : (2 ^ j).testBit i = true := h3
          rw [Nat.testBit_two_pow, decide_eq_true_eq] at h3'
          rw [Nat.testBit_two_pow_sub_one, decide_eq_true_eq] at h4
          omega
        | succ n =>
          have h5 : run (lds N F K O T) R 0 (n + 1) (2 ^ j) = run (lds N F K O T) R 1 n (stp (lds N F K O T) (2 ^ j) (R 0)) := rfl
          have h6 : stp (lds N F K O T) (2 ^ j) (R 0) = 0 := by
            rw [stp_one _ hj7]
            apply eq_bits
            intro q
            rw [lds_bit]
            simp only [Nat.zero_testBit, Bool.false_eq_true, iff_false]
            rintro ⟨i, h8, -, h9⟩
            obtain ⟨-, b2, b3, -⟩ := hb.2.2.2.2 i h8
            unfold ldm at h9
            split at h9
            · omega
            · split at h9
              · omega
              · cases h9
          rw [h5, h6, run_zero] at h3
          simp at h3)
      exact Or.inr ⟨j, by omega, by omega, rfl, (bgn_all hb hjP).mp h⟩
  · show (whF (lds N F K O T) R n i x).testBit j = true ↔ _
    unfold whF
    by_cases h : run (lds N F K O T) R 0 n (2 ^ i) = 0
    · rw [if_pos h]; simp [h]
    · rw [if_neg h, or_pow]; simp [h]
/-- next: the number with the fewest places -/
def nxF (c : Nat → Nat) (v : Nat) (b : Option (Nat × Nat)) : Option (Nat × Nat) := if 0 < c v ∧ (b = none ∨ ∃ q, b = some q ∧ c v < q.2) then some (v, c v) else b
theorem nx_none {c : Nat → Nat} {v : Nat} : nxF c v none = if 0 < c v then some (v, c v) else none := by
  unfold nxF
  by_cases h : 0 < c v <;> simp [h]
theorem nx_some {c : Nat → Nat} {v x y : Nat} : nxF c v (some (x, y)) = if 0 < c v ∧ c v < y then some (v, c v) else some (x, y) := by
  unfold nxF
  by_cases h : 0 < c v <;> by_cases h2 : c v < y <;> simp [h, h2]
def pcs (L : Nat → Nat → Nat) (S v : Nat) : Nat := foldu (pcF (stp L S v)) 0 10 0
theorem pcs_le {P N W : Nat} {K O T J F : Nat → Nat} (hb : LB P N W K O T J) (S v : Nat) : pcs (lds N F K O T) S v ≤ 7 := by
  have hP := hb.1
  unfold pcs
  rw [pc_cnt, cnt_ext (n := 7) (by decide) (fun j hj => Nat.testBit_lt_two_pow (Nat.lt_of_lt_of_le (stp_lt hb) (Nat.pow_le_pow_right (by decide) (by omega))))]
  exact cnt_le _ 7
section
variable {d : Nat} {z : AZ} {f : AH} {Q : Option Value → AZ → AH → Prop} {X : Nat × (Nat → Int32)} {C : CT} {a : Nat → Int32} {b : Nat → Int64} {e : Nat → Nat → Int32} {o : Nat → Nat → Int64} {P N W : Nat} {K O T J : Nat → Nat}
theorem lp_mwhere {r n : Nat} {R : Nat → Nat} {x2 : Int32} (h : MLn a (e 74) P N W K O T J) (hb : LB P N W K O T J) (hr : r < 6) (hn : n ≤ 40) (h69 : e 69 r = nI n) (hR : ∀ k, k < n → e 70 (40 * r + k) = nI (R k) ∧ R k < 10) : ∀ (j p u : Nat), p + j = P → (Wp (d + 4) 1061 28 [some (.ref 67), some (.int (nI r)), some (.int x2), some (.int (nI u)), some (.int (nI p))] [] z (Hp X C (a, b, e, o)) Q ↔ Q (some (.int (nI (run (lds N (fe W K J) K O T) R 0 n (2 ^ P - 1))))) z (Hp X C (va_up a 2 (nI (foldu (whF (lds N (fe W K J) K O T) R n) p j u)), b, e, o))) := by
  have hP := hb.1
  have h10 := h.1
  have hall : 2 ^ P - 1 < 128 := by have := pow_le7 hP; have := Nat.two_pow_pos P; omega
  intro j
  induction j with
  | zero =>
    intro p u hp
    have hp : p = P := by omega
    subst hp
    rw [W1061_28]
    simp (disch := omega) only [W1061, r_2, r_Li, h80_1007, s_41, s_0, ci_m1, r_90, r_4, r_La, ci_16, h79_1052, r_5, s_43, ci_0, h60_10_10, r_49, ci_1, r_18, h79_1057, s_40, r_52, r_16, s_8, r_In, h79_1060, h79_1003, enR, LG, LSt, LC, nlR, psR, TK, up_s, up_n, up_u, lt_nI, le_nI, eq_nI, true_and, and_true, if_true, if_false, Nat.zero_add, Nat.add_zero, nI_add, ↓reduceIte, Nat.reduceAdd, Nat.reduceMul, Nat.reduceSub, Nat.reduceLT, Nat.reduceLeDiff, Nat.reduceEqDiff, Nat.not_lt_zero, Nat.lt_irrefl, decide_true, BEq.rfl, nm1, nm2, nm3, nm4, nm9, ngc, eq_self, List.length_cons, List.length_nil, h10, m_all h hP, m_endsOf h hb hr hn h69 hR (Nat.zero_le _) hall, Nat.sub_zero, m_ask, foldu]
  | succ j ih =>
    intro p u hp
    have h1 : p < P := by omega
    have h7 : 2 ^ p < 128 := Nat.pow_lt_pow_right (a := 2) (by decide) (show p < 7 by omega)
    have h8 := run_lt (F := fe W K J) (R := R) hb n 0 (2 ^ p) h7
    rw [W1061_28]
    by_cases h2 : run (lds N (fe W K J) K O T) R 0 n (2 ^ p) = 0
    · simp (disch := omega) only [W1061, r_2, r_Li, h80_1007, s_41, s_0, ci_m1, r_90, r_4, r_La, ci_16, h79_1052, r_5, s_43, ci_0, h60_10_10, r_49, ci_1, r_18, h79_1057, s_40, r_52, r_16, s_8, r_In, h79_1060, h79_1003, enR, LG, LSt, LC, nlR, psR, TK, up_s, up_n, up_u, lt_nI, le_nI, eq_nI, true_and, and_true, if_true, if_false, Nat.zero_add, Nat.add_zero, nI_add, ↓reduceIte, Nat.reduceAdd, Nat.reduceMul, Nat.reduceSub, Nat.reduceLT, Nat.reduceLeDiff, Nat.reduceEqDiff, Nat.not_lt_zero, Nat.lt_irrefl, decide_true, BEq.rfl, nm1, nm2, nm3, nm4, nm9, ngc, eq_self, List.length_cons, List.length_nil, h10, h1, nI_bit, m_endsOf h hb hr hn h69 hR (Nat.zero_le _) h7, Nat.sub_zero, h2, foldu, whF, nI_or, Nat.or_zero]
      exact ih (p + 1) _ (by omega)
    · simp (disch := omega) only [W1061, r_2, r_Li, h80_1007, s_41, s_0, ci_m1, r_90, r_4, r_La, ci_16, h79_1052, r_5, s_43, ci_0, h60_10_10, r_49, ci_1, r_18, h79_1057, s_40, r_52, r_16, s_8, r_In, h79_1060, h79_1003, enR, LG, LSt, LC, nlR, psR, TK, up_s, up_n, up_u, lt_nI, le_nI, eq_nI, true_and, and_true, if_true, if_false, Nat.zero_add, Nat.add_zero, nI_add, ↓reduceIte, Nat.reduceAdd, Nat.reduceMul, Nat.reduceSub, Nat.reduceLT, Nat.reduceLeDiff, Nat.reduceEqDiff, Nat.not_lt_zero, Nat.lt_irrefl, decide_true, BEq.rfl, nm1, nm2, nm3, nm4, nm9, ngc, eq_self, List.length_cons, List.length_nil, h10, h1, nI_bit, m_endsOf h hb hr hn h69 hR (Nat.zero_le _) h7, Nat.sub_zero, h2, foldu, whF, nI_or, Nat.or_zero]
      exact ih (p + 1) _ (by omega)
def nxA (dn : Int32) : Option (Nat × Nat) → Int32
  | none => dn
  | some q => nI q.1
def nxB (dn : Int32) : Option (Nat × Nat) → Int32
  | none => dn
  | some q => nI q.2
theorem lp_mnext {S : Nat} {x1 x2 : Int32} (h : MLn a (e 74) P N W K O T J) (hb : LB P N W K O T J) (hS : S < 65536) : ∀ (j v : Nat) (u : Option (Nat × Nat)), v + j = 10 → (∀ q, u = some q → q.1 < 10 ∧ q.2 ≤ 7) → (Wp (d + 4) 1063 45 [some (.ref 67), some (.int x1), some (.int x2), some (.int (nI S)), some (.int (nxA (-9) u)), some (.int (nxB (nI 1048576) u)), some (.int (nI v))] [] z (Hp X C (a, b, e, o)) Q ↔ match foldu (nxF (pcs (lds N (fe W K J) K O T) S)) v j u with
    | none => Q (some (.int (-9))) z (Hp X C (a, b, e, o))
    | some q => Q (some (.int (nI q.1))) z (Hp X C (va_up a 2 (nI q.2), b, e, o))) := by
  have hP := hb.1
  intro j
  induction j with
  | zero =>
    intro v u hv hu
    have hv : v = 10 := by omega
    subst hv
    rw [W1063_45]
    cases u with
    | none => simp (disch := omega) only [W1063, r_2, r_Li, h80_1007, s_41, s_0, ci_m1, r_90, r_4, r_La, ci_15, h79_1052, r_5, s_43, h79_1060, ci_0, h79_1057, ci_m9, ci_1048576, ci_9, r_50, h79_1056, h80_1006, s_45, r_49, r_52, s_8, r_In, ci_1, r_47, h79_1003, enR, LG, LSt, LC, nlR, psR, TK, up_s, up_n, up_u, lt_nI, le_nI, eq_nI, true_and, and_true, if_true, if_false, Nat.zero_add, Nat.add_zero, nI_add, ↓reduceIte, Nat.reduceAdd, Nat.reduceMul, Nat.reduceSub, Nat.reduceLT, Nat.reduceLeDiff, Nat.reduceEqDiff, Nat.not_lt_zero, Nat.lt_irrefl, decide_true, BEq.rfl, nm1, nm2, nm3, nm4, nm9, ngc, eq_self, List.length_cons, List.length_nil, foldu, nxA, nxB, show (9 < 10) = True from eq_true (by decide)]
    | some q =>
      have := hu q rfl
      simp (disch := omega) only [W1063, r_2, r_Li, h80_1007, s_41, s_0, ci_m1, r_90, r_4, r_La, ci_15, h79_1052, r_5, s_43, h79_1060, ci_0, h79_1057, ci_m9, ci_1048576, ci_9, r_50, h79_1056, h80_1006, s_45, r_49, r_52, s_8, r_In, ci_1, r_47, h79_1003, enR, LG, LSt, LC, nlR, psR, TK, up_s, up_n, up_u, lt_nI, le_nI, eq_nI, true_and, and_true, if_true, if_false, Nat.zero_add, Nat.add_zero, nI_add, ↓reduceIte, Nat.reduceAdd, Nat.reduceMul, Nat.reduceSub, Nat.reduceLT, Nat.reduceLeDiff, Nat.reduceEqDiff, Nat.not_lt_zero, Nat.lt_irrefl, decide_true, BEq.rfl, nm1, nm2, nm3, nm4, nm9, ngc, eq_self, List.length_cons, List.length_nil, foldu, nxA, nxB, m_ask, show (9 < 10) = True from eq_true (by decide)]
  | succ j ih =>
    intro v u hv hu
    have h1 : ¬ 9 < v := by omega
    have h2 : stp (lds N (fe W K J) K O T) S v < 2147483648 := by
      have := stp_lt (F := fe W K J) (S := S) (v := v) hb
      have := pow_le7 hP
      omega
    have h3 := pcs_le (F := fe W K J) hb S v
    have e1 : foldu (pcF (stp (lds N (fe W K J) K O T) S v)) 0 10 0 = pcs (lds N (fe W K J) K O T) S v := rfl
    rw [W1063_45]
    cases u with
    | none =>
      have ih' := ih (v + 1) (nxF (pcs (lds N (fe W K J) K O T) S) v none) (by omega) (fun q hq => by
        rw [nx_none] at hq
        split at hq
        · cases hq; exact ⟨by omega, h3⟩
        · cases hq)
      show _ ↔ match foldu (nxF (pcs (lds N (fe W K J) K O T) S)) (v + 1) j (nxF (pcs (lds N (fe W K J) K O T) S) v none) with | none => _ | some q => _
      rw [← ih', nx_none]
      by_cases h4 : 0 < pcs (lds N (fe W K J) K O T) S v
      · have h5 : pcs (lds N (fe W K J) K O T) S v < 1048576 := by omega
        simp (disch := omega) only [W1063, r_2, r_Li, h80_1007, s_41, s_0, ci_m1, r_90, r_4, r_La, ci_15, h79_1052, r_5, s_43, h79_1060, ci_0, h79_1057, ci_m9, ci_1048576, ci_9, r_50, h79_1056, h80_1006, s_45, r_49, r_52, s_8, r_In, ci_1, r_47, h79_1003, enR, LG, LSt, LC, nlR, psR, TK, up_s, up_n, up_u, lt_nI, le_nI, eq_nI, true_and, and_true, if_true, if_false, Nat.zero_add, Nat.add_zero, nI_add, ↓reduceIte, Nat.reduceAdd, Nat.reduceMul, Nat.reduceSub, Nat.reduceLT, Nat.reduceLeDiff, Nat.reduceEqDiff, Nat.not_lt_zero, Nat.lt_irrefl, decide_true, BEq.rfl, nm1, nm2, nm3, nm4, nm9, ngc, eq_self, List.length_cons, List.length_nil, h1, nxA, nxB, m_stepSet h hb hS (show v < 65536 by omega), m_sizeOf h2, e1, h4, h5]
      · simp (disch := omega) only [W1063, r_2, r_Li, h80_1007, s_41, s_0, ci_m1, r_90, r_4, r_La, ci_15, h79_1052, r_5, s_43, h79_1060, ci_0, h79_1057, ci_m9, ci_1048576, ci_9, r_50, h79_1056, h80_1006, s_45, r_49, r_52, s_8, r_In, ci_1, r_47, h79_1003, enR, LG, LSt, LC, nlR, psR, TK, up_s, up_n, up_u, lt_nI, le_nI, eq_nI, true_and, and_true, if_true, if_false, Nat.zero_add, Nat.add_zero, nI_add, ↓reduceIte, Nat.reduceAdd, Nat.reduceMul, Nat.reduceSub, Nat.reduceLT, Nat.reduceLeDiff, Nat.reduceEqDiff, Nat.not_lt_zero, Nat.lt_irrefl, decide_true, BEq.rfl, nm1, nm2, nm3, nm4, nm9, ngc, eq_self, List.length_cons, List.length_nil, h1, nxA, nxB, m_stepSet h hb hS (show v < 65536 by omega), m_sizeOf h2, e1, h4]
    | some q =>
      obtain ⟨x, y⟩ := q
      obtain ⟨hx, hy⟩ := hu (x, y) rfl
      have hx' : x < 10 := hx
      have hy' : y ≤ 7 := hy
      have ih' := ih (v + 1) (nxF (pcs (lds N (fe W K J) K O T) S) v (some (x, y))) (by omega) (fun q hq => by
        rw [nx_some] at hq
        split at hq
        · cases hq; exact ⟨by omega, h3⟩
        · cases hq; exact ⟨hx, hy⟩)
      show _ ↔ match foldu (nxF (pcs (lds N (fe W K J) K O T) S)) (v + 1) j (nxF (pcs (lds N (fe W K J) K O T) S) v (some (x, y))) with | none => _ | some q => _
      rw [← ih', nx_some]
      by_cases h4 : 0 < pcs (lds N (fe W K J) K O T) S v
      · by_cases h5 : pcs (lds N (fe W K J) K O T) S v < y
        · simp (disch := omega) only [W1063, r_2, r_Li, h80_1007, s_41, s_0, ci_m1, r_90, r_4, r_La, ci_15, h79_1052, r_5, s_43, h79_1060, ci_0, h79_1057, ci_m9, ci_1048576, ci_9, r_50, h79_1056, h80_1006, s_45, r_49, r_52, s_8, r_In, ci_1, r_47, h79_1003, enR, LG, LSt, LC, nlR, psR, TK, up_s, up_n, up_u, lt_nI, le_nI, eq_nI, true_and, and_true, if_true, if_false, Nat.zero_add, Nat.add_zero, nI_add, ↓reduceIte, Nat.reduceAdd, Nat.reduceMul, Nat.reduceSub, Nat.reduceLT, Nat.reduceLeDiff, Nat.reduceEqDiff, Nat.not_lt_zero, Nat.lt_irrefl, decide_true, BEq.rfl, nm1, nm2, nm3, nm4, nm9, ngc, eq_self, List.length_cons, List.length_nil, h1, nxA, nxB, m_stepSet h hb hS (show v < 65536 by omega), m_sizeOf h2, e1, h4, h5, and_self]
        · simp (disch := omega) only [W1063, r_2, r_Li, h80_1007, s_41, s_0, ci_m1, r_90, r_4, r_La, ci_15, h79_1052, r_5, s_43, h79_1060, ci_0, h79_1057, ci_m9, ci_1048576, ci_9, r_50, h79_1056, h80_1006, s_45, r_49, r_52, s_8, r_In, ci_1, r_47, h79_1003, enR, LG, LSt, LC, nlR, psR, TK, up_s, up_n, up_u, lt_nI, le_nI, eq_nI, true_and, and_true, if_true, if_false, Nat.zero_add, Nat.add_zero, nI_add, ↓reduceIte, Nat.reduceAdd, Nat.reduceMul, Nat.reduceSub, Nat.reduceLT, Nat.reduceLeDiff, Nat.reduceEqDiff, Nat.not_lt_zero, Nat.lt_irrefl, decide_true, BEq.rfl, nm1, nm2, nm3, nm4, nm9, ngc, eq_self, List.length_cons, List.length_nil, h1, nxA, nxB, m_stepSet h hb hS (show v < 65536 by omega), m_sizeOf h2, e1, h4, h5, and_false]
      · simp (disch := omega) only [W1063, r_2, r_Li, h80_1007, s_41, s_0, ci_m1, r_90, r_4, r_La, ci_15, h79_1052, r_5, s_43, h79_1060, ci_0, h79_1057, ci_m9, ci_1048576, ci_9, r_50, h79_1056, h80_1006, s_45, r_49, r_52, s_8, r_In, ci_1, r_47, h79_1003, enR, LG, LSt, LC, nlR, psR, TK, up_s, up_n, up_u, lt_nI, le_nI, eq_nI, true_and, and_true, if_true, if_false, Nat.zero_add, Nat.add_zero, nI_add, ↓reduceIte, Nat.reduceAdd, Nat.reduceMul, Nat.reduceSub, Nat.reduceLT, Nat.reduceLeDiff, Nat.reduceEqDiff, Nat.not_lt_zero, Nat.lt_irrefl, decide_true, BEq.rfl, nm1, nm2, nm3, nm4, nm9, ngc, eq_self, List.length_cons, List.length_nil, h1, nxA, nxB, m_stepSet h hb hS (show v < 65536 by omega), m_sizeOf h2, e1, h4, false_and]
end
section
variable {t d : Nat} {z : AZ} {X : Nat × (Nat → Int32)} {C : CT} {M : MT} {s : Nat → Int32} {v : Nat → Int64} {g : Nat → Nat → Int32} {w : Nat → Nat → Int64} {q : Nat → Nat} {ct : Nat → Int32} {cn : Nat → Int32} {cc : Nat → Nat → Int32} {di : Nat → Nat → Int32} {dr : Nat → Nat → Int32} {df : Nat → Nat → Int32} {li : Nat → Nat → Int32} {la : Nat → Nat → Nat → Int32} {sf : Nat → Nat → Int32} {sl : Nat → Nat → Int32} {a : Nat → Int32} {b : Nat → Int64} {e : Nat → Nat → Int32} {o : Nat → Nat → Int64} {B : Nat → Bool} {n : Nat → Nat} {P N W : Nat} {K O T J : Nat → Nat} {l : Nat} {Ds : Nat → Nat} {Dr Df Dp : Nat → Nat → Nat} {KB : Nat → Bool}
variable {Q : Option Value → AZ → AH → Prop}
theorem lp_cnext {S : Nat} {x1 x2 : Int32} (hb : LB P N W K O T J) (hS : SL (sl 0) (lds N (fe W K J) K O T)) : ∀ (j y : Nat) (u : Option (Nat × Nat)), y + j = 10 → (∀ q, u = some q → q.1 < 10 ∧ q.2 ≤ 7) → (Wp (d + 3) 929 60 [some (.ref 0), some (.int x1), some (.int x2), some (.int (nI S)), some (.int (nxA (-9) u)), some (.int (nxB (nI 8) u)), some (.int (nI y))] [] z (Hp X (s, v, g, w, q, ct, cn, cc, di, dr, df, li, la, sf, sl) M) Q ↔ match foldu (nxF (pcs (lds N (fe W K J) K O T) S)) y j u with
    | none => Q (some (.int (-9))) z (Hp X (s, v, g, w, q, ct, cn, cc, di, dr, df, li, la, sf, sl) M)
    | some y3 => Q (some (.int (nI y3.1))) z (Hp X (va_up s 15 (nI y3.2), v, g, w, q, ct, cn, cc, di, dr, df, li, la, sf, sl) M)) := by
  have hP := hb.1
  intro j
  induction j with
  | zero =>
    intro y u hy hu
    have hy : y = 10 := by omega
    subst hy
    rw [W929_60]
    cases u with
    | none => simp (disch := omega) only [W929, r_2, r_Li, h80_948, s_41, s_0, ci_m1, r_90, r_4, r_La, h60_9_0, ci_15, h79_955, r_5, s_40, h60_9_5, h60_9_12, h79_305, h79_605, ci_m9, ci_8, ci_0, ci_10, r_49, h79_604, h80_1200, s_45, s_8, r_In, ci_1, r_52, r_46, h61_9_15, h68_1, enR, LG, LSt, LC, nlR, psR, TK, up_s, up_n, up_u, lt_nI, le_nI, eq_nI, true_and, and_true, if_true, if_false, Nat.zero_add, Nat.add_zero, nI_add, ↓reduceIte, Nat.reduceAdd, Nat.reduceMul, Nat.reduceSub, Nat.reduceLT, Nat.reduceLeDiff, Nat.reduceEqDiff, Nat.not_lt_zero, Nat.lt_irrefl, decide_true, BEq.rfl, nm1, nm2, nm3, nm4, nm9, ngc, eq_self, List.length_cons, List.length_nil, foldu, nxA, nxB]
    | some q =>
      have := hu q rfl
      simp (disch := omega) only [W929, r_2, r_Li, h80_948, s_41, s_0, ci_m1, r_90, r_4, r_La, h60_9_0, ci_15, h79_955, r_5, s_40, h60_9_5, h60_9_12, h79_305, h79_605, ci_m9, ci_8, ci_0, ci_10, r_49, h79_604, h80_1200, s_45, s_8, r_In, ci_1, r_52, r_46, h61_9_15, h68_1, enR, LG, LSt, LC, nlR, psR, TK, up_s, up_n, up_u, lt_nI, le_nI, eq_nI, true_and, and_true, if_true, if_false, Nat.zero_add, Nat.add_zero, nI_add, ↓reduceIte, Nat.reduceAdd, Nat.reduceMul, Nat.reduceSub, Nat.reduceLT, Nat.reduceLeDiff, Nat.reduceEqDiff, Nat.not_lt_zero, Nat.lt_irrefl, decide_true, BEq.rfl, nm1, nm2, nm3, nm4, nm9, ngc, eq_self, List.length_cons, List.length_nil, foldu, nxA, nxB]
  | succ j ih =>
    intro y u hy hu
    have h1 : y < 10 := by omega
    have h2 : stp (lds N (fe W K J) K O T) S y < 1024 := by
      have := stp_lt (F := fe W K J) (S := S) (v := y) hb
      have := pow_le7 hP
      omega
    have h3 := pcs_le (F := fe W K J) hb S y
    have e1 : foldu (pcF (stp (lds N (fe W K J) K O T) S y)) 0 10 0 = pcs (lds N (fe W K J) K O T) S y := rfl
    rw [W929_60]
    cases u with
    | none =>
      have ih' := ih (y + 1) (nxF (pcs (lds N (fe W K J) K O T) S) y none) (by omega) (fun q hq => by
        rw [nx_none] at hq
        split at hq
        · cases hq; exact ⟨by omega, h3⟩
        · cases hq)
      show _ ↔ match foldu (nxF (pcs (lds N (fe W K J) K O T) S)) (y + 1) j (nxF (pcs (lds N (fe W K J) K O T) S) y none) with | none => _ | some q => _
      rw [← ih', nx_none]
      by_cases h4 : 0 < pcs (lds N (fe W K J) K O T) S y
      · have h5 : pcs (lds N (fe W K J) K O T) S y < 8 := by omega
        simp (disch := omega) only [W929, r_2, r_Li, h80_948, s_41, s_0, ci_m1, r_90, r_4, r_La, h60_9_0, ci_15, h79_955, r_5, s_40, h60_9_5, h60_9_12, h79_305, h79_605, ci_m9, ci_8, ci_0, ci_10, r_49, h79_604, h80_1200, s_45, s_8, r_In, ci_1, r_52, r_46, h61_9_15, h68_1, enR, LG, LSt, LC, nlR, psR, TK, up_s, up_n, up_u, lt_nI, le_nI, eq_nI, true_and, and_true, if_true, if_false, Nat.zero_add, Nat.add_zero, nI_add, ↓reduceIte, Nat.reduceAdd, Nat.reduceMul, Nat.reduceSub, Nat.reduceLT, Nat.reduceLeDiff, Nat.reduceEqDiff, Nat.not_lt_zero, Nat.lt_irrefl, decide_true, BEq.rfl, nm1, nm2, nm3, nm4, nm9, ngc, eq_self, List.length_cons, List.length_nil, h1, nxA, nxB, c_step (show 0 < 2 by omega) hS h1, c_bitCount h2, e1, h4, h5]
      · simp (disch := omega) only [W929, r_2, r_Li, h80_948, s_41, s_0, ci_m1, r_90, r_4, r_La, h60_9_0, ci_15, h79_955, r_5, s_40, h60_9_5, h60_9_12, h79_305, h79_605, ci_m9, ci_8, ci_0, ci_10, r_49, h79_604, h80_1200, s_45, s_8, r_In, ci_1, r_52, r_46, h61_9_15, h68_1, enR, LG, LSt, LC, nlR, psR, TK, up_s, up_n, up_u, lt_nI, le_nI, eq_nI, true_and, and_true, if_true, if_false, Nat.zero_add, Nat.add_zero, nI_add, ↓reduceIte, Nat.reduceAdd, Nat.reduceMul, Nat.reduceSub, Nat.reduceLT, Nat.reduceLeDiff, Nat.reduceEqDiff, Nat.not_lt_zero, Nat.lt_irrefl, decide_true, BEq.rfl, nm1, nm2, nm3, nm4, nm9, ngc, eq_self, List.length_cons, List.length_nil, h1, nxA, nxB, c_step (show 0 < 2 by omega) hS h1, c_bitCount h2, e1, h4]
    | some q =>
      obtain ⟨x, y2⟩ := q
      obtain ⟨hx, hy3⟩ := hu (x, y2) rfl
      have hx' : x < 10 := hx
      have hy' : y2 ≤ 7 := hy3
      have ih' := ih (y + 1) (nxF (pcs (lds N (fe W K J) K O T) S) y (some (x, y2))) (by omega) (fun q hq => by
        rw [nx_some] at hq
        split at hq
        · cases hq; exact ⟨by omega, h3⟩
        · cases hq; exact ⟨hx, hy3⟩)
      show _ ↔ match foldu (nxF (pcs (lds N (fe W K J) K O T) S)) (y + 1) j (nxF (pcs (lds N (fe W K J) K O T) S) y (some (x, y2))) with | none => _ | some q => _
      rw [← ih', nx_some]
      by_cases h4 : 0 < pcs (lds N (fe W K J) K O T) S y
      · by_cases h5 : pcs (lds N (fe W K J) K O T) S y < y2
        · simp (disch := omega) only [W929, r_2, r_Li, h80_948, s_41, s_0, ci_m1, r_90, r_4, r_La, h60_9_0, ci_15, h79_955, r_5, s_40, h60_9_5, h60_9_12, h79_305, h79_605, ci_m9, ci_8, ci_0, ci_10, r_49, h79_604, h80_1200, s_45, s_8, r_In, ci_1, r_52, r_46, h61_9_15, h68_1, enR, LG, LSt, LC, nlR, psR, TK, up_s, up_n, up_u, lt_nI, le_nI, eq_nI, true_and, and_true, if_true, if_false, Nat.zero_add, Nat.add_zero, nI_add, ↓reduceIte, Nat.reduceAdd, Nat.reduceMul, Nat.reduceSub, Nat.reduceLT, Nat.reduceLeDiff, Nat.reduceEqDiff, Nat.not_lt_zero, Nat.lt_irrefl, decide_true, BEq.rfl, nm1, nm2, nm3, nm4, nm9, ngc, eq_self, List.length_cons, List.length_nil, h1, nxA, nxB, c_step (show 0 < 2 by omega) hS h1, c_bitCount h2, e1, h4, h5, and_self]
        · simp (disch := omega) only [W929, r_2, r_Li, h80_948, s_41, s_0, ci_m1, r_90, r_4, r_La, h60_9_0, ci_15, h79_955, r_5, s_40, h60_9_5, h60_9_12, h79_305, h79_605, ci_m9, ci_8, ci_0, ci_10, r_49, h79_604, h80_1200, s_45, s_8, r_In, ci_1, r_52, r_46, h61_9_15, h68_1, enR, LG, LSt, LC, nlR, psR, TK, up_s, up_n, up_u, lt_nI, le_nI, eq_nI, true_and, and_true, if_true, if_false, Nat.zero_add, Nat.add_zero, nI_add, ↓reduceIte, Nat.reduceAdd, Nat.reduceMul, Nat.reduceSub, Nat.reduceLT, Nat.reduceLeDiff, Nat.reduceEqDiff, Nat.not_lt_zero, Nat.lt_irrefl, decide_true, BEq.rfl, nm1, nm2, nm3, nm4, nm9, ngc, eq_self, List.length_cons, List.length_nil, h1, nxA, nxB, c_step (show 0 < 2 by omega) hS h1, c_bitCount h2, e1, h4, h5, and_false]
      · simp (disch := omega) only [W929, r_2, r_Li, h80_948, s_41, s_0, ci_m1, r_90, r_4, r_La, h60_9_0, ci_15, h79_955, r_5, s_40, h60_9_5, h60_9_12, h79_305, h79_605, ci_m9, ci_8, ci_0, ci_10, r_49, h79_604, h80_1200, s_45, s_8, r_In, ci_1, r_52, r_46, h61_9_15, h68_1, enR, LG, LSt, LC, nlR, psR, TK, up_s, up_n, up_u, lt_nI, le_nI, eq_nI, true_and, and_true, if_true, if_false, Nat.zero_add, Nat.add_zero, nI_add, ↓reduceIte, Nat.reduceAdd, Nat.reduceMul, Nat.reduceSub, Nat.reduceLT, Nat.reduceLeDiff, Nat.reduceEqDiff, Nat.not_lt_zero, Nat.lt_irrefl, decide_true, BEq.rfl, nm1, nm2, nm3, nm4, nm9, ngc, eq_self, List.length_cons, List.length_nil, h1, nxA, nxB, c_step (show 0 < 2 by omega) hS h1, c_bitCount h2, e1, h4, false_and]
theorem op_where {x : Int32} (H : RL t z s v g w q ct cn cc di dr df li la sf sl a b e o B n P N W K O T J l Ds Dr Df Dp KB) : OPI (d + 20) 927 1061 [.int x] t z X (s, v, g, w, q, ct, cn, cc, di, dr, df, li, la, sf, sl) (a, b, e, o) := by
  obtain ⟨hb, hl, hq, hC, hs, hM, hS⟩ := rl_land H
  have hP := hb.1
  have hN := hb.2.1
  unfold OPI
  rcases ix x (n := 5) (by decide) with h | ⟨h1, h2, h3⟩ | ⟨r, hr, rfl⟩
  · rw [cw_wp]
    simp (disch := omega) only [W927, r_2, r_Li, h80_948, s_41, s_0, ci_m1, r_90, r_4, r_La, h60_9_0, ci_16, h79_955, r_5, s_40, h60_9_5, ci_0, h60_9_12, h79_305, h79_606, h61_9_15, h79_605, h68_1, enR, LG, LSt, LC, nlR, psR, TK, up_s, up_n, up_u, lt_nI, le_nI, eq_nI, true_and, and_true, if_true, if_false, Nat.zero_add, Nat.add_zero, nI_add, ↓reduceIte, Nat.reduceAdd, Nat.reduceMul, Nat.reduceSub, Nat.reduceLT, Nat.reduceLeDiff, Nat.reduceEqDiff, Nat.not_lt_zero, Nat.lt_irrefl, decide_true, BEq.rfl, nm1, nm2, nm3, nm4, nm9, ngc, eq_self, List.length_cons, List.length_nil, c_isRow, h]
    refine okc ?_
    rw [cw_wp]
    simp (disch := omega) only [W1061, r_2, r_Li, h80_1007, s_41, s_0, ci_m1, r_90, r_4, r_La, ci_16, h79_1052, r_5, s_43, ci_0, h60_10_10, r_49, ci_1, r_18, h79_1057, s_40, r_52, r_16, s_8, r_In, h79_1060, h79_1003, enR, LG, LSt, LC, nlR, psR, TK, up_s, up_n, up_u, lt_nI, le_nI, eq_nI, true_and, and_true, if_true, if_false, Nat.zero_add, Nat.add_zero, nI_add, ↓reduceIte, Nat.reduceAdd, Nat.reduceMul, Nat.reduceSub, Nat.reduceLT, Nat.reduceLeDiff, Nat.reduceEqDiff, Nat.not_lt_zero, Nat.lt_irrefl, decide_true, BEq.rfl, nm1, nm2, nm3, nm4, nm9, ngc, eq_self, List.length_cons, List.length_nil, m_isRow, h]
    exact okm (rl_inv (rl_t H))
  · rw [cw_wp]
    simp (disch := omega) only [W927, r_2, r_Li, h80_948, s_41, s_0, ci_m1, r_90, r_4, r_La, h60_9_0, ci_16, h79_955, r_5, s_40, h60_9_5, ci_0, h60_9_12, h79_305, h79_606, h61_9_15, h79_605, h68_1, enR, LG, LSt, LC, nlR, psR, TK, up_s, up_n, up_u, lt_nI, le_nI, eq_nI, true_and, and_true, if_true, if_false, Nat.zero_add, Nat.add_zero, nI_add, ↓reduceIte, Nat.reduceAdd, Nat.reduceMul, Nat.reduceSub, Nat.reduceLT, Nat.reduceLeDiff, Nat.reduceEqDiff, Nat.not_lt_zero, Nat.lt_irrefl, decide_true, BEq.rfl, nm1, nm2, nm3, nm4, nm9, ngc, eq_self, List.length_cons, List.length_nil, c_isRow, h1, h2]
    refine okc ?_
    rw [cw_wp]
    simp (disch := omega) only [W1061, r_2, r_Li, h80_1007, s_41, s_0, ci_m1, r_90, r_4, r_La, ci_16, h79_1052, r_5, s_43, ci_0, h60_10_10, r_49, ci_1, r_18, h79_1057, s_40, r_52, r_16, s_8, r_In, h79_1060, h79_1003, enR, LG, LSt, LC, nlR, psR, TK, up_s, up_n, up_u, lt_nI, le_nI, eq_nI, true_and, and_true, if_true, if_false, Nat.zero_add, Nat.add_zero, nI_add, ↓reduceIte, Nat.reduceAdd, Nat.reduceMul, Nat.reduceSub, Nat.reduceLT, Nat.reduceLeDiff, Nat.reduceEqDiff, Nat.not_lt_zero, Nat.lt_irrefl, decide_true, BEq.rfl, nm1, nm2, nm3, nm4, nm9, ngc, eq_self, List.length_cons, List.length_nil, m_isRow, h1, h3]
    exact okm (rl_inv (rl_t H))
  have hr6 : r < 6 := by omega
  have hr5 : ¬ 5 < r := by omega
  rcases rl_r H hr6 with ⟨q1, q2, q3, q4, q5⟩ | ⟨q1, q2, q3, q4, q5, q6⟩
  · rw [cw_wp]
    simp (disch := omega) only [W927, r_2, r_Li, h80_948, s_41, s_0, ci_m1, r_90, r_4, r_La, h60_9_0, ci_16, h79_955, r_5, s_40, h60_9_5, ci_0, h60_9_12, h79_305, h79_606, h61_9_15, h79_605, h68_1, enR, LG, LSt, LC, nlR, psR, TK, up_s, up_n, up_u, lt_nI, le_nI, eq_nI, true_and, and_true, if_true, if_false, Nat.zero_add, Nat.add_zero, nI_add, ↓reduceIte, Nat.reduceAdd, Nat.reduceMul, Nat.reduceSub, Nat.reduceLT, Nat.reduceLeDiff, Nat.reduceEqDiff, Nat.not_lt_zero, Nat.lt_irrefl, decide_true, BEq.rfl, nm1, nm2, nm3, nm4, nm9, ngc, eq_self, List.length_cons, List.length_nil, c_isRow, hr6, c_felt_no (show r < 10 by omega) q2]
    refine okc ?_
    rw [cw_wp]
    simp (disch := omega) only [W1061, r_2, r_Li, h80_1007, s_41, s_0, ci_m1, r_90, r_4, r_La, ci_16, h79_1052, r_5, s_43, ci_0, h60_10_10, r_49, ci_1, r_18, h79_1057, s_40, r_52, r_16, s_8, r_In, h79_1060, h79_1003, enR, LG, LSt, LC, nlR, psR, TK, up_s, up_n, up_u, lt_nI, le_nI, eq_nI, true_and, and_true, if_true, if_false, Nat.zero_add, Nat.add_zero, nI_add, ↓reduceIte, Nat.reduceAdd, Nat.reduceMul, Nat.reduceSub, Nat.reduceLT, Nat.reduceLeDiff, Nat.reduceEqDiff, Nat.not_lt_zero, Nat.lt_irrefl, decide_true, BEq.rfl, nm1, nm2, nm3, nm4, nm9, ngc, eq_self, List.length_cons, List.length_nil, m_isRow, hr5, m_felt_no hr6 q5]
    exact okm (rl_inv (rl_found (k := 1) (by decide) H))
  by_cases hw : 16 < n r
  · rw [cw_wp]
    simp (disch := omega) only [W927, r_2, r_Li, h80_948, s_41, s_0, ci_m1, r_90, r_4, r_La, h60_9_0, ci_16, h79_955, r_5, s_40, h60_9_5, ci_0, h60_9_12, h79_305, h79_606, h61_9_15, h79_605, h68_1, enR, LG, LSt, LC, nlR, psR, TK, up_s, up_n, up_u, lt_nI, le_nI, eq_nI, true_and, and_true, if_true, if_false, Nat.zero_add, Nat.add_zero, nI_add, ↓reduceIte, Nat.reduceAdd, Nat.reduceMul, Nat.reduceSub, Nat.reduceLT, Nat.reduceLeDiff, Nat.reduceEqDiff, Nat.not_lt_zero, Nat.lt_irrefl, decide_true, BEq.rfl, nm1, nm2, nm3, nm4, nm9, ngc, eq_self, List.length_cons, List.length_nil, c_isRow, hr6, c_felt_size (show r < 10 by omega) q2 q3 (show n r ≤ 80 by omega) hw]
    refine okc ?_
    rw [cw_wp]
    simp (disch := omega) only [W1061, r_2, r_Li, h80_1007, s_41, s_0, ci_m1, r_90, r_4, r_La, ci_16, h79_1052, r_5, s_43, ci_0, h60_10_10, r_49, ci_1, r_18, h79_1057, s_40, r_52, r_16, s_8, r_In, h79_1060, h79_1003, enR, LG, LSt, LC, nlR, psR, TK, up_s, up_n, up_u, lt_nI, le_nI, eq_nI, true_and, and_true, if_true, if_false, Nat.zero_add, Nat.add_zero, nI_add, ↓reduceIte, Nat.reduceAdd, Nat.reduceMul, Nat.reduceSub, Nat.reduceLT, Nat.reduceLeDiff, Nat.reduceEqDiff, Nat.not_lt_zero, Nat.lt_irrefl, decide_true, BEq.rfl, nm1, nm2, nm3, nm4, nm9, ngc, eq_self, List.length_cons, List.length_nil, m_isRow, hr5, m_felt_size hr6 q5 q4 hw]
    exact okm (rl_inv (rl_found (k := 5) (by decide) H))
  have hw2 : n r ≤ 16 := by omega
  have hcap : n r ≤ cap r := by rw [show cap r = 40 from if_pos hr6]; exact q4
  cases hf : felt (cc r) (n r) with
  | false =>
    rw [cw_wp]
    simp (disch := omega) only [W927, r_2, r_Li, h80_948, s_41, s_0, ci_m1, r_90, r_4, r_La, h60_9_0, ci_16, h79_955, r_5, s_40, h60_9_5, ci_0, h60_9_12, h79_305, h79_606, h61_9_15, h79_605, h68_1, enR, LG, LSt, LC, nlR, psR, TK, up_s, up_n, up_u, lt_nI, le_nI, eq_nI, true_and, and_true, if_true, if_false, Nat.zero_add, Nat.add_zero, nI_add, ↓reduceIte, Nat.reduceAdd, Nat.reduceMul, Nat.reduceSub, Nat.reduceLT, Nat.reduceLeDiff, Nat.reduceEqDiff, Nat.not_lt_zero, Nat.lt_irrefl, decide_true, BEq.rfl, nm1, nm2, nm3, nm4, nm9, ngc, eq_self, List.length_cons, List.length_nil, c_isRow, hr6, c_felt_unlike (show r < 10 by omega) q2 q3 hcap hw2 (by omega) hf]
    refine okc ?_
    rw [cw_wp]
    simp (disch := omega) only [W1061, r_2, r_Li, h80_1007, s_41, s_0, ci_m1, r_90, r_4, r_La, ci_16, h79_1052, r_5, s_43, ci_0, h60_10_10, r_49, ci_1, r_18, h79_1057, s_40, r_52, r_16, s_8, r_In, h79_1060, h79_1003, enR, LG, LSt, LC, nlR, psR, TK, up_s, up_n, up_u, lt_nI, le_nI, eq_nI, true_and, and_true, if_true, if_false, Nat.zero_add, Nat.add_zero, nI_add, ↓reduceIte, Nat.reduceAdd, Nat.reduceMul, Nat.reduceSub, Nat.reduceLT, Nat.reduceLeDiff, Nat.reduceEqDiff, Nat.not_lt_zero, Nat.lt_irrefl, decide_true, BEq.rfl, nm1, nm2, nm3, nm4, nm9, ngc, eq_self, List.length_cons, List.length_nil, m_isRow, hr5, m_felt_unlike hr6 q5 q4 hw2 (by omega) q6 hf]
    exact okm (rl_inv (rl_found (k := 3) (by decide) H))
  | true =>
    obtain ⟨R, hR⟩ := felt_ok hf
    have hR7 : ∀ k, k < n r → e 70 (40 * r + k) = nI (R k) ∧ R k < 10 := fun k hk => ⟨by rw [q6 k hk]; exact (hR k hk).1, (hR k hk).2⟩
    have hr10 : r < 10 := by omega
    have hSL := sen_SL hb hS
    have hall : 2 ^ P - 1 < 128 := by have := pow_le7 hP; have := Nat.two_pow_pos P; omega
    rw [cw_wp]
    simp (disch := omega) only [W927, r_2, r_Li, h80_948, s_41, s_0, ci_m1, r_90, r_4, r_La, h60_9_0, ci_16, h79_955, r_5, s_40, h60_9_5, ci_0, h60_9_12, h79_305, h79_606, h61_9_15, h79_605, h68_1, enR, LG, LSt, LC, nlR, psR, TK, up_s, up_n, up_u, lt_nI, le_nI, eq_nI, true_and, and_true, if_true, if_false, Nat.zero_add, Nat.add_zero, nI_add, ↓reduceIte, Nat.reduceAdd, Nat.reduceMul, Nat.reduceSub, Nat.reduceLT, Nat.reduceLeDiff, Nat.reduceEqDiff, Nat.not_lt_zero, Nat.lt_irrefl, decide_true, BEq.rfl, nm1, nm2, nm3, nm4, nm9, ngc, eq_self, List.length_cons, List.length_nil, c_isRow, hr6, c_felt_ok (show r < 10 by omega) q2 q3 hcap hw2 (by omega) hf, hq, c_allPlaces hl hC hP, c_begun (show 0 < 2 by omega) hSL hr10 q3 hcap (Nat.zero_le _) hR, c_reached (show 0 < 2 by omega) hSL hr10 q3 hcap hR, Nat.sub_zero]
    refine okc ?_
    rw [cw_wp]
    simp (disch := omega) only [W1061, r_2, r_Li, h80_1007, s_41, s_0, ci_m1, r_90, r_4, r_La, ci_16, h79_1052, r_5, s_43, ci_0, h60_10_10, r_49, ci_1, r_18, h79_1057, s_40, r_52, r_16, s_8, r_In, h79_1060, h79_1003, enR, LG, LSt, LC, nlR, psR, TK, up_s, up_n, up_u, lt_nI, le_nI, eq_nI, true_and, and_true, if_true, if_false, Nat.zero_add, Nat.add_zero, nI_add, ↓reduceIte, Nat.reduceAdd, Nat.reduceMul, Nat.reduceSub, Nat.reduceLT, Nat.reduceLeDiff, Nat.reduceEqDiff, Nat.not_lt_zero, Nat.lt_irrefl, decide_true, BEq.rfl, nm1, nm2, nm3, nm4, nm9, ngc, eq_self, List.length_cons, List.length_nil, m_isRow, hr5, m_felt_ok hr6 q5 q4 hw2 (by omega) q6 hf]
    rw [lp_mwhere hM hb hr6 q4 q5 hR7 P 0 0 (by omega), where_eq hb]
    exact okm (rl_inv (rl_ask H))
theorem op_next {x : Int32} (H : RL t z s v g w q ct cn cc di dr df li la sf sl a b e o B n P N W K O T J l Ds Dr Df Dp KB) : OPI (d + 20) 929 1063 [.int x] t z X (s, v, g, w, q, ct, cn, cc, di, dr, df, li, la, sf, sl) (a, b, e, o) := by
  obtain ⟨hb, hl, hq, hC, hs, hM, hS⟩ := rl_land H
  have hP := hb.1
  have hN := hb.2.1
  unfold OPI
  rcases ix x (n := 5) (by decide) with h | ⟨h1, h2, h3⟩ | ⟨r, hr, rfl⟩
  · rw [cw_wp]
    simp (disch := omega) only [W929, r_2, r_Li, h80_948, s_41, s_0, ci_m1, r_90, r_4, r_La, h60_9_0, ci_15, h79_955, r_5, s_40, h60_9_5, h60_9_12, h79_305, h79_605, ci_m9, ci_8, ci_0, ci_10, r_49, h79_604, h80_1200, s_45, s_8, r_In, ci_1, r_52, r_46, h61_9_15, h68_1, enR, LG, LSt, LC, nlR, psR, TK, up_s, up_n, up_u, lt_nI, le_nI, eq_nI, true_and, and_true, if_true, if_false, Nat.zero_add, Nat.add_zero, nI_add, ↓reduceIte, Nat.reduceAdd, Nat.reduceMul, Nat.reduceSub, Nat.reduceLT, Nat.reduceLeDiff, Nat.reduceEqDiff, Nat.not_lt_zero, Nat.lt_irrefl, decide_true, BEq.rfl, nm1, nm2, nm3, nm4, nm9, ngc, eq_self, List.length_cons, List.length_nil, c_isRow, h]
    refine okc ?_
    rw [cw_wp]
    simp (disch := omega) only [W1063, r_2, r_Li, h80_1007, s_41, s_0, ci_m1, r_90, r_4, r_La, ci_15, h79_1052, r_5, s_43, h79_1060, ci_0, h79_1057, ci_m9, ci_1048576, ci_9, r_50, h79_1056, h80_1006, s_45, r_49, r_52, s_8, r_In, ci_1, r_47, h79_1003, enR, LG, LSt, LC, nlR, psR, TK, up_s, up_n, up_u, lt_nI, le_nI, eq_nI, true_and, and_true, if_true, if_false, Nat.zero_add, Nat.add_zero, nI_add, ↓reduceIte, Nat.reduceAdd, Nat.reduceMul, Nat.reduceSub, Nat.reduceLT, Nat.reduceLeDiff, Nat.reduceEqDiff, Nat.not_lt_zero, Nat.lt_irrefl, decide_true, BEq.rfl, nm1, nm2, nm3, nm4, nm9, ngc, eq_self, List.length_cons, List.length_nil, m_isRow, h]
    exact okm (rl_inv (rl_t H))
  · rw [cw_wp]
    simp (disch := omega) only [W929, r_2, r_Li, h80_948, s_41, s_0, ci_m1, r_90, r_4, r_La, h60_9_0, ci_15, h79_955, r_5, s_40, h60_9_5, h60_9_12, h79_305, h79_605, ci_m9, ci_8, ci_0, ci_10, r_49, h79_604, h80_1200, s_45, s_8, r_In, ci_1, r_52, r_46, h61_9_15, h68_1, enR, LG, LSt, LC, nlR, psR, TK, up_s, up_n, up_u, lt_nI, le_nI, eq_nI, true_and, and_true, if_true, if_false, Nat.zero_add, Nat.add_zero, nI_add, ↓reduceIte, Nat.reduceAdd, Nat.reduceMul, Nat.reduceSub, Nat.reduceLT, Nat.reduceLeDiff, Nat.reduceEqDiff, Nat.not_lt_zero, Nat.lt_irrefl, decide_true, BEq.rfl, nm1, nm2, nm3, nm4, nm9, ngc, eq_self, List.length_cons, List.length_nil, c_isRow, h1, h2]
    refine okc ?_
    rw [cw_wp]
    simp (disch := omega) only [W1063, r_2, r_Li, h80_1007, s_41, s_0, ci_m1, r_90, r_4, r_La, ci_15, h79_1052, r_5, s_43, h79_1060, ci_0, h79_1057, ci_m9, ci_1048576, ci_9, r_50, h79_1056, h80_1006, s_45, r_49, r_52, s_8, r_In, ci_1, r_47, h79_1003, enR, LG, LSt, LC, nlR, psR, TK, up_s, up_n, up_u, lt_nI, le_nI, eq_nI, true_and, and_true, if_true, if_false, Nat.zero_add, Nat.add_zero, nI_add, ↓reduceIte, Nat.reduceAdd, Nat.reduceMul, Nat.reduceSub, Nat.reduceLT, Nat.reduceLeDiff, Nat.reduceEqDiff, Nat.not_lt_zero, Nat.lt_irrefl, decide_true, BEq.rfl, nm1, nm2, nm3, nm4, nm9, ngc, eq_self, List.length_cons, List.length_nil, m_isRow, h1, h3]
    exact okm (rl_inv (rl_t H))
  have hr6 : r < 6 := by omega
  have hr5 : ¬ 5 < r := by omega
  rcases rl_r H hr6 with ⟨q1, q2, q3, q4, q5⟩ | ⟨q1, q2, q3, q4, q5, q6⟩
  · rw [cw_wp]
    simp (disch := omega) only [W929, r_2, r_Li, h80_948, s_41, s_0, ci_m1, r_90, r_4, r_La, h60_9_0, ci_15, h79_955, r_5, s_40, h60_9_5, h60_9_12, h79_305, h79_605, ci_m9, ci_8, ci_0, ci_10, r_49, h79_604, h80_1200, s_45, s_8, r_In, ci_1, r_52, r_46, h61_9_15, h68_1, enR, LG, LSt, LC, nlR, psR, TK, up_s, up_n, up_u, lt_nI, le_nI, eq_nI, true_and, and_true, if_true, if_false, Nat.zero_add, Nat.add_zero, nI_add, ↓reduceIte, Nat.reduceAdd, Nat.reduceMul, Nat.reduceSub, Nat.reduceLT, Nat.reduceLeDiff, Nat.reduceEqDiff, Nat.not_lt_zero, Nat.lt_irrefl, decide_true, BEq.rfl, nm1, nm2, nm3, nm4, nm9, ngc, eq_self, List.length_cons, List.length_nil, c_isRow, hr6, c_felt_no (show r < 10 by omega) q2]
    refine okc ?_
    rw [cw_wp]
    simp (disch := omega) only [W1063, r_2, r_Li, h80_1007, s_41, s_0, ci_m1, r_90, r_4, r_La, ci_15, h79_1052, r_5, s_43, h79_1060, ci_0, h79_1057, ci_m9, ci_1048576, ci_9, r_50, h79_1056, h80_1006, s_45, r_49, r_52, s_8, r_In, ci_1, r_47, h79_1003, enR, LG, LSt, LC, nlR, psR, TK, up_s, up_n, up_u, lt_nI, le_nI, eq_nI, true_and, and_true, if_true, if_false, Nat.zero_add, Nat.add_zero, nI_add, ↓reduceIte, Nat.reduceAdd, Nat.reduceMul, Nat.reduceSub, Nat.reduceLT, Nat.reduceLeDiff, Nat.reduceEqDiff, Nat.not_lt_zero, Nat.lt_irrefl, decide_true, BEq.rfl, nm1, nm2, nm3, nm4, nm9, ngc, eq_self, List.length_cons, List.length_nil, m_isRow, hr5, m_felt_no hr6 q5]
    exact okm (rl_inv (rl_found (k := 1) (by decide) H))
  by_cases hw : 15 < n r
  · rw [cw_wp]
    simp (disch := omega) only [W929, r_2, r_Li, h80_948, s_41, s_0, ci_m1, r_90, r_4, r_La, h60_9_0, ci_15, h79_955, r_5, s_40, h60_9_5, h60_9_12, h79_305, h79_605, ci_m9, ci_8, ci_0, ci_10, r_49, h79_604, h80_1200, s_45, s_8, r_In, ci_1, r_52, r_46, h61_9_15, h68_1, enR, LG, LSt, LC, nlR, psR, TK, up_s, up_n, up_u, lt_nI, le_nI, eq_nI, true_and, and_true, if_true, if_false, Nat.zero_add, Nat.add_zero, nI_add, ↓reduceIte, Nat.reduceAdd, Nat.reduceMul, Nat.reduceSub, Nat.reduceLT, Nat.reduceLeDiff, Nat.reduceEqDiff, Nat.not_lt_zero, Nat.lt_irrefl, decide_true, BEq.rfl, nm1, nm2, nm3, nm4, nm9, ngc, eq_self, List.length_cons, List.length_nil, c_isRow, hr6, c_felt_size (show r < 10 by omega) q2 q3 (show n r ≤ 80 by omega) hw]
    refine okc ?_
    rw [cw_wp]
    simp (disch := omega) only [W1063, r_2, r_Li, h80_1007, s_41, s_0, ci_m1, r_90, r_4, r_La, ci_15, h79_1052, r_5, s_43, h79_1060, ci_0, h79_1057, ci_m9, ci_1048576, ci_9, r_50, h79_1056, h80_1006, s_45, r_49, r_52, s_8, r_In, ci_1, r_47, h79_1003, enR, LG, LSt, LC, nlR, psR, TK, up_s, up_n, up_u, lt_nI, le_nI, eq_nI, true_and, and_true, if_true, if_false, Nat.zero_add, Nat.add_zero, nI_add, ↓reduceIte, Nat.reduceAdd, Nat.reduceMul, Nat.reduceSub, Nat.reduceLT, Nat.reduceLeDiff, Nat.reduceEqDiff, Nat.not_lt_zero, Nat.lt_irrefl, decide_true, BEq.rfl, nm1, nm2, nm3, nm4, nm9, ngc, eq_self, List.length_cons, List.length_nil, m_isRow, hr5, m_felt_size hr6 q5 q4 hw]
    exact okm (rl_inv (rl_found (k := 5) (by decide) H))
  have hw2 : n r ≤ 15 := by omega
  have hcap : n r ≤ cap r := by rw [show cap r = 40 from if_pos hr6]; exact q4
  cases hf : felt (cc r) (n r) with
  | false =>
    rw [cw_wp]
    simp (disch := omega) only [W929, r_2, r_Li, h80_948, s_41, s_0, ci_m1, r_90, r_4, r_La, h60_9_0, ci_15, h79_955, r_5, s_40, h60_9_5, h60_9_12, h79_305, h79_605, ci_m9, ci_8, ci_0, ci_10, r_49, h79_604, h80_1200, s_45, s_8, r_In, ci_1, r_52, r_46, h61_9_15, h68_1, enR, LG, LSt, LC, nlR, psR, TK, up_s, up_n, up_u, lt_nI, le_nI, eq_nI, true_and, and_true, if_true, if_false, Nat.zero_add, Nat.add_zero, nI_add, ↓reduceIte, Nat.reduceAdd, Nat.reduceMul, Nat.reduceSub, Nat.reduceLT, Nat.reduceLeDiff, Nat.reduceEqDiff, Nat.not_lt_zero, Nat.lt_irrefl, decide_true, BEq.rfl, nm1, nm2, nm3, nm4, nm9, ngc, eq_self, List.length_cons, List.length_nil, c_isRow, hr6, c_felt_unlike (show r < 10 by omega) q2 q3 hcap hw2 (by omega) hf]
    refine okc ?_
    rw [cw_wp]
    simp (disch := omega) only [W1063, r_2, r_Li, h80_1007, s_41, s_0, ci_m1, r_90, r_4, r_La, ci_15, h79_1052, r_5, s_43, h79_1060, ci_0, h79_1057, ci_m9, ci_1048576, ci_9, r_50, h79_1056, h80_1006, s_45, r_49, r_52, s_8, r_In, ci_1, r_47, h79_1003, enR, LG, LSt, LC, nlR, psR, TK, up_s, up_n, up_u, lt_nI, le_nI, eq_nI, true_and, and_true, if_true, if_false, Nat.zero_add, Nat.add_zero, nI_add, ↓reduceIte, Nat.reduceAdd, Nat.reduceMul, Nat.reduceSub, Nat.reduceLT, Nat.reduceLeDiff, Nat.reduceEqDiff, Nat.not_lt_zero, Nat.lt_irrefl, decide_true, BEq.rfl, nm1, nm2, nm3, nm4, nm9, ngc, eq_self, List.length_cons, List.length_nil, m_isRow, hr5, m_felt_unlike hr6 q5 q4 hw2 (by omega) q6 hf]
    exact okm (rl_inv (rl_found (k := 3) (by decide) H))
  | true =>
    obtain ⟨R, hR⟩ := felt_ok hf
    have hR7 : ∀ k, k < n r → e 70 (40 * r + k) = nI (R k) ∧ R k < 10 := fun k hk => ⟨by rw [q6 k hk]; exact (hR k hk).1, (hR k hk).2⟩
    have hr10 : r < 10 := by omega
    have hSL := sen_SL hb hS
    have hall : 2 ^ P - 1 < 128 := by have := pow_le7 hP; have := Nat.two_pow_pos P; omega
    have hrl := run_lt (F := fe W K J) (R := R) hb (n r) 0 _ hall
    have hrl2 : run (lds N (fe W K J) K O T) R 0 (n r) (2 ^ P - 1) < 65536 := by omega
    rw [cw_wp]
    simp (disch := omega) only [W929, r_2, r_Li, h80_948, s_41, s_0, ci_m1, r_90, r_4, r_La, h60_9_0, ci_15, h79_955, r_5, s_40, h60_9_5, h60_9_12, h79_305, h79_605, ci_m9, ci_8, ci_0, ci_10, r_49, h79_604, h80_1200, s_45, s_8, r_In, ci_1, r_52, r_46, h61_9_15, h68_1, enR, LG, LSt, LC, nlR, psR, TK, up_s, up_n, up_u, lt_nI, le_nI, eq_nI, true_and, and_true, if_true, if_false, Nat.zero_add, Nat.add_zero, nI_add, ↓reduceIte, Nat.reduceAdd, Nat.reduceMul, Nat.reduceSub, Nat.reduceLT, Nat.reduceLeDiff, Nat.reduceEqDiff, Nat.not_lt_zero, Nat.lt_irrefl, decide_true, BEq.rfl, nm1, nm2, nm3, nm4, nm9, ngc, eq_self, List.length_cons, List.length_nil, c_isRow, hr6, c_felt_ok (show r < 10 by omega) q2 q3 hcap hw2 (by omega) hf, hq, c_allPlaces hl hC hP, c_reached (show 0 < 2 by omega) hSL hr10 q3 hcap hR]
    refine (lp_cnext hb hSL 10 0 none (by omega) (fun q hq => by cases hq)).mpr ?_
    have hmod : ∀ (Q' : Option Value → AZ → AH → Prop) (C' : CT), (match foldu (nxF (pcs (lds N (fe W K J) K O T) (run (lds N (fe W K J) K O T) R 0 (n r) (2 ^ P - 1)))) 0 10 none with | none => Q' (some (.int (-9))) z (Hp X C' (a, b, e, o)) | some q => Q' (some (.int (nI q.1))) z (Hp X C' (va_up a 2 (nI q.2), b, e, o))) → Cw (d + 20) 1063 [.ref 67, .int (nI r)] z (Hp X C' (a, b, e, o)) Q' := fun Q' C' hQ => by
      rw [cw_wp]
      simp (disch := omega) only [W1063, r_2, r_Li, h80_1007, s_41, s_0, ci_m1, r_90, r_4, r_La, ci_15, h79_1052, r_5, s_43, h79_1060, ci_0, h79_1057, ci_m9, ci_1048576, ci_9, r_50, h79_1056, h80_1006, s_45, r_49, r_52, s_8, r_In, ci_1, r_47, h79_1003, enR, LG, LSt, LC, nlR, psR, TK, up_s, up_n, up_u, lt_nI, le_nI, eq_nI, true_and, and_true, if_true, if_false, Nat.zero_add, Nat.add_zero, nI_add, ↓reduceIte, Nat.reduceAdd, Nat.reduceMul, Nat.reduceSub, Nat.reduceLT, Nat.reduceLeDiff, Nat.reduceEqDiff, Nat.not_lt_zero, Nat.lt_irrefl, decide_true, BEq.rfl, nm1, nm2, nm3, nm4, nm9, ngc, eq_self, List.length_cons, List.length_nil, m_isRow, hr5, m_felt_ok hr6 q5 q4 hw2 (by omega) q6 hf, m_all hM hP, m_endsOf hM hb hr6 q4 q5 hR7 (Nat.zero_le _) hall, Nat.sub_zero]
      exact (lp_mnext hM hb hrl2 10 0 none (by omega) (fun q hq => by cases hq)).mpr hQ
    show (match foldu (nxF (pcs (lds N (fe W K J) K O T) (run (lds N (fe W K J) K O T) R 0 (n r) (2 ^ P - 1)))) 0 10 none with | none => _ | some q => _)
    cases hres : foldu (nxF (pcs (lds N (fe W K J) K O T) (run (lds N (fe W K J) K O T) R 0 (n r) (2 ^ P - 1)))) 0 10 none with
    | none =>
      refine okc (hmod _ _ ?_)
      rw [hres]
      exact okm (rl_inv (rl_t H))
    | some q =>
      refine okc (hmod _ _ ?_)
      rw [hres]
      exact okm (rl_inv (rl_ask H))
end

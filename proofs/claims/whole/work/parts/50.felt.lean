/-! felt rows: what refuses them; steps of the model -/
theorem foldu_or {G : Nat → Nat → Nat} {c : Nat → Prop} {j : Nat} : ∀ (q k a : Nat), (∀ i x, k ≤ i → i < k + q → ((G i x).testBit j = true ↔ x.testBit j = true ∨ c i)) → ((foldu G k q a).testBit j = true ↔ a.testBit j = true ∨ ∃ i, k ≤ i ∧ i < k + q ∧ c i) := by
  intro q
  induction q with
  | zero =>
    intro k a _
    show a.testBit j = true ↔ _
    constructor
    · exact Or.inl
    · rintro (h | ⟨i, h1, h2, -⟩)
      · exact h
      · omega
  | succ q ih =>
    intro k a h
    show (foldu G (k + 1) q (G k a)).testBit j = true ↔ _
    rw [ih (k + 1) (G k a) (fun i x h1 h2 => h i x (by omega) (by omega)), h k a (by omega) (by omega)]
    constructor
    · rintro ((h1 | h1) | ⟨i, h1, h2, h3⟩)
      · exact Or.inl h1
      · exact Or.inr ⟨k, by omega, by omega, h1⟩
      · exact Or.inr ⟨i, by omega, by omega, h3⟩
    · rintro (h1 | ⟨i, h1, h2, h3⟩)
      · exact Or.inl (Or.inl h1)
      · by_cases h4 : i = k
        · subst h4; exact Or.inl (Or.inr h3)
        · exact Or.inr ⟨i, by omega, by omega, h3⟩
theorem or_pow {x k j : Nat} : (x ||| 2 ^ k).testBit j = true ↔ x.testBit j = true ∨ k = j := by
  rw [Nat.testBit_or, Nat.testBit_two_pow, Bool.or_eq_true, decide_eq_true_eq]
theorem eq_bits {x y : Nat} (h : ∀ j, x.testBit j = true ↔ y.testBit j = true) : x = y := Nat.eq_of_testBit_eq (fun j => Bool.eq_iff_iff.mpr (h j))
theorem lds_bit (N : Nat) (F K O T : Nat → Nat) (p v j : Nat) : (lds N F K O T p v).testBit j = true ↔ ∃ i, i < N ∧ F i = v ∧ ldm K O T i p = some j := by
  unfold lds
  rw [foldu_or (c := fun i => F i = v ∧ ldm K O T i p = some j) N 0 0 (fun i x _ _ => ?_)]
  · simp
  · show (ldsF F K O T p v i x).testBit j = true ↔ _
    unfold ldsF
    by_cases h : F i = v
    · rw [if_pos h]
      cases hd : ldm K O T i p with
      | none => simp [h]
      | some q => simp only [or_pow, h, true_and, Option.some.injEq]
    · rw [if_neg h]
      simp [h]
theorem stp_bit (L : Nat → Nat → Nat) (S v j : Nat) : (stp L S v).testBit j = true ↔ ∃ p, p < 7 ∧ S.testBit p = true ∧ (L p v).testBit j = true := by
  unfold stp
  rw [foldu_or (c := fun p => S.testBit p = true ∧ (L p v).testBit j = true) 7 0 0 (fun i x _ _ => ?_)]
  · simp
  · show (stpF L S v i x).testBit j = true ↔ _
    unfold stpF
    by_cases h : S.testBit i = true
    · rw [if_pos h, Nat.testBit_or, Bool.or_eq_true]
      simp [h]
    · rw [if_neg h]
      simp [h]
/-- the model's step -/
def ssG (K O T : Nat → Nat) (S i q t : Nat) : Nat := match ldm K O T i q with
  | none => t
  | some w => if S.testBit q = true then t ||| 2 ^ w else t
def ssF (F K O T : Nat → Nat) (P S v i t : Nat) : Nat := if F i = v then foldu (ssG K O T S i) 0 P t else t
theorem ss_stp {P N W : Nat} {K O T J F : Nat → Nat} {S v : Nat} (hb : LB P N W K O T J) : foldu (ssF F K O T P S v) 0 N 0 = stp (lds N F K O T) S v := by
  apply eq_bits
  intro j
  rw [stp_bit, foldu_or (c := fun i => F i = v ∧ ∃ q, q < P ∧ S.testBit q = true ∧ ldm K O T i q = some j) N 0 0 (fun i x _ _ => ?_)]
  · constructor
    · rintro (h | ⟨i, -, hi, h1, q, h2, h3, h4⟩)
      · simp at h
      · have hP := hb.1
        exact ⟨q, by omega, h3, (lds_bit N F K O T q v j).mpr ⟨i, by omega, h1, h4⟩⟩
    · rintro ⟨p, h1, h2, h3⟩
      obtain ⟨i, h4, h5, h6⟩ := (lds_bit N F K O T p v j).mp h3
      refine Or.inr ⟨i, by omega, by omega, h5, p, ?_, h2, h6⟩
      obtain ⟨-, b2, b3, -⟩ := hb.2.2.2.2 i h4
      unfold ldm at h6
      split at h6
      · omega
      · split at h6
        · omega
        · cases h6
  · show (ssF F K O T P S v i x).testBit j = true ↔ _
    unfold ssF
    by_cases h : F i = v
    · rw [if_pos h, foldu_or (c := fun q => S.testBit q = true ∧ ldm K O T i q = some j) P 0 x (fun q y _ _ => ?_)]
      · simp [h]
      · show (ssG K O T S i q y).testBit j = true ↔ _
        unfold ssG
        cases hd : ldm K O T i q with
        | none => simp
        | some w =>
          by_cases h2 : S.testBit q = true
          · simp only [h2, if_true, or_pow, true_and, Option.some.injEq]
          · simp [h2]
    · rw [if_neg h]
      simp [h]
theorem stp_lt {P N W : Nat} {K O T J F : Nat → Nat} {S v : Nat} (hb : LB P N W K O T J) : stp (lds N F K O T) S v < 2 ^ P :=
  Nat.lt_pow_two_of_testBit _ (fun j hj => by
    cases h : (stp (lds N F K O T) S v).testBit j with
    | false => rfl
    | true =>
      obtain ⟨p, h1, h2, h3⟩ := (stp_bit _ _ _ _).mp h
      obtain ⟨i, h4, h5, h6⟩ := (lds_bit N F K O T p v j).mp h3
      have := ldm_lt hb h4 h6
      omega)
theorem pow_le7 {P : Nat} (h : P ≤ 7) : 2 ^ P ≤ 128 := Nat.pow_le_pow_right (n := 2) (by decide) h
/-- the whole felt row driven from a set -/
def run (L : Nat → Nat → Nat) (R : Nat → Nat) (k j S : Nat) : Nat := foldu (rcF L R) k j S
theorem run_lt {P N W : Nat} {K O T J F R : Nat → Nat} (hb : LB P N W K O T J) : ∀ (j k S : Nat), S < 128 → run (lds N F K O T) R k j S < 128 := by
  intro j
  induction j with
  | zero => intro k S h; exact h
  | succ j ih =>
    intro k S h
    have := stp_lt (F := F) (S := S) (v := R k) hb
    have := pow_le7 hb.1
    exact ih (k + 1) _ (by show stp (lds N F K O T) S (R k) < 128; omega)
def felt (g : Nat → Int32) (n : Nat) : Bool := allb (wth g (nI 0) (nI 9)) 0 n
theorem felt_ok {g : Nat → Int32} {n : Nat} (h : felt g n = true) : ∃ R : Nat → Nat, ∀ k, k < n → g k = nI (R k) ∧ R k < 10 := by
  have h1 := (allb_iff _ n 0).mp h
  refine ⟨fun k => (g k).toNatClampNeg, fun k hk => ?_⟩
  have h2 := h1 k (by omega) (by omega)
  simp only [wth, decide_eq_true_eq] at h2
  obtain ⟨j, hj, e⟩ := nI_of' h2.1
  show g k = nI (g k).toNatClampNeg ∧ (g k).toNatClampNeg < 10
  rw [e] at h2 ⊢
  rw [nI_ltI (by decide) hj] at h2
  rw [nI_clamp hj]
  exact ⟨rfl, by omega⟩
section
variable {d : Nat} {z : AZ} {f : AH} {Q : Option Value → AZ → AH → Prop} {X : Nat × (Nat → Int32)} {C : CT} {a : Nat → Int32} {b : Nat → Int64} {e : Nat → Nat → Int32} {o : Nat → Nat → Int64} {P N W : Nat} {K O T J : Nat → Nat} {B : Nat → Bool}
theorem lp_mss2 {S v i : Nat} (h : MLn a (e 74) P N W K O T J) (hb : LB P N W K O T J) (hi : i < N) (hv : fe W K J i = v) (hS : S < 65536) : ∀ (j q t : Nat), q + j = P → (Wp (d + 2) 1056 17 [some (.ref 67), some (.int (nI S)), some (.int (nI v)), some (.int (nI t)), some (.int (nI i)), some (.int (nI q))] [] z (Hp X C (a, b, e, o)) Q ↔ Wp (d + 2) 1056 5 [some (.ref 67), some (.int (nI S)), some (.int (nI v)), some (.int (nI (foldu (ssG K O T S i) q j t))), some (.int (nI (i + 1)))] [] z (Hp X C (a, b, e, o)) Q) := by
  have hP := hb.1
  have hN := hb.2.1
  have h10 := h.1
  have hf := fe_lt hb hi
  intro j
  induction j with
  | zero =>
    intro q t hq
    have hq : q = P := by omega
    subst hq
    rw [W1056_17]
    simp (disch := omega) only [W1056, s_0, ci_0, r_5, r_2, r_Li, r_4, r_La, h60_10_11, r_49, h60_10_10, h79_1032, r_47, h80_1005, s_40, h79_1038, ci_m9, r_46, ci_1, r_18, r_52, r_16, s_8, r_In, r_90, enR, LG, LSt, LC, nlR, psR, TK, up_s, up_n, up_u, lt_nI, le_nI, eq_nI, true_and, and_true, if_true, if_false, Nat.zero_add, Nat.add_zero, nI_add, ↓reduceIte, Nat.reduceAdd, Nat.reduceMul, Nat.reduceSub, Nat.reduceLT, Nat.reduceLeDiff, Nat.reduceEqDiff, Nat.not_lt_zero, Nat.lt_irrefl, decide_true, BEq.rfl, nm1, nm2, nm3, nm4, nm9, ngc, eq_self, List.length_cons, List.length_nil, h10, foldu]
  | succ j ih =>
    intro q t hq
    have h1 : q < P := by omega
    rw [W1056_17]
    cases hl : ldm K O T i q with
    | none =>
      by_cases h2 : S.testBit q = true
      · simp (disch := omega) only [W1056, s_0, ci_0, r_5, r_2, r_Li, r_4, r_La, h60_10_11, r_49, h60_10_10, h79_1032, r_47, h80_1005, s_40, h79_1038, ci_m9, r_46, ci_1, r_18, r_52, r_16, s_8, r_In, r_90, enR, LG, LSt, LC, nlR, psR, TK, up_s, up_n, up_u, lt_nI, le_nI, eq_nI, true_and, and_true, if_true, if_false, Nat.zero_add, Nat.add_zero, nI_add, ↓reduceIte, Nat.reduceAdd, Nat.reduceMul, Nat.reduceSub, Nat.reduceLT, Nat.reduceLeDiff, Nat.reduceEqDiff, Nat.not_lt_zero, Nat.lt_irrefl, decide_true, BEq.rfl, nm1, nm2, nm3, nm4, nm9, ngc, eq_self, List.length_cons, List.length_nil, h10, h1, m_feelOf h hb hi, hv, m_has, h2, m_leads h hb hi (show q < 65536 by omega), hl, o2i, foldu, ssG, nI_or, Nat.or_zero]
        exact ih (q + 1) _ (by omega)
      · simp (disch := omega) only [W1056, s_0, ci_0, r_5, r_2, r_Li, r_4, r_La, h60_10_11, r_49, h60_10_10, h79_1032, r_47, h80_1005, s_40, h79_1038, ci_m9, r_46, ci_1, r_18, r_52, r_16, s_8, r_In, r_90, enR, LG, LSt, LC, nlR, psR, TK, up_s, up_n, up_u, lt_nI, le_nI, eq_nI, true_and, and_true, if_true, if_false, Nat.zero_add, Nat.add_zero, nI_add, ↓reduceIte, Nat.reduceAdd, Nat.reduceMul, Nat.reduceSub, Nat.reduceLT, Nat.reduceLeDiff, Nat.reduceEqDiff, Nat.not_lt_zero, Nat.lt_irrefl, decide_true, BEq.rfl, nm1, nm2, nm3, nm4, nm9, ngc, eq_self, List.length_cons, List.length_nil, h10, h1, m_feelOf h hb hi, hv, m_has, h2, m_leads h hb hi (show q < 65536 by omega), hl, o2i, foldu, ssG, nI_or, Nat.or_zero, Bool.false_eq_true]
        exact ih (q + 1) _ (by omega)
    | some w =>
      have hw := ldm_lt hb hi hl
      by_cases h2 : S.testBit q = true
      · simp (disch := omega) only [W1056, s_0, ci_0, r_5, r_2, r_Li, r_4, r_La, h60_10_11, r_49, h60_10_10, h79_1032, r_47, h80_1005, s_40, h79_1038, ci_m9, r_46, ci_1, r_18, r_52, r_16, s_8, r_In, r_90, enR, LG, LSt, LC, nlR, psR, TK, up_s, up_n, up_u, lt_nI, le_nI, eq_nI, true_and, and_true, if_true, if_false, Nat.zero_add, Nat.add_zero, nI_add, ↓reduceIte, Nat.reduceAdd, Nat.reduceMul, Nat.reduceSub, Nat.reduceLT, Nat.reduceLeDiff, Nat.reduceEqDiff, Nat.not_lt_zero, Nat.lt_irrefl, decide_true, BEq.rfl, nm1, nm2, nm3, nm4, nm9, ngc, eq_self, List.length_cons, List.length_nil, h10, h1, m_feelOf h hb hi, hv, m_has, h2, m_leads h hb hi (show q < 65536 by omega), hl, o2i, foldu, ssG, nI_or, nI_bit]
        exact ih (q + 1) _ (by omega)
      · simp (disch := omega) only [W1056, s_0, ci_0, r_5, r_2, r_Li, r_4, r_La, h60_10_11, r_49, h60_10_10, h79_1032, r_47, h80_1005, s_40, h79_1038, ci_m9, r_46, ci_1, r_18, r_52, r_16, s_8, r_In, r_90, enR, LG, LSt, LC, nlR, psR, TK, up_s, up_n, up_u, lt_nI, le_nI, eq_nI, true_and, and_true, if_true, if_false, Nat.zero_add, Nat.add_zero, nI_add, ↓reduceIte, Nat.reduceAdd, Nat.reduceMul, Nat.reduceSub, Nat.reduceLT, Nat.reduceLeDiff, Nat.reduceEqDiff, Nat.not_lt_zero, Nat.lt_irrefl, decide_true, BEq.rfl, nm1, nm2, nm3, nm4, nm9, ngc, eq_self, List.length_cons, List.length_nil, h10, h1, m_feelOf h hb hi, hv, m_has, h2, m_leads h hb hi (show q < 65536 by omega), hl, o2i, foldu, ssG, nI_or, Nat.or_zero, Bool.false_eq_true]
        exact ih (q + 1) _ (by omega)
theorem lp_mss1 {S v : Nat} (h : MLn a (e 74) P N W K O T J) (hb : LB P N W K O T J) (hS : S < 65536) (hv : v < 65536) : ∀ (j i t : Nat), i + j = N → (Wp (d + 2) 1056 5 [some (.ref 67), some (.int (nI S)), some (.int (nI v)), some (.int (nI t)), some (.int (nI i))] [] z (Hp X C (a, b, e, o)) Q ↔ Q (some (.int (nI (foldu (ssF (fe W K J) K O T P S v) i j t)))) z (Hp X C (a, b, e, o))) := by
  have hP := hb.1
  have hN := hb.2.1
  have h10 := h.1
  have h11 := h.2.1
  intro j
  induction j with
  | zero =>
    intro i t hi
    have hi : i = N := by omega
    subst hi
    rw [W1056_5]
    simp (disch := omega) only [W1056, s_0, ci_0, r_5, r_2, r_Li, r_4, r_La, h60_10_11, r_49, h60_10_10, h79_1032, r_47, h80_1005, s_40, h79_1038, ci_m9, r_46, ci_1, r_18, r_52, r_16, s_8, r_In, r_90, enR, LG, LSt, LC, nlR, psR, TK, up_s, up_n, up_u, lt_nI, le_nI, eq_nI, true_and, and_true, if_true, if_false, Nat.zero_add, Nat.add_zero, nI_add, ↓reduceIte, Nat.reduceAdd, Nat.reduceMul, Nat.reduceSub, Nat.reduceLT, Nat.reduceLeDiff, Nat.reduceEqDiff, Nat.not_lt_zero, Nat.lt_irrefl, decide_true, BEq.rfl, nm1, nm2, nm3, nm4, nm9, ngc, eq_self, List.length_cons, List.length_nil, h11, foldu]
  | succ j ih =>
    intro i t hi
    have h1 : i < N := by omega
    have hf := fe_lt hb h1
    rw [W1056_5]
    by_cases h2 : fe W K J i = v
    · simp (disch := omega) only [W1056, s_0, ci_0, r_5, r_2, r_Li, r_4, r_La, h60_10_11, r_49, h60_10_10, h79_1032, r_47, h80_1005, s_40, h79_1038, ci_m9, r_46, ci_1, r_18, r_52, r_16, s_8, r_In, r_90, enR, LG, LSt, LC, nlR, psR, TK, up_s, up_n, up_u, lt_nI, le_nI, eq_nI, true_and, and_true, if_true, if_false, Nat.zero_add, Nat.add_zero, nI_add, ↓reduceIte, Nat.reduceAdd, Nat.reduceMul, Nat.reduceSub, Nat.reduceLT, Nat.reduceLeDiff, Nat.reduceEqDiff, Nat.not_lt_zero, Nat.lt_irrefl, decide_true, BEq.rfl, nm1, nm2, nm3, nm4, nm9, ngc, eq_self, List.length_cons, List.length_nil, h11, h1]
      rw [lp_mss2 h hb h1 h2 hS P 0 t (by omega), ih (i + 1) _ (by omega)]
      simp only [foldu, ssF, h2, if_true]
    · by_cases hP0 : 0 < P
      · simp (disch := omega) only [W1056, s_0, ci_0, r_5, r_2, r_Li, r_4, r_La, h60_10_11, r_49, h60_10_10, h79_1032, r_47, h80_1005, s_40, h79_1038, ci_m9, r_46, ci_1, r_18, r_52, r_16, s_8, r_In, r_90, enR, LG, LSt, LC, nlR, psR, TK, up_s, up_n, up_u, lt_nI, le_nI, eq_nI, true_and, and_true, if_true, if_false, Nat.zero_add, Nat.add_zero, nI_add, ↓reduceIte, Nat.reduceAdd, Nat.reduceMul, Nat.reduceSub, Nat.reduceLT, Nat.reduceLeDiff, Nat.reduceEqDiff, Nat.not_lt_zero, Nat.lt_irrefl, decide_true, BEq.rfl, nm1, nm2, nm3, nm4, nm9, ngc, eq_self, List.length_cons, List.length_nil, h11, h1]
        rw [W1056_17]
        simp (disch := omega) only [W1056, s_0, ci_0, r_5, r_2, r_Li, r_4, r_La, h60_10_11, r_49, h60_10_10, h79_1032, r_47, h80_1005, s_40, h79_1038, ci_m9, r_46, ci_1, r_18, r_52, r_16, s_8, r_In, r_90, enR, LG, LSt, LC, nlR, psR, TK, up_s, up_n, up_u, lt_nI, le_nI, eq_nI, true_and, and_true, if_true, if_false, Nat.zero_add, Nat.add_zero, nI_add, ↓reduceIte, Nat.reduceAdd, Nat.reduceMul, Nat.reduceSub, Nat.reduceLT, Nat.reduceLeDiff, Nat.reduceEqDiff, Nat.not_lt_zero, Nat.lt_irrefl, decide_true, BEq.rfl, nm1, nm2, nm3, nm4, nm9, ngc, eq_self, List.length_cons, List.length_nil, h10, hP0, m_feelOf h hb h1, h2]
        rw [ih (i + 1) _ (by omega)]
        simp only [foldu, ssF, h2, if_false]
      · obtain ⟨-, b2, -, -⟩ := hb.2.2.2.2 i h1
        omega
theorem m_stepSet {S v : Nat} (h : MLn a (e 74) P N W K O T J) (hb : LB P N W K O T J) (hS : S < 65536) (hv : v < 65536) : Cw (d + 3) 1056 [.ref 67, .int (nI S), .int (nI v)] z (Hp X C (a, b, e, o)) Q ↔ Q (some (.int (nI (stp (lds N (fe W K J) K O T) S v)))) z (Hp X C (a, b, e, o)) := by
  rw [cw_wp]
  simp (disch := omega) only [W1056, s_0, ci_0, r_5, r_2, r_Li, r_4, r_La, h60_10_11, r_49, h60_10_10, h79_1032, r_47, h80_1005, s_40, h79_1038, ci_m9, r_46, ci_1, r_18, r_52, r_16, s_8, r_In, r_90, enR, LG, LSt, LC, nlR, psR, TK, up_s, up_n, up_u, lt_nI, le_nI, eq_nI, true_and, and_true, if_true, if_false, Nat.zero_add, Nat.add_zero, nI_add, ↓reduceIte, Nat.reduceAdd, Nat.reduceMul, Nat.reduceSub, Nat.reduceLT, Nat.reduceLeDiff, Nat.reduceEqDiff, Nat.not_lt_zero, Nat.lt_irrefl, decide_true, BEq.rfl, nm1, nm2, nm3, nm4, nm9, ngc, eq_self, List.length_cons, List.length_nil]
  rw [lp_mss1 h hb hS hv N 0 0 (by omega), ss_stp hb]
theorem lp_mends {r n S0 k0 : Nat} {R : Nat → Nat} (h : MLn a (e 74) P N W K O T J) (hb : LB P N W K O T J) (hr : r < 6) (hn : n ≤ 40) (h69 : e 69 r = nI n) (hR : ∀ k, k < n → e 70 (40 * r + k) = nI (R k) ∧ R k < 10) : ∀ (j k S : Nat), k + j = n → S < 128 → (Wp (d + 3) 1057 6 [some (.ref 67), some (.int (nI r)), some (.int (nI S0)), some (.int (nI k0)), some (.int (nI S)), some (.int (nI k))] [] z (Hp X C (a, b, e, o)) Q ↔ Q (some (.int (nI (run (lds N (fe W K J) K O T) R k j S)))) z (Hp X C (a, b, e, o))) := by
  intro j
  induction j with
  | zero =>
    intro k S hk _
    have hk : k = n := by omega
    subst hk
    rw [W1057_6]
    simp (disch := omega) only [W1057, r_2, r_Li, r_5, r_4, r_La, h60_10_5, r_49, h79_1011, h79_1056, s_8, r_In, ci_1, r_52, r_90, h64_69, enR, LG, LSt, LC, nlR, psR, TK, up_s, up_n, up_u, lt_nI, le_nI, eq_nI, true_and, and_true, if_true, if_false, Nat.zero_add, Nat.add_zero, nI_add, ↓reduceIte, Nat.reduceAdd, Nat.reduceMul, Nat.reduceSub, Nat.reduceLT, Nat.reduceLeDiff, Nat.reduceEqDiff, Nat.not_lt_zero, Nat.lt_irrefl, decide_true, BEq.rfl, nm1, nm2, nm3, nm4, nm9, ngc, eq_self, List.length_cons, List.length_nil, hr, h69, run, foldu]
  | succ j ih =>
    intro k S hk hS
    have h1 : k < n := by omega
    obtain ⟨r1, r2⟩ := hR k h1
    have h3 := stp_lt (F := fe W K J) (S := S) (v := R k) hb
    have h4 := pow_le7 hb.1
    rw [W1057_6]
    simp (disch := omega) only [W1057, r_2, r_Li, r_5, r_4, r_La, h60_10_5, r_49, h79_1011, h79_1056, s_8, r_In, ci_1, r_52, r_90, h64_69, enR, LG, LSt, LC, nlR, psR, TK, up_s, up_n, up_u, lt_nI, le_nI, eq_nI, true_and, and_true, if_true, if_false, Nat.zero_add, Nat.add_zero, nI_add, ↓reduceIte, Nat.reduceAdd, Nat.reduceMul, Nat.reduceSub, Nat.reduceLT, Nat.reduceLeDiff, Nat.reduceEqDiff, Nat.not_lt_zero, Nat.lt_irrefl, decide_true, BEq.rfl, nm1, nm2, nm3, nm4, nm9, ngc, eq_self, List.length_cons, List.length_nil, hr, h69, h1, m_rowAt, r1, m_stepSet h hb (show S < 65536 by omega) (show R k < 65536 by omega)]
    exact ih (k + 1) _ (by omega) (by omega)
theorem m_endsOf {r n S k : Nat} {R : Nat → Nat} (h : MLn a (e 74) P N W K O T J) (hb : LB P N W K O T J) (hr : r < 6) (hn : n ≤ 40) (h69 : e 69 r = nI n) (hR : ∀ k, k < n → e 70 (40 * r + k) = nI (R k) ∧ R k < 10) (hk : k ≤ n) (hS : S < 128) : Cw (d + 4) 1057 [.ref 67, .int (nI r), .int (nI S), .int (nI k)] z (Hp X C (a, b, e, o)) Q ↔ Q (some (.int (nI (run (lds N (fe W K J) K O T) R k (n - k) S)))) z (Hp X C (a, b, e, o)) := by
  rw [cw_wp]
  simp (disch := omega) only [W1057, r_2, r_Li, r_5, r_4, r_La, h60_10_5, r_49, h79_1011, h79_1056, s_8, r_In, ci_1, r_52, r_90, h64_69, enR, LG, LSt, LC, nlR, psR, TK, up_s, up_n, up_u, lt_nI, le_nI, eq_nI, true_and, and_true, if_true, if_false, Nat.zero_add, Nat.add_zero, nI_add, ↓reduceIte, Nat.reduceAdd, Nat.reduceMul, Nat.reduceSub, Nat.reduceLT, Nat.reduceLeDiff, Nat.reduceEqDiff, Nat.not_lt_zero, Nat.lt_irrefl, decide_true, BEq.rfl, nm1, nm2, nm3, nm4, nm9, ngc, eq_self, List.length_cons, List.length_nil]
  exact lp_mends h hb hr hn h69 hR (n - k) k S (by omega) hS
theorem m_all (h : MLn a (e 74) P N W K O T J) (hP : P ≤ 7) : Cw (d + 1) 1060 [.ref 67] z (Hp X C (a, b, e, o)) Q ↔ Q (some (.int (nI (2 ^ P - 1)))) z (Hp X C (a, b, e, o)) := by
  have h0 := h.1
  have h2 := Nat.two_pow_pos P
  rw [cw_wp]
  simp (disch := omega) only [W1060, s_0, ci_1, r_4, r_La, h60_10_10, r_18, r_11, r_90, enR, LG, LSt, LC, nlR, psR, TK, up_s, up_n, up_u, lt_nI, le_nI, eq_nI, true_and, and_true, if_true, if_false, Nat.zero_add, Nat.add_zero, nI_add, ↓reduceIte, Nat.reduceAdd, Nat.reduceMul, Nat.reduceSub, Nat.reduceLT, Nat.reduceLeDiff, Nat.reduceEqDiff, Nat.not_lt_zero, Nat.lt_irrefl, decide_true, BEq.rfl, nm1, nm2, nm3, nm4, nm9, ngc, eq_self, List.length_cons, List.length_nil, h0, nI_bit, nI_sub]
theorem lp_mfelt {r n : Nat} {g : Nat → Int32} {x2 x3 : Int32} (hr : r < 6) (hn : n ≤ 40) (h69 : e 69 r = nI n) (hg : ∀ k, k < n → e 70 (40 * r + k) = g k) : ∀ (j k : Nat), k + j = n → (Wp (d + 3) 1052 31 [some (.ref 67), some (.int (nI r)), some (.int x2), some (.int x3), some (.int (nI k))] [] z (Hp X C (a, b, e, o)) Q ↔ if allb (wth g (nI 0) (nI 9)) k j = true then Q (some (.int (nI 0))) z (Hp X C (a, b, e, o)) else Q (some (.int (-3))) z (Hp X C (va_up a 0 (nI 3), b, va_up e 68 (upd (e 68) 3 (e 68 3 + nI 1)), o))) := by
  intro j
  induction j with
  | zero =>
    intro k hk
    have hk : k = n := by omega
    subst hk
    rw [W1052_31]
    simp (disch := omega) only [W1052, r_4, r_La, r_2, r_Li, h79_1009, r_5, s_43, r_90, h60_10_5, r_51, s_0, ci_5, h79_1002, ci_0, r_49, h79_1011, ci_9, h80_1001, s_41, ci_3, s_8, r_In, ci_1, r_52, h64_69, enR, LG, LSt, LC, nlR, psR, TK, up_s, up_n, up_u, lt_nI, le_nI, eq_nI, true_and, and_true, if_true, if_false, Nat.zero_add, Nat.add_zero, nI_add, ↓reduceIte, Nat.reduceAdd, Nat.reduceMul, Nat.reduceSub, Nat.reduceLT, Nat.reduceLeDiff, Nat.reduceEqDiff, Nat.not_lt_zero, Nat.lt_irrefl, decide_true, BEq.rfl, nm1, nm2, nm3, nm4, nm9, ngc, eq_self, List.length_cons, List.length_nil, hr, h69, allb]
  | succ j ih =>
    intro k hk
    have h1 : k < n := by omega
    have h2 := hg k h1
    rw [W1052_31]
    by_cases h3 : g k < nI 0
    · simp (disch := omega) only [W1052, r_4, r_La, r_2, r_Li, h79_1009, r_5, s_43, r_90, h60_10_5, r_51, s_0, ci_5, h79_1002, ci_0, r_49, h79_1011, ci_9, h80_1001, s_41, ci_3, s_8, r_In, ci_1, r_52, h64_69, enR, LG, LSt, LC, nlR, psR, TK, up_s, up_n, up_u, lt_nI, le_nI, eq_nI, true_and, and_true, if_true, if_false, Nat.zero_add, Nat.add_zero, nI_add, ↓reduceIte, Nat.reduceAdd, Nat.reduceMul, Nat.reduceSub, Nat.reduceLT, Nat.reduceLeDiff, Nat.reduceEqDiff, Nat.not_lt_zero, Nat.lt_irrefl, decide_true, BEq.rfl, nm1, nm2, nm3, nm4, nm9, ngc, eq_self, List.length_cons, List.length_nil, hr, h69, h1, m_rowAt, h2, m_in, h3, m_meet, allb, wth, not_true, false_and, decide_false, Bool.false_and, Bool.false_eq_true]
    · by_cases h4 : nI 9 < g k
      · simp (disch := omega) only [W1052, r_4, r_La, r_2, r_Li, h79_1009, r_5, s_43, r_90, h60_10_5, r_51, s_0, ci_5, h79_1002, ci_0, r_49, h79_1011, ci_9, h80_1001, s_41, ci_3, s_8, r_In, ci_1, r_52, h64_69, enR, LG, LSt, LC, nlR, psR, TK, up_s, up_n, up_u, lt_nI, le_nI, eq_nI, true_and, and_true, if_true, if_false, Nat.zero_add, Nat.add_zero, nI_add, ↓reduceIte, Nat.reduceAdd, Nat.reduceMul, Nat.reduceSub, Nat.reduceLT, Nat.reduceLeDiff, Nat.reduceEqDiff, Nat.not_lt_zero, Nat.lt_irrefl, decide_true, BEq.rfl, nm1, nm2, nm3, nm4, nm9, ngc, eq_self, List.length_cons, List.length_nil, hr, h69, h1, m_rowAt, h2, m_in, h3, h4, m_meet, allb, wth, not_true, and_false, decide_false, Bool.false_and, Bool.false_eq_true]
      · simp (disch := omega) only [W1052, r_4, r_La, r_2, r_Li, h79_1009, r_5, s_43, r_90, h60_10_5, r_51, s_0, ci_5, h79_1002, ci_0, r_49, h79_1011, ci_9, h80_1001, s_41, ci_3, s_8, r_In, ci_1, r_52, h64_69, enR, LG, LSt, LC, nlR, psR, TK, up_s, up_n, up_u, lt_nI, le_nI, eq_nI, true_and, and_true, if_true, if_false, Nat.zero_add, Nat.add_zero, nI_add, ↓reduceIte, Nat.reduceAdd, Nat.reduceMul, Nat.reduceSub, Nat.reduceLT, Nat.reduceLeDiff, Nat.reduceEqDiff, Nat.not_lt_zero, Nat.lt_irrefl, decide_true, BEq.rfl, nm1, nm2, nm3, nm4, nm9, ngc, eq_self, List.length_cons, List.length_nil, hr, h69, h1, m_rowAt, h2, m_in, h3, h4, m_meet, allb, wth, not_false_iff, and_self, Bool.true_and]
        exact ih (k + 1) (by omega)
theorem m_felt_no {r w : Nat} (hr : r < 6) (h : e 69 r = -9) : Cw (d + 4) 1052 [.ref 67, .int (nI r), .int (nI w)] z (Hp X C (a, b, e, o)) Q ↔ Q (some (.int (-3))) z (Hp X C (va_up a 0 (nI 1), b, va_up e 68 (upd (e 68) 1 (e 68 1 + nI 1)), o)) := by
  rw [cw_wp]
  simp (disch := omega) only [W1052, r_4, r_La, r_2, r_Li, h79_1009, r_5, s_43, r_90, h60_10_5, r_51, s_0, ci_5, h79_1002, ci_0, r_49, h79_1011, ci_9, h80_1001, s_41, ci_3, s_8, r_In, ci_1, r_52, h64_69, enR, LG, LSt, LC, nlR, psR, TK, up_s, up_n, up_u, lt_nI, le_nI, eq_nI, true_and, and_true, if_true, if_false, Nat.zero_add, Nat.add_zero, nI_add, ↓reduceIte, Nat.reduceAdd, Nat.reduceMul, Nat.reduceSub, Nat.reduceLT, Nat.reduceLeDiff, Nat.reduceEqDiff, Nat.not_lt_zero, Nat.lt_irrefl, decide_true, BEq.rfl, nm1, nm2, nm3, nm4, nm9, ngc, eq_self, List.length_cons, List.length_nil, m_asked_no hr h]
theorem m_felt_size {r w n : Nat} (hr : r < 6) (h : e 69 r = nI n) (hn : n ≤ 40) (hw : w < n) : Cw (d + 4) 1052 [.ref 67, .int (nI r), .int (nI w)] z (Hp X C (a, b, e, o)) Q ↔ Q (some (.int (-3))) z (Hp X C (va_up a 0 (nI 5), b, va_up e 68 (upd (e 68) 5 (e 68 5 + nI 1)), o)) := by
  rw [cw_wp]
  simp (disch := omega) only [W1052, r_4, r_La, r_2, r_Li, h79_1009, r_5, s_43, r_90, h60_10_5, r_51, s_0, ci_5, h79_1002, ci_0, r_49, h79_1011, ci_9, h80_1001, s_41, ci_3, s_8, r_In, ci_1, r_52, h64_69, enR, LG, LSt, LC, nlR, psR, TK, up_s, up_n, up_u, lt_nI, le_nI, eq_nI, true_and, and_true, if_true, if_false, Nat.zero_add, Nat.add_zero, nI_add, ↓reduceIte, Nat.reduceAdd, Nat.reduceMul, Nat.reduceSub, Nat.reduceLT, Nat.reduceLeDiff, Nat.reduceEqDiff, Nat.not_lt_zero, Nat.lt_irrefl, decide_true, BEq.rfl, nm1, nm2, nm3, nm4, nm9, ngc, eq_self, List.length_cons, List.length_nil, m_asked_ok hr h, hr, h, hw, m_meet]
theorem m_felt_unlike {r w n : Nat} {g : Nat → Int32} (hr : r < 6) (h : e 69 r = nI n) (hn : n ≤ 40) (hw : n ≤ w) (hw2 : w < 65536) (hg : ∀ k, k < n → e 70 (40 * r + k) = g k) (hf : felt g n = false) : Cw (d + 4) 1052 [.ref 67, .int (nI r), .int (nI w)] z (Hp X C (a, b, e, o)) Q ↔ Q (some (.int (-3))) z (Hp X C (va_up a 0 (nI 3), b, va_up e 68 (upd (e 68) 3 (e 68 3 + nI 1)), o)) := by
  have h1 : ¬ w < n := by omega
  rw [cw_wp]
  simp (disch := omega) only [W1052, r_4, r_La, r_2, r_Li, h79_1009, r_5, s_43, r_90, h60_10_5, r_51, s_0, ci_5, h79_1002, ci_0, r_49, h79_1011, ci_9, h80_1001, s_41, ci_3, s_8, r_In, ci_1, r_52, h64_69, enR, LG, LSt, LC, nlR, psR, TK, up_s, up_n, up_u, lt_nI, le_nI, eq_nI, true_and, and_true, if_true, if_false, Nat.zero_add, Nat.add_zero, nI_add, ↓reduceIte, Nat.reduceAdd, Nat.reduceMul, Nat.reduceSub, Nat.reduceLT, Nat.reduceLeDiff, Nat.reduceEqDiff, Nat.not_lt_zero, Nat.lt_irrefl, decide_true, BEq.rfl, nm1, nm2, nm3, nm4, nm9, ngc, eq_self, List.length_cons, List.length_nil, m_asked_ok hr h, hr, h, h1]
  rw [lp_mfelt hr hn h hg n 0 (by omega), if_neg (by rw [show allb (wth g (nI 0) (nI 9)) 0 n = false from hf]; decide)]
theorem m_felt_ok {r w n : Nat} {g : Nat → Int32} (hr : r < 6) (h : e 69 r = nI n) (hn : n ≤ 40) (hw : n ≤ w) (hw2 : w < 65536) (hg : ∀ k, k < n → e 70 (40 * r + k) = g k) (hf : felt g n = true) : Cw (d + 4) 1052 [.ref 67, .int (nI r), .int (nI w)] z (Hp X C (a, b, e, o)) Q ↔ Q (some (.int (nI 0))) z (Hp X C (a, b, e, o)) := by
  have h1 : ¬ w < n := by omega
  rw [cw_wp]
  simp (disch := omega) only [W1052, r_4, r_La, r_2, r_Li, h79_1009, r_5, s_43, r_90, h60_10_5, r_51, s_0, ci_5, h79_1002, ci_0, r_49, h79_1011, ci_9, h80_1001, s_41, ci_3, s_8, r_In, ci_1, r_52, h64_69, enR, LG, LSt, LC, nlR, psR, TK, up_s, up_n, up_u, lt_nI, le_nI, eq_nI, true_and, and_true, if_true, if_false, Nat.zero_add, Nat.add_zero, nI_add, ↓reduceIte, Nat.reduceAdd, Nat.reduceMul, Nat.reduceSub, Nat.reduceLT, Nat.reduceLeDiff, Nat.reduceEqDiff, Nat.not_lt_zero, Nat.lt_irrefl, decide_true, BEq.rfl, nm1, nm2, nm3, nm4, nm9, ngc, eq_self, List.length_cons, List.length_nil, m_asked_ok hr h, hr, h, h1]
  rw [lp_mfelt hr hn h hg n 0 (by omega), if_pos (show allb (wth g (nI 0) (nI 9)) 0 n = true from hf)]
end
section
variable {t d : Nat} {z : AZ} {X : Nat × (Nat → Int32)} {C : CT} {M : MT} {s : Nat → Int32} {v : Nat → Int64} {g : Nat → Nat → Int32} {w : Nat → Nat → Int64} {q : Nat → Nat} {ct : Nat → Int32} {cn : Nat → Int32} {cc : Nat → Nat → Int32} {di : Nat → Nat → Int32} {dr : Nat → Nat → Int32} {df : Nat → Nat → Int32} {li : Nat → Nat → Int32} {la : Nat → Nat → Nat → Int32} {sf : Nat → Nat → Int32} {sl : Nat → Nat → Int32} {a : Nat → Int32} {b : Nat → Int64} {e : Nat → Nat → Int32} {o : Nat → Nat → Int64} {B : Nat → Bool} {n : Nat → Nat} {P N W : Nat} {K O T J : Nat → Nat} {l : Nat} {Ds : Nat → Nat} {Dr Df Dp : Nat → Nat → Nat} {KB : Nat → Bool}
variable {Q : Option Value → AZ → AH → Prop}
theorem c_felt_no {r y : Nat} (hr : r < 10) (h : ct r = nI 0) : Cw (d + 2) 955 [.ref 0, .ref (co r), .int (nI y)] z (Hp X (s, v, g, w, q, ct, cn, cc, di, dr, df, li, la, sf, sl) M) Q ↔ Q (some (.int (-3))) z (Hp X (va_up s 18 (nI 1), v, va_up g 32 (upd (g 32) 1 (g 32 1 + nI 1)), w, q, ct, cn, cc, di, dr, df, li, la, sf, sl) M) := by
  rw [cw_wp]
  simp (disch := omega) only [W955, r_4, r_La, h60_0_1, s_41, s_0, ci_1, h79_951, r_90, h60_0_2, r_2, r_Li, r_51, ci_5, ci_0, ci_9, h79_8, s_40, r_52, ci_3, enR, LG, LSt, LC, nlR, psR, TK, up_s, up_n, up_u, lt_nI, le_nI, eq_nI, true_and, and_true, if_true, if_false, Nat.zero_add, Nat.add_zero, nI_add, ↓reduceIte, Nat.reduceAdd, Nat.reduceMul, Nat.reduceSub, Nat.reduceLT, Nat.reduceLeDiff, Nat.reduceEqDiff, Nat.not_lt_zero, Nat.lt_irrefl, decide_true, BEq.rfl, nm1, nm2, nm3, nm4, nm9, ngc, eq_self, List.length_cons, List.length_nil, hr, h, c_found]
theorem c_felt_size {r y m : Nat} (hr : r < 10) (h : ct r = nI 1) (hn : cn r = nI m) (hm : m ≤ 80) (hw : y < m) : Cw (d + 2) 955 [.ref 0, .ref (co r), .int (nI y)] z (Hp X (s, v, g, w, q, ct, cn, cc, di, dr, df, li, la, sf, sl) M) Q ↔ Q (some (.int (-3))) z (Hp X (va_up s 18 (nI 5), v, va_up g 32 (upd (g 32) 5 (g 32 5 + nI 1)), w, q, ct, cn, cc, di, dr, df, li, la, sf, sl) M) := by
  rw [cw_wp]
  simp (disch := omega) only [W955, r_4, r_La, h60_0_1, s_41, s_0, ci_1, h79_951, r_90, h60_0_2, r_2, r_Li, r_51, ci_5, ci_0, ci_9, h79_8, s_40, r_52, ci_3, enR, LG, LSt, LC, nlR, psR, TK, up_s, up_n, up_u, lt_nI, le_nI, eq_nI, true_and, and_true, if_true, if_false, Nat.zero_add, Nat.add_zero, nI_add, ↓reduceIte, Nat.reduceAdd, Nat.reduceMul, Nat.reduceSub, Nat.reduceLT, Nat.reduceLeDiff, Nat.reduceEqDiff, Nat.not_lt_zero, Nat.lt_irrefl, decide_true, BEq.rfl, nm1, nm2, nm3, nm4, nm9, ngc, eq_self, List.length_cons, List.length_nil, hr, h, hn, hw, c_found]
theorem c_felt_unlike {r y m : Nat} (hr : r < 10) (h : ct r = nI 1) (hn : cn r = nI m) (hm : m ≤ cap r) (hw : m ≤ y) (hw2 : y < 65536) (hf : felt (cc r) m = false) : Cw (d + 2) 955 [.ref 0, .ref (co r), .int (nI y)] z (Hp X (s, v, g, w, q, ct, cn, cc, di, dr, df, li, la, sf, sl) M) Q ↔ Q (some (.int (-3))) z (Hp X (va_up s 18 (nI 3), v, va_up g 32 (upd (g 32) 3 (g 32 3 + nI 1)), w, q, ct, cn, cc, di, dr, df, li, la, sf, sl) M) := by
  have h1 : ¬ y < m := by omega
  have h2 : (allb (wth (cc r) (nI 0) (nI 9)) 0 m = true) = False := eq_false (by rw [show allb (wth (cc r) (nI 0) (nI 9)) 0 m = false from hf]; decide)
  rw [cw_wp]
  simp (disch := omega) only [W955, r_4, r_La, h60_0_1, s_41, s_0, ci_1, h79_951, r_90, h60_0_2, r_2, r_Li, r_51, ci_5, ci_0, ci_9, h79_8, s_40, r_52, ci_3, enR, LG, LSt, LC, nlR, psR, TK, up_s, up_n, up_u, lt_nI, le_nI, eq_nI, true_and, and_true, if_true, if_false, Nat.zero_add, Nat.add_zero, nI_add, ↓reduceIte, Nat.reduceAdd, Nat.reduceMul, Nat.reduceSub, Nat.reduceLT, Nat.reduceLeDiff, Nat.reduceEqDiff, Nat.not_lt_zero, Nat.lt_irrefl, decide_true, BEq.rfl, nm1, nm2, nm3, nm4, nm9, ngc, eq_self, List.length_cons, List.length_nil, hr, h, hn, h1, c_within hr hn hm, h2, c_found]
theorem c_felt_ok {r y m : Nat} (hr : r < 10) (h : ct r = nI 1) (hn : cn r = nI m) (hm : m ≤ cap r) (hw : m ≤ y) (hw2 : y < 65536) (hf : felt (cc r) m = true) : Cw (d + 2) 955 [.ref 0, .ref (co r), .int (nI y)] z (Hp X (s, v, g, w, q, ct, cn, cc, di, dr, df, li, la, sf, sl) M) Q ↔ Q (some (.int (nI 0))) z (Hp X (s, v, g, w, q, ct, cn, cc, di, dr, df, li, la, sf, sl) M) := by
  have h1 : ¬ y < m := by omega
  have h2 : (allb (wth (cc r) (nI 0) (nI 9)) 0 m = true) = True := eq_true hf
  rw [cw_wp]
  simp (disch := omega) only [W955, r_4, r_La, h60_0_1, s_41, s_0, ci_1, h79_951, r_90, h60_0_2, r_2, r_Li, r_51, ci_5, ci_0, ci_9, h79_8, s_40, r_52, ci_3, enR, LG, LSt, LC, nlR, psR, TK, up_s, up_n, up_u, lt_nI, le_nI, eq_nI, true_and, and_true, if_true, if_false, Nat.zero_add, Nat.add_zero, nI_add, ↓reduceIte, Nat.reduceAdd, Nat.reduceMul, Nat.reduceSub, Nat.reduceLT, Nat.reduceLeDiff, Nat.reduceEqDiff, Nat.not_lt_zero, Nat.lt_irrefl, decide_true, BEq.rfl, nm1, nm2, nm3, nm4, nm9, ngc, eq_self, List.length_cons, List.length_nil, hr, h, hn, h1, c_within hr hn hm, h2]
theorem sen_SL (hb : LB P N W K O T J) {φ μ : Nat → Int32} {F : Nat → Nat} (h : SEn φ μ N F K O T) : SL μ (lds N F K O T) := fun p v hp hv => ⟨h.2 p v hp hv, by
  have := lds_lt (F := F) (p := p) (v := v) hb (Nat.le_refl N)
  have := pow_le7 hb.1
  omega⟩
end

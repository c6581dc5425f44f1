/-! land -/
def LBd (P N : Nat) (L : LD) : Prop := ∀ i, i < N → L.1 i < 6 ∧ L.2.1 i < P ∧ L.2.2.1 i < P ∧ L.2.2.2 i < 10
theorem prs_ok {γ : Nat → Int32} {n P N' : Nat} {L' : LD} (hP : 1 ≤ P) (hP7 : P ≤ 7) : ∀ (r p N : Nat) (L : LD), N + r = 11 → LBd P N L → prs γ n P r p N L = (none, N', L') → LBd P N' L' ∧ N' ≤ 10 := by
  intro r
  induction r with
  | zero => intro p N L _ _ h; exact absurd (Prod.mk.inj h).1 (by simp)
  | succ r ih =>
    intro p N L hN hL h
    unfold prs at h
    by_cases h3 : n ≤ skp γ (n - p) p
    · rw [if_pos h3] at h
      have e2 := (Prod.mk.inj (Prod.mk.inj h).2).1
      have e3 := (Prod.mk.inj (Prod.mk.inj h).2).2
      subst e2
      subst e3
      exact ⟨hL, by omega⟩
    · rw [if_neg h3] at h
      cases hrd : rdr γ n P N (skp γ (n - p) p) with
      | mk q0 o0 =>
      rw [hrd] at h
      cases o0 with
      | none => exact absurd (Prod.mk.inj h).1 (by simp)
      | some y =>
        obtain ⟨k, a0, b0, c0⟩ := y
        have h' : prs γ n P r q0 (N + 1) (va_up L.1 N k, va_up L.2.1 N a0, va_up L.2.2.1 N b0, va_up L.2.2.2 N c0) = (none, N', L') := h
        obtain ⟨g1, hN2, g2, g3, g4, -⟩ := rdr_ok hrd
        have hk6 := kdc_lt g1
        obtain ⟨-, -, u1⟩ := fg_some (show P - 1 < 65536 by omega) (show 0 < 65536 by decide) g2
        obtain ⟨-, -, u2⟩ := fg_some (show P - 1 < 65536 by omega) (show 0 < 65536 by decide) g3
        obtain ⟨-, -, u3⟩ := fg_some (show 9 < 65536 by decide) (show 0 < 65536 by decide) g4
        refine ih q0 (N + 1) _ (by omega) (fun i hi => ?_) h'
        show va_up L.1 N k i < 6 ∧ va_up L.2.1 N a0 i < P ∧ va_up L.2.2.1 N b0 i < P ∧ va_up L.2.2.2 N c0 i < 10
        by_cases hi2 : i = N
        · subst hi2
          rw [up_s, up_s, up_s, up_s]
          exact ⟨hk6, by omega, by omega, by omega⟩
        · rw [up_n _ _ hi2, up_n _ _ hi2, up_n _ _ hi2, up_n _ _ hi2]
          exact hL i (by omega)
theorem rdr_le {γ : Nat → Int32} {n P N p q : Nat} (h : rdr γ n P N p = (q, none)) : q ≤ p + 3 := by
  unfold rdr at h
  repeat' split at h
  all_goals first | (have := (Prod.mk.inj h).1; omega) | exact absurd (Prod.mk.inj h).2 (by simp)
theorem prs_le {γ : Nat → Int32} {n P : Nat} : ∀ (r p N : Nat) (L : LD) (q N' : Nat) (L' : LD), p ≤ n + 4 → prs γ n P r p N L = (some q, N', L') → q ≤ n + 4 := by
  intro r
  induction r with
  | zero =>
    intro p N L q N' L' hp h
    have := Option.some.inj (Prod.mk.inj h).1
    omega
  | succ r ih =>
    intro p N L q N' L' hp h
    unfold prs at h
    by_cases h3 : n ≤ skp γ (n - p) p
    · rw [if_pos h3] at h
      exact absurd (Prod.mk.inj h).1 (by simp)
    · rw [if_neg h3] at h
      cases hrd : rdr γ n P N (skp γ (n - p) p) with
      | mk q0 o0 =>
      rw [hrd] at h
      cases o0 with
      | none =>
        have := Option.some.inj (Prod.mk.inj h).1
        have := rdr_le hrd
        omega
      | some y =>
        obtain ⟨k, a0, b0, c0⟩ := y
        have := (rdr_ok hrd).2.2.2.2.2
        exact ih q0 (N + 1) _ q N' L' (by omega) h
theorem rda_le {γ : Nat → Int32} {n p P' N' : Nat} {L' : LD} (h : rda γ n = (some p, P', N', L')) : p ≤ n + 4 := by
  have hs := skp_le γ n 0
  unfold rda at h
  cases hh : hdr γ n with
  | mk p0 o0 =>
  rw [hh] at h
  have hp0 : p0 ≤ n + 2 := by
    unfold hdr at hh
    repeat' split at hh
    all_goals (have := (Prod.mk.inj hh).1; omega)
  cases o0 with
  | none =>
    have := Option.some.inj (Prod.mk.inj h).1
    omega
  | some P0 =>
    have e1 := (Prod.mk.inj h).1
    cases hpr : prs γ n P0 11 p0 0 L0 with
    | mk x1 rest =>
    obtain ⟨N1, L1⟩ := rest
    have e1' : x1 = some p := by rw [← e1]; exact (congrArg Prod.fst hpr).symm
    subst e1'
    exact prs_le 11 p0 0 L0 p N1 L1 (by omega) hpr
theorem rda_ok {γ : Nat → Int32} {n P' N' : Nat} {L' : LD} (h : rda γ n = (none, P', N', L')) : 1 ≤ P' ∧ P' ≤ 7 ∧ N' ≤ 10 ∧ LBd P' N' L' := by
  unfold rda at h
  cases hh : hdr γ n with
  | mk p0 o0 =>
  rw [hh] at h
  cases o0 with
  | none => exact absurd (Prod.mk.inj h).1 (by simp)
  | some P0 =>
    have e1 := (Prod.mk.inj h).1
    have e2 := (Prod.mk.inj (Prod.mk.inj h).2).1
    have e3 := (Prod.mk.inj (Prod.mk.inj (Prod.mk.inj h).2).2).1
    have e4 := (Prod.mk.inj (Prod.mk.inj (Prod.mk.inj h).2).2).2
    subst e2
    have hP : 1 ≤ P0 ∧ P0 ≤ 7 := by
      unfold hdr at hh
      by_cases h3 : skp γ n 0 < n ∧ γ (skp γ n 0) = nI 110
      · rw [if_pos h3] at hh
        cases h6 : fg γ n (skp γ n 0 + 1) 1 7 with
        | none => rw [h6] at hh; exact absurd (Prod.mk.inj hh).2 (by simp)
        | some P1 =>
          rw [h6] at hh
          have := Option.some.inj (Prod.mk.inj hh).2
          subst this
          obtain ⟨-, u1, u2⟩ := fg_some (show 7 < 65536 by decide) (show 1 < 65536 by decide) h6
          exact ⟨u1, u2⟩
      · rw [if_neg h3] at hh; exact absurd (Prod.mk.inj hh).2 (by simp)
    have := prs_ok (γ := γ) (n := n) (N' := N') (L' := L') hP.1 hP.2 11 p0 0 L0 (by decide) (fun i hi => absurd hi (by omega)) (by rw [← e1, ← e3, ← e4])
    exact ⟨hP.1, hP.2, this.2, this.1⟩
section
variable {d : Nat} {z : AZ} {f : AH} {Q : Option Value → AZ → AH → Prop} {X : Nat × (Nat → Int32)} {C : CT} {a : Nat → Int32} {b : Nat → Int64} {e : Nat → Nat → Int32} {o : Nat → Nat → Int64}
theorem lp_mland {r : Nat} {x2 : Int32} : ∀ (j i : Nat) (μ y : Nat → Int32), i + j = 40 → (∀ q, y q = if i ≤ q ∧ q < 40 then μ (40 + q) else μ q) → (Wp (d + 3) 1028 43 [some (.ref 67), some (.int (nI r)), some (.int x2), some (.int (nI i))] [] z (Hp X C (a, b, va_up e 74 μ, o)) Q ↔ Wp (d + 3) 1028 82 [some (.ref 67), some (.int (nI r)), some (.int x2), some (.int (nI 0))] [] z (Hp X C (va_up (va_up a 17 (nI 0)) 18 (nI 0), b, va_up e 74 y, o)) Q) := by
  intro j
  induction j with
  | zero =>
    intro i μ y hi hy
    have hi : i = 40 := by omega
    subst hi
    have e1 : y = μ := by
      funext q
      rw [hy q, if_neg (by omega)]
    rw [W1028_43, e1]
    simp (disch := omega) only [W1028, r_4, r_La, r_2, r_Li, h79_1010, r_5, s_43, r_90, h79_1026, s_0, ci_m9, r_46, ci_m4, h60_10_15, h61_10_10, h60_10_16, h61_10_11, ci_0, ci_40, r_49, h60_10_13, r_10, s_8, r_In, ci_1, r_52, h61_10_17, h61_10_18, ci_3, h60_10_22, ci_82, r_12, h60_10_11, h64_74, h65_74, h64_78, h65_78, enR, LG, LSt, LC, nlR, psR, TK, up_s, up_n, up_u, lt_nI, le_nI, eq_nI, true_and, and_true, if_true, if_false, Nat.zero_add, Nat.add_zero, nI_add, ↓reduceIte, Nat.reduceAdd, Nat.reduceMul, Nat.reduceSub, Nat.reduceLT, Nat.reduceLeDiff, Nat.reduceEqDiff, Nat.not_lt_zero, Nat.lt_irrefl, decide_true, BEq.rfl, nm1, nm2, nm3, nm4, nm9, ngc, eq_self, List.length_cons, List.length_nil]
  | succ j ih =>
    intro i μ y hi hy
    have h1 : i < 40 := by omega
    rw [W1028_43]
    simp (disch := omega) only [W1028, r_4, r_La, r_2, r_Li, h79_1010, r_5, s_43, r_90, h79_1026, s_0, ci_m9, r_46, ci_m4, h60_10_15, h61_10_10, h60_10_16, h61_10_11, ci_0, ci_40, r_49, h60_10_13, r_10, s_8, r_In, ci_1, r_52, h61_10_17, h61_10_18, ci_3, h60_10_22, ci_82, r_12, h60_10_11, h64_74, h65_74, h64_78, h65_78, enR, LG, LSt, LC, nlR, psR, TK, up_s, up_n, up_u, lt_nI, le_nI, eq_nI, true_and, and_true, if_true, if_false, Nat.zero_add, Nat.add_zero, nI_add, ↓reduceIte, Nat.reduceAdd, Nat.reduceMul, Nat.reduceSub, Nat.reduceLT, Nat.reduceLeDiff, Nat.reduceEqDiff, Nat.not_lt_zero, Nat.lt_irrefl, decide_true, BEq.rfl, nm1, nm2, nm3, nm4, nm9, ngc, eq_self, List.length_cons, List.length_nil, h1]
    refine ih (i + 1) _ y (by omega) (fun q => ?_)
    rw [hy q]
    by_cases h2 : q = i
    · subst h2
      rw [if_pos (by omega), if_neg (by omega), ud_s]
    · by_cases h3 : i + 1 ≤ q ∧ q < 40
      · rw [if_pos (by omega), if_pos h3, ud_n _ _ (by omega)]
      · rw [if_neg (by omega), if_neg h3, ud_n _ _ h2]
end
section
variable {t d : Nat} {z : AZ} {X : Nat × (Nat → Int32)} {C : CT} {M : MT} {s : Nat → Int32} {v : Nat → Int64} {g : Nat → Nat → Int32} {w : Nat → Nat → Int64} {q : Nat → Nat} {ct : Nat → Int32} {cn : Nat → Int32} {cc : Nat → Nat → Int32} {di : Nat → Nat → Int32} {dr : Nat → Nat → Int32} {df : Nat → Nat → Int32} {li : Nat → Nat → Int32} {la : Nat → Nat → Nat → Int32} {sf : Nat → Nat → Int32} {sl : Nat → Nat → Int32} {a : Nat → Int32} {b : Nat → Int64} {e : Nat → Nat → Int32} {o : Nat → Nat → Int64} {B : Nat → Bool} {n : Nat → Nat} {P N W : Nat} {K O T J : Nat → Nat} {l : Nat} {Ds : Nat → Nat} {Dr Df Dp : Nat → Nat → Nat} {KB : Nat → Bool}
theorem op_land {x : Int32} (H : RL t z s v g w q ct cn cc di dr df li la sf sl a b e o B n P N W K O T J l Ds Dr Df Dp KB) : OPI (d + 20) 910 1028 [.int x] t z X (s, v, g, w, q, ct, cn, cc, di, dr, df, li, la, sf, sl) (a, b, e, o) := by
  obtain ⟨hb, hl, hq, hC, hs, hM, hS⟩ := rl_land H
  have hq1 : q 1 = 1 - l := H.2.2.1.2.2.2.1
  unfold OPI
  rw [cw_wp]
  rcases ix x (n := 3) (by decide) with h | ⟨h1, h2, h3⟩ | ⟨r, hr, rfl⟩
  · simp (disch := omega) only [W910, r_2, r_Li, h80_949, s_41, s_0, ci_m1, r_90, r_4, r_La, h60_9_1, h60_0_1, ci_1, h79_951, h60_9_2, h79_501, ci_m9, r_46, ci_m4, h60_9_12, h79_502, h61_9_12, h60_9_3, ci_0, h79_201, r_5, ci_3, r_49, h60_9_4, h61_2_2_0, h61_2_2_1, s_8, r_In, r_52, h79_956, h60_3_5, h68_12, h68_2, enR, LG, LSt, LC, nlR, psR, TK, up_s, up_n, up_u, lt_nI, le_nI, eq_nI, true_and, and_true, if_true, if_false, Nat.zero_add, Nat.add_zero, nI_add, ↓reduceIte, Nat.reduceAdd, Nat.reduceMul, Nat.reduceSub, Nat.reduceLT, Nat.reduceLeDiff, Nat.reduceEqDiff, Nat.not_lt_zero, Nat.lt_irrefl, decide_true, BEq.rfl, nm1, nm2, nm3, nm4, nm9, ngc, eq_self, List.length_cons, List.length_nil, c_isText, h]
    refine okc ?_
    rw [cw_wp]
    simp (disch := omega) only [W1028, r_4, r_La, r_2, r_Li, h79_1010, r_5, s_43, r_90, h79_1026, s_0, ci_m9, r_46, ci_m4, h60_10_15, h61_10_10, h60_10_16, h61_10_11, ci_0, ci_40, r_49, h60_10_13, r_10, s_8, r_In, ci_1, r_52, h61_10_17, h61_10_18, ci_3, h60_10_22, ci_82, r_12, h60_10_11, h64_74, h65_74, h64_78, h65_78, W1010, h80_1008, s_41, ci_m1, h60_10_8, h79_1002, h64_72, (fun d => cw_wp d 1010), enR, LG, LSt, LC, nlR, psR, TK, up_s, up_n, up_u, lt_nI, le_nI, eq_nI, true_and, and_true, if_true, if_false, Nat.zero_add, Nat.add_zero, nI_add, ↓reduceIte, Nat.reduceAdd, Nat.reduceMul, Nat.reduceSub, Nat.reduceLT, Nat.reduceLeDiff, Nat.reduceEqDiff, Nat.not_lt_zero, Nat.lt_irrefl, decide_true, BEq.rfl, nm1, nm2, nm3, nm4, nm9, ngc, eq_self, List.length_cons, List.length_nil, m_isText, h]
    exact okm (rl_inv (rl_t H))
  · simp (disch := omega) only [W910, r_2, r_Li, h80_949, s_41, s_0, ci_m1, r_90, r_4, r_La, h60_9_1, h60_0_1, ci_1, h79_951, h60_9_2, h79_501, ci_m9, r_46, ci_m4, h60_9_12, h79_502, h61_9_12, h60_9_3, ci_0, h79_201, r_5, ci_3, r_49, h60_9_4, h61_2_2_0, h61_2_2_1, s_8, r_In, r_52, h79_956, h60_3_5, h68_12, h68_2, enR, LG, LSt, LC, nlR, psR, TK, up_s, up_n, up_u, lt_nI, le_nI, eq_nI, true_and, and_true, if_true, if_false, Nat.zero_add, Nat.add_zero, nI_add, ↓reduceIte, Nat.reduceAdd, Nat.reduceMul, Nat.reduceSub, Nat.reduceLT, Nat.reduceLeDiff, Nat.reduceEqDiff, Nat.not_lt_zero, Nat.lt_irrefl, decide_true, BEq.rfl, nm1, nm2, nm3, nm4, nm9, ngc, eq_self, List.length_cons, List.length_nil, c_isText, h1, h2]
    refine okc ?_
    rw [cw_wp]
    simp (disch := omega) only [W1028, r_4, r_La, r_2, r_Li, h79_1010, r_5, s_43, r_90, h79_1026, s_0, ci_m9, r_46, ci_m4, h60_10_15, h61_10_10, h60_10_16, h61_10_11, ci_0, ci_40, r_49, h60_10_13, r_10, s_8, r_In, ci_1, r_52, h61_10_17, h61_10_18, ci_3, h60_10_22, ci_82, r_12, h60_10_11, h64_74, h65_74, h64_78, h65_78, W1010, h80_1008, s_41, ci_m1, h60_10_8, h79_1002, h64_72, (fun d => cw_wp d 1010), enR, LG, LSt, LC, nlR, psR, TK, up_s, up_n, up_u, lt_nI, le_nI, eq_nI, true_and, and_true, if_true, if_false, Nat.zero_add, Nat.add_zero, nI_add, ↓reduceIte, Nat.reduceAdd, Nat.reduceMul, Nat.reduceSub, Nat.reduceLT, Nat.reduceLeDiff, Nat.reduceEqDiff, Nat.not_lt_zero, Nat.lt_irrefl, decide_true, BEq.rfl, nm1, nm2, nm3, nm4, nm9, ngc, eq_self, List.length_cons, List.length_nil, m_isText, h1, h3]
    exact okm (rl_inv (rl_t H))
  have hr6 : r < 4 := by omega
  rcases rl_x H hr6 with ⟨q1, q2, q3, q4, q5⟩ | ⟨q1, q2, q3, q4, q5, q6⟩
  · simp (disch := omega) only [W910, r_2, r_Li, h80_949, s_41, s_0, ci_m1, r_90, r_4, r_La, h60_9_1, h60_0_1, ci_1, h79_951, h60_9_2, h79_501, ci_m9, r_46, ci_m4, h60_9_12, h79_502, h61_9_12, h60_9_3, ci_0, h79_201, r_5, ci_3, r_49, h60_9_4, h61_2_2_0, h61_2_2_1, s_8, r_In, r_52, h79_956, h60_3_5, h68_12, h68_2, enR, LG, LSt, LC, nlR, psR, TK, up_s, up_n, up_u, lt_nI, le_nI, eq_nI, true_and, and_true, if_true, if_false, Nat.zero_add, Nat.add_zero, nI_add, ↓reduceIte, Nat.reduceAdd, Nat.reduceMul, Nat.reduceSub, Nat.reduceLT, Nat.reduceLeDiff, Nat.reduceEqDiff, Nat.not_lt_zero, Nat.lt_irrefl, decide_true, BEq.rfl, nm1, nm2, nm3, nm4, nm9, ngc, eq_self, List.length_cons, List.length_nil, c_isText, hr6, q2, c_found]
    refine okc ?_
    rw [cw_wp]
    simp (disch := omega) only [W1028, r_4, r_La, r_2, r_Li, h79_1010, r_5, s_43, r_90, h79_1026, s_0, ci_m9, r_46, ci_m4, h60_10_15, h61_10_10, h60_10_16, h61_10_11, ci_0, ci_40, r_49, h60_10_13, r_10, s_8, r_In, ci_1, r_52, h61_10_17, h61_10_18, ci_3, h60_10_22, ci_82, r_12, h60_10_11, h64_74, h65_74, h64_78, h65_78, enR, LG, LSt, LC, nlR, psR, TK, up_s, up_n, up_u, lt_nI, le_nI, eq_nI, true_and, and_true, if_true, if_false, Nat.zero_add, Nat.add_zero, nI_add, ↓reduceIte, Nat.reduceAdd, Nat.reduceMul, Nat.reduceSub, Nat.reduceLT, Nat.reduceLeDiff, Nat.reduceEqDiff, Nat.not_lt_zero, Nat.lt_irrefl, decide_true, BEq.rfl, nm1, nm2, nm3, nm4, nm9, ngc, eq_self, List.length_cons, List.length_nil, m_askedT_no hr6 q5]
    exact okm (rl_inv (rl_found (k := 1) (by decide) H))
  have hcap : n (6 + r) ≤ cap (6 + r) := by rw [show cap (6 + r) = 80 from if_neg (by omega)]; exact q4
  cases hrd : rda (cc (6 + r)) (n (6 + r)) with
  | mk x1 rest =>
  obtain ⟨P1, N1, L1⟩ := rest
  simp (disch := omega) only [W910, r_2, r_Li, h80_949, s_41, s_0, ci_m1, r_90, r_4, r_La, h60_9_1, h60_0_1, ci_1, h79_951, h60_9_2, h79_501, ci_m9, r_46, ci_m4, h60_9_12, h79_502, h61_9_12, h60_9_3, ci_0, h79_201, r_5, ci_3, r_49, h60_9_4, h61_2_2_0, h61_2_2_1, s_8, r_In, r_52, h79_956, h60_3_5, h68_12, h68_2, enR, LG, LSt, LC, nlR, psR, TK, up_s, up_n, up_u, lt_nI, le_nI, eq_nI, true_and, and_true, if_true, if_false, Nat.zero_add, Nat.add_zero, nI_add, ↓reduceIte, Nat.reduceAdd, Nat.reduceMul, Nat.reduceSub, Nat.reduceLT, Nat.reduceLeDiff, Nat.reduceEqDiff, Nat.not_lt_zero, Nat.lt_irrefl, decide_true, BEq.rfl, nm1, nm2, nm3, nm4, nm9, ngc, eq_self, List.length_cons, List.length_nil, c_isText, hr6, q2]
  refine c_read (show 1 - l < 2 by omega) hq1 (show 6 + r < 10 by omega) q3 hcap hrd (fun y φ ψ hx => ?_)
  cases x1 with
  | some p0 =>
    have hp1 := rda_le hrd
    have hp0 : (nI p0 = -9) = False := nm9 (by omega)
    simp (disch := omega) only [W910, r_2, r_Li, h80_949, s_41, s_0, ci_m1, r_90, r_4, r_La, h60_9_1, h60_0_1, ci_1, h79_951, h60_9_2, h79_501, ci_m9, r_46, ci_m4, h60_9_12, h79_502, h61_9_12, h60_9_3, ci_0, h79_201, r_5, ci_3, r_49, h60_9_4, h61_2_2_0, h61_2_2_1, s_8, r_In, r_52, h79_956, h60_3_5, h68_12, h68_2, enR, LG, LSt, LC, nlR, psR, TK, up_s, up_n, up_u, lt_nI, le_nI, eq_nI, true_and, and_true, if_true, if_false, Nat.zero_add, Nat.add_zero, nI_add, ↓reduceIte, Nat.reduceAdd, Nat.reduceMul, Nat.reduceSub, Nat.reduceLT, Nat.reduceLeDiff, Nat.reduceEqDiff, Nat.not_lt_zero, Nat.lt_irrefl, decide_true, BEq.rfl, nm1, nm2, nm3, nm4, nm9, ngc, eq_self, List.length_cons, List.length_nil, rdo, hp0]
    refine okc ?_
    rw [cw_wp]
    simp (disch := omega) only [W1028, r_4, r_La, r_2, r_Li, h79_1010, r_5, s_43, r_90, h79_1026, s_0, ci_m9, r_46, ci_m4, h60_10_15, h61_10_10, h60_10_16, h61_10_11, ci_0, ci_40, r_49, h60_10_13, r_10, s_8, r_In, ci_1, r_52, h61_10_17, h61_10_18, ci_3, h60_10_22, ci_82, r_12, h60_10_11, h64_74, h65_74, h64_78, h65_78, enR, LG, LSt, LC, nlR, psR, TK, up_s, up_n, up_u, lt_nI, le_nI, eq_nI, true_and, and_true, if_true, if_false, Nat.zero_add, Nat.add_zero, nI_add, ↓reduceIte, Nat.reduceAdd, Nat.reduceMul, Nat.reduceSub, Nat.reduceLT, Nat.reduceLeDiff, Nat.reduceEqDiff, Nat.not_lt_zero, Nat.lt_irrefl, decide_true, BEq.rfl, nm1, nm2, nm3, nm4, nm9, ngc, eq_self, List.length_cons, List.length_nil, m_askedT_ok hr6 q5]
    refine m_goesOn hr6 q4 q5 q6 hrd (fun p' P' N' μ hμ hx2 => ?_)
    simp (disch := omega) only [W1028, r_4, r_La, r_2, r_Li, h79_1010, r_5, s_43, r_90, h79_1026, s_0, ci_m9, r_46, ci_m4, h60_10_15, h61_10_10, h60_10_16, h61_10_11, ci_0, ci_40, r_49, h60_10_13, r_10, s_8, r_In, ci_1, r_52, h61_10_17, h61_10_18, ci_3, h60_10_22, ci_82, r_12, h60_10_11, h64_74, h65_74, h64_78, h65_78, enR, LG, LSt, LC, nlR, psR, TK, up_s, up_n, up_u, lt_nI, le_nI, eq_nI, true_and, and_true, if_true, if_false, Nat.zero_add, Nat.add_zero, nI_add, ↓reduceIte, Nat.reduceAdd, Nat.reduceMul, Nat.reduceSub, Nat.reduceLT, Nat.reduceLeDiff, Nat.reduceEqDiff, Nat.not_lt_zero, Nat.lt_irrefl, decide_true, BEq.rfl, nm1, nm2, nm3, nm4, nm9, ngc, eq_self, List.length_cons, List.length_nil, rdo, hp0]
    exact okm (rl_inv (rl_t (rl_draft H hμ)))
  | none =>
    obtain ⟨k1, k2, k3, k4⟩ := rda_ok hrd
    have hCn := hx rfl
    have hb' : LB P1 N1 W L1.1 L1.2.1 L1.2.2.1 L1.2.2.2 := ⟨k2, k3, hb.2.2.1, hb.2.2.2.1, k4⟩
    simp (disch := omega) only [W910, r_2, r_Li, h80_949, s_41, s_0, ci_m1, r_90, r_4, r_La, h60_9_1, h60_0_1, ci_1, h79_951, h60_9_2, h79_501, ci_m9, r_46, ci_m4, h60_9_12, h79_502, h61_9_12, h60_9_3, ci_0, h79_201, r_5, ci_3, r_49, h60_9_4, h61_2_2_0, h61_2_2_1, s_8, r_In, r_52, h79_956, h60_3_5, h68_12, h68_2, W502, h60_5_0, r_7, h61_5_0, r_92, (fun d => cw_wp d 502), enR, LG, LSt, LC, nlR, psR, TK, up_s, up_n, up_u, lt_nI, le_nI, eq_nI, true_and, and_true, if_true, if_false, Nat.zero_add, Nat.add_zero, nI_add, ↓reduceIte, Nat.reduceAdd, Nat.reduceMul, Nat.reduceSub, Nat.reduceLT, Nat.reduceLeDiff, Nat.reduceEqDiff, Nat.not_lt_zero, Nat.lt_irrefl, decide_true, BEq.rfl, nm1, nm2, nm3, nm4, nm9, ngc, eq_self, List.length_cons, List.length_nil, rdo, hq1, hq, c_restart]
    rw [W910_73]
    simp (disch := omega) only [W910, r_2, r_Li, h80_949, s_41, s_0, ci_m1, r_90, r_4, r_La, h60_9_1, h60_0_1, ci_1, h79_951, h60_9_2, h79_501, ci_m9, r_46, ci_m4, h60_9_12, h79_502, h61_9_12, h60_9_3, ci_0, h79_201, r_5, ci_3, r_49, h60_9_4, h61_2_2_0, h61_2_2_1, s_8, r_In, r_52, h79_956, h60_3_5, h68_12, h68_2, enR, LG, LSt, LC, nlR, psR, TK, up_s, up_n, up_u, lt_nI, le_nI, eq_nI, true_and, and_true, if_true, if_false, Nat.zero_add, Nat.add_zero, nI_add, ↓reduceIte, Nat.reduceAdd, Nat.reduceMul, Nat.reduceSub, Nat.reduceLT, Nat.reduceLeDiff, Nat.reduceEqDiff, Nat.not_lt_zero, Nat.lt_irrefl, decide_true, BEq.rfl, nm1, nm2, nm3, nm4, nm9, ngc, eq_self, List.length_cons, List.length_nil]
    rw [W910_73]
    simp (disch := omega) only [W910, r_2, r_Li, h80_949, s_41, s_0, ci_m1, r_90, r_4, r_La, h60_9_1, h60_0_1, ci_1, h79_951, h60_9_2, h79_501, ci_m9, r_46, ci_m4, h60_9_12, h79_502, h61_9_12, h60_9_3, ci_0, h79_201, r_5, ci_3, r_49, h60_9_4, h61_2_2_0, h61_2_2_1, s_8, r_In, r_52, h79_956, h60_3_5, h68_12, h68_2, enR, LG, LSt, LC, nlR, psR, TK, up_s, up_n, up_u, lt_nI, le_nI, eq_nI, true_and, and_true, if_true, if_false, Nat.zero_add, Nat.add_zero, nI_add, ↓reduceIte, Nat.reduceAdd, Nat.reduceMul, Nat.reduceSub, Nat.reduceLT, Nat.reduceLeDiff, Nat.reduceEqDiff, Nat.not_lt_zero, Nat.lt_irrefl, decide_true, BEq.rfl, nm1, nm2, nm3, nm4, nm9, ngc, eq_self, List.length_cons, List.length_nil]
    rw [W910_73]
    simp (disch := omega) only [W910, r_2, r_Li, h80_949, s_41, s_0, ci_m1, r_90, r_4, r_La, h60_9_1, h60_0_1, ci_1, h79_951, h60_9_2, h79_501, ci_m9, r_46, ci_m4, h60_9_12, h79_502, h61_9_12, h60_9_3, ci_0, h79_201, r_5, ci_3, r_49, h60_9_4, h61_2_2_0, h61_2_2_1, s_8, r_In, r_52, h79_956, h60_3_5, h68_12, h68_2, enR, LG, LSt, LC, nlR, psR, TK, up_s, up_n, up_u, lt_nI, le_nI, eq_nI, true_and, and_true, if_true, if_false, Nat.zero_add, Nat.add_zero, nI_add, ↓reduceIte, Nat.reduceAdd, Nat.reduceMul, Nat.reduceSub, Nat.reduceLT, Nat.reduceLeDiff, Nat.reduceEqDiff, Nat.not_lt_zero, Nat.lt_irrefl, decide_true, BEq.rfl, nm1, nm2, nm3, nm4, nm9, ngc, eq_self, List.length_cons, List.length_nil]
    rw [W910_73]
    simp (disch := omega) only [W910, r_2, r_Li, h80_949, s_41, s_0, ci_m1, r_90, r_4, r_La, h60_9_1, h60_0_1, ci_1, h79_951, h60_9_2, h79_501, ci_m9, r_46, ci_m4, h60_9_12, h79_502, h61_9_12, h60_9_3, ci_0, h79_201, r_5, ci_3, r_49, h60_9_4, h61_2_2_0, h61_2_2_1, s_8, r_In, r_52, h79_956, h60_3_5, h68_12, h68_2, enR, LG, LSt, LC, nlR, psR, TK, up_s, up_n, up_u, lt_nI, le_nI, eq_nI, true_and, and_true, if_true, if_false, Nat.zero_add, Nat.add_zero, nI_add, ↓reduceIte, Nat.reduceAdd, Nat.reduceMul, Nat.reduceSub, Nat.reduceLT, Nat.reduceLeDiff, Nat.reduceEqDiff, Nat.not_lt_zero, Nat.lt_irrefl, decide_true, BEq.rfl, nm1, nm2, nm3, nm4, nm9, ngc, eq_self, List.length_cons, List.length_nil]
    rw [cw_wp]
    simp (disch := omega) only [W956, r_4, r_La, h60_9_5, h60_9_12, h60_9_14, s_0, ci_m1, h79_601, r_93, enR, LG, LSt, LC, nlR, psR, TK, up_s, up_n, up_u, lt_nI, le_nI, eq_nI, true_and, and_true, if_true, if_false, Nat.zero_add, Nat.add_zero, nI_add, ↓reduceIte, Nat.reduceAdd, Nat.reduceMul, Nat.reduceSub, Nat.reduceLT, Nat.reduceLeDiff, Nat.reduceEqDiff, Nat.not_lt_zero, Nat.lt_irrefl, decide_true, BEq.rfl, nm1, nm2, nm3, nm4, nm9, ngc, eq_self, List.length_cons, List.length_nil, hs]
    refine c_learn (F := fe W L1.1 L1.2.2.2) (show 1 - l < 2 by omega) (by rw [up_s, up_s]; exact hCn) hb' (by decide) (fun i hi => ?_) (fun φ' μ' hSE => ?_)
    · rw [if_neg (ni_neg (by omega) (by decide))]
    · simp (disch := omega) only [W956, r_4, r_La, h60_9_5, h60_9_12, h60_9_14, s_0, ci_m1, h79_601, r_93, enR, LG, LSt, LC, nlR, psR, TK, up_s, up_n, up_u, lt_nI, le_nI, eq_nI, true_and, and_true, if_true, if_false, Nat.zero_add, Nat.add_zero, nI_add, ↓reduceIte, Nat.reduceAdd, Nat.reduceMul, Nat.reduceSub, Nat.reduceLT, Nat.reduceLeDiff, Nat.reduceEqDiff, Nat.not_lt_zero, Nat.lt_irrefl, decide_true, BEq.rfl, nm1, nm2, nm3, nm4, nm9, ngc, eq_self, List.length_cons, List.length_nil]
      simp (disch := omega) only [W910, r_2, r_Li, h80_949, s_41, s_0, ci_m1, r_90, r_4, r_La, h60_9_1, h60_0_1, ci_1, h79_951, h60_9_2, h79_501, ci_m9, r_46, ci_m4, h60_9_12, h79_502, h61_9_12, h60_9_3, ci_0, h79_201, r_5, ci_3, r_49, h60_9_4, h61_2_2_0, h61_2_2_1, s_8, r_In, r_52, h79_956, h60_3_5, h68_12, h68_2, enR, LG, LSt, LC, nlR, psR, TK, up_s, up_n, up_u, lt_nI, le_nI, eq_nI, true_and, and_true, if_true, if_false, Nat.zero_add, Nat.add_zero, nI_add, ↓reduceIte, Nat.reduceAdd, Nat.reduceMul, Nat.reduceSub, Nat.reduceLT, Nat.reduceLeDiff, Nat.reduceEqDiff, Nat.not_lt_zero, Nat.lt_irrefl, decide_true, BEq.rfl, nm1, nm2, nm3, nm4, nm9, ngc, eq_self, List.length_cons, List.length_nil, hCn.2.1]
      refine okc ?_
      rw [cw_wp]
      simp (disch := omega) only [W1028, r_4, r_La, r_2, r_Li, h79_1010, r_5, s_43, r_90, h79_1026, s_0, ci_m9, r_46, ci_m4, h60_10_15, h61_10_10, h60_10_16, h61_10_11, ci_0, ci_40, r_49, h60_10_13, r_10, s_8, r_In, ci_1, r_52, h61_10_17, h61_10_18, ci_3, h60_10_22, ci_82, r_12, h60_10_11, h64_74, h65_74, h64_78, h65_78, enR, LG, LSt, LC, nlR, psR, TK, up_s, up_n, up_u, lt_nI, le_nI, eq_nI, true_and, and_true, if_true, if_false, Nat.zero_add, Nat.add_zero, nI_add, ↓reduceIte, Nat.reduceAdd, Nat.reduceMul, Nat.reduceSub, Nat.reduceLT, Nat.reduceLeDiff, Nat.reduceEqDiff, Nat.not_lt_zero, Nat.lt_irrefl, decide_true, BEq.rfl, nm1, nm2, nm3, nm4, nm9, ngc, eq_self, List.length_cons, List.length_nil, m_askedT_ok hr6 q5]
      refine m_goesOn hr6 q4 q5 q6 hrd (fun p' P' N' μ hμ hx2 => ?_)
      obtain ⟨rfl, rfl, hRM⟩ := hx2 rfl
      simp (disch := omega) only [W1028, r_4, r_La, r_2, r_Li, h79_1010, r_5, s_43, r_90, h79_1026, s_0, ci_m9, r_46, ci_m4, h60_10_15, h61_10_10, h60_10_16, h61_10_11, ci_0, ci_40, r_49, h60_10_13, r_10, s_8, r_In, ci_1, r_52, h61_10_17, h61_10_18, ci_3, h60_10_22, ci_82, r_12, h60_10_11, h64_74, h65_74, h64_78, h65_78, enR, LG, LSt, LC, nlR, psR, TK, up_s, up_n, up_u, lt_nI, le_nI, eq_nI, true_and, and_true, if_true, if_false, Nat.zero_add, Nat.add_zero, nI_add, ↓reduceIte, Nat.reduceAdd, Nat.reduceMul, Nat.reduceSub, Nat.reduceLT, Nat.reduceLeDiff, Nat.reduceEqDiff, Nat.not_lt_zero, Nat.lt_irrefl, decide_true, BEq.rfl, nm1, nm2, nm3, nm4, nm9, ngc, eq_self, List.length_cons, List.length_nil, rdo, ra15, ra16]
      rw [lp_mland 40 0 μ (fun q => if 0 ≤ q ∧ q < 40 then μ (40 + q) else μ q) (by omega) (fun q => rfl)]
      rw [W1028_82]
      simp (disch := omega) only [W1028, r_4, r_La, r_2, r_Li, h79_1010, r_5, s_43, r_90, h79_1026, s_0, ci_m9, r_46, ci_m4, h60_10_15, h61_10_10, h60_10_16, h61_10_11, ci_0, ci_40, r_49, h60_10_13, r_10, s_8, r_In, ci_1, r_52, h61_10_17, h61_10_18, ci_3, h60_10_22, ci_82, r_12, h60_10_11, h64_74, h65_74, h64_78, h65_78, enR, LG, LSt, LC, nlR, psR, TK, up_s, up_n, up_u, lt_nI, le_nI, eq_nI, true_and, and_true, if_true, if_false, Nat.zero_add, Nat.add_zero, nI_add, ↓reduceIte, Nat.reduceAdd, Nat.reduceMul, Nat.reduceSub, Nat.reduceLT, Nat.reduceLeDiff, Nat.reduceEqDiff, Nat.not_lt_zero, Nat.lt_irrefl, decide_true, BEq.rfl, nm1, nm2, nm3, nm4, nm9, ngc, eq_self, List.length_cons, List.length_nil, nI_mul]
      rw [W1028_82]
      simp (disch := omega) only [W1028, r_4, r_La, r_2, r_Li, h79_1010, r_5, s_43, r_90, h79_1026, s_0, ci_m9, r_46, ci_m4, h60_10_15, h61_10_10, h60_10_16, h61_10_11, ci_0, ci_40, r_49, h60_10_13, r_10, s_8, r_In, ci_1, r_52, h61_10_17, h61_10_18, ci_3, h60_10_22, ci_82, r_12, h60_10_11, h64_74, h65_74, h64_78, h65_78, enR, LG, LSt, LC, nlR, psR, TK, up_s, up_n, up_u, lt_nI, le_nI, eq_nI, true_and, and_true, if_true, if_false, Nat.zero_add, Nat.add_zero, nI_add, ↓reduceIte, Nat.reduceAdd, Nat.reduceMul, Nat.reduceSub, Nat.reduceLT, Nat.reduceLeDiff, Nat.reduceEqDiff, Nat.not_lt_zero, Nat.lt_irrefl, decide_true, BEq.rfl, nm1, nm2, nm3, nm4, nm9, ngc, eq_self, List.length_cons, List.length_nil, nI_mul]
      rw [W1028_82]
      simp (disch := omega) only [W1028, r_4, r_La, r_2, r_Li, h79_1010, r_5, s_43, r_90, h79_1026, s_0, ci_m9, r_46, ci_m4, h60_10_15, h61_10_10, h60_10_16, h61_10_11, ci_0, ci_40, r_49, h60_10_13, r_10, s_8, r_In, ci_1, r_52, h61_10_17, h61_10_18, ci_3, h60_10_22, ci_82, r_12, h60_10_11, h64_74, h65_74, h64_78, h65_78, enR, LG, LSt, LC, nlR, psR, TK, up_s, up_n, up_u, lt_nI, le_nI, eq_nI, true_and, and_true, if_true, if_false, Nat.zero_add, Nat.add_zero, nI_add, ↓reduceIte, Nat.reduceAdd, Nat.reduceMul, Nat.reduceSub, Nat.reduceLT, Nat.reduceLeDiff, Nat.reduceEqDiff, Nat.not_lt_zero, Nat.lt_irrefl, decide_true, BEq.rfl, nm1, nm2, nm3, nm4, nm9, ngc, eq_self, List.length_cons, List.length_nil, nI_mul]
      rw [W1028_82]
      simp (disch := omega) only [W1028, r_4, r_La, r_2, r_Li, h79_1010, r_5, s_43, r_90, h79_1026, s_0, ci_m9, r_46, ci_m4, h60_10_15, h61_10_10, h60_10_16, h61_10_11, ci_0, ci_40, r_49, h60_10_13, r_10, s_8, r_In, ci_1, r_52, h61_10_17, h61_10_18, ci_3, h60_10_22, ci_82, r_12, h60_10_11, h64_74, h65_74, h64_78, h65_78, enR, LG, LSt, LC, nlR, psR, TK, up_s, up_n, up_u, lt_nI, le_nI, eq_nI, true_and, and_true, if_true, if_false, Nat.zero_add, Nat.add_zero, nI_add, ↓reduceIte, Nat.reduceAdd, Nat.reduceMul, Nat.reduceSub, Nat.reduceLT, Nat.reduceLeDiff, Nat.reduceEqDiff, Nat.not_lt_zero, Nat.lt_irrefl, decide_true, BEq.rfl, nm1, nm2, nm3, nm4, nm9, ngc, eq_self, List.length_cons, List.length_nil, nI_mul]
      have H1 : RL (t + 1) z (va_up s 20 y) v g w (va_up (va_up (va_up q 2 (6 + r)) 1 l) 0 (1 - l)) ct cn cc (va_up (va_up (va_up (va_up di 0 (va_up (va_up (va_up (di 0) 3 (nI 0)) 4 (nI 0)) 5 (nI 0))) 1 (va_up (di 1) 2 (nI 0))) 2 (va_up (di 2) 2 (nI 0))) 3 (va_up (di 3) 2 (nI 0))) dr df (va_up li (1 - l) φ) (va_up la (1 - l) ψ) (va_up sf 0 φ') (va_up sl 0 μ') (va_up (va_up (va_up (va_up (RA a p' P' N') 10 (nI P')) 11 (nI N')) 17 (nI 0)) 18 (nI 0)) b (va_up (va_up e 74 (fun q => if 0 ≤ q ∧ q < 40 then μ (40 + q) else μ q)) 78 (upd (upd (upd (e 78) 0 (-9)) 82 (-9)) 164 (-9))) o B n (P') (N') W (L1.1) (L1.2.1) (L1.2.2.1) (L1.2.2.2) (1 - l) (va_up Ds 0 0) Dr Df (va_up Dp 0 (fun _ => 0)) (fun _ => false) := by
        obtain ⟨h1, h2, ⟨f1, f2, f3, f4, f5, f6, f7, f8⟩, h4, h5, h6, h7⟩ := H
        refine ⟨h1, h2, ⟨hb', by omega, rfl, ?_, ?_, f6, ⟨rfl, rfl, f7.2.2.1, fun i hi => ?_⟩, hSE⟩, ⟨?_, ?_, ?_, fun k hk => ⟨?_, ?_, ?_⟩⟩, h5, h6, seen_up h7⟩
        · show l = 1 - (1 - l)
          omega
        · rw [up_s, up_s]; exact hCn
        · have := hRM i hi
          have e1 : ∀ q, q < 40 → (va_up (va_up e 74 (fun q => if 0 ≤ q ∧ q < 40 then μ (40 + q) else μ q)) 78 (upd (upd (upd (e 78) 0 (-9)) 82 (-9)) 164 (-9))) 74 q = μ (40 + q) := fun q hq => if_pos ⟨Nat.zero_le _, hq⟩
          rw [e1 _ (by omega), e1 _ (by omega), e1 _ (by omega), e1 _ (by omega)]
          exact this
        · rw [up_s, up_s]
          exact ⟨Nat.zero_le _, fun h => absurd h (by omega), fun _ => by show 0 < P'; omega, fun k hk => absurd hk (by omega)⟩
        · rw [up_s, up_s]
          exact ⟨rfl, rfl, rfl, fun k hk => absurd hk (by omega)⟩
        · rw [up_s, up_s]
          exact ⟨rfl, rfl, fun k hk => absurd hk (by omega)⟩
        · have hk3 : k = 0 ∨ k = 1 ∨ k = 2 := by omega
          rcases hk3 with rfl | rfl | rfl <;> rfl
        · intro _
          have hk3 : k = 0 ∨ k = 1 ∨ k = 2 := by omega
          rcases hk3 with rfl | rfl | rfl <;> rfl
        · intro h; exact absurd (show false = true from h) (by decide)
      exact okm (rl_inv H1)
end

/-! reading a land: the model; fault, land -/
def L0 : LD := (fun _ => 0, fun _ => 0, fun _ => 0, fun _ => 0)
def rda (γ : Nat → Int32) (n : Nat) : Option Nat × Nat × Nat × LD := match hdr γ n with
  | (p, none) => (some p, 0, 0, L0)
  | (p, some P) => ((prs γ n P 11 p 0 L0).1, P, (prs γ n P 11 p 0 L0).2.1, (prs γ n P 11 p 0 L0).2.2)
section
variable {t d : Nat} {z : AZ} {X : Nat × (Nat → Int32)} {C : CT} {M : MT} {s : Nat → Int32} {v : Nat → Int64} {g : Nat → Nat → Int32} {w : Nat → Nat → Int64} {q : Nat → Nat} {ct : Nat → Int32} {cn : Nat → Int32} {cc : Nat → Nat → Int32} {di : Nat → Nat → Int32} {dr : Nat → Nat → Int32} {df : Nat → Nat → Int32} {li : Nat → Nat → Int32} {la : Nat → Nat → Nat → Int32} {sf : Nat → Nat → Int32} {sl : Nat → Nat → Int32} {a : Nat → Int32} {b : Nat → Int64} {e : Nat → Nat → Int32} {o : Nat → Nat → Int64} {B : Nat → Bool} {n : Nat → Nat} {P N W : Nat} {K O T J : Nat → Nat} {l : Nat} {Ds : Nat → Nat} {Dr Df Dp : Nat → Nat → Nat} {KB : Nat → Bool}
variable {Q : Option Value → AZ → AH → Prop}
theorem c_read {c n D P' N' : Nat} {x : Option Nat} {L' : LD} (hD : D < 2) (h1 : q 1 = D) (hc : c < 10) (hn : cn c = nI n) (hm : n ≤ cap c) (h : rda (cc c) n = (x, P', N', L'))
    (hQ : ∀ y φ ψ, (x = none → CLn φ ψ P' N' L'.1 L'.2.1 L'.2.2.1 L'.2.2.2) → Q (some (.int (rdo x))) z (Hp X (va_up s 20 y, v, g, w, va_up q 2 c, ct, cn, cc, di, dr, df, va_up li D φ, va_up la D ψ, sf, sl) M)) : Cw (d + 5) 501 [.ref 3, .ref (co c)] z (Hp X (s, v, g, w, q, ct, cn, cc, di, dr, df, li, la, sf, sl) M) Q := by
  have h8 : cap c ≤ 80 := by unfold cap; split <;> omega
  have h99 : svl c = .ref (co c) := if_neg (by omega)
  have h1' : va_up q 2 c 1 = D := h1
  have h2' : va_up q 2 c 2 = c := up_s _ _ _
  have hs1 := skp_le (cc c) n 0
  unfold rda hdr at h
  rw [cw_wp]
  by_cases h3 : skp (cc c) n 0 < n ∧ cc c (skp (cc c) n 0) = nI 110
  · obtain ⟨h4, h5⟩ := h3
    rw [if_pos ⟨h4, h5⟩] at h
    cases h6 : fg (cc c) n (skp (cc c) n 0 + 1) 1 7 with
    | none =>
      rw [h6] at h
      have e1 := (Prod.mk.inj h).1
      subst e1
      simp (disch := omega) only [W501, r_4, r_La, h61_5_1, s_0, ci_0, h61_5_2, h60_5_0, h79_301, h79_503, h79_504, s_41, h60_5_2, r_90, r_5, r_2, r_Li, ci_10, r_50, h60_5_1, h60_0_2, r_48, ci_m9, h79_505, s_8, r_In, ci_1, r_52, W301, h61_3_4, h61_3_5, r_93, (fun d => cw_wp d 301), enR, W504, r_49, h79_5, ci_110, r_46, r_94, s_Z0, s_Z1, r_30, r_30r, r_10, ci_7, h79_507, ci_m1, r_47, (fun d => cw_wp d 504), LG, LSt, LC, nlR, psR, TK, up_s, up_n, up_u, lt_nI, le_nI, eq_nI, true_and, and_true, if_true, if_false, Nat.zero_add, Nat.add_zero, nI_add, ↓reduceIte, Nat.reduceAdd, Nat.reduceMul, Nat.reduceSub, Nat.reduceLT, Nat.reduceLeDiff, Nat.reduceEqDiff, Nat.not_lt_zero, Nat.lt_irrefl, decide_true, BEq.rfl, nm1, nm2, nm3, nm4, nm9, ngc, eq_self, List.length_cons, List.length_nil, h1, hD, c_skip (q := va_up q 2 c) hc h2' hn hm (Nat.zero_le n), h99, hc, hn, h4, c_valueAt hc hn h4 hm, h5, Nat.sub_zero, c_fig_no (q := va_up q 2 c) hc h2' hn hm (show skp (cc c) n 0 + 1 ≤ n by omega) (show 1 < 65536 by decide) (show 7 < 65536 by decide) h6]
      have := hQ (nI (skp (cc c) n 0 + 1)) (va_up (va_up (li D) 0 (nI 0)) 1 (nI 0)) (la D) (fun h => absurd h (by simp))
      rw [up_id (rfl : la D = la D)] at this
      exact this
    | some P0 =>
      obtain ⟨-, u1, u2⟩ := fg_some (show 7 < 65536 by decide) (show 1 < 65536 by decide) h6
      have l1 := fg_lt h6
      rw [h6] at h
      have e1 := (Prod.mk.inj h).1
      have e2 := (Prod.mk.inj (Prod.mk.inj h).2).1
      have e3 := (Prod.mk.inj (Prod.mk.inj (Prod.mk.inj h).2).2).1
      have e4 := (Prod.mk.inj (Prod.mk.inj (Prod.mk.inj h).2).2).2
      subst e2
      have hpr : prs (cc c) n P0 11 (skp (cc c) n 0 + 2) 0 L0 = (x, N', L') := by rw [← e1, ← e3, ← e4]
      simp (disch := omega) only [W501, r_4, r_La, h61_5_1, s_0, ci_0, h61_5_2, h60_5_0, h79_301, h79_503, h79_504, s_41, h60_5_2, r_90, r_5, r_2, r_Li, ci_10, r_50, h60_5_1, h60_0_2, r_48, ci_m9, h79_505, s_8, r_In, ci_1, r_52, W301, h61_3_4, h61_3_5, r_93, (fun d => cw_wp d 301), enR, W504, r_49, h79_5, ci_110, r_46, r_94, s_Z0, s_Z1, r_30, r_30r, r_10, ci_7, h79_507, ci_m1, r_47, (fun d => cw_wp d 504), LG, LSt, LC, nlR, psR, TK, up_s, up_n, up_u, lt_nI, le_nI, eq_nI, true_and, and_true, if_true, if_false, Nat.zero_add, Nat.add_zero, nI_add, ↓reduceIte, Nat.reduceAdd, Nat.reduceMul, Nat.reduceSub, Nat.reduceLT, Nat.reduceLeDiff, Nat.reduceEqDiff, Nat.not_lt_zero, Nat.lt_irrefl, decide_true, BEq.rfl, nm1, nm2, nm3, nm4, nm9, ngc, eq_self, List.length_cons, List.length_nil, h1, hD, c_skip (q := va_up q 2 c) hc h2' hn hm (Nat.zero_le n), h99, hc, hn, h4, c_valueAt hc hn h4 hm, h5, Nat.sub_zero, c_fig_ok (q := va_up q 2 c) hc h2' hn hm (show 1 < 65536 by decide) (show 7 < 65536 by decide) h6]
      have := lp_read (d := d) (z := z) (Q := Q) (X := X) (M := M) (s := s) (v := v) (g := g) (w := w) (q := va_up q 2 c) (ct := ct) (cn := cn) (cc := cc) (di := di) (dr := dr) (df := df) (li := li) (la := la) (sf := sf) (sl := sl) (x := x) (N' := N') (L' := L') hD h1' u1 u2 hc h2' hn hm (fun y φ ψ hx => hQ y φ ψ hx) 11 0 (skp (cc c) n 0 + 2) L0 (va_up (va_up (va_up (li D) 0 (nI 0)) 1 (nI 0)) 0 (nI P0)) (la D) (by omega) (by omega) ⟨up_s _ _ _, rfl, fun i hi => absurd hi (by omega)⟩ hpr
      rw [up_id (rfl : la D = la D)] at this
      exact this
  · rw [if_neg h3] at h
    have e1 := (Prod.mk.inj h).1
    subst e1
    have := hQ (nI (skp (cc c) n 0)) (va_up (va_up (li D) 0 (nI 0)) 1 (nI 0)) (la D) (fun h => absurd h (by simp))
    rw [up_id (rfl : la D = la D)] at this
    by_cases h4 : skp (cc c) n 0 < n
    · have h5 : ¬ cc c (skp (cc c) n 0) = nI 110 := fun h5 => h3 ⟨h4, h5⟩
      simp (disch := omega) only [W501, r_4, r_La, h61_5_1, s_0, ci_0, h61_5_2, h60_5_0, h79_301, h79_503, h79_504, s_41, h60_5_2, r_90, r_5, r_2, r_Li, ci_10, r_50, h60_5_1, h60_0_2, r_48, ci_m9, h79_505, s_8, r_In, ci_1, r_52, W301, h61_3_4, h61_3_5, r_93, (fun d => cw_wp d 301), enR, W504, r_49, h79_5, ci_110, r_46, r_94, s_Z0, s_Z1, r_30, r_30r, r_10, ci_7, h79_507, ci_m1, r_47, (fun d => cw_wp d 504), LG, LSt, LC, nlR, psR, TK, up_s, up_n, up_u, lt_nI, le_nI, eq_nI, true_and, and_true, if_true, if_false, Nat.zero_add, Nat.add_zero, nI_add, ↓reduceIte, Nat.reduceAdd, Nat.reduceMul, Nat.reduceSub, Nat.reduceLT, Nat.reduceLeDiff, Nat.reduceEqDiff, Nat.not_lt_zero, Nat.lt_irrefl, decide_true, BEq.rfl, nm1, nm2, nm3, nm4, nm9, ngc, eq_self, List.length_cons, List.length_nil, h1, hD, c_skip (q := va_up q 2 c) hc h2' hn hm (Nat.zero_le n), h99, hc, hn, h4, c_valueAt hc hn h4 hm, h5, Nat.sub_zero]
      exact this
    · simp (disch := omega) only [W501, r_4, r_La, h61_5_1, s_0, ci_0, h61_5_2, h60_5_0, h79_301, h79_503, h79_504, s_41, h60_5_2, r_90, r_5, r_2, r_Li, ci_10, r_50, h60_5_1, h60_0_2, r_48, ci_m9, h79_505, s_8, r_In, ci_1, r_52, W301, h61_3_4, h61_3_5, r_93, (fun d => cw_wp d 301), enR, W504, r_49, h79_5, ci_110, r_46, r_94, s_Z0, s_Z1, r_30, r_30r, r_10, ci_7, h79_507, ci_m1, r_47, (fun d => cw_wp d 504), LG, LSt, LC, nlR, psR, TK, up_s, up_n, up_u, lt_nI, le_nI, eq_nI, true_and, and_true, if_true, if_false, Nat.zero_add, Nat.add_zero, nI_add, ↓reduceIte, Nat.reduceAdd, Nat.reduceMul, Nat.reduceSub, Nat.reduceLT, Nat.reduceLeDiff, Nat.reduceEqDiff, Nat.not_lt_zero, Nat.lt_irrefl, decide_true, BEq.rfl, nm1, nm2, nm3, nm4, nm9, ngc, eq_self, List.length_cons, List.length_nil, h1, hD, c_skip (q := va_up q 2 c) hc h2' hn hm (Nat.zero_le n), h99, hc, hn, h4, Nat.sub_zero]
      exact this
end
def RA (a : Nat → Int32) (p P N : Nat) : Nat → Int32 := va_up (va_up (va_up a 14 (nI p)) 15 (nI P)) 16 (nI N)
theorem ra14 (a : Nat → Int32) (p P N : Nat) : RA a p P N 14 = nI p := rfl
theorem ra15 (a : Nat → Int32) (p P N : Nat) : RA a p P N 15 = nI P := rfl
theorem ra16 (a : Nat → Int32) (p P N : Nat) : RA a p P N 16 = nI N := rfl
theorem ru14 (a : Nat → Int32) (p P N x : Nat) : va_up (RA a p P N) 14 (nI x) = RA a x P N := by
  funext q
  unfold RA va_up
  by_cases q1 : q = 14
  · simp [q1]
  · by_cases q2 : q = 15 <;> by_cases q3 : q = 16 <;> simp [q1, q2, q3]
theorem ru15 (a : Nat → Int32) (p P N x : Nat) : va_up (RA a p P N) 15 (nI x) = RA a p x N := by
  funext q
  unfold RA va_up
  by_cases q1 : q = 14
  · simp [q1]
  · by_cases q2 : q = 15 <;> by_cases q3 : q = 16 <;> simp [q1, q2, q3]
theorem ru16 (a : Nat → Int32) (p P N x : Nat) : va_up (RA a p P N) 16 (nI x) = RA a p P x := by
  funext q
  unfold RA va_up
  by_cases q1 : q = 14
  · simp [q1]
  · by_cases q2 : q = 15 <;> by_cases q3 : q = 16 <;> simp [q1, q2, q3]
/-- what the model has read -/
def RM (μ : Nat → Int32) (N : Nat) (L : LD) : Prop := ∀ i, i < N → μ (40 + 4 * i) = nI (L.1 i) ∧ μ (40 + 4 * i + 1) = nI (L.2.1 i) ∧ μ (40 + 4 * i + 2) = nI (L.2.2.1 i) ∧ μ (40 + 4 * i + 3) = nI (L.2.2.2 i)
section
variable {d : Nat} {z : AZ} {f : AH} {Q : Option Value → AZ → AH → Prop} {X : Nat × (Nat → Int32)} {C : CT} {a : Nat → Int32} {b : Nat → Int64} {e : Nat → Nat → Int32} {o : Nat → Nat → Int64}
theorem m_byteAt {γ μ : Nat → Int32} {r n p P N : Nat} (hr : r < 4) (hn : n ≤ 80) (h72 : e 72 r = nI n) (hg : ∀ k, k < n → e 73 (80 * r + k) = γ k) (hp : p < 65536) : Cw (d + 1) 1022 [.ref 67, .int (nI r)] z (Hp X C (RA a p P N, b, va_up e 74 μ, o)) Q ↔ Q (some (.int (if p < n then γ p else -9))) z (Hp X C (RA a p P N, b, va_up e 74 μ, o)) := by
  rw [cw_wp]
  by_cases h : p < n
  · simp (disch := omega) only [W1022, r_4, r_La, h60_10_14, h60_10_8, r_2, r_Li, r_49, h60_10_9, s_0, ci_80, r_12, r_10, r_52, ci_m9, r_90, h64_72, h64_73, enR, LG, LSt, LC, nlR, psR, TK, up_s, up_n, up_u, lt_nI, le_nI, eq_nI, true_and, and_true, if_true, if_false, Nat.zero_add, Nat.add_zero, nI_add, ↓reduceIte, Nat.reduceAdd, Nat.reduceMul, Nat.reduceSub, Nat.reduceLT, Nat.reduceLeDiff, Nat.reduceEqDiff, Nat.not_lt_zero, Nat.lt_irrefl, decide_true, BEq.rfl, nm1, nm2, nm3, nm4, nm9, ngc, eq_self, List.length_cons, List.length_nil, hr, h72, ra14, h, hg p h, nI_mul]
  · simp (disch := omega) only [W1022, r_4, r_La, h60_10_14, h60_10_8, r_2, r_Li, r_49, h60_10_9, s_0, ci_80, r_12, r_10, r_52, ci_m9, r_90, h64_72, h64_73, enR, LG, LSt, LC, nlR, psR, TK, up_s, up_n, up_u, lt_nI, le_nI, eq_nI, true_and, and_true, if_true, if_false, Nat.zero_add, Nat.add_zero, nI_add, ↓reduceIte, Nat.reduceAdd, Nat.reduceMul, Nat.reduceSub, Nat.reduceLT, Nat.reduceLeDiff, Nat.reduceEqDiff, Nat.not_lt_zero, Nat.lt_irrefl, decide_true, BEq.rfl, nm1, nm2, nm3, nm4, nm9, ngc, eq_self, List.length_cons, List.length_nil, hr, h72, ra14, h]
theorem m_kindOf {x : Int32} : Cw (d + 1) 1023 [.int x] z f Q ↔ Q (some (.int (match kdc x with | none => -9 | some k => nI k))) z f := by
  rw [cw_wp]
  unfold kdc
  by_cases g0 : x = nI 114
  · simp (disch := omega) only [W1023, r_2, r_Li, s_0, ci_114, r_47, ci_0, r_52, ci_112, ci_1, ci_115, ci_2, ci_102, ci_3, ci_116, ci_4, ci_118, ci_5, ci_m9, r_90, enR, LG, LSt, LC, nlR, psR, TK, up_s, up_n, up_u, lt_nI, le_nI, eq_nI, true_and, and_true, if_true, if_false, Nat.zero_add, Nat.add_zero, nI_add, ↓reduceIte, Nat.reduceAdd, Nat.reduceMul, Nat.reduceSub, Nat.reduceLT, Nat.reduceLeDiff, Nat.reduceEqDiff, Nat.not_lt_zero, Nat.lt_irrefl, decide_true, BEq.rfl, nm1, nm2, nm3, nm4, nm9, ngc, eq_self, List.length_cons, List.length_nil, g0]
  by_cases g1 : x = nI 112
  · simp (disch := omega) only [W1023, r_2, r_Li, s_0, ci_114, r_47, ci_0, r_52, ci_112, ci_1, ci_115, ci_2, ci_102, ci_3, ci_116, ci_4, ci_118, ci_5, ci_m9, r_90, enR, LG, LSt, LC, nlR, psR, TK, up_s, up_n, up_u, lt_nI, le_nI, eq_nI, true_and, and_true, if_true, if_false, Nat.zero_add, Nat.add_zero, nI_add, ↓reduceIte, Nat.reduceAdd, Nat.reduceMul, Nat.reduceSub, Nat.reduceLT, Nat.reduceLeDiff, Nat.reduceEqDiff, Nat.not_lt_zero, Nat.lt_irrefl, decide_true, BEq.rfl, nm1, nm2, nm3, nm4, nm9, ngc, eq_self, List.length_cons, List.length_nil, g1]
  by_cases g2 : x = nI 115
  · simp (disch := omega) only [W1023, r_2, r_Li, s_0, ci_114, r_47, ci_0, r_52, ci_112, ci_1, ci_115, ci_2, ci_102, ci_3, ci_116, ci_4, ci_118, ci_5, ci_m9, r_90, enR, LG, LSt, LC, nlR, psR, TK, up_s, up_n, up_u, lt_nI, le_nI, eq_nI, true_and, and_true, if_true, if_false, Nat.zero_add, Nat.add_zero, nI_add, ↓reduceIte, Nat.reduceAdd, Nat.reduceMul, Nat.reduceSub, Nat.reduceLT, Nat.reduceLeDiff, Nat.reduceEqDiff, Nat.not_lt_zero, Nat.lt_irrefl, decide_true, BEq.rfl, nm1, nm2, nm3, nm4, nm9, ngc, eq_self, List.length_cons, List.length_nil, g2]
  by_cases g3 : x = nI 102
  · simp (disch := omega) only [W1023, r_2, r_Li, s_0, ci_114, r_47, ci_0, r_52, ci_112, ci_1, ci_115, ci_2, ci_102, ci_3, ci_116, ci_4, ci_118, ci_5, ci_m9, r_90, enR, LG, LSt, LC, nlR, psR, TK, up_s, up_n, up_u, lt_nI, le_nI, eq_nI, true_and, and_true, if_true, if_false, Nat.zero_add, Nat.add_zero, nI_add, ↓reduceIte, Nat.reduceAdd, Nat.reduceMul, Nat.reduceSub, Nat.reduceLT, Nat.reduceLeDiff, Nat.reduceEqDiff, Nat.not_lt_zero, Nat.lt_irrefl, decide_true, BEq.rfl, nm1, nm2, nm3, nm4, nm9, ngc, eq_self, List.length_cons, List.length_nil, g3]
  by_cases g4 : x = nI 116
  · simp (disch := omega) only [W1023, r_2, r_Li, s_0, ci_114, r_47, ci_0, r_52, ci_112, ci_1, ci_115, ci_2, ci_102, ci_3, ci_116, ci_4, ci_118, ci_5, ci_m9, r_90, enR, LG, LSt, LC, nlR, psR, TK, up_s, up_n, up_u, lt_nI, le_nI, eq_nI, true_and, and_true, if_true, if_false, Nat.zero_add, Nat.add_zero, nI_add, ↓reduceIte, Nat.reduceAdd, Nat.reduceMul, Nat.reduceSub, Nat.reduceLT, Nat.reduceLeDiff, Nat.reduceEqDiff, Nat.not_lt_zero, Nat.lt_irrefl, decide_true, BEq.rfl, nm1, nm2, nm3, nm4, nm9, ngc, eq_self, List.length_cons, List.length_nil, g4]
  by_cases g5 : x = nI 118
  · simp (disch := omega) only [W1023, r_2, r_Li, s_0, ci_114, r_47, ci_0, r_52, ci_112, ci_1, ci_115, ci_2, ci_102, ci_3, ci_116, ci_4, ci_118, ci_5, ci_m9, r_90, enR, LG, LSt, LC, nlR, psR, TK, up_s, up_n, up_u, lt_nI, le_nI, eq_nI, true_and, and_true, if_true, if_false, Nat.zero_add, Nat.add_zero, nI_add, ↓reduceIte, Nat.reduceAdd, Nat.reduceMul, Nat.reduceSub, Nat.reduceLT, Nat.reduceLeDiff, Nat.reduceEqDiff, Nat.not_lt_zero, Nat.lt_irrefl, decide_true, BEq.rfl, nm1, nm2, nm3, nm4, nm9, ngc, eq_self, List.length_cons, List.length_nil, g5]
  simp (disch := omega) only [W1023, r_2, r_Li, s_0, ci_114, r_47, ci_0, r_52, ci_112, ci_1, ci_115, ci_2, ci_102, ci_3, ci_116, ci_4, ci_118, ci_5, ci_m9, r_90, enR, LG, LSt, LC, nlR, psR, TK, up_s, up_n, up_u, lt_nI, le_nI, eq_nI, true_and, and_true, if_true, if_false, Nat.zero_add, Nat.add_zero, nI_add, ↓reduceIte, Nat.reduceAdd, Nat.reduceMul, Nat.reduceSub, Nat.reduceLT, Nat.reduceLeDiff, Nat.reduceEqDiff, Nat.not_lt_zero, Nat.lt_irrefl, decide_true, BEq.rfl, nm1, nm2, nm3, nm4, nm9, ngc, eq_self, List.length_cons, List.length_nil, g0, g1, g2, g3, g4, g5]
theorem m_road_ok {γ μ : Nat → Int32} {r n p P N p' k a0 b0 c0 : Nat} (hr : r < 4) (hn : n ≤ 80) (h72 : e 72 r = nI n) (hg : ∀ k, k < n → e 73 (80 * r + k) = γ k) (hP : 1 ≤ P) (hP7 : P ≤ 7) (hN : N ≤ 10) (hp : p < n) (h : rdr γ n P N p = (p', some (k, a0, b0, c0)))
    (hQ : ∀ μ', (∀ i, i < 40 + 4 * N → μ' i = μ i) → μ' (40 + 4 * N) = nI k → μ' (40 + 4 * N + 1) = nI a0 → μ' (40 + 4 * N + 2) = nI b0 → μ' (40 + 4 * N + 3) = nI c0 → Q (some (.int (nI 1))) z (Hp X C (RA a p' P (N + 1), b, va_up e 74 μ', o))) : Cw (d + 2) 1025 [.ref 67, .int (nI r)] z (Hp X C (RA a p P N, b, va_up e 74 μ, o)) Q := by
  obtain ⟨g1, hN2, g2, g3, g4, rfl⟩ := rdr_ok h
  have hN3 : N < 10 := by omega
  have l1 := fg_lt g2
  have l2 := fg_lt g3
  have l3 := fg_lt g4
  have hk6 := kdc_lt g1
  obtain ⟨v1, -, u1⟩ := fg_some (show P - 1 < 65536 by omega) (show 0 < 65536 by decide) g2
  obtain ⟨v2, -, u2⟩ := fg_some (show P - 1 < 65536 by omega) (show 0 < 65536 by decide) g3
  obtain ⟨v3, -, u3⟩ := fg_some (show 9 < 65536 by decide) (show 0 < 65536 by decide) g4
  have hb0 := fun (μ : Nat → Int32) (N : Nat) (Q : Option Value → AZ → AH → Prop) => m_byteAt (d := d) (z := z) (Q := Q) (X := X) (C := C) (a := a) (b := b) (e := e) (o := o) (γ := γ) (μ := μ) (p := p) (P := P) (N := N) hr hn h72 hg (by omega)
  have hb1 := fun (μ : Nat → Int32) (N : Nat) (Q : Option Value → AZ → AH → Prop) => m_byteAt (d := d) (z := z) (Q := Q) (X := X) (C := C) (a := a) (b := b) (e := e) (o := o) (γ := γ) (μ := μ) (p := p + 1) (P := P) (N := N) hr hn h72 hg (by omega)
  have hb2 := fun (μ : Nat → Int32) (N : Nat) (Q : Option Value → AZ → AH → Prop) => m_byteAt (d := d) (z := z) (Q := Q) (X := X) (C := C) (a := a) (b := b) (e := e) (o := o) (γ := γ) (μ := μ) (p := p + 2) (P := P) (N := N) hr hn h72 hg (by omega)
  have hb3 := fun (μ : Nat → Int32) (N : Nat) (Q : Option Value → AZ → AH → Prop) => m_byteAt (d := d) (z := z) (Q := Q) (X := X) (C := C) (a := a) (b := b) (e := e) (o := o) (γ := γ) (μ := μ) (p := p + 3) (P := P) (N := N) hr hn h72 hg (by omega)
  have w1 : ¬ 48 + a0 < 48 := by omega
  have w2 : ¬ 47 + P < 48 + a0 := by omega
  have w3 : ¬ 48 + b0 < 48 := by omega
  have w4 : ¬ 47 + P < 48 + b0 := by omega
  have w5 : ¬ 48 + c0 < 48 := by omega
  have w6 : ¬ 57 < 48 + c0 := by omega
  rw [cw_wp]
  simp (disch := omega) only [W1025, r_4, r_La, r_2, r_Li, h79_1022, h80_1023, r_5, s_0, ci_m9, r_46, h60_10_16, ci_10, r_47, ci_0, r_94, s_Z0, s_Z1, r_30, r_30r, h60_10_14, ci_1, r_10, h61_10_14, ci_40, ci_4, r_12, h60_10_13, r_49, ci_48, ci_3, ci_57, r_52, ci_47, h60_10_15, h80_1001, s_41, r_11, s_8, r_In, h61_10_16, h65_74, enR, LG, LSt, LC, nlR, psR, TK, up_s, up_n, up_u, lt_nI, le_nI, eq_nI, true_and, and_true, if_true, if_false, Nat.zero_add, Nat.add_zero, nI_add, ↓reduceIte, Nat.reduceAdd, Nat.reduceMul, Nat.reduceSub, Nat.reduceLT, Nat.reduceLeDiff, Nat.reduceEqDiff, Nat.not_lt_zero, Nat.lt_irrefl, decide_true, BEq.rfl, nm1, nm2, nm3, nm4, nm9, ngc, eq_self, List.length_cons, List.length_nil, hb0, hp, m_kindOf, g1, ra14, ra16, hN2, hN3, ru14, nI_mul]
  rw [W1025_56]
  simp (disch := omega) only [W1025, r_4, r_La, r_2, r_Li, h79_1022, h80_1023, r_5, s_0, ci_m9, r_46, h60_10_16, ci_10, r_47, ci_0, r_94, s_Z0, s_Z1, r_30, r_30r, h60_10_14, ci_1, r_10, h61_10_14, ci_40, ci_4, r_12, h60_10_13, r_49, ci_48, ci_3, ci_57, r_52, ci_47, h60_10_15, h80_1001, s_41, r_11, s_8, r_In, h61_10_16, h65_74, enR, LG, LSt, LC, nlR, psR, TK, up_s, up_n, up_u, lt_nI, le_nI, eq_nI, true_and, and_true, if_true, if_false, Nat.zero_add, Nat.add_zero, nI_add, ↓reduceIte, Nat.reduceAdd, Nat.reduceMul, Nat.reduceSub, Nat.reduceLT, Nat.reduceLeDiff, Nat.reduceEqDiff, Nat.not_lt_zero, Nat.lt_irrefl, decide_true, BEq.rfl, nm1, nm2, nm3, nm4, nm9, ngc, eq_self, List.length_cons, List.length_nil, hb1, l1, v1, ra14, ra15, ru14, m_in, w1, w2, nI_sub, Nat.add_sub_cancel_left]
  rw [W1025_56]
  simp (disch := omega) only [W1025, r_4, r_La, r_2, r_Li, h79_1022, h80_1023, r_5, s_0, ci_m9, r_46, h60_10_16, ci_10, r_47, ci_0, r_94, s_Z0, s_Z1, r_30, r_30r, h60_10_14, ci_1, r_10, h61_10_14, ci_40, ci_4, r_12, h60_10_13, r_49, ci_48, ci_3, ci_57, r_52, ci_47, h60_10_15, h80_1001, s_41, r_11, s_8, r_In, h61_10_16, h65_74, enR, LG, LSt, LC, nlR, psR, TK, up_s, up_n, up_u, lt_nI, le_nI, eq_nI, true_and, and_true, if_true, if_false, Nat.zero_add, Nat.add_zero, nI_add, ↓reduceIte, Nat.reduceAdd, Nat.reduceMul, Nat.reduceSub, Nat.reduceLT, Nat.reduceLeDiff, Nat.reduceEqDiff, Nat.not_lt_zero, Nat.lt_irrefl, decide_true, BEq.rfl, nm1, nm2, nm3, nm4, nm9, ngc, eq_self, List.length_cons, List.length_nil, hb2, l2, v2, ra14, ra15, ru14, m_in, w3, w4, nI_sub, Nat.add_sub_cancel_left]
  rw [W1025_56]
  simp (disch := omega) only [W1025, r_4, r_La, r_2, r_Li, h79_1022, h80_1023, r_5, s_0, ci_m9, r_46, h60_10_16, ci_10, r_47, ci_0, r_94, s_Z0, s_Z1, r_30, r_30r, h60_10_14, ci_1, r_10, h61_10_14, ci_40, ci_4, r_12, h60_10_13, r_49, ci_48, ci_3, ci_57, r_52, ci_47, h60_10_15, h80_1001, s_41, r_11, s_8, r_In, h61_10_16, h65_74, enR, LG, LSt, LC, nlR, psR, TK, up_s, up_n, up_u, lt_nI, le_nI, eq_nI, true_and, and_true, if_true, if_false, Nat.zero_add, Nat.add_zero, nI_add, ↓reduceIte, Nat.reduceAdd, Nat.reduceMul, Nat.reduceSub, Nat.reduceLT, Nat.reduceLeDiff, Nat.reduceEqDiff, Nat.not_lt_zero, Nat.lt_irrefl, decide_true, BEq.rfl, nm1, nm2, nm3, nm4, nm9, ngc, eq_self, List.length_cons, List.length_nil, hb3, l3, v3, ra14, ra15, ru14, m_in, w5, w6, nI_sub, Nat.add_sub_cancel_left]
  rw [W1025_56]
  simp (disch := omega) only [W1025, r_4, r_La, r_2, r_Li, h79_1022, h80_1023, r_5, s_0, ci_m9, r_46, h60_10_16, ci_10, r_47, ci_0, r_94, s_Z0, s_Z1, r_30, r_30r, h60_10_14, ci_1, r_10, h61_10_14, ci_40, ci_4, r_12, h60_10_13, r_49, ci_48, ci_3, ci_57, r_52, ci_47, h60_10_15, h80_1001, s_41, r_11, s_8, r_In, h61_10_16, h65_74, enR, LG, LSt, LC, nlR, psR, TK, up_s, up_n, up_u, lt_nI, le_nI, eq_nI, true_and, and_true, if_true, if_false, Nat.zero_add, Nat.add_zero, nI_add, ↓reduceIte, Nat.reduceAdd, Nat.reduceMul, Nat.reduceSub, Nat.reduceLT, Nat.reduceLeDiff, Nat.reduceEqDiff, Nat.not_lt_zero, Nat.lt_irrefl, decide_true, BEq.rfl, nm1, nm2, nm3, nm4, nm9, ngc, eq_self, List.length_cons, List.length_nil, ra16, ru16]
  refine hQ _ (fun i hi => ?_) ?_ ?_ ?_ ?_
  · rw [ud_n _ _ (by omega), ud_n _ _ (by omega), ud_n _ _ (by omega), ud_n _ _ (by omega)]
  · rw [ud_n _ _ (by omega), ud_n _ _ (by omega), ud_n _ _ (by omega), ud_s]
  · rw [ud_n _ _ (by omega), ud_n _ _ (by omega), ud_s]
  · rw [ud_n _ _ (by omega), ud_s]
  · rw [ud_s]
theorem fg_no' {γ : Nat → Int32} {n p lo hi : Nat} (hhi : hi < 65536) (hlo : lo < 65536) (h : fg γ n p lo hi = none) : (if p < n then γ p else -9) < nI (48 + lo) ∨ (¬ (if p < n then γ p else -9) < nI (48 + lo) ∧ nI (48 + hi) < (if p < n then γ p else -9)) := by
  unfold fg at h
  by_cases h1 : p < n
  · rw [if_pos h1] at h ⊢
    exact (fgr_no hhi hlo h).2
  · rw [if_neg h1]
    left
    refine Int32.lt_trans (b := nI 0) (by decide +kernel) ?_
    rw [nI_ltI (by decide) (by omega)]
    omega
theorem m_road_no {γ μ : Nat → Int32} {r n p P N p' : Nat} (hr : r < 4) (hn : n ≤ 80) (h72 : e 72 r = nI n) (hg : ∀ k, k < n → e 73 (80 * r + k) = γ k) (hP : 1 ≤ P) (hP7 : P ≤ 7) (hN : N ≤ 10) (hp : p < n) (h : rdr γ n P N p = (p', none))
    (hQ : ∀ μ', (∀ i, i < 40 + 4 * N → μ' i = μ i) → Q (some (.int (nI 0))) z (Hp X C (RA a p' P N, b, va_up e 74 μ', o))) : Cw (d + 2) 1025 [.ref 67, .int (nI r)] z (Hp X C (RA a p P N, b, va_up e 74 μ, o)) Q := by
  unfold rdr at h
  have hb0 := fun (p : Nat) (hp : p < 65536) (μ : Nat → Int32) (N : Nat) (Q : Option Value → AZ → AH → Prop) => m_byteAt (d := d) (z := z) (Q := Q) (X := X) (C := C) (a := a) (b := b) (e := e) (o := o) (γ := γ) (μ := μ) (p := p) (P := P) (N := N) hr hn h72 hg hp
  rw [cw_wp]
  cases g1 : kdc (γ p) with
  | none =>
    rw [g1] at h
    have e1 := (Prod.mk.inj h).1
    subst e1
    simp (disch := omega) only [W1025, r_4, r_La, r_2, r_Li, h79_1022, h80_1023, r_5, s_0, ci_m9, r_46, h60_10_16, ci_10, r_47, ci_0, r_94, s_Z0, s_Z1, r_30, r_30r, h60_10_14, ci_1, r_10, h61_10_14, ci_40, ci_4, r_12, h60_10_13, r_49, ci_48, ci_3, ci_57, r_52, ci_47, h60_10_15, h80_1001, s_41, r_11, s_8, r_In, h61_10_16, h65_74, enR, LG, LSt, LC, nlR, psR, TK, up_s, up_n, up_u, lt_nI, le_nI, eq_nI, true_and, and_true, if_true, if_false, Nat.zero_add, Nat.add_zero, nI_add, ↓reduceIte, Nat.reduceAdd, Nat.reduceMul, Nat.reduceSub, Nat.reduceLT, Nat.reduceLeDiff, Nat.reduceEqDiff, Nat.not_lt_zero, Nat.lt_irrefl, decide_true, BEq.rfl, nm1, nm2, nm3, nm4, nm9, ngc, eq_self, List.length_cons, List.length_nil, hb0 p, hp, m_kindOf, g1]
    exact hQ μ (fun _ _ => rfl)
  | some k =>
    have hk6 := kdc_lt g1
    rw [g1] at h
    simp only at h
    by_cases hN2 : N = 10
    · rw [if_pos hN2] at h
      have e1 := (Prod.mk.inj h).1
      subst e1
      subst hN2
      simp (disch := omega) only [W1025, r_4, r_La, r_2, r_Li, h79_1022, h80_1023, r_5, s_0, ci_m9, r_46, h60_10_16, ci_10, r_47, ci_0, r_94, s_Z0, s_Z1, r_30, r_30r, h60_10_14, ci_1, r_10, h61_10_14, ci_40, ci_4, r_12, h60_10_13, r_49, ci_48, ci_3, ci_57, r_52, ci_47, h60_10_15, h80_1001, s_41, r_11, s_8, r_In, h61_10_16, h65_74, enR, LG, LSt, LC, nlR, psR, TK, up_s, up_n, up_u, lt_nI, le_nI, eq_nI, true_and, and_true, if_true, if_false, Nat.zero_add, Nat.add_zero, nI_add, ↓reduceIte, Nat.reduceAdd, Nat.reduceMul, Nat.reduceSub, Nat.reduceLT, Nat.reduceLeDiff, Nat.reduceEqDiff, Nat.not_lt_zero, Nat.lt_irrefl, decide_true, BEq.rfl, nm1, nm2, nm3, nm4, nm9, ngc, eq_self, List.length_cons, List.length_nil, hb0 p, hp, m_kindOf, g1, ra16]
      exact hQ μ (fun _ _ => rfl)
    rw [if_neg hN2] at h
    have hN3 : N < 10 := by omega
    simp (disch := omega) only [W1025, r_4, r_La, r_2, r_Li, h79_1022, h80_1023, r_5, s_0, ci_m9, r_46, h60_10_16, ci_10, r_47, ci_0, r_94, s_Z0, s_Z1, r_30, r_30r, h60_10_14, ci_1, r_10, h61_10_14, ci_40, ci_4, r_12, h60_10_13, r_49, ci_48, ci_3, ci_57, r_52, ci_47, h60_10_15, h80_1001, s_41, r_11, s_8, r_In, h61_10_16, h65_74, enR, LG, LSt, LC, nlR, psR, TK, up_s, up_n, up_u, lt_nI, le_nI, eq_nI, true_and, and_true, if_true, if_false, Nat.zero_add, Nat.add_zero, nI_add, ↓reduceIte, Nat.reduceAdd, Nat.reduceMul, Nat.reduceSub, Nat.reduceLT, Nat.reduceLeDiff, Nat.reduceEqDiff, Nat.not_lt_zero, Nat.lt_irrefl, decide_true, BEq.rfl, nm1, nm2, nm3, nm4, nm9, ngc, eq_self, List.length_cons, List.length_nil, hb0 p, hp, m_kindOf, g1, ra14, ra16, hN2, hN3, ru14, nI_mul]
    rw [W1025_56]
    cases g2 : fg γ n (p + 1) 0 (P - 1) with
    | none =>
      rw [g2] at h
      have e1 := (Prod.mk.inj h).1
      subst e1
      have hy := fg_no' (show P - 1 < 65536 by omega) (show 0 < 65536 by decide) g2
      rw [show 48 + 0 = 48 from rfl, show 48 + (P - 1) = 47 + P by omega] at hy
      have hq := hQ (upd μ (40 + 4 * N) (nI k)) (fun i hi => ud_n _ _ (by omega))
      rcases hy with hy | ⟨hy, hy2⟩
      · simp (disch := omega) only [W1025, r_4, r_La, r_2, r_Li, h79_1022, h80_1023, r_5, s_0, ci_m9, r_46, h60_10_16, ci_10, r_47, ci_0, r_94, s_Z0, s_Z1, r_30, r_30r, h60_10_14, ci_1, r_10, h61_10_14, ci_40, ci_4, r_12, h60_10_13, r_49, ci_48, ci_3, ci_57, r_52, ci_47, h60_10_15, h80_1001, s_41, r_11, s_8, r_In, h61_10_16, h65_74, enR, LG, LSt, LC, nlR, psR, TK, up_s, up_n, up_u, lt_nI, le_nI, eq_nI, true_and, and_true, if_true, if_false, Nat.zero_add, Nat.add_zero, nI_add, ↓reduceIte, Nat.reduceAdd, Nat.reduceMul, Nat.reduceSub, Nat.reduceLT, Nat.reduceLeDiff, Nat.reduceEqDiff, Nat.not_lt_zero, Nat.lt_irrefl, decide_true, BEq.rfl, nm1, nm2, nm3, nm4, nm9, ngc, eq_self, List.length_cons, List.length_nil, hb0 (p + 1), ra14, ra15, m_in, hy]
        exact hq
      · simp (disch := omega) only [W1025, r_4, r_La, r_2, r_Li, h79_1022, h80_1023, r_5, s_0, ci_m9, r_46, h60_10_16, ci_10, r_47, ci_0, r_94, s_Z0, s_Z1, r_30, r_30r, h60_10_14, ci_1, r_10, h61_10_14, ci_40, ci_4, r_12, h60_10_13, r_49, ci_48, ci_3, ci_57, r_52, ci_47, h60_10_15, h80_1001, s_41, r_11, s_8, r_In, h61_10_16, h65_74, enR, LG, LSt, LC, nlR, psR, TK, up_s, up_n, up_u, lt_nI, le_nI, eq_nI, true_and, and_true, if_true, if_false, Nat.zero_add, Nat.add_zero, nI_add, ↓reduceIte, Nat.reduceAdd, Nat.reduceMul, Nat.reduceSub, Nat.reduceLT, Nat.reduceLeDiff, Nat.reduceEqDiff, Nat.not_lt_zero, Nat.lt_irrefl, decide_true, BEq.rfl, nm1, nm2, nm3, nm4, nm9, ngc, eq_self, List.length_cons, List.length_nil, hb0 (p + 1), ra14, ra15, m_in, hy, hy2]
        exact hq
    | some a0 =>
      have l1 := fg_lt g2
      obtain ⟨v1, -, u1⟩ := fg_some (show P - 1 < 65536 by omega) (show 0 < 65536 by decide) g2
      have w1 : ¬ 48 + a0 < 48 := by omega
      have w2 : ¬ 47 + P < 48 + a0 := by omega
      rw [g2] at h
      simp only at h
      simp (disch := omega) only [W1025, r_4, r_La, r_2, r_Li, h79_1022, h80_1023, r_5, s_0, ci_m9, r_46, h60_10_16, ci_10, r_47, ci_0, r_94, s_Z0, s_Z1, r_30, r_30r, h60_10_14, ci_1, r_10, h61_10_14, ci_40, ci_4, r_12, h60_10_13, r_49, ci_48, ci_3, ci_57, r_52, ci_47, h60_10_15, h80_1001, s_41, r_11, s_8, r_In, h61_10_16, h65_74, enR, LG, LSt, LC, nlR, psR, TK, up_s, up_n, up_u, lt_nI, le_nI, eq_nI, true_and, and_true, if_true, if_false, Nat.zero_add, Nat.add_zero, nI_add, ↓reduceIte, Nat.reduceAdd, Nat.reduceMul, Nat.reduceSub, Nat.reduceLT, Nat.reduceLeDiff, Nat.reduceEqDiff, Nat.not_lt_zero, Nat.lt_irrefl, decide_true, BEq.rfl, nm1, nm2, nm3, nm4, nm9, ngc, eq_self, List.length_cons, List.length_nil, hb0 (p + 1), l1, v1, ra14, ra15, ru14, m_in, w1, w2, nI_sub, Nat.add_sub_cancel_left]
      rw [W1025_56]
      cases g3 : fg γ n (p + 2) 0 (P - 1) with
      | none =>
        rw [g3] at h
        have e1 := (Prod.mk.inj h).1
        subst e1
        have hy := fg_no' (show P - 1 < 65536 by omega) (show 0 < 65536 by decide) g3
        rw [show 48 + 0 = 48 from rfl, show 48 + (P - 1) = 47 + P by omega] at hy
        have hq := hQ (upd (upd μ (40 + 4 * N) (nI k)) (40 + 4 * N + 1) (nI a0)) (fun i hi => by rw [ud_n _ _ (by omega), ud_n _ _ (by omega)])
        rcases hy with hy | ⟨hy, hy2⟩
        · simp (disch := omega) only [W1025, r_4, r_La, r_2, r_Li, h79_1022, h80_1023, r_5, s_0, ci_m9, r_46, h60_10_16, ci_10, r_47, ci_0, r_94, s_Z0, s_Z1, r_30, r_30r, h60_10_14, ci_1, r_10, h61_10_14, ci_40, ci_4, r_12, h60_10_13, r_49, ci_48, ci_3, ci_57, r_52, ci_47, h60_10_15, h80_1001, s_41, r_11, s_8, r_In, h61_10_16, h65_74, enR, LG, LSt, LC, nlR, psR, TK, up_s, up_n, up_u, lt_nI, le_nI, eq_nI, true_and, and_true, if_true, if_false, Nat.zero_add, Nat.add_zero, nI_add, ↓reduceIte, Nat.reduceAdd, Nat.reduceMul, Nat.reduceSub, Nat.reduceLT, Nat.reduceLeDiff, Nat.reduceEqDiff, Nat.not_lt_zero, Nat.lt_irrefl, decide_true, BEq.rfl, nm1, nm2, nm3, nm4, nm9, ngc, eq_self, List.length_cons, List.length_nil, hb0 (p + 2), ra14, ra15, m_in, hy]
          exact hq
        · simp (disch := omega) only [W1025, r_4, r_La, r_2, r_Li, h79_1022, h80_1023, r_5, s_0, ci_m9, r_46, h60_10_16, ci_10, r_47, ci_0, r_94, s_Z0, s_Z1, r_30, r_30r, h60_10_14, ci_1, r_10, h61_10_14, ci_40, ci_4, r_12, h60_10_13, r_49, ci_48, ci_3, ci_57, r_52, ci_47, h60_10_15, h80_1001, s_41, r_11, s_8, r_In, h61_10_16, h65_74, enR, LG, LSt, LC, nlR, psR, TK, up_s, up_n, up_u, lt_nI, le_nI, eq_nI, true_and, and_true, if_true, if_false, Nat.zero_add, Nat.add_zero, nI_add, ↓reduceIte, Nat.reduceAdd, Nat.reduceMul, Nat.reduceSub, Nat.reduceLT, Nat.reduceLeDiff, Nat.reduceEqDiff, Nat.not_lt_zero, Nat.lt_irrefl, decide_true, BEq.rfl, nm1, nm2, nm3, nm4, nm9, ngc, eq_self, List.length_cons, List.length_nil, hb0 (p + 2), ra14, ra15, m_in, hy, hy2]
          exact hq
      | some b0 =>
        have l2 := fg_lt g3
        obtain ⟨v2, -, u2⟩ := fg_some (show P - 1 < 65536 by omega) (show 0 < 65536 by decide) g3
        have w3 : ¬ 48 + b0 < 48 := by omega
        have w4 : ¬ 47 + P < 48 + b0 := by omega
        rw [g3] at h
        simp only at h
        simp (disch := omega) only [W1025, r_4, r_La, r_2, r_Li, h79_1022, h80_1023, r_5, s_0, ci_m9, r_46, h60_10_16, ci_10, r_47, ci_0, r_94, s_Z0, s_Z1, r_30, r_30r, h60_10_14, ci_1, r_10, h61_10_14, ci_40, ci_4, r_12, h60_10_13, r_49, ci_48, ci_3, ci_57, r_52, ci_47, h60_10_15, h80_1001, s_41, r_11, s_8, r_In, h61_10_16, h65_74, enR, LG, LSt, LC, nlR, psR, TK, up_s, up_n, up_u, lt_nI, le_nI, eq_nI, true_and, and_true, if_true, if_false, Nat.zero_add, Nat.add_zero, nI_add, ↓reduceIte, Nat.reduceAdd, Nat.reduceMul, Nat.reduceSub, Nat.reduceLT, Nat.reduceLeDiff, Nat.reduceEqDiff, Nat.not_lt_zero, Nat.lt_irrefl, decide_true, BEq.rfl, nm1, nm2, nm3, nm4, nm9, ngc, eq_self, List.length_cons, List.length_nil, hb0 (p + 2), l2, v2, ra14, ra15, ru14, m_in, w3, w4, nI_sub, Nat.add_sub_cancel_left]
        rw [W1025_56]
        cases g4 : fg γ n (p + 3) 0 9 with
        | none =>
          rw [g4] at h
          have e1 := (Prod.mk.inj h).1
          subst e1
          have hy := fg_no' (show 9 < 65536 by omega) (show 0 < 65536 by decide) g4
          rw [show 48 + 0 = 48 from rfl, show 48 + 9 = 57 from rfl] at hy
          have hq := hQ (upd (upd (upd μ (40 + 4 * N) (nI k)) (40 + 4 * N + 1) (nI a0)) (40 + 4 * N + 2) (nI b0)) (fun i hi => by rw [ud_n _ _ (by omega), ud_n _ _ (by omega), ud_n _ _ (by omega)])
          rcases hy with hy | ⟨hy, hy2⟩
          · simp (disch := omega) only [W1025, r_4, r_La, r_2, r_Li, h79_1022, h80_1023, r_5, s_0, ci_m9, r_46, h60_10_16, ci_10, r_47, ci_0, r_94, s_Z0, s_Z1, r_30, r_30r, h60_10_14, ci_1, r_10, h61_10_14, ci_40, ci_4, r_12, h60_10_13, r_49, ci_48, ci_3, ci_57, r_52, ci_47, h60_10_15, h80_1001, s_41, r_11, s_8, r_In, h61_10_16, h65_74, enR, LG, LSt, LC, nlR, psR, TK, up_s, up_n, up_u, lt_nI, le_nI, eq_nI, true_and, and_true, if_true, if_false, Nat.zero_add, Nat.add_zero, nI_add, ↓reduceIte, Nat.reduceAdd, Nat.reduceMul, Nat.reduceSub, Nat.reduceLT, Nat.reduceLeDiff, Nat.reduceEqDiff, Nat.not_lt_zero, Nat.lt_irrefl, decide_true, BEq.rfl, nm1, nm2, nm3, nm4, nm9, ngc, eq_self, List.length_cons, List.length_nil, hb0 (p + 3), ra14, ra15, m_in, hy]
            exact hq
          · simp (disch := omega) only [W1025, r_4, r_La, r_2, r_Li, h79_1022, h80_1023, r_5, s_0, ci_m9, r_46, h60_10_16, ci_10, r_47, ci_0, r_94, s_Z0, s_Z1, r_30, r_30r, h60_10_14, ci_1, r_10, h61_10_14, ci_40, ci_4, r_12, h60_10_13, r_49, ci_48, ci_3, ci_57, r_52, ci_47, h60_10_15, h80_1001, s_41, r_11, s_8, r_In, h61_10_16, h65_74, enR, LG, LSt, LC, nlR, psR, TK, up_s, up_n, up_u, lt_nI, le_nI, eq_nI, true_and, and_true, if_true, if_false, Nat.zero_add, Nat.add_zero, nI_add, ↓reduceIte, Nat.reduceAdd, Nat.reduceMul, Nat.reduceSub, Nat.reduceLT, Nat.reduceLeDiff, Nat.reduceEqDiff, Nat.not_lt_zero, Nat.lt_irrefl, decide_true, BEq.rfl, nm1, nm2, nm3, nm4, nm9, ngc, eq_self, List.length_cons, List.length_nil, hb0 (p + 3), ra14, ra15, m_in, hy, hy2]
            exact hq
        | some c0 =>
          rw [g4] at h
          exact absurd (Prod.mk.inj h).2 (by simp)
theorem m_head_no1 {γ μ : Nat → Int32} {r n p P N : Nat} (hr : r < 4) (hn : n ≤ 80) (h72 : e 72 r = nI n) (hg : ∀ k, k < n → e 73 (80 * r + k) = γ k) (hp : p < n) (h : ¬ γ p = nI 110) : Cw (d + 2) 1024 [.ref 67, .int (nI r)] z (Hp X C (RA a p P N, b, va_up e 74 μ, o)) Q ↔ Q (some (.int (nI 0))) z (Hp X C (RA a p P N, b, va_up e 74 μ, o)) := by
  rw [cw_wp]
  simp (disch := omega) only [W1024, r_4, r_La, r_2, r_Li, h79_1022, s_0, ci_110, r_46, ci_0, r_94, s_Z0, s_Z1, r_30, r_30r, h60_10_14, ci_1, r_10, h61_10_14, ci_49, ci_55, h80_1001, s_41, ci_48, r_11, h61_10_15, enR, LG, LSt, LC, nlR, psR, TK, up_s, up_n, up_u, lt_nI, le_nI, eq_nI, true_and, and_true, if_true, if_false, Nat.zero_add, Nat.add_zero, nI_add, ↓reduceIte, Nat.reduceAdd, Nat.reduceMul, Nat.reduceSub, Nat.reduceLT, Nat.reduceLeDiff, Nat.reduceEqDiff, Nat.not_lt_zero, Nat.lt_irrefl, decide_true, BEq.rfl, nm1, nm2, nm3, nm4, nm9, ngc, eq_self, List.length_cons, List.length_nil, m_byteAt hr hn h72 hg (show p < 65536 by omega), hp, h]
theorem m_head_no2 {γ μ : Nat → Int32} {r n p P N : Nat} (hr : r < 4) (hn : n ≤ 80) (h72 : e 72 r = nI n) (hg : ∀ k, k < n → e 73 (80 * r + k) = γ k) (hp : p < n) (h : γ p = nI 110) (h2 : fg γ n (p + 1) 1 7 = none) : Cw (d + 2) 1024 [.ref 67, .int (nI r)] z (Hp X C (RA a p P N, b, va_up e 74 μ, o)) Q ↔ Q (some (.int (nI 0))) z (Hp X C (RA a (p + 1) P N, b, va_up e 74 μ, o)) := by
  have hy := fg_no' (show 7 < 65536 by omega) (show 1 < 65536 by decide) h2
  rw [show 48 + 1 = 49 from rfl, show 48 + 7 = 55 from rfl] at hy
  rw [cw_wp]
  rcases hy with hy | ⟨hy, hy2⟩
  · simp (disch := omega) only [W1024, r_4, r_La, r_2, r_Li, h79_1022, s_0, ci_110, r_46, ci_0, r_94, s_Z0, s_Z1, r_30, r_30r, h60_10_14, ci_1, r_10, h61_10_14, ci_49, ci_55, h80_1001, s_41, ci_48, r_11, h61_10_15, enR, LG, LSt, LC, nlR, psR, TK, up_s, up_n, up_u, lt_nI, le_nI, eq_nI, true_and, and_true, if_true, if_false, Nat.zero_add, Nat.add_zero, nI_add, ↓reduceIte, Nat.reduceAdd, Nat.reduceMul, Nat.reduceSub, Nat.reduceLT, Nat.reduceLeDiff, Nat.reduceEqDiff, Nat.not_lt_zero, Nat.lt_irrefl, decide_true, BEq.rfl, nm1, nm2, nm3, nm4, nm9, ngc, eq_self, List.length_cons, List.length_nil, m_byteAt hr hn h72 hg (show p < 65536 by omega), m_byteAt hr hn h72 hg (show p + 1 < 65536 by omega), hp, h, ra14, ru14, m_in, hy]
  · simp (disch := omega) only [W1024, r_4, r_La, r_2, r_Li, h79_1022, s_0, ci_110, r_46, ci_0, r_94, s_Z0, s_Z1, r_30, r_30r, h60_10_14, ci_1, r_10, h61_10_14, ci_49, ci_55, h80_1001, s_41, ci_48, r_11, h61_10_15, enR, LG, LSt, LC, nlR, psR, TK, up_s, up_n, up_u, lt_nI, le_nI, eq_nI, true_and, and_true, if_true, if_false, Nat.zero_add, Nat.add_zero, nI_add, ↓reduceIte, Nat.reduceAdd, Nat.reduceMul, Nat.reduceSub, Nat.reduceLT, Nat.reduceLeDiff, Nat.reduceEqDiff, Nat.not_lt_zero, Nat.lt_irrefl, decide_true, BEq.rfl, nm1, nm2, nm3, nm4, nm9, ngc, eq_self, List.length_cons, List.length_nil, m_byteAt hr hn h72 hg (show p < 65536 by omega), m_byteAt hr hn h72 hg (show p + 1 < 65536 by omega), hp, h, ra14, ru14, m_in, hy, hy2]
theorem m_head_ok {γ μ : Nat → Int32} {r n p P N P0 : Nat} (hr : r < 4) (hn : n ≤ 80) (h72 : e 72 r = nI n) (hg : ∀ k, k < n → e 73 (80 * r + k) = γ k) (hp : p < n) (h : γ p = nI 110) (h2 : fg γ n (p + 1) 1 7 = some P0) : Cw (d + 2) 1024 [.ref 67, .int (nI r)] z (Hp X C (RA a p P N, b, va_up e 74 μ, o)) Q ↔ Q (some (.int (nI 1))) z (Hp X C (RA a (p + 2) P0 N, b, va_up e 74 μ, o)) := by
  have l1 := fg_lt h2
  obtain ⟨v1, u0, u1⟩ := fg_some (show 7 < 65536 by omega) (show 1 < 65536 by decide) h2
  have w1 : ¬ 48 + P0 < 49 := by omega
  have w2 : ¬ 55 < 48 + P0 := by omega
  rw [cw_wp]
  simp (disch := omega) only [W1024, r_4, r_La, r_2, r_Li, h79_1022, s_0, ci_110, r_46, ci_0, r_94, s_Z0, s_Z1, r_30, r_30r, h60_10_14, ci_1, r_10, h61_10_14, ci_49, ci_55, h80_1001, s_41, ci_48, r_11, h61_10_15, enR, LG, LSt, LC, nlR, psR, TK, up_s, up_n, up_u, lt_nI, le_nI, eq_nI, true_and, and_true, if_true, if_false, Nat.zero_add, Nat.add_zero, nI_add, ↓reduceIte, Nat.reduceAdd, Nat.reduceMul, Nat.reduceSub, Nat.reduceLT, Nat.reduceLeDiff, Nat.reduceEqDiff, Nat.not_lt_zero, Nat.lt_irrefl, decide_true, BEq.rfl, nm1, nm2, nm3, nm4, nm9, ngc, eq_self, List.length_cons, List.length_nil, m_byteAt hr hn h72 hg (show p < 65536 by omega), m_byteAt hr hn h72 hg (show p + 1 < 65536 by omega), hp, l1, h, v1, w1, w2, ra14, ru14, ru15, m_in, nI_sub, Nat.add_sub_cancel_left]
theorem skp_blank {γ : Nat → Int32} {n p : Nat} (hp : p < n) (h : γ p = nI 32) : skp γ (n - p) p = skp γ (n - (p + 1)) (p + 1) := by
  rw [show n - p = (n - (p + 1)) + 1 by omega]
  show (if γ p = nI 32 then _ else _) = _
  rw [if_pos h]
theorem skp_here {γ : Nat → Int32} {n p : Nat} (h : p < n → ¬ γ p = nI 32) : skp γ (n - p) p = p := by
  by_cases hp : p < n
  · rw [show n - p = (n - (p + 1)) + 1 by omega]
    show (if γ p = nI 32 then _ else _) = _
    rw [if_neg (h hp)]
  · rw [show n - p = 0 by omega]
    rfl
theorem rm_add {μ μ' : Nat → Int32} {N k a0 b0 c0 : Nat} {L : LD} (h : RM μ N L) (h0 : ∀ i, i < 40 + 4 * N → μ' i = μ i) (h1 : μ' (40 + 4 * N) = nI k) (h2 : μ' (40 + 4 * N + 1) = nI a0) (h3 : μ' (40 + 4 * N + 2) = nI b0) (h4 : μ' (40 + 4 * N + 3) = nI c0) : RM μ' (N + 1) (va_up L.1 N k, va_up L.2.1 N a0, va_up L.2.2.1 N b0, va_up L.2.2.2 N c0) := by
  intro i hi
  show _ = nI (va_up L.1 N k i) ∧ _ = nI (va_up L.2.1 N a0 i) ∧ _ = nI (va_up L.2.2.1 N b0 i) ∧ _ = nI (va_up L.2.2.2 N c0 i)
  by_cases hi2 : i = N
  · subst hi2
    rw [up_s, up_s, up_s, up_s]
    exact ⟨h1, h2, h3, h4⟩
  · rw [up_n _ _ hi2, up_n _ _ hi2, up_n _ _ hi2, up_n _ _ hi2, h0 _ (by omega), h0 _ (by omega), h0 _ (by omega), h0 _ (by omega)]
    exact h i (by omega)
theorem lp_goes2 {γ : Nat → Int32} {r n P N' : Nat} {x : Option Nat} {L' : LD} (hr : r < 4) (hn : n ≤ 80) (h72 : e 72 r = nI n) (hg : ∀ k, k < n → e 73 (80 * r + k) = γ k) (hP : 1 ≤ P) (hP7 : P ≤ 7)
    (hQ : ∀ p N μ, (∀ i, i < 40 → μ i = e 74 i) → (x = none → N = N' ∧ RM μ N' L') → Q (some (.int (rdo x))) z (Hp X C (RA a p P N, b, va_up e 74 μ, o))) : ∀ (j p r' N : Nat) (L : LD) (μ : Nat → Int32), n ≤ p + j → p ≤ n → N + r' = 11 → N ≤ 10 → (∀ i, i < 40 → μ i = e 74 i) → RM μ N L → prs γ n P r' p N L = (x, N', L') → Wp (d + 2) 1026 15 [some (.ref 67), some (.int (nI r))] [] z (Hp X C (RA a p P N, b, va_up e 74 μ, o)) Q := by
  intro j
  induction j with
  | zero =>
    intro p r' N L μ hj hp hN hN2 hμ hR hpr
    have hp : p = n := by omega
    subst hp
    obtain ⟨r'', rfl⟩ : ∃ k, r' = k + 1 := ⟨r' - 1, by omega⟩
    have hpr' : (if p ≤ skp γ (p - p) p then (none, N, L) else _) = (x, N', L') := hpr
    rw [if_pos (skp_le γ (p - p) p).1] at hpr'
    have e1 := (Prod.mk.inj hpr').1
    have e2 := (Prod.mk.inj (Prod.mk.inj hpr').2).1
    have e3 := (Prod.mk.inj (Prod.mk.inj hpr').2).2
    subst e1
    subst e2
    subst e3
    have hP0 : P ≠ 0 := by omega
    rw [W1026_15]
    simp (disch := omega) only [W1026, r_4, r_La, s_0, ci_0, h61_10_14, h61_10_15, h61_10_16, h60_10_14, h60_10_8, r_2, r_Li, r_49, h79_1022, ci_32, r_47, r_30, r_30r, ci_1, r_10, r_52, h60_10_15, s_41, h79_1024, h79_1025, r_90, ci_m9, h64_72, enR, LG, LSt, LC, nlR, psR, TK, up_s, up_n, up_u, lt_nI, le_nI, eq_nI, true_and, and_true, if_true, if_false, Nat.zero_add, Nat.add_zero, nI_add, ↓reduceIte, Nat.reduceAdd, Nat.reduceMul, Nat.reduceSub, Nat.reduceLT, Nat.reduceLeDiff, Nat.reduceEqDiff, Nat.not_lt_zero, Nat.lt_irrefl, decide_true, BEq.rfl, nm1, nm2, nm3, nm4, nm9, ngc, eq_self, List.length_cons, List.length_nil, hr, h72, ra14, ra15, hP0]
    exact hQ p N μ hμ (fun _ => ⟨rfl, hR⟩)
  | succ j ih =>
    intro p r' N L μ hj hp hN hN2 hμ hR hpr
    by_cases hpn : p = n
    · exact ih p r' N L μ (by omega) hp hN hN2 hμ hR hpr
    have hlt : p < n := by omega
    rw [W1026_15]
    by_cases hbl : γ p = nI 32
    · simp (disch := omega) only [W1026, r_4, r_La, s_0, ci_0, h61_10_14, h61_10_15, h61_10_16, h60_10_14, h60_10_8, r_2, r_Li, r_49, h79_1022, ci_32, r_47, r_30, r_30r, ci_1, r_10, r_52, h60_10_15, s_41, h79_1024, h79_1025, r_90, ci_m9, h64_72, enR, LG, LSt, LC, nlR, psR, TK, up_s, up_n, up_u, lt_nI, le_nI, eq_nI, true_and, and_true, if_true, if_false, Nat.zero_add, Nat.add_zero, nI_add, ↓reduceIte, Nat.reduceAdd, Nat.reduceMul, Nat.reduceSub, Nat.reduceLT, Nat.reduceLeDiff, Nat.reduceEqDiff, Nat.not_lt_zero, Nat.lt_irrefl, decide_true, BEq.rfl, nm1, nm2, nm3, nm4, nm9, ngc, eq_self, List.length_cons, List.length_nil, hr, h72, ra14, hlt, m_byteAt hr hn h72 hg (show p < 65536 by omega), hbl, ru14]
      refine ih (p + 1) r' N L μ (by omega) (by omega) hN hN2 hμ hR ?_
      rw [← hpr]
      cases r' with
      | zero => omega
      | succ r'' =>
        unfold prs
        rw [← skp_blank hlt hbl]
    · obtain ⟨r'', rfl⟩ : ∃ k, r' = k + 1 := ⟨r' - 1, by omega⟩
      have hsk : skp γ (n - p) p = p := skp_here (fun _ => hbl)
      unfold prs at hpr
      rw [hsk, if_neg (by omega)] at hpr
      have hP0 : P ≠ 0 := by omega
      cases hrd : rdr γ n P N p with
      | mk q0 o0 =>
      rw [hrd] at hpr
      cases o0 with
      | none =>
        have e1 := (Prod.mk.inj hpr).1
        subst e1
        simp (disch := omega) only [W1026, r_4, r_La, s_0, ci_0, h61_10_14, h61_10_15, h61_10_16, h60_10_14, h60_10_8, r_2, r_Li, r_49, h79_1022, ci_32, r_47, r_30, r_30r, ci_1, r_10, r_52, h60_10_15, s_41, h79_1024, h79_1025, r_90, ci_m9, h64_72, enR, LG, LSt, LC, nlR, psR, TK, up_s, up_n, up_u, lt_nI, le_nI, eq_nI, true_and, and_true, if_true, if_false, Nat.zero_add, Nat.add_zero, nI_add, ↓reduceIte, Nat.reduceAdd, Nat.reduceMul, Nat.reduceSub, Nat.reduceLT, Nat.reduceLeDiff, Nat.reduceEqDiff, Nat.not_lt_zero, Nat.lt_irrefl, decide_true, BEq.rfl, nm1, nm2, nm3, nm4, nm9, ngc, eq_self, List.length_cons, List.length_nil, hr, h72, ra14, ra15, hlt, m_byteAt hr hn h72 hg (show p < 65536 by omega), hbl, hP0]
        refine m_road_no hr hn h72 hg hP hP7 hN2 hlt hrd (fun μ' hμ' => ?_)
        simp (disch := omega) only [W1026, r_4, r_La, s_0, ci_0, h61_10_14, h61_10_15, h61_10_16, h60_10_14, h60_10_8, r_2, r_Li, r_49, h79_1022, ci_32, r_47, r_30, r_30r, ci_1, r_10, r_52, h60_10_15, s_41, h79_1024, h79_1025, r_90, ci_m9, h64_72, enR, LG, LSt, LC, nlR, psR, TK, up_s, up_n, up_u, lt_nI, le_nI, eq_nI, true_and, and_true, if_true, if_false, Nat.zero_add, Nat.add_zero, nI_add, ↓reduceIte, Nat.reduceAdd, Nat.reduceMul, Nat.reduceSub, Nat.reduceLT, Nat.reduceLeDiff, Nat.reduceEqDiff, Nat.not_lt_zero, Nat.lt_irrefl, decide_true, BEq.rfl, nm1, nm2, nm3, nm4, nm9, ngc, eq_self, List.length_cons, List.length_nil, ra14]
        exact hQ q0 N μ' (fun i hi => (hμ' i (by omega)).trans (hμ i hi)) (fun h => absurd h (by simp))
      | some y =>
        obtain ⟨k, a0, b0, c0⟩ := y
        have hpr' : prs γ n P r'' q0 (N + 1) (va_up L.1 N k, va_up L.2.1 N a0, va_up L.2.2.1 N b0, va_up L.2.2.2 N c0) = (x, N', L') := hpr
        have hq := rdr_ok hrd
        have hq4 := fg_lt hq.2.2.2.2.1
        have hq5 := hq.2.2.2.2.2
        have hq6 := hq.2.1
        simp (disch := omega) only [W1026, r_4, r_La, s_0, ci_0, h61_10_14, h61_10_15, h61_10_16, h60_10_14, h60_10_8, r_2, r_Li, r_49, h79_1022, ci_32, r_47, r_30, r_30r, ci_1, r_10, r_52, h60_10_15, s_41, h79_1024, h79_1025, r_90, ci_m9, h64_72, enR, LG, LSt, LC, nlR, psR, TK, up_s, up_n, up_u, lt_nI, le_nI, eq_nI, true_and, and_true, if_true, if_false, Nat.zero_add, Nat.add_zero, nI_add, ↓reduceIte, Nat.reduceAdd, Nat.reduceMul, Nat.reduceSub, Nat.reduceLT, Nat.reduceLeDiff, Nat.reduceEqDiff, Nat.not_lt_zero, Nat.lt_irrefl, decide_true, BEq.rfl, nm1, nm2, nm3, nm4, nm9, ngc, eq_self, List.length_cons, List.length_nil, hr, h72, ra14, ra15, hlt, m_byteAt hr hn h72 hg (show p < 65536 by omega), hbl, hP0]
        refine m_road_ok hr hn h72 hg hP hP7 hN2 hlt hrd (fun μ' hμ' k1 k2 k3 k4 => ?_)
        simp (disch := omega) only [W1026, r_4, r_La, s_0, ci_0, h61_10_14, h61_10_15, h61_10_16, h60_10_14, h60_10_8, r_2, r_Li, r_49, h79_1022, ci_32, r_47, r_30, r_30r, ci_1, r_10, r_52, h60_10_15, s_41, h79_1024, h79_1025, r_90, ci_m9, h64_72, enR, LG, LSt, LC, nlR, psR, TK, up_s, up_n, up_u, lt_nI, le_nI, eq_nI, true_and, and_true, if_true, if_false, Nat.zero_add, Nat.add_zero, nI_add, ↓reduceIte, Nat.reduceAdd, Nat.reduceMul, Nat.reduceSub, Nat.reduceLT, Nat.reduceLeDiff, Nat.reduceEqDiff, Nat.not_lt_zero, Nat.lt_irrefl, decide_true, BEq.rfl, nm1, nm2, nm3, nm4, nm9, ngc, eq_self, List.length_cons, List.length_nil]
        exact ih q0 r'' (N + 1) _ μ' (by omega) (by omega) (by omega) (by omega) (fun i hi => (hμ' i (by omega)).trans (hμ i hi)) (rm_add hR hμ' k1 k2 k3 k4) hpr'
theorem lp_goes1 {γ μ : Nat → Int32} {r n P' N' : Nat} {x : Option Nat} {L' : LD} (hr : r < 4) (hn : n ≤ 80) (h72 : e 72 r = nI n) (hg : ∀ k, k < n → e 73 (80 * r + k) = γ k) (h : rda γ n = (x, P', N', L')) (hμ : ∀ i, i < 40 → μ i = e 74 i)
    (hQ : ∀ p P N μ, (∀ i, i < 40 → μ i = e 74 i) → (x = none → P = P' ∧ N = N' ∧ RM μ N' L') → Q (some (.int (rdo x))) z (Hp X C (RA a p P N, b, va_up e 74 μ, o))) : ∀ (j p : Nat), p + j = n → skp γ j p = skp γ n 0 → Wp (d + 2) 1026 15 [some (.ref 67), some (.int (nI r))] [] z (Hp X C (RA a p 0 0, b, va_up e 74 μ, o)) Q := by
  unfold rda hdr at h
  intro j
  induction j with
  | zero =>
    intro p hj hsk
    have hp : p = n := by omega
    subst hp
    have hsk' : p = skp γ p 0 := hsk
    rw [if_neg (fun hh => by omega)] at h
    have e1 := (Prod.mk.inj h).1
    subst e1
    rw [W1026_15]
    simp (disch := omega) only [W1026, r_4, r_La, s_0, ci_0, h61_10_14, h61_10_15, h61_10_16, h60_10_14, h60_10_8, r_2, r_Li, r_49, h79_1022, ci_32, r_47, r_30, r_30r, ci_1, r_10, r_52, h60_10_15, s_41, h79_1024, h79_1025, r_90, ci_m9, h64_72, enR, LG, LSt, LC, nlR, psR, TK, up_s, up_n, up_u, lt_nI, le_nI, eq_nI, true_and, and_true, if_true, if_false, Nat.zero_add, Nat.add_zero, nI_add, ↓reduceIte, Nat.reduceAdd, Nat.reduceMul, Nat.reduceSub, Nat.reduceLT, Nat.reduceLeDiff, Nat.reduceEqDiff, Nat.not_lt_zero, Nat.lt_irrefl, decide_true, BEq.rfl, nm1, nm2, nm3, nm4, nm9, ngc, eq_self, List.length_cons, List.length_nil, hr, h72, ra14, ra15]
    have := hQ p 0 0 μ hμ (fun h => absurd h (by simp))
    rw [← hsk'] at this
    exact this
  | succ j ih =>
    intro p hj hsk
    have hlt : p < n := by omega
    rw [W1026_15]
    by_cases hbl : γ p = nI 32
    · simp (disch := omega) only [W1026, r_4, r_La, s_0, ci_0, h61_10_14, h61_10_15, h61_10_16, h60_10_14, h60_10_8, r_2, r_Li, r_49, h79_1022, ci_32, r_47, r_30, r_30r, ci_1, r_10, r_52, h60_10_15, s_41, h79_1024, h79_1025, r_90, ci_m9, h64_72, enR, LG, LSt, LC, nlR, psR, TK, up_s, up_n, up_u, lt_nI, le_nI, eq_nI, true_and, and_true, if_true, if_false, Nat.zero_add, Nat.add_zero, nI_add, ↓reduceIte, Nat.reduceAdd, Nat.reduceMul, Nat.reduceSub, Nat.reduceLT, Nat.reduceLeDiff, Nat.reduceEqDiff, Nat.not_lt_zero, Nat.lt_irrefl, decide_true, BEq.rfl, nm1, nm2, nm3, nm4, nm9, ngc, eq_self, List.length_cons, List.length_nil, hr, h72, ra14, hlt, m_byteAt hr hn h72 hg (show p < 65536 by omega), hbl, ru14]
      refine ih (p + 1) (by omega) ?_
      rw [← hsk]
      show _ = if γ p = nI 32 then _ else _
      rw [if_pos hbl]
    · have hsk' : p = skp γ n 0 := by
        rw [← hsk]
        show _ = if γ p = nI 32 then _ else _
        rw [if_neg hbl]
      rw [← hsk'] at h
      by_cases h5 : γ p = nI 110
      · rw [if_pos ⟨hlt, h5⟩] at h
        cases h6 : fg γ n (p + 1) 1 7 with
        | none =>
          rw [h6] at h
          have e1 := (Prod.mk.inj h).1
          subst e1
          simp (disch := omega) only [W1026, r_4, r_La, s_0, ci_0, h61_10_14, h61_10_15, h61_10_16, h60_10_14, h60_10_8, r_2, r_Li, r_49, h79_1022, ci_32, r_47, r_30, r_30r, ci_1, r_10, r_52, h60_10_15, s_41, h79_1024, h79_1025, r_90, ci_m9, h64_72, enR, LG, LSt, LC, nlR, psR, TK, up_s, up_n, up_u, lt_nI, le_nI, eq_nI, true_and, and_true, if_true, if_false, Nat.zero_add, Nat.add_zero, nI_add, ↓reduceIte, Nat.reduceAdd, Nat.reduceMul, Nat.reduceSub, Nat.reduceLT, Nat.reduceLeDiff, Nat.reduceEqDiff, Nat.not_lt_zero, Nat.lt_irrefl, decide_true, BEq.rfl, nm1, nm2, nm3, nm4, nm9, ngc, eq_self, List.length_cons, List.length_nil, hr, h72, ra14, ra15, hlt, m_byteAt hr hn h72 hg (show p < 65536 by omega), h5, m_head_no2 hr hn h72 hg hlt h5 h6]
          exact hQ (p + 1) 0 0 μ hμ (fun h => absurd h (by simp))
        | some P0 =>
          obtain ⟨-, u1, u2⟩ := fg_some (show 7 < 65536 by decide) (show 1 < 65536 by decide) h6
          have l1 := fg_lt h6
          rw [h6] at h
          have e1 := (Prod.mk.inj h).1
          have e2 := (Prod.mk.inj (Prod.mk.inj h).2).1
          have e3 := (Prod.mk.inj (Prod.mk.inj (Prod.mk.inj h).2).2).1
          have e4 := (Prod.mk.inj (Prod.mk.inj (Prod.mk.inj h).2).2).2
          subst e2
          have hpr : prs γ n P0 11 (p + 2) 0 L0 = (x, N', L') := by rw [← e1, ← e3, ← e4]
          simp (disch := omega) only [W1026, r_4, r_La, s_0, ci_0, h61_10_14, h61_10_15, h61_10_16, h60_10_14, h60_10_8, r_2, r_Li, r_49, h79_1022, ci_32, r_47, r_30, r_30r, ci_1, r_10, r_52, h60_10_15, s_41, h79_1024, h79_1025, r_90, ci_m9, h64_72, enR, LG, LSt, LC, nlR, psR, TK, up_s, up_n, up_u, lt_nI, le_nI, eq_nI, true_and, and_true, if_true, if_false, Nat.zero_add, Nat.add_zero, nI_add, ↓reduceIte, Nat.reduceAdd, Nat.reduceMul, Nat.reduceSub, Nat.reduceLT, Nat.reduceLeDiff, Nat.reduceEqDiff, Nat.not_lt_zero, Nat.lt_irrefl, decide_true, BEq.rfl, nm1, nm2, nm3, nm4, nm9, ngc, eq_self, List.length_cons, List.length_nil, hr, h72, ra14, ra15, hlt, m_byteAt hr hn h72 hg (show p < 65536 by omega), h5, m_head_ok hr hn h72 hg hlt h5 h6]
          exact lp_goes2 hr hn h72 hg u1 u2 (fun p' N'' μ' k1 k2 => hQ p' P0 N'' μ' k1 (fun hx => ⟨rfl, k2 hx⟩)) n (p + 2) 11 0 L0 μ (by omega) (by omega) (by omega) (by omega) hμ (fun i hi => absurd hi (by omega)) hpr
      · rw [if_neg (fun hh => h5 hh.2)] at h
        have e1 := (Prod.mk.inj h).1
        subst e1
        simp (disch := omega) only [W1026, r_4, r_La, s_0, ci_0, h61_10_14, h61_10_15, h61_10_16, h60_10_14, h60_10_8, r_2, r_Li, r_49, h79_1022, ci_32, r_47, r_30, r_30r, ci_1, r_10, r_52, h60_10_15, s_41, h79_1024, h79_1025, r_90, ci_m9, h64_72, enR, LG, LSt, LC, nlR, psR, TK, up_s, up_n, up_u, lt_nI, le_nI, eq_nI, true_and, and_true, if_true, if_false, Nat.zero_add, Nat.add_zero, nI_add, ↓reduceIte, Nat.reduceAdd, Nat.reduceMul, Nat.reduceSub, Nat.reduceLT, Nat.reduceLeDiff, Nat.reduceEqDiff, Nat.not_lt_zero, Nat.lt_irrefl, decide_true, BEq.rfl, nm1, nm2, nm3, nm4, nm9, ngc, eq_self, List.length_cons, List.length_nil, hr, h72, ra14, ra15, hlt, m_byteAt hr hn h72 hg (show p < 65536 by omega), hbl, m_head_no1 hr hn h72 hg hlt h5]
        exact hQ p 0 0 μ hμ (fun h => absurd h (by simp))
theorem m_goesOn {γ : Nat → Int32} {r n P' N' : Nat} {x : Option Nat} {L' : LD} (hr : r < 4) (hn : n ≤ 80) (h72 : e 72 r = nI n) (hg : ∀ k, k < n → e 73 (80 * r + k) = γ k) (h : rda γ n = (x, P', N', L'))
    (hQ : ∀ p P N μ, (∀ i, i < 40 → μ i = e 74 i) → (x = none → P = P' ∧ N = N' ∧ RM μ N' L') → Q (some (.int (rdo x))) z (Hp X C (RA a p P N, b, va_up e 74 μ, o))) : Cw (d + 3) 1026 [.ref 67, .int (nI r)] z (Hp X C (a, b, e, o)) Q := by
  rw [cw_wp]
  simp (disch := omega) only [W1026, r_4, r_La, s_0, ci_0, h61_10_14, h61_10_15, h61_10_16, h60_10_14, h60_10_8, r_2, r_Li, r_49, h79_1022, ci_32, r_47, r_30, r_30r, ci_1, r_10, r_52, h60_10_15, s_41, h79_1024, h79_1025, r_90, ci_m9, h64_72, enR, LG, LSt, LC, nlR, psR, TK, up_s, up_n, up_u, lt_nI, le_nI, eq_nI, true_and, and_true, if_true, if_false, Nat.zero_add, Nat.add_zero, nI_add, ↓reduceIte, Nat.reduceAdd, Nat.reduceMul, Nat.reduceSub, Nat.reduceLT, Nat.reduceLeDiff, Nat.reduceEqDiff, Nat.not_lt_zero, Nat.lt_irrefl, decide_true, BEq.rfl, nm1, nm2, nm3, nm4, nm9, ngc, eq_self, List.length_cons, List.length_nil]
  have := lp_goes1 (d := d) (μ := e 74) hr hn h72 hg h (fun _ _ => rfl) hQ n 0 (by omega) rfl
  rw [up_id (rfl : e 74 = e 74)] at this
  exact this
end
section
variable {t d : Nat} {z : AZ} {X : Nat × (Nat → Int32)} {C : CT} {M : MT} {s : Nat → Int32} {v : Nat → Int64} {g : Nat → Nat → Int32} {w : Nat → Nat → Int64} {q : Nat → Nat} {ct : Nat → Int32} {cn : Nat → Int32} {cc : Nat → Nat → Int32} {di : Nat → Nat → Int32} {dr : Nat → Nat → Int32} {df : Nat → Nat → Int32} {li : Nat → Nat → Int32} {la : Nat → Nat → Nat → Int32} {sf : Nat → Nat → Int32} {sl : Nat → Nat → Int32} {a : Nat → Int32} {b : Nat → Int64} {e : Nat → Nat → Int32} {o : Nat → Nat → Int64} {B : Nat → Bool} {n : Nat → Nat} {P N W : Nat} {K O T J : Nat → Nat} {l : Nat} {Ds : Nat → Nat} {Dr Df Dp : Nat → Nat → Nat} {KB : Nat → Bool}
theorem rl_draft {x : Int32} {c p' P' N' : Nat} {φ : Nat → Int32} {ψ : Nat → Nat → Int32} {μ : Nat → Int32} (H : RL t z s v g w q ct cn cc di dr df li la sf sl a b e o B n P N W K O T J l Ds Dr Df Dp KB) (hμ : ∀ i, i < 40 → μ i = e 74 i) : RL t z (va_up s 20 x) v g w (va_up q 2 c) ct cn cc di dr df (va_up li (1 - l) φ) (va_up la (1 - l) ψ) sf sl (RA a p' P' N') b (va_up e 74 μ) o B n P N W K O T J l Ds Dr Df Dp KB := by
  obtain ⟨h1, h2, ⟨g1, g2, g3, g4, g5, g6, g7, g8⟩, h4, h5, h6, h7⟩ := H
  refine ⟨h1, h2, ⟨g1, g2, g3, g4, ?_, g6, ⟨g7.1, g7.2.1, g7.2.2.1, fun i hi => ?_⟩, g8⟩, h4, h5, h6, h7⟩
  · rw [up_n _ _ (by omega), up_n _ _ (by omega)]; exact g5
  · have hN := g1.2.1
    show va_up e 74 μ 74 (4 * i) = _ ∧ va_up e 74 μ 74 (4 * i + 1) = _ ∧ va_up e 74 μ 74 (4 * i + 2) = _ ∧ va_up e 74 μ 74 (4 * i + 3) = _
    rw [up_s, hμ _ (by omega), hμ _ (by omega), hμ _ (by omega), hμ _ (by omega)]
    exact g7.2.2.2 i hi
theorem op_fault {x : Int32} (H : RL t z s v g w q ct cn cc di dr df li la sf sl a b e o B n P N W K O T J l Ds Dr Df Dp KB) : OPI (d + 20) 909 1027 [.int x] t z X (s, v, g, w, q, ct, cn, cc, di, dr, df, li, la, sf, sl) (a, b, e, o) := by
  obtain ⟨hb, hl, hq, hC, hs, hM, hS⟩ := rl_land H
  have hq1 : q 1 = 1 - l := H.2.2.1.2.2.2.1
  unfold OPI
  rw [cw_wp]
  rcases ix x (n := 3) (by decide) with h | ⟨h1, h2, h3⟩ | ⟨r, hr, rfl⟩
  · simp (disch := omega) only [W909, r_2, r_Li, h80_949, s_41, s_0, ci_m1, r_90, r_4, r_La, h60_9_1, h60_0_1, ci_1, h79_951, h60_9_2, h79_501, h68_2, enR, LG, LSt, LC, nlR, psR, TK, up_s, up_n, up_u, lt_nI, le_nI, eq_nI, true_and, and_true, if_true, if_false, Nat.zero_add, Nat.add_zero, nI_add, ↓reduceIte, Nat.reduceAdd, Nat.reduceMul, Nat.reduceSub, Nat.reduceLT, Nat.reduceLeDiff, Nat.reduceEqDiff, Nat.not_lt_zero, Nat.lt_irrefl, decide_true, BEq.rfl, nm1, nm2, nm3, nm4, nm9, ngc, eq_self, List.length_cons, List.length_nil, c_isText, h]
    refine okc ?_
    rw [cw_wp]
    simp (disch := omega) only [W1027, r_4, r_La, r_2, r_Li, h79_1010, r_5, s_43, r_52, h79_1026, r_90, W1010, h80_1008, s_41, s_0, ci_m1, h60_10_8, ci_1, h79_1002, ci_0, h64_72, (fun d => cw_wp d 1010), enR, LG, LSt, LC, nlR, psR, TK, up_s, up_n, up_u, lt_nI, le_nI, eq_nI, true_and, and_true, if_true, if_false, Nat.zero_add, Nat.add_zero, nI_add, ↓reduceIte, Nat.reduceAdd, Nat.reduceMul, Nat.reduceSub, Nat.reduceLT, Nat.reduceLeDiff, Nat.reduceEqDiff, Nat.not_lt_zero, Nat.lt_irrefl, decide_true, BEq.rfl, nm1, nm2, nm3, nm4, nm9, ngc, eq_self, List.length_cons, List.length_nil, m_isText, h]
    exact okm (rl_inv (rl_t H))
  · simp (disch := omega) only [W909, r_2, r_Li, h80_949, s_41, s_0, ci_m1, r_90, r_4, r_La, h60_9_1, h60_0_1, ci_1, h79_951, h60_9_2, h79_501, h68_2, enR, LG, LSt, LC, nlR, psR, TK, up_s, up_n, up_u, lt_nI, le_nI, eq_nI, true_and, and_true, if_true, if_false, Nat.zero_add, Nat.add_zero, nI_add, ↓reduceIte, Nat.reduceAdd, Nat.reduceMul, Nat.reduceSub, Nat.reduceLT, Nat.reduceLeDiff, Nat.reduceEqDiff, Nat.not_lt_zero, Nat.lt_irrefl, decide_true, BEq.rfl, nm1, nm2, nm3, nm4, nm9, ngc, eq_self, List.length_cons, List.length_nil, c_isText, h1, h2]
    refine okc ?_
    rw [cw_wp]
    simp (disch := omega) only [W1027, r_4, r_La, r_2, r_Li, h79_1010, r_5, s_43, r_52, h79_1026, r_90, W1010, h80_1008, s_41, s_0, ci_m1, h60_10_8, ci_1, h79_1002, ci_0, h64_72, (fun d => cw_wp d 1010), enR, LG, LSt, LC, nlR, psR, TK, up_s, up_n, up_u, lt_nI, le_nI, eq_nI, true_and, and_true, if_true, if_false, Nat.zero_add, Nat.add_zero, nI_add, ↓reduceIte, Nat.reduceAdd, Nat.reduceMul, Nat.reduceSub, Nat.reduceLT, Nat.reduceLeDiff, Nat.reduceEqDiff, Nat.not_lt_zero, Nat.lt_irrefl, decide_true, BEq.rfl, nm1, nm2, nm3, nm4, nm9, ngc, eq_self, List.length_cons, List.length_nil, m_isText, h1, h3]
    exact okm (rl_inv (rl_t H))
  have hr6 : r < 4 := by omega
  rcases rl_x H hr6 with ⟨q1, q2, q3, q4, q5⟩ | ⟨q1, q2, q3, q4, q5, q6⟩
  · simp (disch := omega) only [W909, r_2, r_Li, h80_949, s_41, s_0, ci_m1, r_90, r_4, r_La, h60_9_1, h60_0_1, ci_1, h79_951, h60_9_2, h79_501, h68_2, enR, LG, LSt, LC, nlR, psR, TK, up_s, up_n, up_u, lt_nI, le_nI, eq_nI, true_and, and_true, if_true, if_false, Nat.zero_add, Nat.add_zero, nI_add, ↓reduceIte, Nat.reduceAdd, Nat.reduceMul, Nat.reduceSub, Nat.reduceLT, Nat.reduceLeDiff, Nat.reduceEqDiff, Nat.not_lt_zero, Nat.lt_irrefl, decide_true, BEq.rfl, nm1, nm2, nm3, nm4, nm9, ngc, eq_self, List.length_cons, List.length_nil, c_isText, hr6, q2, c_found]
    refine okc ?_
    rw [cw_wp]
    simp (disch := omega) only [W1027, r_4, r_La, r_2, r_Li, h79_1010, r_5, s_43, r_52, h79_1026, r_90, enR, LG, LSt, LC, nlR, psR, TK, up_s, up_n, up_u, lt_nI, le_nI, eq_nI, true_and, and_true, if_true, if_false, Nat.zero_add, Nat.add_zero, nI_add, ↓reduceIte, Nat.reduceAdd, Nat.reduceMul, Nat.reduceSub, Nat.reduceLT, Nat.reduceLeDiff, Nat.reduceEqDiff, Nat.not_lt_zero, Nat.lt_irrefl, decide_true, BEq.rfl, nm1, nm2, nm3, nm4, nm9, ngc, eq_self, List.length_cons, List.length_nil, m_askedT_no hr6 q5]
    exact okm (rl_inv (rl_found (k := 1) (by decide) H))
  have hcap : n (6 + r) ≤ cap (6 + r) := by rw [show cap (6 + r) = 80 from if_neg (by omega)]; exact q4
  cases hrd : rda (cc (6 + r)) (n (6 + r)) with
  | mk x1 rest =>
  obtain ⟨P1, N1, L1⟩ := rest
  simp (disch := omega) only [W909, r_2, r_Li, h80_949, s_41, s_0, ci_m1, r_90, r_4, r_La, h60_9_1, h60_0_1, ci_1, h79_951, h60_9_2, h79_501, h68_2, enR, LG, LSt, LC, nlR, psR, TK, up_s, up_n, up_u, lt_nI, le_nI, eq_nI, true_and, and_true, if_true, if_false, Nat.zero_add, Nat.add_zero, nI_add, ↓reduceIte, Nat.reduceAdd, Nat.reduceMul, Nat.reduceSub, Nat.reduceLT, Nat.reduceLeDiff, Nat.reduceEqDiff, Nat.not_lt_zero, Nat.lt_irrefl, decide_true, BEq.rfl, nm1, nm2, nm3, nm4, nm9, ngc, eq_self, List.length_cons, List.length_nil, c_isText, hr6, q2]
  refine c_read (show 1 - l < 2 by omega) hq1 (show 6 + r < 10 by omega) q3 hcap hrd (fun y φ ψ hx => ?_)
  simp (disch := omega) only [W909, r_2, r_Li, h80_949, s_41, s_0, ci_m1, r_90, r_4, r_La, h60_9_1, h60_0_1, ci_1, h79_951, h60_9_2, h79_501, h68_2, enR, LG, LSt, LC, nlR, psR, TK, up_s, up_n, up_u, lt_nI, le_nI, eq_nI, true_and, and_true, if_true, if_false, Nat.zero_add, Nat.add_zero, nI_add, ↓reduceIte, Nat.reduceAdd, Nat.reduceMul, Nat.reduceSub, Nat.reduceLT, Nat.reduceLeDiff, Nat.reduceEqDiff, Nat.not_lt_zero, Nat.lt_irrefl, decide_true, BEq.rfl, nm1, nm2, nm3, nm4, nm9, ngc, eq_self, List.length_cons, List.length_nil]
  refine okc ?_
  rw [cw_wp]
  simp (disch := omega) only [W1027, r_4, r_La, r_2, r_Li, h79_1010, r_5, s_43, r_52, h79_1026, r_90, enR, LG, LSt, LC, nlR, psR, TK, up_s, up_n, up_u, lt_nI, le_nI, eq_nI, true_and, and_true, if_true, if_false, Nat.zero_add, Nat.add_zero, nI_add, ↓reduceIte, Nat.reduceAdd, Nat.reduceMul, Nat.reduceSub, Nat.reduceLT, Nat.reduceLeDiff, Nat.reduceEqDiff, Nat.not_lt_zero, Nat.lt_irrefl, decide_true, BEq.rfl, nm1, nm2, nm3, nm4, nm9, ngc, eq_self, List.length_cons, List.length_nil, m_askedT_ok hr6 q5]
  refine m_goesOn hr6 q4 q5 q6 hrd (fun p' P' N' μ hμ hx2 => ?_)
  simp (disch := omega) only [W1027, r_4, r_La, r_2, r_Li, h79_1010, r_5, s_43, r_52, h79_1026, r_90, enR, LG, LSt, LC, nlR, psR, TK, up_s, up_n, up_u, lt_nI, le_nI, eq_nI, true_and, and_true, if_true, if_false, Nat.zero_add, Nat.add_zero, nI_add, ↓reduceIte, Nat.reduceAdd, Nat.reduceMul, Nat.reduceSub, Nat.reduceLT, Nat.reduceLeDiff, Nat.reduceEqDiff, Nat.not_lt_zero, Nat.lt_irrefl, decide_true, BEq.rfl, nm1, nm2, nm3, nm4, nm9, ngc, eq_self, List.length_cons, List.length_nil]
  exact okm (rl_inv (rl_t (rl_draft H hμ)))
end

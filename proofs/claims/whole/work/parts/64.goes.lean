/-! reading a land: the model; fault, land -/
def L0 : LD := (fun _ => 0, fun _ => 0, fun _ => 0, fun _ => 0)
def rda (γ : Nat → Int32) (n : Nat) : Option Nat × Nat × Nat × LD := match hdr γ n with
  | (p, none) => (some p, 0, 0, L0)
  | (p, some P) => ((prs γ n P 11 p 0 L0).1, P, (prs γ n P 11 p 0 L0).2.1, (prs γ n P 11 p 0 L0).2.2)
section
variable {t d : Nat} {z : AZ} {X : Nat × (Nat → Int32)} {C : CT} {M : MT} {s : Nat → Int32} {v : Nat → Int64} {g : Nat → Nat → Int32} {w : Nat → Nat → Int64} {q : Nat → Nat} {ct : Nat → Int32} {cn : Nat → Int32} {cc : Nat → Nat → Int32} {di : Nat → Nat → Int32} {dr : Nat → Nat → Int32} {df : Nat → Nat → Int32} {li : Nat → Nat → Int32} {la : Nat → Nat → Nat → Int32} {sf : Nat → Nat → Int32} {sl : Nat → Nat → Int32} {a : Nat → Int32} {b : Nat → Int64} {e : Nat → Nat → Int32} {o : Nat → Nat → Int64} {B : Nat → Bool} {n : Nat → Nat} {P N W : Nat} {K O T J : Nat → Nat} {l : Nat} {Ds : Nat → Nat} {Dr Df Dp : Nat → Nat → Nat} {KB : Nat → Bool}
variable {Q : Option Value → AZ → AH → Prop}
theorem c_read {c n D P' N' : Nat} {x : Option Nat} {L' : LD} (hD : D < 2) (h1 : q 1 = D) (hc : c < 10) (hn : cn c = nI n) (hm : n ≤ cap c) (h : rda (cc c) n = (x, P', N', L'))
    (hQ : ∀ y φ ψ, (x = none → CLn φ ψ P' N' L'.1 L'.2.1 L'.2.2.1 L'.2.2.2) → Q (some (.int (rdo x))) z (Hp X (va_up s 20 y, v, g, w, va_up q 2 c, ct, cn, cc, di, dr, df, va_up li D φ, va_up la D ψ, sf, sl) M)) : Cw (d + 5) 501 [.ref 3, .ref (co c)] z (Hp X (s, v, g, w, q, ct, cn, cc, di, dr, df, li, la, sf, sl) M) Q := by
  have h8 : cap c ≤ 80 := by unfold cap; split <;> omega
  have h99 : svl c = .ref (co c) := if_neg (by omega)
  have h1' : va_up q 2 c 1 = D := h1
  have h2' : va_up q 2 c 2 = c := up_s _ _ _
  have hs1 := skp_le (cc c) n 0
  unfold rda hdr at h
  rw [cw_wp]
  by_cases h3 : skp (cc c) n 0 < n ∧ cc c (skp (cc c) n 0) = nI 110
  · obtain ⟨h4, h5⟩ := h3
    rw [if_pos ⟨h4, h5⟩] at h
    cases h6 : fg (cc c) n (skp (cc c) n 0 + 1) 1 7 with
    | none =>
      rw [h6] at h
      have e1 := (Prod.mk.inj h).1
      subst e1
      simp (disch := omega) only [W501, r_4, r_La, h61_5_1, s_0, ci_0, h61_5_2, h60_5_0, h79_301, h79_503, h79_504, s_41, h60_5_2, r_90, r_5, r_2, r_Li, ci_10, r_50, h60_5_1, h60_0_2, r_48, ci_m9, h79_505, s_8, r_In, ci_1, r_52, W301, h61_3_4, h61_3_5, r_93, (fun d => cw_wp d 301), enR, W504, r_49, h79_5, ci_110, r_46, r_94, s_Z0, s_Z1, r_30, r_30r, r_10, ci_7, h79_507, ci_m1, r_47, (fun d => cw_wp d 504), LG, LSt, LC, nlR, psR, TK, up_s, up_n, up_u, lt_nI, le_nI, eq_nI, true_and, and_true, if_true, if_false, Nat.zero_add, Nat.add_zero, nI_add, ↓reduceIte, Nat.reduceAdd, Nat.reduceMul, Nat.reduceSub, Nat.reduceLT, Nat.reduceLeDiff, Nat.reduceEqDiff, Nat.not_lt_zero, Nat.lt_irrefl, decide_true, BEq.rfl, nm1, nm2, nm3, nm4, nm9, ngc, eq_self, List.length_cons, List.length_nil, h1, hD, c_skip (q := va_up q 2 c) hc h2' hn hm (Nat.zero_le n), h99, hc, hn, h4, c_valueAt hc hn h4 hm, h5, Nat.sub_zero, c_fig_no (q := va_up q 2 c) hc h2' hn hm (show skp (cc c) n 0 + 1 ≤ n by omega) (show 1 < 65536 by decide) (show 7 < 65536 by decide) h6]
      have := hQ (nI (skp (cc c) n 0 + 1)) (va_up (va_up (li D) 0 (nI 0)) 1 (nI 0)) (la D) (fun h => absurd h (by simp))
      rw [up_id (rfl : la D = la D)] at this
      exact this
    | some P0 =>
      obtain ⟨-, u1, u2⟩ := fg_some (show 7 < 65536 by decide) (show 1 < 65536 by decide) h6
      have l1 := fg_lt h6
      rw [h6] at h
      have e1 := (Prod.mk.inj h).1
      have e2 := (Prod.mk.inj (Prod.mk.inj h).2).1
      have e3 := (Prod.mk.inj (Prod.mk.inj (Prod.mk.inj h).2).2).1
      have e4 := (Prod.mk.inj (Prod.mk.inj (Prod.mk.inj h).2).2).2
      subst e2
      have hpr : prs (cc c) n P0 11 (skp (cc c) n 0 + 2) 0 L0 = (x, N', L') := by rw [← e1, ← e3, ← e4]
      simp (disch := omega) only [W501, r_4, r_La, h61_5_1, s_0, ci_0, h61_5_2, h60_5_0, h79_301, h79_503, h79_504, s_41, h60_5_2, r_90, r_5, r_2, r_Li, ci_10, r_50, h60_5_1, h60_0_2, r_48, ci_m9, h79_505, s_8, r_In, ci_1, r_52, W301, h61_3_4, h61_3_5, r_93, (fun d => cw_wp d 301), enR, W504, r_49, h79_5, ci_110, r_46, r_94, s_Z0, s_Z1, r_30, r_30r, r_10, ci_7, h79_507, ci_m1, r_47, (fun d => cw_wp d 504), LG, LSt, LC, nlR, psR, TK, up_s, up_n, up_u, lt_nI, le_nI, eq_nI, true_and, and_true, if_true, if_false, Nat.zero_add, Nat.add_zero, nI_add, ↓reduceIte, Nat.reduceAdd, Nat.reduceMul, Nat.reduceSub, Nat.reduceLT, Nat.reduceLeDiff, Nat.reduceEqDiff, Nat.not_lt_zero, Nat.lt_irrefl, decide_true, BEq.rfl, nm1, nm2, nm3, nm4, nm9, ngc, eq_self, List.length_cons, List.length_nil, h1, hD, c_skip (q := va_up q 2 c) hc h2' hn hm (Nat.zero_le n), h99, hc, hn, h4, c_valueAt hc hn h4 hm, h5, Nat.sub_zero, c_fig_ok (q := va_up q 2 c) hc h2' hn hm (show 1 < 65536 by decide) (show 7 < 65536 by decide) h6]
      have := lp_read (d := d) (z := z) (Q := Q) (X := X) (M := M) (s := s) (v := v) (g := g) (w := w) (q := va_up q 2 c) (ct := ct) (cn := cn) (cc := cc) (di := di) (dr := dr) (df := df) (li := li) (la := la) (sf := sf) (sl := sl) (x := x) (N' := N') (L' := L') hD h1' u1 u2 hc h2' hn hm (fun y φ ψ hx => hQ y φ ψ hx) 11 0 (skp (cc c) n 0 + 2) L0 (va_up (va_up (va_up (li D) 0 (nI 0)) 1 (nI 0)) 0 (nI P0)) (la D) (by omega) (by omega) ⟨up_s _ _ _, rfl, fun i hi => absurd hi (by omega)⟩ hpr
      rw [up_id (rfl : la D = la D)] at this
      exact this
  · rw [if_neg h3] at h
    have e1 := (Prod.mk.inj h).1
    subst e1
    have := hQ (nI (skp (cc c) n 0)) (va_up (va_up (li D) 0 (nI 0)) 1 (nI 0)) (la D) (fun h => absurd h (by simp))
    rw [up_id (rfl : la D = la D)] at this
    by_cases h4 : skp (cc c) n 0 < n
    · have h5 : ¬ cc c (skp (cc c) n 0) = nI 110 := fun h5 => h3 ⟨h4, h5⟩
      simp (disch := omega) only [W501, r_4, r_La, h61_5_1, s_0, ci_0, h61_5_2, h60_5_0, h79_301, h79_503, h79_504, s_41, h60_5_2, r_90, r_5, r_2, r_Li, ci_10, r_50, h60_5_1, h60_0_2, r_48, ci_m9, h79_505, s_8, r_In, ci_1, r_52, W301, h61_3_4, h61_3_5, r_93, (fun d => cw_wp d 301), enR, W504, r_49, h79_5, ci_110, r_46, r_94, s_Z0, s_Z1, r_30, r_30r, r_10, ci_7, h79_507, ci_m1, r_47, (fun d => cw_wp d 504), LG, LSt, LC, nlR, psR, TK, up_s, up_n, up_u, lt_nI, le_nI, eq_nI, true_and, and_true, if_true, if_false, Nat.zero_add, Nat.add_zero, nI_add, ↓reduceIte, Nat.reduceAdd, Nat.reduceMul, Nat.reduceSub, Nat.reduceLT, Nat.reduceLeDiff, Nat.reduceEqDiff, Nat.not_lt_zero, Nat.lt_irrefl, decide_true, BEq.rfl, nm1, nm2, nm3, nm4, nm9, ngc, eq_self, List.length_cons, List.length_nil, h1, hD, c_skip (q := va_up q 2 c) hc h2' hn hm (Nat.zero_le n), h99, hc, hn, h4, c_valueAt hc hn h4 hm, h5, Nat.sub_zero]
      exact this
    · simp (disch := omega) only [W501, r_4, r_La, h61_5_1, s_0, ci_0, h61_5_2, h60_5_0, h79_301, h79_503, h79_504, s_41, h60_5_2, r_90, r_5, r_2, r_Li, ci_10, r_50, h60_5_1, h60_0_2, r_48, ci_m9, h79_505, s_8, r_In, ci_1, r_52, W301, h61_3_4, h61_3_5, r_93, (fun d => cw_wp d 301), enR, W504, r_49, h79_5, ci_110, r_46, r_94, s_Z0, s_Z1, r_30, r_30r, r_10, ci_7, h79_507, ci_m1, r_47, (fun d => cw_wp d 504), LG, LSt, LC, nlR, psR, TK, up_s, up_n, up_u, lt_nI, le_nI, eq_nI, true_and, and_true, if_true, if_false, Nat.zero_add, Nat.add_zero, nI_add, ↓reduceIte, Nat.reduceAdd, Nat.reduceMul, Nat.reduceSub, Nat.reduceLT, Nat.reduceLeDiff, Nat.reduceEqDiff, Nat.not_lt_zero, Nat.lt_irrefl, decide_true, BEq.rfl, nm1, nm2, nm3, nm4, nm9, ngc, eq_self, List.length_cons, List.length_nil, h1, hD, c_skip (q := va_up q 2 c) hc h2' hn hm (Nat.zero_le n), h99, hc, hn, h4, Nat.sub_zero]
      exact this
end
def RA (a : Nat → Int32) (p P N : Nat) : Nat → Int32 := va_up (va_up (va_up a 14 (nI p)) 15 (nI P)) 16 (nI N)
theorem ra14 (a : Nat → Int32) (p P N : Nat) : RA a p P N 14 = nI p := rfl
theorem ra15 (a : Nat → Int32) (p P N : Nat) : RA a p P N 15 = nI P := rfl
theorem ra16 (a : Nat → Int32) (p P N : Nat) : RA a p P N 16 = nI N := rfl
theorem ru14 (a : Nat → Int32) (p P N x : Nat) : va_up (RA a p P N) 14 (nI x) = RA a x P N := by
  funext q
  unfold RA va_up
  by_cases q1 : q = 14
  · simp [q1]
  · by_cases q2 : q = 15 <;> by_cases q3 : q = 16 <;> simp [q1, q2, q3]
theorem ru15 (a : Nat → Int32) (p P N x : Nat) : va_up (RA a p P N) 15 (nI x) = RA a p x N := by
  funext q
  unfold RA va_up
  by_cases q1 : q = 14
  · simp [q1]
  · by_cases q2 : q = 15 <;> by_cases q3 : q = 16 <;> simp [q1, q2, q3]
theorem ru16 (a : Nat → Int32) (p P N x : Nat) : va_up (RA a p P N) 16 (nI x) = RA a p P x := by
  funext q
  unfold RA va_up
  by_cases q1 : q = 14
  · simp [q1]
  · by_cases q2 : q = 15 <;> by_cases q3 : q = 16 <;> simp [q1, q2, q3]
/-- what the model has read -/
def RM (μ : Nat → Int32) (N : Nat) (L : LD) : Prop := ∀ i, i < N → μ (40 + 4 * i) = nI (L.1 i) ∧ μ (40 + 4 * i + 1) = nI (L.2.1 i) ∧ μ (40 + 4 * i + 2) = nI (L.2.2.1 i) ∧ μ (40 + 4 * i + 3) = nI (L.2.2.2 i)
section
variable {d : Nat} {z : AZ} {f : AH} {Q : Option Value → AZ → AH → Prop} {X : Nat × (Nat → Int32)} {C : CT} {a : Nat → Int32} {b : Nat → Int64} {e : Nat → Nat → Int32} {o : Nat → Nat → Int64}
theorem m_byteAt {γ μ : Nat → Int32} {r n p P N : Nat} (hr : r < 4) (hn : n ≤ 80) (h72 : e 72 r = nI n) (hg : ∀ k, k < n → e 73 (80 * r + k) = γ k) (hp : p < 65536) : Cw (d + 1) 1022 [.ref 67, .int (nI r)] z (Hp X C (RA a p P N, b, va_up e 74 μ, o)) Q ↔ Q (some (.int (if p < n then γ p else -9))) z (Hp X C (RA a p P N, b, va_up e 74 μ, o)) := by
  rw [cw_wp]
  by_cases h : p < n
  · simp (disch := omega) only [W1022, r_4, r_La, h60_10_14, h60_10_8, r_2, r_Li, r_49, h60_10_9, s_0, ci_80, r_12, r_10, r_52, ci_m9, r_90, h64_72, h64_73, enR, LG, LSt, LC, nlR, psR, TK, up_s, up_n, up_u, lt_nI, le_nI, eq_nI, true_and, and_true, if_true, if_false, Nat.zero_add, Nat.add_zero, nI_add, ↓reduceIte, Nat.reduceAdd, Nat.reduceMul, Nat.reduceSub, Nat.reduceLT, Nat.reduceLeDiff, Nat.reduceEqDiff, Nat.not_lt_zero, Nat.lt_irrefl, decide_true, BEq.rfl, nm1, nm2, nm3, nm4, nm9, ngc, eq_self, List.length_cons, List.length_nil, hr, h72, ra14, h, hg p h, nI_mul]
  · simp (disch := omega) only [W1022, r_4, r_La, h60_10_14, h60_10_8, r_2, r_Li, r_49, h60_10_9, s_0, ci_80, r_12, r_10, r_52, ci_m9, r_90, h64_72, h64_73, enR, LG, LSt, LC, nlR, psR, TK, up_s, up_n, up_u, lt_nI, le_nI, eq_nI, true_and, and_true, if_true, if_false, Nat.zero_add, Nat.add_zero, nI_add, ↓reduceIte, Nat.reduceAdd, Nat.reduceMul, Nat.reduceSub, Nat.reduceLT, Nat.reduceLeDiff, Nat.reduceEqDiff, Nat.not_lt_zero, Nat.lt_irrefl, decide_true, BEq.rfl, nm1, nm2, nm3, nm4, nm9, ngc, eq_self, List.length_cons, List.length_nil, hr, h72, ra14, h]
theorem m_kindOf {x : Int32} : Cw (d + 1) 1023 [.int x] z f Q ↔ Q (some (.int (match kdc x with | none => -9 | some k => nI k))) z f := by
  rw [cw_wp]
  unfold kdc
  by_cases g0 : x = nI 114
  · simp (disch := omega) only [W1023, r_2, r_Li, s_0, ci_114, r_47, ci_0, r_52, ci_112, ci_1, ci_115, ci_2, ci_102, ci_3, ci_116, ci_4, ci_118, ci_5, ci_m9, r_90, enR, LG, LSt, LC, nlR, psR, TK, up_s, up_n, up_u, lt_nI, le_nI, eq_nI, true_and, and_true, if_true, if_false, Nat.zero_add, Nat.add_zero, nI_add, ↓reduceIte, Nat.reduceAdd, Nat.reduceMul, Nat.reduceSub, Nat.reduceLT, Nat.reduceLeDiff, Nat.reduceEqDiff, Nat.not_lt_zero, Nat.lt_irrefl, decide_true, BEq.rfl, nm1, nm2, nm3, nm4, nm9, ngc, eq_self, List.length_cons, List.length_nil, g0]
  by_cases g1 : x = nI 112
  · simp (disch := omega) only [W1023, r_2, r_Li, s_0, ci_114, r_47, ci_0, r_52, ci_112, ci_1, ci_115, ci_2, ci_102, ci_3, ci_116, ci_4, ci_118, ci_5, ci_m9, r_90, enR, LG, LSt, LC, nlR, psR, TK, up_s, up_n, up_u, lt_nI, le_nI, eq_nI, true_and, and_true, if_true, if_false, Nat.zero_add, Nat.add_zero, nI_add, ↓reduceIte, Nat.reduceAdd, Nat.reduceMul, Nat.reduceSub, Nat.reduceLT, Nat.reduceLeDiff, Nat.reduceEqDiff, Nat.not_lt_zero, Nat.lt_irrefl, decide_true, BEq.rfl, nm1, nm2, nm3, nm4, nm9, ngc, eq_self, List.length_cons, List.length_nil, g1]
  by_cases g2 : x = nI 115
  · simp (disch := omega) only [W1023, r_2, r_Li, s_0, ci_114, r_47, ci_0, r_52, ci_112, ci_1, ci_115, ci_2, ci_102, ci_3, ci_116, ci_4, ci_118, ci_5, ci_m9, r_90, enR, LG, LSt, LC, nlR, psR, TK, up_s, up_n, up_u, lt_nI, le_nI, eq_nI, true_and, and_true, if_true, if_false, Nat.zero_add, Nat.add_zero, nI_add, ↓reduceIte, Nat.reduceAdd, Nat.reduceMul, Nat.reduceSub, Nat.reduceLT, Nat.reduceLeDiff, Nat.reduceEqDiff, Nat.not_lt_zero, Nat.lt_irrefl, decide_true, BEq.rfl, nm1, nm2, nm3, nm4, nm9, ngc, eq_self, List.length_cons, List.length_nil, g2]
  by_cases g3 : x = nI 102
  · simp (disch := omega) only [W1023, r_2, r_Li, s_0, ci_114, r_47, ci_0, r_52, ci_112, ci_1, ci_115, ci_2, ci_102, ci_3, ci_116, ci_4, ci_118, ci_5, ci_m9, r_90, enR, LG, LSt, LC, nlR, psR, TK, up_s, up_n, up_u, lt_nI, le_nI, eq_nI, true_and, and_true, if_true, if_false, Nat.zero_add, Nat.add_zero, nI_add, ↓reduceIte, Nat.reduceAdd, Nat.reduceMul, Nat.reduceSub, Nat.reduceLT, Nat.reduceLeDiff, Nat.reduceEqDiff, Nat.not_lt_zero, Nat.lt_irrefl, decide_true, BEq.rfl, nm1, nm2, nm3, nm4, nm9, ngc, eq_self, List.length_cons, List.length_nil, g3]
  by_cases g4 : x = nI 116
  · simp (disch := omega) only [W1023, r_2, r_Li, s_0, ci_114, r_47, ci_0, r_52, ci_112, ci_1, ci_115, ci_2, ci_102, ci_3, ci_116, ci_4, ci_118, ci_5, ci_m9, r_90, enR, LG, LSt, LC, nlR, psR, TK, up_s, up_n, up_u, lt_nI, le_nI, eq_nI, true_and, and_true, if_true, if_false, Nat.zero_add, Nat.add_zero, nI_add, ↓reduceIte, Nat.reduceAdd, Nat.reduceMul, Nat.reduceSub, Nat.reduceLT, Nat.reduceLeDiff, Nat.reduceEqDiff, Nat.not_lt_zero, Nat.lt_irrefl, decide_true, BEq.rfl, nm1, nm2, nm3, nm4, nm9, ngc, eq_self, List.length_cons, List.length_nil, g4]
  by_cases g5 : x = nI 118
  · simp (disch := omega) only [W1023, r_2, r_Li, s_0, ci_114, r_47, ci_0, r_52, ci_112, ci_1, ci_115, ci_2, ci_102, ci_3, ci_116, ci_4, ci_118, ci_5, ci_m9, r_90, enR, LG, LSt, LC, nlR, psR, TK, up_s, up_n, up_u, lt_nI, le_nI, eq_nI, true_and, and_true, if_true, if_false, Nat.zero_add, Nat.add_zero, nI_add, ↓reduceIte, Nat.reduceAdd, Nat.reduceMul, Nat.reduceSub, Nat.reduceLT, Nat.reduceLeDiff, Nat.reduceEqDiff, Nat.not_lt_zero, Nat.lt_irrefl, decide_true, BEq.rfl, nm1, nm2, nm3, nm4, nm9, ngc, eq_self, List.length_cons, List.length_nil, g5]
  simp (disch := omega) only [W1023, r_2, r_Li, s_0, ci_114, r_47, ci_0, r_52, ci_112, ci_1, ci_115, ci_2, ci_102, ci_3, ci_116, ci_4, ci_118, ci_5, ci_m9, r_90, enR, LG, LSt, LC, nlR, psR, TK, up_s, up_n, up_u, lt_nI, le_nI, eq_nI, true_and, and_true, if_true, if_false, Nat.zero_add, Nat.add_zero, nI_add, ↓reduceIte, Nat.reduceAdd, Nat.reduceMul, Nat.reduceSub, Nat.reduceLT, Nat.reduceLeDiff, Nat.reduceEqDiff, Nat.not_lt_zero, Nat.lt_irrefl, decide_true, BEq.rfl, nm1, nm2, nm3, nm4, nm9, ngc, eq_self, List.length_cons, List.length_nil, g0, g1, g2, g3, g4, g5]
theorem m_road_ok {γ μ : Nat → Int32} {r n p P N p' k a0 b0 c0 : Nat} (hr : r < 4) (hn : n ≤ 80) (h72 : e 72 r = nI n) (hg : ∀ k, k < n → e 73 (80 * r + k) = γ k) (hP : 1 ≤ P) (hP7 : P ≤ 7) (hN : N ≤ 10) (hp : p < n) (h : rdr γ n P N p = (p', some (k, a0, b0, c0)))
    (hQ : ∀ μ', (∀ i, i < 40 + 4 * N → μ' i = μ i) → μ' (40 + 4 * N) = nI k → μ' (40 + 4 * N + 1) = nI a0 → μ' (40 + 4 * N + 2) = nI b0 → μ' (40 + 4 * N + 3) = nI c0 → Q (some (.int (nI 1))) z (Hp X C (RA a p' P (N + 1), b, va_up e 74 μ', o))) : Cw (d + 2) 1025 [.ref 67, .int (nI r)] z (Hp X C (RA a p P N, b, va_up e 74 μ, o)) Q := by
  obtain ⟨g1, hN2, g2, g3, g4, rfl⟩ := rdr_ok h
  have hN3 : N < 10 := by omega
  have l1 := fg_lt g2
  have l2 := fg_lt g3
  have l3 := fg_lt g4
  have hk6 := kdc_lt g1
  obtain ⟨v1, -, u1⟩ := fg_some (show P - 1 < 65536 by omega) (show 0 < 65536 by decide) g2
  obtain ⟨v2, -, u2⟩ := fg_some (show P - 1 < 65536 by omega) (show 0 < 65536 by decide) g3
  obtain ⟨v3, -, u3⟩ := fg_some (show 9 < 65536 by decide) (show 0 < 65536 by decide) g4
  have hb0 := fun (μ : Nat → Int32) (N : Nat) (Q : Option Value → AZ → AH → Prop) => m_byteAt (d := d) (z := z) (Q := Q) (X := X) (C := C) (a := a) (b := b) (e := e) (o := o) (γ := γ) (μ := μ) (p := p) (P := P) (N := N) hr hn h72 hg (by omega)
  have hb1 := fun (μ : Nat → Int32) (N : Nat) (Q : Option Value → AZ → AH → Prop) => m_byteAt (d := d) (z := z) (Q := Q) (X := X) (C := C) (a := a) (b := b) (e := e) (o := o) (γ := γ) (μ := μ) (p := p + 1) (P := P) (N := N) hr hn h72 hg (by omega)
  have hb2 := fun (μ : Nat → Int32) (N : Nat) (Q : Option Value → AZ → AH → Prop) => m_byteAt (d := d) (z := z) (Q := Q) (X := X) (C := C) (a := a) (b := b) (e := e) (o := o) (γ := γ) (μ := μ) (p := p + 2) (P := P) (N := N) hr hn h72 hg (by omega)
  have hb3 := fun (μ : Nat → Int32) (N : Nat) (Q : Option Value → AZ → AH → Prop) => m_byteAt (d := d) (z := z) (Q := Q) (X := X) (C := C) (a := a) (b := b) (e := e) (o := o) (γ := γ) (μ := μ) (p := p + 3) (P := P) (N := N) hr hn h72 hg (by omega)
  have w1 : ¬ 48 + a0 < 48 := by omega
  have w2 : ¬ 47 + P < 48 + a0 := by omega
  have w3 : ¬ 48 + b0 < 48 := by omega
  have w4 : ¬ 47 + P < 48 + b0 := by omega
  have w5 : ¬ 48 + c0 < 48 := by omega
  have w6 : ¬ 57 < 48 + c0 := by omega
  rw [cw_wp]
  simp (disch := omega) only [W1025, r_4, r_La, r_2, r_Li, h79_1022, h80_1023, r_5, s_0, ci_m9, r_46, h60_10_16, ci_10, r_47, ci_0, r_94, s_Z0, s_Z1, r_30, r_30r, h60_10_14, ci_1, r_10, h61_10_14, ci_40, ci_4, r_12, h60_10_13, r_49, ci_48, ci_3, ci_57, r_52, ci_47, h60_10_15, h80_1001, s_41, r_11, s_8, r_In, h61_10_16, h65_74, enR, LG, LSt, LC, nlR, psR, TK, up_s, up_n, up_u, lt_nI, le_nI, eq_nI, true_and, and_true, if_true, if_false, Nat.zero_add, Nat.add_zero, nI_add, ↓reduceIte, Nat.reduceAdd, Nat.reduceMul, Nat.reduceSub, Nat.reduceLT, Nat.reduceLeDiff, Nat.reduceEqDiff, Nat.not_lt_zero, Nat.lt_irrefl, decide_true, BEq.rfl, nm1, nm2, nm3, nm4, nm9, ngc, eq_self, List.length_cons, List.length_nil, hb0, hp, m_kindOf, g1, ra14, ra16, hN2, hN3, ru14, nI_mul]
  rw [W1025_56]
  simp (disch := omega) only [W1025, r_4, r_La, r_2, r_Li, h79_1022, h80_1023, r_5, s_0, ci_m9, r_46, h60_10_16, ci_10, r_47, ci_0, r_94, s_Z0, s_Z1, r_30, r_30r, h60_10_14, ci_1, r_10, h61_10_14, ci_40, ci_4, r_12, h60_10_13, r_49, ci_48, ci_3, ci_57, r_52, ci_47, h60_10_15, h80_1001, s_41, r_11, s_8, r_In, h61_10_16, h65_74, enR, LG, LSt, LC, nlR, psR, TK, up_s, up_n, up_u, lt_nI, le_nI, eq_nI, true_and, and_true, if_true, if_false, Nat.zero_add, Nat.add_zero, nI_add, ↓reduceIte, Nat.reduceAdd, Nat.reduceMul, Nat.reduceSub, Nat.reduceLT, Nat.reduceLeDiff, Nat.reduceEqDiff, Nat.not_lt_zero, Nat.lt_irrefl, decide_true, BEq.rfl, nm1, nm2, nm3, nm4, nm9, ngc, eq_self, List.length_cons, List.length_nil, hb1, l1, v1, ra14, ra15, ru14, m_in, w1, w2, nI_sub, Nat.add_sub_cancel_left]
  rw [W1025_56]
  simp (disch := omega) only [W1025, r_4, r_La, r_2, r_Li, h79_1022, h80_1023, r_5, s_0, ci_m9, r_46, h60_10_16, ci_10, r_47, ci_0, r_94, s_Z0, s_Z1, r_30, r_30r, h60_10_14, ci_1, r_10, h61_10_14, ci_40, ci_4, r_12, h60_10_13, r_49, ci_48, ci_3, ci_57, r_52, ci_47, h60_10_15, h80_1001, s_41, r_11, s_8, r_In, h61_10_16, h65_74, enR, LG, LSt, LC, nlR, psR, TK, up_s, up_n, up_u, lt_nI, le_nI, eq_nI, true_and, and_true, if_true, if_false, Nat.zero_add, Nat.add_zero, nI_add, ↓reduceIte, Nat.reduceAdd, Nat.reduceMul, Nat.reduceSub, Nat.reduceLT, Nat.reduceLeDiff, Nat.reduceEqDiff, Nat.not_lt_zero, Nat.lt_irrefl, decide_true, BEq.rfl, nm1, nm2, nm3, nm4, nm9, ngc, eq_self, List.length_cons, List.length_nil, hb2, l2, v2, ra14, ra15, ru14, m_in, w3, w4, nI_sub, Nat.add_sub_cancel_left]
  rw [W1025_56]
  simp (disch := omega) only [W1025, r_4, r_La, r_2, r_Li, h79_1022, h80_1023, r_5, s_0, ci_m9, r_46, h60_10_16, ci_10, r_47, ci_0, r_94, s_Z0, s_Z1, r_30, r_30r, h60_10_14, ci_1, r_10, h61_10_14, ci_40, ci_4, r_12, h60_10_13, r_49, ci_48, ci_3, ci_57, r_52, ci_47, h60_10_15, h80_1001, s_41, r_11, s_8, r_In, h61_10_16, h65_74, enR, LG, LSt, LC, nlR, psR, TK, up_s, up_n, up_u, lt_nI, le_nI, eq_nI, true_and, and_true, if_true, if_false, Nat.zero_add, Nat.add_zero, nI_add, ↓reduceIte, Nat.reduceAdd, Nat.reduceMul, Nat.reduceSub, Nat.reduceLT, Nat.reduceLeDiff, Nat.reduceEqDiff, Nat.not_lt_zero, Nat.lt_irrefl, decide_true, BEq.rfl, nm1, nm2, nm3, nm4, nm9, ngc, eq_self, List.length_cons, List.length_nil, hb3, l3, v3, ra14, ra15, ru14, m_in, w5, w6, nI_sub, Nat.add_sub_cancel_left]
  rw [W1025_56]
  simp (disch := omega) only [W1025, r_4, r_La, r_2, r_Li, h79_1022, h80_1023, r_5, s_0, ci_m9, r_46, h60_10_16, ci_10, r_47, ci_0, r_94, s_Z0, s_Z1, r_30, r_30r, h60_10_14, ci_1, r_10, h61_10_14, ci_40, ci_4, r_12, h60_10_13, r_49, ci_48, ci_3, ci_57, r_52, ci_47, h60_10_15, h80_1001, s_41, r_11, s_8, r_In, h61_10_16, h65_74, enR, LG, LSt, LC, nlR, psR, TK, up_s, up_n, up_u, lt_nI, le_nI, eq_nI, true_and, and_true, if_true, if_false, Nat.zero_add, Nat.add_zero, nI_add, ↓reduceIte, Nat.reduceAdd, Nat.reduceMul, Nat.reduceSub, Nat.reduceLT, Nat.reduceLeDiff, Nat.reduceEqDiff, Nat.not_lt_zero, Nat.lt_irrefl, decide_true, BEq.rfl, nm1, nm2, nm3, nm4, nm9, ngc, eq_self, List.length_cons, List.length_nil, ra16, ru16]
  refine hQ _ (fun i hi => ?_) ?_ ?_ ?_ ?_
  · rw [ud_n _ _ (by omega), ud_n _ _ (by omega), ud_n _ _ (by omega), ud_n _ _ (by omega)]
  · rw [ud_n _ _ (by omega), ud_n _ _ (by omega), ud_n _ _ (by omega), ud_s]
  · rw [ud_n _ _ (by omega), ud_n _ _ (by omega), ud_s]
  · rw [ud_n _ _ (by omega), ud_s]
  · rw [ud_s]
theorem fg_no' {γ : Nat → Int32} {n p lo hi : Nat} (hhi : hi < 65536) (hlo : lo < 65536) (h : fg γ n p lo hi = none) : (if p < n then γ p else -9) < nI (48 + lo) ∨ (¬ (if p < n then γ p else -9) < nI (48 + lo) ∧ nI (48 + hi) < (if p < n then γ p else -9)) := by
  unfold fg at h
  by_cases h1 : p < n
  · rw [if_pos h1] at h ⊢
    exact (fgr_no hhi hlo h).2
  · rw [if_neg h1]
    left
    refine Int32.lt_trans (b := nI 0) (by decide +kernel) ?_
    rw [nI_ltI (by decide) (by omega)]
    omega
theorem m_road_no {γ μ : Nat → Int32} {r n p P N p' : Nat} (hr : r < 4) (hn : n ≤ 80) (h72 : e 72 r = nI n) (hg : ∀ k, k < n → e 73 (80 * r + k) = γ k) (hP : 1 ≤ P) (hP7 : P ≤ 7) (hN : N ≤ 10) (hp : p < n) (h : rdr γ n P N p = (p', none))
    (hQ : ∀ μ', (∀ i, i < 40 + 4 * N → μ' i = μ i) → Q (some (.int (nI 0))) z (Hp X C (RA a p' P N, b, va_up e 74 μ', o))) : Cw (d + 2) 1025 [.ref 67, .int (nI r)] z (Hp X C (RA a p P N, b, va_up e 74 μ, o)) Q := by
  unfold rdr at h
  have hb0 := fun (p : Nat) (hp : p < 65536) (μ : Nat → Int32) (N : Nat) (Q : Option Value → AZ → AH → Prop) => m_byteAt (d := d) (z := z) (Q := Q) (X := X) (C := C) (a := a) (b := b) (e := e) (o := o) (γ := γ) (μ := μ) (p := p) (P := P) (N := N) hr hn h72 hg hp
  rw [cw_wp]
  cases g1 : kdc (γ p) with
  | none =>
    rw [g1] at h
    have e1 := (Prod.mk.inj h).1
    subst e1
    simp (disch := omega) only [W1025, r_4, r_La, r_2, r_Li, h79_1022, h80_1023, r_5, s_0, ci_m9, r_46, h60_10_16, ci_10, r_47, ci_0, r_94, s_Z0, s_Z1, r_30, r_30r, h60_10_14, ci_1, r_10, h61_10_14, ci_40, ci_4, r_12, h60_10_13, r_49, ci_48, ci_3, ci_57, r_52, ci_47, h60_10_15, h80_1001, s_41, r_11, s_8, r_In, h61_10_16, h65_74, enR, LG, LSt, LC, nlR, psR, TK, up_s, up_n, up_u, lt_nI, le_nI, eq_nI, true_and, and_true, if_true, if_false, Nat.zero_add, Nat.add_zero, nI_add, ↓reduceIte, Nat.reduceAdd, Nat.reduceMul, Nat.reduceSub, Nat.reduceLT, Nat.reduceLeDiff, Nat.reduceEqDiff, Nat.not_lt_zero, Nat.lt_irrefl, decide_true, BEq.rfl, nm1, nm2, nm3, nm4, nm9, ngc, eq_self, List.length_cons, List.length_nil, hb0 p, hp, m_kindOf, g1]
    exact hQ μ (fun _ _ => rfl)
  | some k =>
    have hk6 := kdc_lt g1
    rw [g1] at h
    simp only at h
    by_cases hN2 : N = 10
    · rw [if_pos hN2] at h
      have e1 := (Prod.mk.inj h).1
      subst e1
      subst hN2
      simp (disch := omega) only [W1025, r_4, r_La, r_2, r_Li, h79_1022, h80_1023, r_5, s_0, ci_m9, r_46, h60_10_16, ci_10, r_47, ci_0, r_94, s_Z0, s_Z1, r_30, r_30r, h60_10_14, ci_1, r_10, h61_10_14, ci_40, ci_4, r_12, h60_10_13, r_49, ci_48, ci_3, ci_57, r_52, ci_47, h60_10_15, h80_1001, s_41, r_11, s_8, r_In, h61_10_16, h65_74, enR, LG, LSt, LC, nlR, psR, TK, up_s, up_n, up_u, lt_nI, le_nI, eq_nI, true_and, and_true, if_true, if_false, Nat.zero_add, Nat.add_zero, nI_add, ↓reduceIte, Nat.reduceAdd, Nat.reduceMul, Nat.reduceSub, Nat.reduceLT, Nat.reduceLeDiff, Nat.reduceEqDiff, Nat.not_lt_zero, Nat.lt_irrefl, decide_true, BEq.rfl, nm1, nm2, nm3, nm4, nm9, ngc, eq_self, List.length_cons, List.length_nil, hb0 p, hp, m_kindOf, g1, ra16]
      exact hQ μ (fun _ _ => rfl)
    rw [if_neg hN2] at h
    have hN3 : N < 10 := by omega
    simp (disch := omega) only [W1025, r_4, r_La, r_2, r_Li, h79_1022, h80_1023, r_5, s_0, ci_m9, r_46, h60_10_16, ci_10, r_47, ci_0, r_94, s_Z0, s_Z1, r_30, r_30r, h60_10_14, ci_1, r_10, h61_10_14, ci_40, ci_4, r_12, h60_10_13, r_49, ci_48, ci_3, ci_57, r_52, ci_47, h60_10_15, h80_1001, s_41, r_11, s_8, r_In, h61_10_16, h65_74, enR, LG, LSt, LC, nlR, psR, TK, up_s, up_n, up_u, lt_nI, le_nI, eq_nI, true_and, and_true, if_true, if_false, Nat.zero_add, Nat.add_zero, nI_add, ↓reduceIte, Nat.reduceAdd, Nat.reduceMul, Nat.reduceSub, Nat.reduceLT, Nat.reduceLeDiff, Nat.reduceEqDiff, Nat.not_lt_zero, Nat.lt_irrefl, decide_true, BEq.rfl, nm1, nm2, nm3, nm4, nm9, ngc, eq_self, List.length_cons, List.length_nil, hb0 p, hp, m_kindOf, g1, ra14, ra16, hN2, hN3, ru14, nI_mul]
    rw [W1025_56]
    cases g2 : fg γ n (p + 1) 0 (P - 1) with
    | none =>
      rw [g2] at h
      have e1 := (Prod.mk.inj h).1
      subst e1
      have hy := fg_no' (show P - 1 < 65536 by omega) (show 0 < 65536 by decide) g2
      rw [show 48 + 0 = 48 from rfl, show 48 + (P - 1) = 47 + P by omega] at hy
      have hq := hQ (upd μ (40 + 4 * N) (nI k)) (fun i hi => ud_n _ _ (by omega))
      rcases hy with hy | ⟨hy, hy2⟩
      · simp (disch := omega) only [W1025, r_4, r_La, r_2, r_Li, h79_1022, h80_1023, r_5, s_0, ci_m9, r_46, h60_10_16, ci_10, r_47, ci_0, r_94, s_Z0, s_Z1, r_30, r_30r, h60_10_14, ci_1, r_10, h61_10_14, ci_40, ci_4, r_12, h60_10_13, r_49, ci_48, ci_3, ci_57, r_52, ci_47, h60_10_15, h80_1001, s_41, r_11, s_8, r_In, h61_10_16, h65_74, enR, LG, LSt, LC, nlR, psR, TK, up_s, up_n, up_u, lt_nI, le_nI, eq_nI, true_and, and_true, if_true, if_false, Nat.zero_add, Nat.add_zero, nI_add, ↓reduceIte, Nat.reduceAdd, Nat.reduceMul, Nat.reduceSub, Nat.reduceLT, Nat.reduceLeDiff, Nat.reduceEqDiff, Nat.not_lt_zero, Nat.lt_irrefl, decide_true, BEq.rfl, nm1, nm2, nm3, nm4, nm9, ngc, eq_self, List.length_cons, List.length_nil, hb0 (p + 1), ra14, ra15, m_in, hy]
        exact hq
      · simp (disch := omega) only [W1025, r_4, r_La, r_2, r_Li, h79_1022, h80_1023, r_5, s_0, ci_m9, r_46, h60_10_16, ci_10, r_47, ci_0, r_94, s_Z0, s_Z1, r_30, r_30r, h60_10_14, ci_1, r_10, h61_10_14, ci_40, ci_4, r_12, h60_10_13, r_49, ci_48, ci_3, ci_57, r_52, ci_47, h60_10_15, h80_1001, s_41, r_11, s_8, r_In, h61_10_16, h65_74, enR, LG, LSt, LC, nlR, psR, TK, up_s, up_n, up_u, lt_nI, le_nI, eq_nI, true_and, and_true, if_true, if_false, Nat.zero_add, Nat.add_zero, nI_add, ↓reduceIte, Nat.reduceAdd, Nat.reduceMul, Nat.reduceSub, Nat.reduceLT, Nat.reduceLeDiff, Nat.reduceEqDiff, Nat.not_lt_zero, Nat.lt_irrefl, decide_true, BEq.rfl, nm1, nm2, nm3, nm4, nm9, ngc, eq_self, List.length_cons, List.length_nil, hb0 (p + 1), ra14, ra15, m_in, hy, hy2]
        exact hq
    | some a0 =>
      have l1 := fg_lt g2
      obtain ⟨v1, -, u1⟩ := fg_some (show P - 1 < 65536 by omega) (show 0 < 65536 by decide) g2
      have w1 : ¬ 48 + a0 < 48 := by omega
      have w2 : ¬ 47 + P < 48 + a0 := by omega
      rw [g2] at h
      simp only at h
      simp (disch := omega) only [W1025, r_4, r_La, r_2, r_Li, h79_1022, h80_1023, r_5, s_0, ci_m9, r_46, h60_10_16, ci_10, r_47, ci_0, r_94, s_Z0, s_Z1, r_30, r_30r, h60_10_14, ci_1, r_10, h61_10_14, ci_40, ci_4, r_12, h60_10_13, r_49, ci_48, ci_3, ci_57, r_52, ci_47, h60_10_15, h80_1001, s_41, r_11, s_8, r_In, h61_10_16, h65_74, enR, LG, LSt, LC, nlR, psR, TK, up_s, up_n, up_u, lt_nI, le_nI, eq_nI, true_and, and_true, if_true, if_false, Nat.zero_add, Nat.add_zero, nI_add, ↓reduceIte, Nat.reduceAdd, Nat.reduceMul, Nat.reduceSub, Nat.reduceLT, Nat.reduceLeDiff, Nat.reduceEqDiff, Nat.not_lt_zero, Nat.lt_irrefl, decide_true, BEq.rfl, nm1, nm2, nm3, nm4, nm9, ngc, eq_self, List.length_cons, List.length_nil, hb0 (p + 1), l1, v1, ra14, ra15, ru14, m_in, w1, w2, nI_sub, Nat.add_sub_cancel_left]
      rw [W1025_56]
      cases g3 : fg γ n (p + 2) 0 (P - 1) with
      | none =>
        rw [g3] at h
        have e1 := (Prod.mk.inj h).1
        subst e1
        have hy := fg_no' (show P - 1 < 65536 by omega) (show 0 < 65536 by decide) g3
        rw [show 48 + 0 = 48 from rfl, show 48 + (P - 1) = 47 + P by omega] at hy
        have hq := hQ (upd (upd μ (40 + 4 * N) (nI k)) (40 + 4 * N + 1) (nI a0)) (fun i hi => by rw [ud_n _ _ (by omega), ud_n _ _ (by omega)])
        rcases hy with hy | ⟨hy, hy2⟩
        · simp (disch := omega) only [W1025, r_4, r_La, r_2, r_Li, h79_1022, h80_1023, r_5, s_0, ci_m9, r_46, h60_10_16, ci_10, r_47, ci_0, r_94, s_Z0, s_Z1, r_30, r_30r, h60_10_14, ci_1, r_10, h61_10_14, ci_40, ci_4, r_12, h60_10_13, r_49, ci_48, ci_3, ci_57, r_52, ci_47, h60_10_15, h80_1001, s_41, r_11, s_8, r_In, h61_10_16, h65_74, enR, LG, LSt, LC, nlR, psR, TK, up_s, up_n, up_u, lt_nI, le_nI, eq_nI, true_and, and_true, if_true, if_false, Nat.zero_add, Nat.add_zero, nI_add, ↓reduceIte, Nat.reduceAdd, Nat.reduceMul, Nat.reduceSub, Nat.reduceLT, Nat.reduceLeDiff, Nat.reduceEqDiff, Nat.not_lt_zero, Nat.lt_irrefl, decide_true, BEq.rfl, nm1, nm2, nm3, nm4, nm9, ngc, eq_self, List.length_cons, List.length_nil, hb0 (p + 2), ra14, ra15, m_in, hy]
          exact hq
        · simp (disch := omega) only [W1025, r_4, r_La, r_2, r_Li, h79_1022, h80_1023, r_5, s_0, ci_m9, r_46, h60_10_16, ci_10, r_47, ci_0, r_94, s_Z0, s_Z1, r_30, r_30r, h60_10_14, ci_1, r_10, h61_10_14, ci_40, ci_4, r_12, h60_10_13, r_49, ci_48, ci_3, ci_57, r_52, ci_47, h60_10_15, h80_1001, s_41, r_11, s_8, r_In, h61_10_16, h65_74, enR, LG, LSt, LC, nlR, psR, TK, up_s, up_n, up_u, lt_nI, le_nI, eq_nI, true_and, and_true, if_true, if_false, Nat.zero_add, Nat.add_zero, nI_add, ↓reduceIte, Nat.reduceAdd, Nat.reduceMul, Nat.reduceSub, Nat.reduceLT, Nat.reduceLeDiff, Nat.reduceEqDiff, Nat.not_lt_zero, Nat.lt_irrefl, decide_true, BEq.rfl, nm1, nm2, nm3, nm4, nm9, ngc, eq_self, List.length_cons, List.length_nil, hb0 (p + 2), ra14, ra15, m_in, hy, hy2]
          exact hq
      | some b0 =>
        have l2 := fg_lt g3
        obtain ⟨v2, -, u2⟩ := fg_some (show P - 1 < 65536 by omega) (show 0 < 65536 by decide) g3
        have w3 : ¬ 48 + b0 < 48 := by omega
        have w4 : ¬ 47 + P < 48 + b0 := by omega
        rw [g3] at h
        simp only at h
        simp (disch := omega) only [W1025, r_4, r_La, r_2, r_Li, h79_1022, h80_1023, r_5, s_0, ci_m9, r_46, h60_10_16, ci_10, r_47, ci_0, r_94, s_Z0, s_Z1, r_30, r_30r, h60_10_14, ci_1, r_10, h61_10_14, ci_40, ci_4, r_12, h60_10_13, r_49, ci_48, ci_3, ci_57, r_52, ci_47, h60_10_15, h80_1001, s_41, r_11, s_8, r_In, h61_10_16, h65_74, enR, LG, LSt, LC, nlR, psR, TK, up_s, up_n, up_u, lt_nI, le_nI, eq_nI, true_and, and_true, if_true, if_false, Nat.zero_add, Nat.add_zero, nI_add, ↓reduceIte, Nat.reduceAdd, Nat.reduceMul, Nat.reduceSub, Nat.reduceLT, Nat.reduceLeDiff, Nat.reduceEqDiff, Nat.not_lt_zero, Nat.lt_irrefl, decide_true, BEq.rfl, nm1, nm2, nm3, nm4, nm9, ngc, eq_self, List.length_cons, List.length_nil, hb0 (p + 2), l2, v2, ra14, ra15, ru14, m_in, w3, w4, nI_sub, Nat.add_sub_cancel_left]
        rw [W1025_56]
        cases g4 : fg γ n (p + 3) 0 9 with
        | none =>
          rw [g4] at h
          have e1 := (Prod.mk.inj h).1
          subst e1
          have hy := fg_no' (show 9 < 65536 by omega) (show 0 < 65536 by decide) g4
          rw [show 48 + 0 = 48 from rfl, show 48 + 9 = 57 from rfl] at hy
          have hq := hQ (upd (upd (upd μ (40 + 4 * N) (nI k)) (40 + 4 * N + 1) (nI a0)) (40 + 4 * N + 2) (nI b0)) (fun i hi => by rw [ud_n _ _ (by omega), ud_n _ _ (by omega), ud_n _ _ (by omega)])
          rcases hy with hy | ⟨hy, hy2⟩
          · simp (disch := omega) only [W1025, r_4, r_La, r_2, r_Li, h79_1022, h80_1023, r_5, s_0, ci_m9, r_46, h60_10_16, ci_10, r_47, ci_0, r_94, s_Z0, s_Z1, r_30, r_30r, h60_10_14, ci_1, r_10, h61_10_14, ci_40, ci_4, r_12, h60_10_13, r_49, ci_48, ci_3, ci_57, r_52, ci_47, h60_10_15, h80_1001, s_41, r_11, s_8, r_In, h61_10_16, h65_74, enR, LG, LSt, LC, nlR, psR, TK, up_s, up_n, up_u, lt_nI, le_nI, eq_nI, true_and, and_true, if_true, if_false, Nat.zero_add, Nat.add_zero, nI_add, ↓reduceIte, Nat.reduceAdd, Nat.reduceMul, Nat.reduceSub, Nat.reduceLT, Nat.reduceLeDiff, Nat.reduceEqDiff, Nat.not_lt_zero, Nat.lt_irrefl, decide_true, BEq.rfl, nm1, nm2, nm3, nm4, nm9, ngc, eq_self, List.length_cons, List.length_nil, hb0 (p + 3), ra14, ra15, m_in, hy]
            exact hq
          · simp (disch := omega) only [W1025, r_4, r_La, r_2, r_Li, h79_1022, h80_1023, r_5, s_0, ci_m9, r_46, h60_10_16, ci_10, r_47, ci_0, r_94, s_Z0, s_Z1, r_30, r_30r, h60_10_14, ci_1, r_10, h61_10_14, ci_40, ci_4, r_12, h60_10_13, r_49, ci_48, ci_3, ci_57, r_52, ci_47, h60_10_15, h80_1001, s_41, r_11, s_8, r_In, h61_10_16, h65_74, enR, LG, LSt, LC, nlR, psR, TK, up_s, up_n, up_u, lt_nI, le_nI, eq_nI, true_and, and_true, if_true, if_false, Nat.zero_add, Nat.add_zero, nI_add, ↓reduceIte, Nat.reduceAdd, Nat.reduceMul, Nat.reduceSub, Nat.reduceLT, Nat.reduceLeDiff, Nat.reduceEqDiff, Nat.not_lt_zero, Nat.lt_irrefl, decide_true, BEq.rfl, nm1, nm2, nm3, nm4, nm9, ngc, eq_self, List.length_cons, List.length_nil, hb0 (p + 3), ra14, ra15, m_in, hy, hy2]
            exact hq
        | some c0 =>
          rw [g4] at h
          exact absurd (Prod.mk.inj h).2 (by simp)
theorem m_head_no1 {γ μ : Nat → Int32} {r n p P N : Nat} (hr : r < 4) (hn : n ≤ 80) (h72 : e 72 r = nI n) (hg : ∀ k, k < n → e 73 (80 * r + k) = γ k) (hp : p < n) (h : ¬ γ p = nI 110) : Cw (d + 2) 1024 [.ref 67, .int (nI r)] z (Hp X C (RA a p P N, b, va_up e 74 μ, o)) Q ↔ Q (some (.int (nI 0))) z (Hp X C (RA a p P N, b, va_up e 74 μ, o)) := by
  rw [cw_wp]
  simp (disch := omega) only [W1024, r_4, r_La, r_2, r_Li, h79_1022, s_0, ci_110, r_46, ci_0, r_94, s_Z0, s_Z1, r_30, r_30r, h60_10_14, ci_1, r_10, h61_10_14, ci_49, ci_55, h80_1001, s_41, ci_48, r_11, h61_10_15, enR, LG, LSt, LC, nlR, psR, TK, up_s, up_n, up_u, lt_nI, le_nI, eq_nI, true_and, and_true, if_true, if_false, Nat.zero_add, Nat.add_zero, nI_add, ↓reduceIte, Nat.reduceAdd, Nat.reduceMul, Nat.reduceSub, Nat.reduceLT, Nat.reduceLeDiff, Nat.reduceEqDiff, Nat.not_lt_zero, Nat.lt_irrefl, decide_true, BEq.rfl, nm1, nm2, nm3, nm4, nm9, ngc, eq_self, List.length_cons, List.length_nil, m_byteAt hr hn h72 hg (show p < 65536 by omega), hp, h]
theorem m_head_no2 {γ μ : Nat → Int32} {r n p P N : Nat} (hr : r < 4) (hn : n ≤ 80) (h72 : e 72 r = nI n) (hg : ∀ k, k < n → e 73 (80 * r + k) = γ k) (hp : p < n) (h : γ p = nI 110) (h2 : fg γ n (p + 1) 1 7 = none) : Cw (d + 2) 1024 [.ref 67, .int (nI r)] z (Hp X C (RA a p P N, b, va_up e 74 μ, o)) Q ↔ Q (some (.int (nI 0))) z (Hp X C (RA a (p + 1) P N, b, va_up e 74 μ, o)) := by
  have hy := fg_no' (show 7 < 65536 by omega) (show 1 < 65536 by decide) h2
  rw [show 48 + 1 = 49 from rfl, show 48 + 7 = 55 from rfl] at hy
  rw [cw_wp]
  rcases hy with hy | ⟨hy, hy2⟩
  · simp (disch := omega) only [W1024, r_4, r_La, r_2, r_Li, h79_1022, s_0, ci_110, r_46, ci_0, r_94, s_Z0, s_Z1, r_30, r_30r, h60_10_14, ci_1, r_10, h61_10_14, ci_49, ci_55, h80_1001, s_41, ci_48, r_11, h61_10_15, enR, LG, LSt, LC, nlR, psR, TK, up_s, up_n, up_u, lt_nI, le_nI, eq_nI, true_and, and_true, if_true, if_false, Nat.zero_add, Nat.add_zero, nI_add, ↓reduceIte, Nat.reduceAdd, Nat.reduceMul, Nat.reduceSub, Nat.reduceLT, Nat.reduceLeDiff, Nat.reduceEqDiff, Nat.not_lt_zero, Nat.lt_irrefl, decide_true, BEq.rfl, nm1, nm2, nm3, nm4, nm9, ngc, eq_self, List.length_cons, List.length_nil, m_byteAt hr hn h72 hg (show p < 65536 by omega), m_byteAt hr hn h72 hg (show p + 1 < 65536 by omega), hp, h, ra14, ru14, m_in, hy]
  · simp (disch := omega) only [W1024, r_4, r_La, r_2, r_Li, h79_1022, s_0, ci_110, r_46, ci_0, r_94, s_Z0, s_Z1, r_30, r_30r, h60_10_14, ci_1, r_10, h61_10_14, ci_49, ci_55, h80_1001, s_41, ci_48, r_11, h61_10_15, enR, LG, LSt, LC, nlR, psR, TK, up_s, up_n, up_u, lt_nI, le_nI, eq_nI, true_and, and_true, if_true, if_false, Nat.zero_add, Nat.add_zero, nI_add, ↓reduceIte, Nat.reduceAdd, Nat.reduceMul, Nat.reduceSub, Nat.reduceLT, Nat.reduceLeDiff, Nat.reduceEqDiff, Nat.not_lt_zero, Nat.lt_irrefl, decide_true, BEq.rfl, nm1, nm2, nm3, nm4, nm9, ngc, eq_self, List.length_cons, List.length_nil, m_byteAt hr hn h72 hg (show p < 65536 by omega), m_byteAt hr hn h72 hg (show p + 1 < 65536 by omega), hp, h, ra14, ru14, m_in, hy, hy2]
theorem m_head_ok {γ μ : Nat → Int32} {r n p P N P0 : Nat} (hr : r < 4) (hn : n ≤ 80) (h72 : e 72 r = nI n) (hg : ∀ k, k < n → e 73 (80 * r + k) = γ k) (hp : p < n) (h : γ p = nI 110) (h2 : fg γ n (p + 1) 1 7 = some P0) : Cw (d + 2) 1024 [.ref 67, .int (nI r)] z (Hp X C (RA a p P N, b, va_up e 74 μ, o)) Q ↔ Q (some (.int (nI 1))) z (Hp X C (RA a (p + 2) P0 N, b, va_up e 74 μ, o)) := by
  have l1 := fg_lt h2
  obtain ⟨v1, u0, u1⟩ := fg_some (show 7 < 65536 by omega) (show 1 < 65536 by decide) h2
  have w1 : ¬ 48 + P0 < 49 := by omega
  have w2 : ¬ 55 < 48 + P0 := by omega
  rw [cw_wp]
  simp (disch := omega) only [W1024, r_4, r_La, r_2, r_Li, h79_1022, s_0, ci_110, r_46, ci_0, r_94, s_Z0, s_Z1, r_30, r_30r, h60_10_14, ci_1, r_10, h61_10_14, ci_49, ci_55, h80_1001, s_41, ci_48, r_11, h61_10_15, enR, LG, LSt, LC, nlR, psR, TK, up_s, up_n, up_u, lt_nI, le_nI, eq_nI, true_and, and_true, if_true, if_false, Nat.zero_add, Nat.add_zero, nI_add, ↓reduceIte, Nat.reduceAdd, Nat.reduceMul, Nat.reduceSub, Nat.reduceLT, Nat.reduceLeDiff, Nat.reduceEqDiff, Nat.not_lt_zero, Nat.lt_irrefl, decide_true, BEq.rfl, nm1, nm2, nm3, nm4, nm9, ngc, eq_self, List.length_cons, List.length_nil, m_byteAt hr hn h72 hg (show p < 65536 by omega), m_byteAt hr hn h72 hg (show p + 1 < 65536 by omega), hp, l1, h, v1, w1, w2, ra14, ru14, ru15, m_in, nI_sub, Nat.add_sub_cancel_left]
end

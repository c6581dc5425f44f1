/-! Sense: its tables -/
def ldsF (F K O T : Nat → Nat) (p v i s : Nat) : Nat := if F i = v then (match ldm K O T i p with
    | none => s
    | some q => s ||| 2 ^ q) else s
/-- where the number v leads from p: by the first N ROADS -/
def lds (N : Nat) (F K O T : Nat → Nat) (p v : Nat) : Nat := foldu (ldsF F K O T p v) 0 N 0
def SEn (φ μ : Nat → Int32) (N : Nat) (F K O T : Nat → Nat) : Prop := (∀ i, i < 10 → φ i = nI (if i < N then F i else 0)) ∧ ∀ p v, p < 7 → v < 10 → μ (p * 10 + v) = nI (lds N F K O T p v)
theorem lds_succ (N : Nat) (F K O T : Nat → Nat) (p v : Nat) : lds (N + 1) F K O T p v = ldsF F K O T p v N (lds N F K O T p v) := by
  unfold lds
  rw [foldu_last, Nat.zero_add]
theorem lds_lt {N P N' W : Nat} {F K O T J : Nat → Nat} {p v : Nat} (hb : LB P N W K O T J) (hN : N' ≤ N) : lds N' F K O T p v < 2 ^ P := by
  have := foldu_inv (F := ldsF F K O T p v) (fun _ s => s < 2 ^ P) N' 0 0 (Nat.two_pow_pos P) (fun j x h1 h2 h3 => by
    show ldsF F K O T p v j x < 2 ^ P
    unfold ldsF
    split
    · split
      · exact h3
      · rename_i q hq
        exact or_lt h3 (ldm_lt hb (by omega) hq)
    · exact h3)
  exact this
section
variable {d : Nat} {z : AZ} {f : AH} {Q : Option Value → AZ → AH → Prop} {X : Nat × (Nat → Int32)} {M : MT} {s : Nat → Int32} {v : Nat → Int64} {g : Nat → Nat → Int32} {w : Nat → Nat → Int64} {q : Nat → Nat} {ct cn : Nat → Int32} {cc di dr df li : Nat → Nat → Int32} {la : Nat → Nat → Nat → Int32} {sf sl : Nat → Nat → Int32} {l P N W c : Nat} {F K O T J : Nat → Nat}
theorem c_addLead {p y t x : Nat} (hc : c < 2) (hp : p < 7) (hy : y < 10) (ht : t < 7) (h : sl c (p * 10 + y) = nI x) : Cw (d + 1) 602 [.ref (so c), .int (nI p), .int (nI y), .int (nI t)] z (Hp X (s, v, g, w, q, ct, cn, cc, di, dr, df, li, la, sf, sl) M) Q ↔ Q none z (Hp X (s, v, g, w, q, ct, cn, cc, di, dr, df, li, la, sf, va_up sl c (upd (sl c) (p * 10 + y) (nI (x ||| 2 ^ t)))) M) := by
  rw [cw_wp]
  simp (disch := omega) only [W602, r_2, r_Li, s_42, s_0, ci_7, r_49, ci_10, r_4, r_La, h60_6_1, r_12, r_10, r_31, ci_1, r_18, r_16, r_93, h64_sl, h65_sl, enR, LG, LSt, LC, nlR, psR, TK, up_s, up_n, up_u, lt_nI, le_nI, eq_nI, true_and, and_true, if_true, if_false, Nat.zero_add, Nat.add_zero, nI_add, ↓reduceIte, Nat.reduceAdd, Nat.reduceMul, Nat.reduceSub, Nat.reduceLT, Nat.reduceLeDiff, Nat.reduceEqDiff, Nat.not_lt_zero, Nat.lt_irrefl, decide_true, BEq.rfl, nm1, nm2, nm3, nm4, nm9, ngc, eq_self, List.length_cons, List.length_nil, hc, hp, hy, h, nI_mul, nI_bit, nI_or]
theorem lp_learn2 {i : Nat} {x1 : Int32} (hl : l < 2) (h : CLn (li l) (la l) P N K O T J) (hb : LB P N W K O T J) (hc : c < 2) (hi : i < N) (hF : F i < 10) (hf : sf c i = nI (F i)) {R : Prop}
    (hR : ∀ μ : Nat → Int32, (∀ p v, p < 7 → v < 10 → μ (p * 10 + v) = nI (lds (i + 1) F K O T p v)) → (Wp (d + 2) 601 19 [some (.ref (so c)), some (.ref (lo l)), some (.int (nI W)), some (.int x1), some (.int (nI (i + 1)))] [] z (Hp X (s, v, g, w, q, ct, cn, cc, di, dr, df, li, la, sf, va_up sl c μ) M) Q ↔ R)) :
    ∀ (j p : Nat) (sl' : Nat → Nat → Int32), p + j = P → (∃ μ, sl' = va_up sl c μ ∧ ∀ p' v, p' < 7 → v < 10 → μ (p' * 10 + v) = nI (if p' < p then lds (i + 1) F K O T p' v else lds i F K O T p' v)) →
    (Wp (d + 2) 601 55 [some (.ref (so c)), some (.ref (lo l)), some (.int (nI W)), some (.int x1), some (.int (nI i)), some (.int (nI p))] [] z (Hp X (s, v, g, w, q, ct, cn, cc, di, dr, df, li, la, sf, sl') M) Q ↔ R) := by
  have hP := hb.1
  have hN := hb.2.1
  have h0 := h.1
  intro j
  induction j with
  | zero =>
    intro p sl' hp hμ
    have hp : p = P := by omega
    subst hp
    obtain ⟨μ, rfl, hμ⟩ := hμ
    rw [W601_55]
    simp (disch := omega) only [W601, r_4, r_La, h60_6_0, s_0, ci_0, h80_1300, h60_6_1, r_5, r_2, r_Li, h60_3_5, r_49, r_47, r_52, h79_315, h60_3_4, h79_306, ci_m1, r_46, h79_602, s_8, r_In, ci_1, r_93, h64_sf, h65_sf, h64_sl, h65_sl, enR, LG, LSt, LC, nlR, psR, TK, up_s, up_n, up_u, lt_nI, le_nI, eq_nI, true_and, and_true, if_true, if_false, Nat.zero_add, Nat.add_zero, nI_add, ↓reduceIte, Nat.reduceAdd, Nat.reduceMul, Nat.reduceSub, Nat.reduceLT, Nat.reduceLeDiff, Nat.reduceEqDiff, Nat.not_lt_zero, Nat.lt_irrefl, decide_true, BEq.rfl, nm1, nm2, nm3, nm4, nm9, ngc, eq_self, List.length_cons, List.length_nil, hl, hc, h0]
    refine hR μ (fun p' v h1 h2 => ?_)
    rw [hμ p' v h1 h2]
    by_cases h3 : p' < p
    · rw [if_pos h3]
    · rw [if_neg h3, lds_succ]
      unfold ldsF
      split
      · have : ldm K O T i p' = none := by
          obtain ⟨-, o1, t1, -⟩ := hb.2.2.2.2 i hi
          unfold ldm
          rw [if_neg (by omega), if_neg (by omega)]
        rw [this]
      · rfl
  | succ j ih =>
    intro p sl' hp hμ
    obtain ⟨μ, rfl, hμ⟩ := hμ
    have h1 : p < P := by omega
    have hi10 : i < 10 := by omega
    rw [W601_55]
    cases hd : ldm K O T i p with
    | none =>
      simp (disch := omega) only [W601, r_4, r_La, h60_6_0, s_0, ci_0, h80_1300, h60_6_1, r_5, r_2, r_Li, h60_3_5, r_49, r_47, r_52, h79_315, h60_3_4, h79_306, ci_m1, r_46, h79_602, s_8, r_In, ci_1, r_93, h64_sf, h65_sf, h64_sl, h65_sl, enR, LG, LSt, LC, nlR, psR, TK, up_s, up_n, up_u, lt_nI, le_nI, eq_nI, true_and, and_true, if_true, if_false, Nat.zero_add, Nat.add_zero, nI_add, ↓reduceIte, Nat.reduceAdd, Nat.reduceMul, Nat.reduceSub, Nat.reduceLT, Nat.reduceLeDiff, Nat.reduceEqDiff, Nat.not_lt_zero, Nat.lt_irrefl, decide_true, BEq.rfl, nm1, nm2, nm3, nm4, nm9, ngc, eq_self, List.length_cons, List.length_nil, hl, hc, h0, h1, hd, c_lead hl h hb hi (show p < 65536 by omega), o2i]
      refine ih (p + 1) _ (by omega) ⟨μ, rfl, fun p' v q1 q2 => ?_⟩
      rw [hμ p' v q1 q2]
      by_cases h3 : p' = p
      · subst h3
        rw [if_neg (by omega), if_pos (by omega), lds_succ]
        unfold ldsF
        split
        · rw [hd]
        · rfl
      · by_cases h4 : p' < p
        · rw [if_pos h4, if_pos (by omega)]
        · rw [if_neg h4, if_neg (by omega)]
    | some t =>
      have ht := ldm_lt hb hi hd
      have hq : va_up sl c μ c (p * 10 + F i) = nI (lds i F K O T p (F i)) := by
        rw [up_s, hμ p (F i) (by omega) hF, if_neg (by omega)]
      simp (disch := omega) only [W601, r_4, r_La, h60_6_0, s_0, ci_0, h80_1300, h60_6_1, r_5, r_2, r_Li, h60_3_5, r_49, r_47, r_52, h79_315, h60_3_4, h79_306, ci_m1, r_46, h79_602, s_8, r_In, ci_1, r_93, h64_sf, h65_sf, h64_sl, h65_sl, enR, LG, LSt, LC, nlR, psR, TK, up_s, up_n, up_u, lt_nI, le_nI, eq_nI, true_and, and_true, if_true, if_false, Nat.zero_add, Nat.add_zero, nI_add, ↓reduceIte, Nat.reduceAdd, Nat.reduceMul, Nat.reduceSub, Nat.reduceLT, Nat.reduceLeDiff, Nat.reduceEqDiff, Nat.not_lt_zero, Nat.lt_irrefl, decide_true, BEq.rfl, nm1, nm2, nm3, nm4, nm9, ngc, eq_self, List.length_cons, List.length_nil, hl, hc, h0, h1, hd, hi10, hf, c_lead hl h hb hi (show p < 65536 by omega), o2i, c_addLead (sl := va_up sl c μ) hc (show p < 7 by omega) hF (show t < 7 by omega) hq]
      refine ih (p + 1) _ (by omega) ⟨_, rfl, fun p' v q1 q2 => ?_⟩
      by_cases h3 : p' = p
      · subst h3
        rw [if_pos (by omega), lds_succ]
        unfold ldsF
        rw [hd]
        by_cases h5 : F i = v
        · subst h5
          rw [if_pos rfl, ud_s]
        · rw [if_neg h5, ud_n _ _ (by omega), hμ p' v q1 q2, if_neg (by omega)]
      · rw [ud_n _ _ (by omega), hμ p' v q1 q2]
        by_cases h4 : p' < p
        · rw [if_pos h4, if_pos (by omega)]
        · rw [if_neg h4, if_neg (by omega)]
theorem lp_learn {x1 : Int32} (hl : l < 2) (h : CLn (li l) (la l) P N K O T J) (hb : LB P N W K O T J) (hc : c < 2) (hF : ∀ i, i < N → F i = if nI i = x1 then 0 else fe W K J i)
    (hQ : ∀ φ μ, SEn φ μ N F K O T → Q none z (Hp X (s, v, g, w, q, ct, cn, cc, di, dr, df, li, la, va_up sf c φ, va_up sl c μ) M)) :
    ∀ (j i : Nat) (φ μ : Nat → Int32), i + j = N → (∀ k, k < 10 → φ k = nI (if k < i then F k else 0)) → (∀ p v, p < 7 → v < 10 → μ (p * 10 + v) = nI (lds i F K O T p v)) →
    Wp (d + 2) 601 19 [some (.ref (so c)), some (.ref (lo l)), some (.int (nI W)), some (.int x1), some (.int (nI i))] [] z (Hp X (s, v, g, w, q, ct, cn, cc, di, dr, df, li, la, va_up sf c φ, va_up sl c μ) M) Q := by
  have hP := hb.1
  have hN := hb.2.1
  have h0 := h.1
  have h9 := h.2.1
  intro j
  induction j with
  | zero =>
    intro i φ μ hi hφ hμ
    have hi : i = N := by omega
    subst hi
    rw [W601_19]
    simp (disch := omega) only [W601, r_4, r_La, h60_6_0, s_0, ci_0, h80_1300, h60_6_1, r_5, r_2, r_Li, h60_3_5, r_49, r_47, r_52, h79_315, h60_3_4, h79_306, ci_m1, r_46, h79_602, s_8, r_In, ci_1, r_93, h64_sf, h65_sf, h64_sl, h65_sl, enR, LG, LSt, LC, nlR, psR, TK, up_s, up_n, up_u, lt_nI, le_nI, eq_nI, true_and, and_true, if_true, if_false, Nat.zero_add, Nat.add_zero, nI_add, ↓reduceIte, Nat.reduceAdd, Nat.reduceMul, Nat.reduceSub, Nat.reduceLT, Nat.reduceLeDiff, Nat.reduceEqDiff, Nat.not_lt_zero, Nat.lt_irrefl, decide_true, BEq.rfl, nm1, nm2, nm3, nm4, nm9, ngc, eq_self, List.length_cons, List.length_nil, hl, hc, h9]
    exact hQ φ μ ⟨hφ, hμ⟩
  | succ j ih =>
    intro i φ μ hi hφ hμ
    have h1 : i < N := by omega
    have hi10 : i < 10 := by omega
    have hF10 : F i < 10 := by
      rw [hF i h1]
      split
      · omega
      · exact fe_lt hb h1
    have e1 : ∀ (Q' : Option Value → AZ → AH → Prop), Wp (d + 2) 601 55 [some (.ref (so c)), some (.ref (lo l)), some (.int (nI W)), some (.int x1), some (.int (nI i)), some (.int (nI 0))] [] z (Hp X (s, v, g, w, q, ct, cn, cc, di, dr, df, li, la, va_up sf c (upd φ i (nI (F i))), va_up sl c μ) M) Q := fun _ => by
      refine (lp_learn2 (R := True) (F := F) (sf := va_up sf c (upd φ i (nI (F i)))) (sl := va_up sl c μ) hl h hb hc h1 hF10 (by rw [up_s, ud_s]) (fun μ' hμ' => ?_) P 0 (va_up sl c μ) (by omega) ⟨μ, (up_u _ _ _ _).symm, fun p' v q1 q2 => by rw [if_neg (by omega)]; exact hμ p' v q1 q2⟩).mpr trivial
      refine iff_of_true ?_ trivial
      rw [up_u]
      refine ih (i + 1) _ μ' (by omega) (fun k hk => ?_) hμ'
      by_cases hki : k = i
      · subst hki
        rw [ud_s, if_pos (by omega)]
      · rw [ud_n _ _ hki, hφ k hk]
        by_cases h4 : k < i
        · rw [if_pos h4, if_pos (by omega)]
        · rw [if_neg h4, if_neg (by omega)]
    have h2 := hF i h1
    rw [W601_19]
    by_cases h3 : nI i = x1
    · rw [if_pos h3] at h2
      rw [h2] at e1
      subst h3
      simp (disch := omega) only [W601, r_4, r_La, h60_6_0, s_0, ci_0, h80_1300, h60_6_1, r_5, r_2, r_Li, h60_3_5, r_49, r_47, r_52, h79_315, h60_3_4, h79_306, ci_m1, r_46, h79_602, s_8, r_In, ci_1, r_93, h64_sf, h65_sf, h64_sl, h65_sl, enR, LG, LSt, LC, nlR, psR, TK, up_s, up_n, up_u, lt_nI, le_nI, eq_nI, true_and, and_true, if_true, if_false, Nat.zero_add, Nat.add_zero, nI_add, ↓reduceIte, Nat.reduceAdd, Nat.reduceMul, Nat.reduceSub, Nat.reduceLT, Nat.reduceLeDiff, Nat.reduceEqDiff, Nat.not_lt_zero, Nat.lt_irrefl, decide_true, BEq.rfl, nm1, nm2, nm3, nm4, nm9, ngc, eq_self, List.length_cons, List.length_nil, hl, hc, h9, h1, hi10]
      exact e1 Q
    · rw [if_neg h3] at h2
      rw [h2] at e1
      simp (disch := omega) only [W601, r_4, r_La, h60_6_0, s_0, ci_0, h80_1300, h60_6_1, r_5, r_2, r_Li, h60_3_5, r_49, r_47, r_52, h79_315, h60_3_4, h79_306, ci_m1, r_46, h79_602, s_8, r_In, ci_1, r_93, h64_sf, h65_sf, h64_sl, h65_sl, enR, LG, LSt, LC, nlR, psR, TK, up_s, up_n, up_u, lt_nI, le_nI, true_and, and_true, if_true, if_false, Nat.zero_add, Nat.add_zero, nI_add, ↓reduceIte, Nat.reduceAdd, Nat.reduceMul, Nat.reduceSub, Nat.reduceLT, Nat.reduceLeDiff, Nat.reduceEqDiff, Nat.not_lt_zero, Nat.lt_irrefl, decide_true, BEq.rfl, nm1, nm2, nm3, nm4, nm9, ngc, eq_self, List.length_cons, List.length_nil, hl, hc, h9, h1, h3, hi10, c_feelOf hl h hb h1]
      exact e1 Q
theorem c_learn {x1 : Int32} (hl : l < 2) (h : CLn (li l) (la l) P N K O T J) (hb : LB P N W K O T J) (hc : c < 2) (hF : ∀ i, i < N → F i = if nI i = x1 then 0 else fe W K J i)
    (hQ : ∀ φ μ, SEn φ μ N F K O T → Q none z (Hp X (s, v, g, w, q, ct, cn, cc, di, dr, df, li, la, va_up sf c φ, va_up sl c μ) M)) : Cw (d + 3) 601 [.ref (so c), .ref (lo l), .int (nI W), .int x1] z (Hp X (s, v, g, w, q, ct, cn, cc, di, dr, df, li, la, sf, sl) M) Q := by
  rw [cw_wp]
  simp (disch := omega) only [W601, r_4, r_La, h60_6_0, s_0, ci_0, h80_1300, h60_6_1, r_5, r_2, r_Li, h60_3_5, r_49, r_47, r_52, h79_315, h60_3_4, h79_306, ci_m1, r_46, h79_602, s_8, r_In, ci_1, r_93, h64_sf, h65_sf, h64_sl, h65_sl, enR, LG, LSt, LC, nlR, psR, TK, up_s, up_n, up_u, lt_nI, le_nI, eq_nI, true_and, and_true, if_true, if_false, Nat.zero_add, Nat.add_zero, nI_add, ↓reduceIte, Nat.reduceAdd, Nat.reduceMul, Nat.reduceSub, Nat.reduceLT, Nat.reduceLeDiff, Nat.reduceEqDiff, Nat.not_lt_zero, Nat.lt_irrefl, decide_true, BEq.rfl, nm1, nm2, nm3, nm4, nm9, ngc, eq_self, List.length_cons, List.length_nil, hl, hc, f_sf hc, f_sl hc]
  refine lp_learn hl h hb hc hF hQ N 0 _ _ (by omega) (fun k hk => ?_) (fun p v h1 h2 => ?_)
  · rw [if_neg (by omega)]
    exact if_pos ⟨by omega, hk⟩
  · exact if_pos ⟨by omega, by omega⟩
end
/-! steps over the tables -/
def stpF (L : Nat → Nat → Nat) (S v p r : Nat) : Nat := if S.testBit p = true then r ||| L p v else r
def stp (L : Nat → Nat → Nat) (S v : Nat) : Nat := foldu (stpF L S v) 0 7 0
def SL (μ : Nat → Int32) (L : Nat → Nat → Nat) : Prop := ∀ p v, p < 7 → v < 10 → μ (p * 10 + v) = nI (L p v) ∧ L p v < 128
def bgF (L : Nat → Nat → Nat) (v G p a : Nat) : Nat := if L p v &&& G = 0 then a else a ||| 2 ^ p
def bgn (L : Nat → Nat → Nat) (R : Nat → Nat) (k : Nat) : Nat → Nat → Nat
  | 0, G => G
  | j + 1, G => bgn L R k j (foldu (bgF L (R (k + j)) G) 0 7 0)
def lkF (L : Nat → Nat → Nat) (p v a : Nat) : Nat := if L p v = 0 then a else a ||| 2 ^ v
def lks (L : Nat → Nat → Nat) (p : Nat) : Nat := foldu (lkF L p) 0 10 0
def plF (L : Nat → Nat → Nat) (x p a : Nat) : Nat := if lks L p = x then a ||| 2 ^ p else a
def rbF (F : Nat → Nat) (y i a : Nat) : Nat := if F i = y then a ||| 2 ^ i else a
theorem lks_lt (L : Nat → Nat → Nat) (p : Nat) : lks L p < 1024 :=
  foldu_inv (F := lkF L p) (fun _ s => s < 2 ^ 10) 10 0 0 (by decide) (fun j x h1 h2 h3 => by
    show lkF L p j x < 2 ^ 10
    unfold lkF
    split
    · exact h3
    · exact or_lt h3 (by omega))
section
variable {d : Nat} {z : AZ} {f : AH} {Q : Option Value → AZ → AH → Prop} {X : Nat × (Nat → Int32)} {M : MT} {s : Nat → Int32} {v : Nat → Int64} {g : Nat → Nat → Int32} {w : Nat → Nat → Int64} {q : Nat → Nat} {ct cn : Nat → Int32} {cc di dr df li : Nat → Nat → Int32} {la : Nat → Nat → Nat → Int32} {sf sl : Nat → Nat → Int32} {c : Nat} {L : Nat → Nat → Nat}
theorem c_leadsBy {p y : Nat} (hc : c < 2) (h : SL (sl c) L) (hp : p < 7) (hy : y < 10) : Cw (d + 1) 603 [.ref (so c), .int (nI p), .int (nI y)] z (Hp X (s, v, g, w, q, ct, cn, cc, di, dr, df, li, la, sf, sl) M) Q ↔ Q (some (.int (nI (L p y)))) z (Hp X (s, v, g, w, q, ct, cn, cc, di, dr, df, li, la, sf, sl) M) := by
  have e := (h p y hp hy).1
  rw [cw_wp]
  simp (disch := omega) only [W603, r_2, r_Li, s_42, s_0, ci_7, r_49, ci_10, r_48, ci_0, r_90, r_4, r_La, h60_6_1, r_12, r_10, h64_sl, enR, LG, LSt, LC, nlR, psR, TK, up_s, up_n, up_u, lt_nI, le_nI, eq_nI, true_and, and_true, if_true, if_false, Nat.zero_add, Nat.add_zero, nI_add, ↓reduceIte, Nat.reduceAdd, Nat.reduceMul, Nat.reduceSub, Nat.reduceLT, Nat.reduceLeDiff, Nat.reduceEqDiff, Nat.not_lt_zero, Nat.lt_irrefl, decide_true, BEq.rfl, nm1, nm2, nm3, nm4, nm9, ngc, eq_self, List.length_cons, List.length_nil, hc, hp, hy, e, nI_mul]
theorem lp_step {S y : Nat} (hc : c < 2) (h : SL (sl c) L) (hy : y < 10) : ∀ (j p r : Nat), p + j = 7 → (Wp d 604 17 [some (.ref (so c)), some (.int (nI S)), some (.int (nI y)), some (.int (nI r)), some (.int (nI p))] [] z (Hp X (s, v, g, w, q, ct, cn, cc, di, dr, df, li, la, sf, sl) M) Q ↔ Q (some (.int (nI (foldu (stpF L S y) p j r)))) z (Hp X (s, v, g, w, q, ct, cn, cc, di, dr, df, li, la, sf, sl) M)) := by
  intro j
  induction j with
  | zero =>
    intro p r hp
    have hp : p = 7 := by omega
    subst hp
    rw [W604_17]
    simp (disch := omega) only [W604, r_2, r_Li, s_42, s_0, ci_10, r_48, ci_0, r_90, r_5, ci_7, r_49, ci_1, r_18, r_15, s_40, r_4, r_La, h60_6_1, r_12, r_10, r_16, s_8, r_In, r_52, h64_sl, enR, LG, LSt, LC, nlR, psR, TK, up_s, up_n, up_u, lt_nI, le_nI, eq_nI, true_and, and_true, if_true, if_false, Nat.zero_add, Nat.add_zero, nI_add, ↓reduceIte, Nat.reduceAdd, Nat.reduceMul, Nat.reduceSub, Nat.reduceLT, Nat.reduceLeDiff, Nat.reduceEqDiff, Nat.not_lt_zero, Nat.lt_irrefl, decide_true, BEq.rfl, nm1, nm2, nm3, nm4, nm9, ngc, eq_self, List.length_cons, List.length_nil, foldu]
  | succ j ih =>
    intro p r hp
    have h1 : p < 7 := by omega
    have e := (h p y h1 hy).1
    rw [W604_17]
    by_cases h2 : S.testBit p = true
    · simp (disch := omega) only [W604, r_2, r_Li, s_42, s_0, ci_10, r_48, ci_0, r_90, r_5, ci_7, r_49, ci_1, r_18, r_15, s_40, r_4, r_La, h60_6_1, r_12, r_10, r_16, s_8, r_In, r_52, h64_sl, enR, LG, LSt, LC, nlR, psR, TK, up_s, up_n, up_u, lt_nI, le_nI, eq_nI, true_and, and_true, if_true, if_false, Nat.zero_add, Nat.add_zero, nI_add, ↓reduceIte, Nat.reduceAdd, Nat.reduceMul, Nat.reduceSub, Nat.reduceLT, Nat.reduceLeDiff, Nat.reduceEqDiff, Nat.not_lt_zero, Nat.lt_irrefl, decide_true, BEq.rfl, nm1, nm2, nm3, nm4, nm9, ngc, eq_self, List.length_cons, List.length_nil, hc, h1, h2, e, foldu, stpF, nI_bit, nI_and, nI_or, nI_mul, bitz, Bool.true_eq_false]
      exact ih (p + 1) _ (by omega)
    · simp (disch := omega) only [W604, r_2, r_Li, s_42, s_0, ci_10, r_48, ci_0, r_90, r_5, ci_7, r_49, ci_1, r_18, r_15, s_40, r_4, r_La, h60_6_1, r_12, r_10, r_16, s_8, r_In, r_52, h64_sl, enR, LG, LSt, LC, nlR, psR, TK, up_s, up_n, up_u, lt_nI, le_nI, eq_nI, true_and, and_true, if_true, if_false, Nat.zero_add, Nat.add_zero, nI_add, ↓reduceIte, Nat.reduceAdd, Nat.reduceMul, Nat.reduceSub, Nat.reduceLT, Nat.reduceLeDiff, Nat.reduceEqDiff, Nat.not_lt_zero, Nat.lt_irrefl, decide_true, BEq.rfl, nm1, nm2, nm3, nm4, nm9, ngc, eq_self, List.length_cons, List.length_nil, hc, h1, h2, foldu, stpF, nI_bit, nI_and, nI_or, nI_mul, bitz, Bool.true_eq_false, Bool.false_eq_true]
      exact ih (p + 1) _ (by omega)
theorem c_step {S y : Nat} (hc : c < 2) (h : SL (sl c) L) (hy : y < 10) : Cw (d + 1) 604 [.ref (so c), .int (nI S), .int (nI y)] z (Hp X (s, v, g, w, q, ct, cn, cc, di, dr, df, li, la, sf, sl) M) Q ↔ Q (some (.int (nI (stp L S y)))) z (Hp X (s, v, g, w, q, ct, cn, cc, di, dr, df, li, la, sf, sl) M) := by
  rw [cw_wp]
  simp (disch := omega) only [W604, r_2, r_Li, s_42, s_0, ci_10, r_48, ci_0, r_90, r_5, ci_7, r_49, ci_1, r_18, r_15, s_40, r_4, r_La, h60_6_1, r_12, r_10, r_16, s_8, r_In, r_52, h64_sl, enR, LG, LSt, LC, nlR, psR, TK, up_s, up_n, up_u, lt_nI, le_nI, eq_nI, true_and, and_true, if_true, if_false, Nat.zero_add, Nat.add_zero, nI_add, ↓reduceIte, Nat.reduceAdd, Nat.reduceMul, Nat.reduceSub, Nat.reduceLT, Nat.reduceLeDiff, Nat.reduceEqDiff, Nat.not_lt_zero, Nat.lt_irrefl, decide_true, BEq.rfl, nm1, nm2, nm3, nm4, nm9, ngc, eq_self, List.length_cons, List.length_nil, hy]
  exact lp_step hc h hy 7 0 0 (by omega)
def rcF (L : Nat → Nat → Nat) (R : Nat → Nat) (k S : Nat) : Nat := stp L S (R k)
theorem lp_reached {r n S0 : Nat} {R : Nat → Nat} (hc : c < 2) (h : SL (sl c) L) (hr : r < 10) (hn : cn r = nI n) (hm : n ≤ cap r) (hR : ∀ k, k < n → cc r k = nI (R k) ∧ R k < 10) : ∀ (j k S : Nat), k + j = n → (Wp (d + 2) 605 5 [some (.ref (so c)), some (.ref (co r)), some (.int (nI S0)), some (.int (nI S)), some (.int (nI k))] [] z (Hp X (s, v, g, w, q, ct, cn, cc, di, dr, df, li, la, sf, sl) M) Q ↔ Q (some (.int (nI (foldu (rcF L R) k j S)))) z (Hp X (s, v, g, w, q, ct, cn, cc, di, dr, df, li, la, sf, sl) M)) := by
  have h8 : cap r ≤ 80 := by unfold cap; split <;> omega
  intro j
  induction j with
  | zero =>
    intro k S hk
    have hk : k = n := by omega
    subst hk
    rw [W605_5]
    simp (disch := omega) only [W605, r_2, r_Li, r_5, s_0, ci_0, r_4, r_La, h60_0_2, r_49, h79_5, h79_604, s_8, r_In, ci_1, r_52, r_90, enR, LG, LSt, LC, nlR, psR, TK, up_s, up_n, up_u, lt_nI, le_nI, eq_nI, true_and, and_true, if_true, if_false, Nat.zero_add, Nat.add_zero, nI_add, ↓reduceIte, Nat.reduceAdd, Nat.reduceMul, Nat.reduceSub, Nat.reduceLT, Nat.reduceLeDiff, Nat.reduceEqDiff, Nat.not_lt_zero, Nat.lt_irrefl, decide_true, BEq.rfl, nm1, nm2, nm3, nm4, nm9, ngc, eq_self, List.length_cons, List.length_nil, hr, hn, foldu]
  | succ j ih =>
    intro k S hk
    have h1 : k < n := by omega
    obtain ⟨r1, r2⟩ := hR k h1
    rw [W605_5]
    simp (disch := omega) only [W605, r_2, r_Li, r_5, s_0, ci_0, r_4, r_La, h60_0_2, r_49, h79_5, h79_604, s_8, r_In, ci_1, r_52, r_90, enR, LG, LSt, LC, nlR, psR, TK, up_s, up_n, up_u, lt_nI, le_nI, eq_nI, true_and, and_true, if_true, if_false, Nat.zero_add, Nat.add_zero, nI_add, ↓reduceIte, Nat.reduceAdd, Nat.reduceMul, Nat.reduceSub, Nat.reduceLT, Nat.reduceLeDiff, Nat.reduceEqDiff, Nat.not_lt_zero, Nat.lt_irrefl, decide_true, BEq.rfl, nm1, nm2, nm3, nm4, nm9, ngc, eq_self, List.length_cons, List.length_nil, hc, hr, hn, h1, c_valueAt hr hn h1 hm, r1, c_step hc h r2, foldu, rcF]
    exact ih (k + 1) _ (by omega)
theorem c_reached {r n S : Nat} {R : Nat → Nat} (hc : c < 2) (h : SL (sl c) L) (hr : r < 10) (hn : cn r = nI n) (hm : n ≤ cap r) (hR : ∀ k, k < n → cc r k = nI (R k) ∧ R k < 10) : Cw (d + 3) 605 [.ref (so c), .ref (co r), .int (nI S)] z (Hp X (s, v, g, w, q, ct, cn, cc, di, dr, df, li, la, sf, sl) M) Q ↔ Q (some (.int (nI (foldu (rcF L R) 0 n S)))) z (Hp X (s, v, g, w, q, ct, cn, cc, di, dr, df, li, la, sf, sl) M) := by
  rw [cw_wp]
  simp (disch := omega) only [W605, r_2, r_Li, r_5, s_0, ci_0, r_4, r_La, h60_0_2, r_49, h79_5, h79_604, s_8, r_In, ci_1, r_52, r_90, enR, LG, LSt, LC, nlR, psR, TK, up_s, up_n, up_u, lt_nI, le_nI, eq_nI, true_and, and_true, if_true, if_false, Nat.zero_add, Nat.add_zero, nI_add, ↓reduceIte, Nat.reduceAdd, Nat.reduceMul, Nat.reduceSub, Nat.reduceLT, Nat.reduceLeDiff, Nat.reduceEqDiff, Nat.not_lt_zero, Nat.lt_irrefl, decide_true, BEq.rfl, nm1, nm2, nm3, nm4, nm9, ngc, eq_self, List.length_cons, List.length_nil]
  exact lp_reached hc h hr hn hm hR n 0 S (by omega)
theorem lp_begun2 {r n k i S0 G : Nat} {R : Nat → Nat} {E : Prop} (hc : c < 2) (h : SL (sl c) L) (hr : r < 10) (hn : cn r = nI n) (hm : n ≤ cap r) (hi : i < n) (hR : ∀ k, k < n → cc r k = nI (R k) ∧ R k < 10)
    (hE : ∀ a, a = foldu (bgF L (R i) G) 0 7 0 → (Wp (d + 2) 606 11 [some (.ref (so c)), some (.ref (co r)), some (.int (nI k)), some (.int (nI S0)), some (.int (nI a)), some (.int (nI i + -1))] [] z (Hp X (s, v, g, w, q, ct, cn, cc, di, dr, df, li, la, sf, sl) M) Q ↔ E)) :
    ∀ (j p a : Nat), p + j = 7 → foldu (bgF L (R i) G) p j a = foldu (bgF L (R i) G) 0 7 0 → (Wp (d + 2) 606 23 [some (.ref (so c)), some (.ref (co r)), some (.int (nI k)), some (.int (nI S0)), some (.int (nI G)), some (.int (nI i)), some (.int (nI a)), some (.int (nI p))] [] z (Hp X (s, v, g, w, q, ct, cn, cc, di, dr, df, li, la, sf, sl) M) Q ↔ E) := by
  have h8 : cap r ≤ 80 := by unfold cap; split <;> omega
  obtain ⟨r1, r2⟩ := hR i hi
  intro j
  induction j with
  | zero =>
    intro p a hp ha
    have hp : p = 7 := by omega
    subst hp
    rw [W606_23]
    simp (disch := omega) only [W606, r_2, r_Li, r_5, r_4, r_La, h60_0_2, s_0, ci_1, r_11, r_48, ci_0, ci_7, r_49, h79_5, h79_603, r_15, s_40, r_18, r_16, s_8, r_In, r_52, ci_m1, r_90, enR, LG, LSt, LC, nlR, psR, TK, up_s, up_n, up_u, lt_nI, le_nI, eq_nI, true_and, and_true, if_true, if_false, Nat.zero_add, Nat.add_zero, nI_add, ↓reduceIte, Nat.reduceAdd, Nat.reduceMul, Nat.reduceSub, Nat.reduceLT, Nat.reduceLeDiff, Nat.reduceEqDiff, Nat.not_lt_zero, Nat.lt_irrefl, decide_true, BEq.rfl, nm1, nm2, nm3, nm4, nm9, ngc, eq_self, List.length_cons, List.length_nil]
    exact hE a ha
  | succ j ih =>
    intro p a hp ha
    have h1 : p < 7 := by omega
    have hL := (h p (R i) h1 r2).2
    have hz : (nI (L p (R i) &&& G) = nI 0) = (L p (R i) &&& G = 0) := by
      have h5 : L p (R i) &&& G < 2 ^ 31 := Nat.lt_of_le_of_lt Nat.and_le_left (by omega)
      exact propext (nI_eq h5 (by decide))
    rw [W606_23]
    by_cases h2 : L p (R i) &&& G = 0
    · simp (disch := omega) only [W606, r_2, r_Li, r_5, r_4, r_La, h60_0_2, s_0, ci_1, r_11, r_48, ci_0, ci_7, r_49, h79_5, h79_603, r_15, s_40, r_18, r_16, s_8, r_In, r_52, ci_m1, r_90, enR, LG, LSt, LC, nlR, psR, TK, up_s, up_n, up_u, lt_nI, le_nI, eq_nI, true_and, and_true, if_true, if_false, Nat.zero_add, Nat.add_zero, nI_add, ↓reduceIte, Nat.reduceAdd, Nat.reduceMul, Nat.reduceSub, Nat.reduceLT, Nat.reduceLeDiff, Nat.reduceEqDiff, Nat.not_lt_zero, Nat.lt_irrefl, decide_true, BEq.rfl, nm1, nm2, nm3, nm4, nm9, ngc, eq_self, List.length_cons, List.length_nil, hc, hr, h1, h2, hz, r1, c_valueAt hr hn hi hm, c_leadsBy hc h h1 r2, nI_and]
      refine ih (p + 1) a (by omega) ?_
      rw [← ha]
      show _ = foldu (bgF L (R i) G) (p + 1) j (bgF L (R i) G p a)
      rw [show bgF L (R i) G p a = a from if_pos h2]
    · simp (disch := omega) only [W606, r_2, r_Li, r_5, r_4, r_La, h60_0_2, s_0, ci_1, r_11, r_48, ci_0, ci_7, r_49, h79_5, h79_603, r_15, s_40, r_18, r_16, s_8, r_In, r_52, ci_m1, r_90, enR, LG, LSt, LC, nlR, psR, TK, up_s, up_n, up_u, lt_nI, le_nI, eq_nI, true_and, and_true, if_true, if_false, Nat.zero_add, Nat.add_zero, nI_add, ↓reduceIte, Nat.reduceAdd, Nat.reduceMul, Nat.reduceSub, Nat.reduceLT, Nat.reduceLeDiff, Nat.reduceEqDiff, Nat.not_lt_zero, Nat.lt_irrefl, decide_true, BEq.rfl, nm1, nm2, nm3, nm4, nm9, ngc, eq_self, List.length_cons, List.length_nil, hc, hr, h1, h2, hz, r1, c_valueAt hr hn hi hm, c_leadsBy hc h h1 r2, nI_and, nI_or, nI_bit]
      refine ih (p + 1) _ (by omega) ?_
      rw [← ha]
      show _ = foldu (bgF L (R i) G) (p + 1) j (bgF L (R i) G p a)
      rw [show bgF L (R i) G p a = a ||| 2 ^ p from if_neg h2]
theorem sub1 {a b : Nat} (ha : a < 2147483647) (hb : b < 2147483648) : (nI a - nI 1 < nI b) ↔ a < b + 1 := by
  by_cases h : a = 0
  · subst h
    have h1 : nI 0 - nI 1 = (-1 : Int32) := by decide +kernel
    rw [h1]
    refine iff_of_true ?_ (by omega)
    have h2 : ¬ nI b < 0 := nI_pos (by omega)
    rw [Int32.lt_iff_toInt_lt, nI_toInt (by omega)]
    show (-1 : Int) < b
    omega
  · rw [nI_sub (by omega), nI_ltI (by omega) (by omega)]
    omega
theorem lp_begun {r n k S0 : Nat} {R : Nat → Nat} (hc : c < 2) (h : SL (sl c) L) (hr : r < 10) (hn : cn r = nI n) (hm : n ≤ cap r) (hk : k ≤ n) (hR : ∀ k, k < n → cc r k = nI (R k) ∧ R k < 10) : ∀ (j G : Nat), k + j ≤ n → (Wp (d + 2) 606 11 [some (.ref (so c)), some (.ref (co r)), some (.int (nI k)), some (.int (nI S0)), some (.int (nI G)), some (.int (nI (k + j) - nI 1))] [] z (Hp X (s, v, g, w, q, ct, cn, cc, di, dr, df, li, la, sf, sl) M) Q ↔ Q (some (.int (nI (bgn L R k j G)))) z (Hp X (s, v, g, w, q, ct, cn, cc, di, dr, df, li, la, sf, sl) M)) := by
  have h8 : cap r ≤ 80 := by unfold cap; split <;> omega
  intro j
  induction j with
  | zero =>
    intro G _
    have h1 : (nI (k + 0) - nI 1 < nI k) = True := eq_true ((sub1 (by omega) (by omega)).mpr (by omega))
    rw [W606_11]
    simp (disch := omega) only [W606, r_2, r_Li, r_5, r_4, r_La, h60_0_2, s_0, ci_1, r_11, r_48, ci_0, ci_7, r_49, h79_5, h79_603, r_15, s_40, r_18, r_16, s_8, r_In, r_52, ci_m1, r_90, enR, LG, LSt, LC, nlR, psR, TK, up_s, up_n, up_u, lt_nI, le_nI, eq_nI, true_and, and_true, if_true, if_false, Nat.zero_add, nI_add, ↓reduceIte, Nat.reduceAdd, Nat.reduceMul, Nat.reduceSub, Nat.reduceLT, Nat.reduceLeDiff, Nat.reduceEqDiff, Nat.not_lt_zero, Nat.lt_irrefl, decide_true, BEq.rfl, nm1, nm2, nm3, nm4, nm9, ngc, eq_self, List.length_cons, List.length_nil, h1, bgn]
  | succ j ih =>
    intro G hj
    have h1 : (nI (k + (j + 1)) - nI 1 < nI k) = False := eq_false (fun e => by have := (sub1 (by omega) (by omega)).mp e; omega)
    have e1 : nI (k + (j + 1)) - nI 1 = nI (k + j) := by rw [nI_sub (by omega)]; congr 1
    rw [e1] at h1
    rw [W606_11, e1]
    simp (disch := omega) only [W606, r_2, r_Li, r_5, r_4, r_La, h60_0_2, s_0, ci_1, r_11, r_48, ci_0, ci_7, r_49, h79_5, h79_603, r_15, s_40, r_18, r_16, s_8, r_In, r_52, ci_m1, r_90, enR, LG, LSt, LC, nlR, psR, TK, up_s, up_n, up_u, le_nI, eq_nI, true_and, and_true, if_true, if_false, Nat.zero_add, Nat.add_zero, nI_add, ↓reduceIte, Nat.reduceAdd, Nat.reduceMul, Nat.reduceSub, Nat.reduceLT, Nat.reduceLeDiff, Nat.reduceEqDiff, Nat.not_lt_zero, Nat.lt_irrefl, decide_true, BEq.rfl, nm1, nm2, nm3, nm4, nm9, ngc, eq_self, List.length_cons, List.length_nil, h1]
    refine lp_begun2 hc h hr hn hm (by omega) hR (fun a ha => ?_) 7 0 0 (by omega) rfl
    have e2 : nI (k + j) + (-1) = nI (k + j) - nI 1 := by
      rw [Int32.sub_eq_add_neg]; rfl
    rw [e2, ih a (by omega)]
    simp only [bgn, ha]
theorem c_begun {r n k S : Nat} {R : Nat → Nat} (hc : c < 2) (h : SL (sl c) L) (hr : r < 10) (hn : cn r = nI n) (hm : n ≤ cap r) (hk : k ≤ n) (hR : ∀ k, k < n → cc r k = nI (R k) ∧ R k < 10) : Cw (d + 3) 606 [.ref (so c), .ref (co r), .int (nI k), .int (nI S)] z (Hp X (s, v, g, w, q, ct, cn, cc, di, dr, df, li, la, sf, sl) M) Q ↔ Q (some (.int (nI (bgn L R k (n - k) S)))) z (Hp X (s, v, g, w, q, ct, cn, cc, di, dr, df, li, la, sf, sl) M) := by
  rw [cw_wp]
  simp (disch := omega) only [W606, r_2, r_Li, r_5, r_4, r_La, h60_0_2, s_0, ci_1, r_11, r_48, ci_0, ci_7, r_49, h79_5, h79_603, r_15, s_40, r_18, r_16, s_8, r_In, r_52, ci_m1, r_90, enR, LG, LSt, LC, nlR, psR, TK, up_s, up_n, up_u, lt_nI, le_nI, eq_nI, true_and, and_true, if_true, if_false, Nat.zero_add, Nat.add_zero, nI_add, ↓reduceIte, Nat.reduceAdd, Nat.reduceMul, Nat.reduceSub, Nat.reduceLT, Nat.reduceLeDiff, Nat.reduceEqDiff, Nat.not_lt_zero, Nat.lt_irrefl, decide_true, BEq.rfl, nm1, nm2, nm3, nm4, nm9, ngc, eq_self, List.length_cons, List.length_nil, hr, hn]
  have := lp_begun (d := d) (z := z) (Q := Q) (X := X) (M := M) (s := s) (v := v) (g := g) (w := w) (q := q) (ct := ct) (cn := cn) (cc := cc) (di := di) (dr := dr) (df := df) (li := li) (la := la) (sf := sf) (sl := sl) (S0 := S) hc h hr hn hm hk hR (n - k) S (by omega)
  rw [show k + (n - k) = n by omega] at this
  exact this
theorem lp_looks {p : Nat} (hc : c < 2) (h : SL (sl c) L) (hp : p < 7) : ∀ (j y a : Nat), y + j = 10 → (Wp (d + 1) 607 4 [some (.ref (so c)), some (.int (nI p)), some (.int (nI a)), some (.int (nI y))] [] z (Hp X (s, v, g, w, q, ct, cn, cc, di, dr, df, li, la, sf, sl) M) Q ↔ Q (some (.int (nI (foldu (lkF L p) y j a)))) z (Hp X (s, v, g, w, q, ct, cn, cc, di, dr, df, li, la, sf, sl) M)) := by
  intro j
  induction j with
  | zero =>
    intro y a hy
    have hy : y = 10 := by omega
    subst hy
    rw [W607_4]
    simp (disch := omega) only [W607, s_0, ci_0, r_5, r_2, r_Li, ci_10, r_49, r_4, r_La, h79_603, s_40, ci_1, r_18, r_16, s_8, r_In, r_52, r_90, enR, LG, LSt, LC, nlR, psR, TK, up_s, up_n, up_u, lt_nI, le_nI, eq_nI, true_and, and_true, if_true, if_false, Nat.zero_add, Nat.add_zero, nI_add, ↓reduceIte, Nat.reduceAdd, Nat.reduceMul, Nat.reduceSub, Nat.reduceLT, Nat.reduceLeDiff, Nat.reduceEqDiff, Nat.not_lt_zero, Nat.lt_irrefl, decide_true, BEq.rfl, nm1, nm2, nm3, nm4, nm9, ngc, eq_self, List.length_cons, List.length_nil, foldu]
  | succ j ih =>
    intro y a hy
    have h1 : y < 10 := by omega
    have hL := (h p y hp h1).2
    rw [W607_4]
    by_cases h2 : L p y = 0
    · simp (disch := omega) only [W607, s_0, ci_0, r_5, r_2, r_Li, ci_10, r_49, r_4, r_La, h79_603, s_40, ci_1, r_18, r_16, s_8, r_In, r_52, r_90, enR, LG, LSt, LC, nlR, psR, TK, up_s, up_n, up_u, lt_nI, le_nI, eq_nI, true_and, and_true, if_true, if_false, Nat.zero_add, Nat.add_zero, nI_add, ↓reduceIte, Nat.reduceAdd, Nat.reduceMul, Nat.reduceSub, Nat.reduceLT, Nat.reduceLeDiff, Nat.reduceEqDiff, Nat.not_lt_zero, Nat.lt_irrefl, decide_true, BEq.rfl, nm1, nm2, nm3, nm4, nm9, ngc, eq_self, List.length_cons, List.length_nil, hc, h1, h2, c_leadsBy hc h hp h1, foldu, lkF]
      exact ih (y + 1) _ (by omega)
    · simp (disch := omega) only [W607, s_0, ci_0, r_5, r_2, r_Li, ci_10, r_49, r_4, r_La, h79_603, s_40, ci_1, r_18, r_16, s_8, r_In, r_52, r_90, enR, LG, LSt, LC, nlR, psR, TK, up_s, up_n, up_u, lt_nI, le_nI, eq_nI, true_and, and_true, if_true, if_false, Nat.zero_add, Nat.add_zero, nI_add, ↓reduceIte, Nat.reduceAdd, Nat.reduceMul, Nat.reduceSub, Nat.reduceLT, Nat.reduceLeDiff, Nat.reduceEqDiff, Nat.not_lt_zero, Nat.lt_irrefl, decide_true, BEq.rfl, nm1, nm2, nm3, nm4, nm9, ngc, eq_self, List.length_cons, List.length_nil, hc, h1, h2, c_leadsBy hc h hp h1, foldu, lkF, nI_bit, nI_or]
      exact ih (y + 1) _ (by omega)
theorem c_looks {p : Nat} (hc : c < 2) (h : SL (sl c) L) (hp : p < 7) : Cw (d + 2) 607 [.ref (so c), .int (nI p)] z (Hp X (s, v, g, w, q, ct, cn, cc, di, dr, df, li, la, sf, sl) M) Q ↔ Q (some (.int (nI (lks L p)))) z (Hp X (s, v, g, w, q, ct, cn, cc, di, dr, df, li, la, sf, sl) M) := by
  rw [cw_wp]
  simp (disch := omega) only [W607, s_0, ci_0, r_5, r_2, r_Li, ci_10, r_49, r_4, r_La, h79_603, s_40, ci_1, r_18, r_16, s_8, r_In, r_52, r_90, enR, LG, LSt, LC, nlR, psR, TK, up_s, up_n, up_u, lt_nI, le_nI, eq_nI, true_and, and_true, if_true, if_false, Nat.zero_add, Nat.add_zero, nI_add, ↓reduceIte, Nat.reduceAdd, Nat.reduceMul, Nat.reduceSub, Nat.reduceLT, Nat.reduceLeDiff, Nat.reduceEqDiff, Nat.not_lt_zero, Nat.lt_irrefl, decide_true, BEq.rfl, nm1, nm2, nm3, nm4, nm9, ngc, eq_self, List.length_cons, List.length_nil]
  exact lp_looks hc h hp 10 0 0 (by omega)
theorem lp_placesL {x : Nat} (hc : c < 2) (h : SL (sl c) L) (hx : x < 65536) : ∀ (j p a : Nat), p + j = 7 → (Wp (d + 2) 608 4 [some (.ref (so c)), some (.int (nI x)), some (.int (nI a)), some (.int (nI p))] [] z (Hp X (s, v, g, w, q, ct, cn, cc, di, dr, df, li, la, sf, sl) M) Q ↔ Q (some (.int (nI (foldu (plF L x) p j a)))) z (Hp X (s, v, g, w, q, ct, cn, cc, di, dr, df, li, la, sf, sl) M)) := by
  intro j
  induction j with
  | zero =>
    intro p a hp
    have hp : p = 7 := by omega
    subst hp
    rw [W608_4]
    simp (disch := omega) only [W608, s_0, ci_0, r_5, r_2, r_Li, ci_7, r_49, r_4, r_La, h79_607, r_47, ci_1, r_18, r_16, s_8, r_In, r_52, r_90, enR, LG, LSt, LC, nlR, psR, TK, up_s, up_n, up_u, lt_nI, le_nI, eq_nI, true_and, and_true, if_true, if_false, Nat.zero_add, Nat.add_zero, nI_add, ↓reduceIte, Nat.reduceAdd, Nat.reduceMul, Nat.reduceSub, Nat.reduceLT, Nat.reduceLeDiff, Nat.reduceEqDiff, Nat.not_lt_zero, Nat.lt_irrefl, decide_true, BEq.rfl, nm1, nm2, nm3, nm4, nm9, ngc, eq_self, List.length_cons, List.length_nil, foldu]
  | succ j ih =>
    intro p a hp
    have h1 : p < 7 := by omega
    have h3 := lks_lt L p
    rw [W608_4]
    by_cases h2 : lks L p = x
    · simp (disch := omega) only [W608, s_0, ci_0, r_5, r_2, r_Li, ci_7, r_49, r_4, r_La, h79_607, r_47, ci_1, r_18, r_16, s_8, r_In, r_52, r_90, enR, LG, LSt, LC, nlR, psR, TK, up_s, up_n, up_u, lt_nI, le_nI, eq_nI, true_and, and_true, if_true, if_false, Nat.zero_add, Nat.add_zero, nI_add, ↓reduceIte, Nat.reduceAdd, Nat.reduceMul, Nat.reduceSub, Nat.reduceLT, Nat.reduceLeDiff, Nat.reduceEqDiff, Nat.not_lt_zero, Nat.lt_irrefl, decide_true, BEq.rfl, nm1, nm2, nm3, nm4, nm9, ngc, eq_self, List.length_cons, List.length_nil, hc, h1, h2, c_looks hc h h1, foldu, plF, nI_bit, nI_or]
      exact ih (p + 1) _ (by omega)
    · simp (disch := omega) only [W608, s_0, ci_0, r_5, r_2, r_Li, ci_7, r_49, r_4, r_La, h79_607, r_47, ci_1, r_18, r_16, s_8, r_In, r_52, r_90, enR, LG, LSt, LC, nlR, psR, TK, up_s, up_n, up_u, lt_nI, le_nI, eq_nI, true_and, and_true, if_true, if_false, Nat.zero_add, Nat.add_zero, nI_add, ↓reduceIte, Nat.reduceAdd, Nat.reduceMul, Nat.reduceSub, Nat.reduceLT, Nat.reduceLeDiff, Nat.reduceEqDiff, Nat.not_lt_zero, Nat.lt_irrefl, decide_true, BEq.rfl, nm1, nm2, nm3, nm4, nm9, ngc, eq_self, List.length_cons, List.length_nil, hc, h1, h2, c_looks hc h h1, foldu, plF, nI_bit, nI_or]
      exact ih (p + 1) _ (by omega)
theorem c_placesL {x : Nat} (hc : c < 2) (h : SL (sl c) L) (hx : x < 65536) : Cw (d + 3) 608 [.ref (so c), .int (nI x)] z (Hp X (s, v, g, w, q, ct, cn, cc, di, dr, df, li, la, sf, sl) M) Q ↔ Q (some (.int (nI (foldu (plF L x) 0 7 0)))) z (Hp X (s, v, g, w, q, ct, cn, cc, di, dr, df, li, la, sf, sl) M) := by
  rw [cw_wp]
  simp (disch := omega) only [W608, s_0, ci_0, r_5, r_2, r_Li, ci_7, r_49, r_4, r_La, h79_607, r_47, ci_1, r_18, r_16, s_8, r_In, r_52, r_90, enR, LG, LSt, LC, nlR, psR, TK, up_s, up_n, up_u, lt_nI, le_nI, eq_nI, true_and, and_true, if_true, if_false, Nat.zero_add, Nat.add_zero, nI_add, ↓reduceIte, Nat.reduceAdd, Nat.reduceMul, Nat.reduceSub, Nat.reduceLT, Nat.reduceLeDiff, Nat.reduceEqDiff, Nat.not_lt_zero, Nat.lt_irrefl, decide_true, BEq.rfl, nm1, nm2, nm3, nm4, nm9, ngc, eq_self, List.length_cons, List.length_nil]
  exact lp_placesL hc h hx 7 0 0 (by omega)
theorem lp_roadBits {y N : Nat} {F : Nat → Nat} (hc : c < 2) (hN : N ≤ 10) (hy : y < 65536) (h : ∀ i, i < N → sf c i = nI (F i) ∧ F i < 10) : ∀ (j i a : Nat), i + j = N → (Wp d 609 5 [some (.ref (so c)), some (.int (nI y)), some (.int (nI N)), some (.int (nI a)), some (.int (nI i))] [] z (Hp X (s, v, g, w, q, ct, cn, cc, di, dr, df, li, la, sf, sl) M) Q ↔ Q (some (.int (nI (foldu (rbF F y) i j a)))) z (Hp X (s, v, g, w, q, ct, cn, cc, di, dr, df, li, la, sf, sl) M)) := by
  intro j
  induction j with
  | zero =>
    intro i a hi
    have hi : i = N := by omega
    subst hi
    rw [W609_5]
    simp (disch := omega) only [W609, s_0, ci_0, r_5, r_2, r_Li, r_49, ci_10, r_4, r_La, h60_6_0, r_47, ci_1, r_18, r_16, s_8, r_In, r_52, r_90, h64_sf, enR, LG, LSt, LC, nlR, psR, TK, up_s, up_n, up_u, lt_nI, le_nI, eq_nI, true_and, and_true, if_true, if_false, Nat.zero_add, Nat.add_zero, nI_add, ↓reduceIte, Nat.reduceAdd, Nat.reduceMul, Nat.reduceSub, Nat.reduceLT, Nat.reduceLeDiff, Nat.reduceEqDiff, Nat.not_lt_zero, Nat.lt_irrefl, decide_true, BEq.rfl, nm1, nm2, nm3, nm4, nm9, ngc, eq_self, List.length_cons, List.length_nil, foldu]
  | succ j ih =>
    intro i a hi
    have h1 : i < N := by omega
    have h10 : i < 10 := by omega
    obtain ⟨e1, e2⟩ := h i h1
    rw [W609_5]
    by_cases h2 : F i = y
    · simp (disch := omega) only [W609, s_0, ci_0, r_5, r_2, r_Li, r_49, ci_10, r_4, r_La, h60_6_0, r_47, ci_1, r_18, r_16, s_8, r_In, r_52, r_90, h64_sf, enR, LG, LSt, LC, nlR, psR, TK, up_s, up_n, up_u, lt_nI, le_nI, eq_nI, true_and, and_true, if_true, if_false, Nat.zero_add, Nat.add_zero, nI_add, ↓reduceIte, Nat.reduceAdd, Nat.reduceMul, Nat.reduceSub, Nat.reduceLT, Nat.reduceLeDiff, Nat.reduceEqDiff, Nat.not_lt_zero, Nat.lt_irrefl, decide_true, BEq.rfl, nm1, nm2, nm3, nm4, nm9, ngc, eq_self, List.length_cons, List.length_nil, hc, h1, h10, e1, h2, foldu, rbF, nI_bit, nI_or]
      exact ih (i + 1) _ (by omega)
    · simp (disch := omega) only [W609, s_0, ci_0, r_5, r_2, r_Li, r_49, ci_10, r_4, r_La, h60_6_0, r_47, ci_1, r_18, r_16, s_8, r_In, r_52, r_90, h64_sf, enR, LG, LSt, LC, nlR, psR, TK, up_s, up_n, up_u, lt_nI, le_nI, eq_nI, true_and, and_true, if_true, if_false, Nat.zero_add, Nat.add_zero, nI_add, ↓reduceIte, Nat.reduceAdd, Nat.reduceMul, Nat.reduceSub, Nat.reduceLT, Nat.reduceLeDiff, Nat.reduceEqDiff, Nat.not_lt_zero, Nat.lt_irrefl, decide_true, BEq.rfl, nm1, nm2, nm3, nm4, nm9, ngc, eq_self, List.length_cons, List.length_nil, hc, h1, h10, e1, h2, foldu, rbF, nI_bit, nI_or]
      exact ih (i + 1) _ (by omega)
theorem c_roadBits {y N : Nat} {F : Nat → Nat} (hc : c < 2) (hN : N ≤ 10) (hy : y < 65536) (h : ∀ i, i < N → sf c i = nI (F i) ∧ F i < 10) : Cw (d + 1) 609 [.ref (so c), .int (nI y), .int (nI N)] z (Hp X (s, v, g, w, q, ct, cn, cc, di, dr, df, li, la, sf, sl) M) Q ↔ Q (some (.int (nI (foldu (rbF F y) 0 N 0)))) z (Hp X (s, v, g, w, q, ct, cn, cc, di, dr, df, li, la, sf, sl) M) := by
  rw [cw_wp]
  simp (disch := omega) only [W609, s_0, ci_0, r_5, r_2, r_Li, r_49, ci_10, r_4, r_La, h60_6_0, r_47, ci_1, r_18, r_16, s_8, r_In, r_52, r_90, h64_sf, enR, LG, LSt, LC, nlR, psR, TK, up_s, up_n, up_u, lt_nI, le_nI, eq_nI, true_and, and_true, if_true, if_false, Nat.zero_add, Nat.add_zero, nI_add, ↓reduceIte, Nat.reduceAdd, Nat.reduceMul, Nat.reduceSub, Nat.reduceLT, Nat.reduceLeDiff, Nat.reduceEqDiff, Nat.not_lt_zero, Nat.lt_irrefl, decide_true, BEq.rfl, nm1, nm2, nm3, nm4, nm9, ngc, eq_self, List.length_cons, List.length_nil]
  exact lp_roadBits hc hN hy h N 0 0 (by omega)
theorem rb_lt {F : Nat → Nat} {y N : Nat} (hN : N ≤ 10) : foldu (rbF F y) 0 N 0 < 1024 :=
  foldu_inv (F := rbF F y) (fun _ s => s < 2 ^ 10) N 0 0 (by decide) (fun j x h1 h2 h3 => by
    show rbF F y j x < 2 ^ 10
    unfold rbF
    split
    · exact or_lt h3 (by omega)
    · exact h3)
theorem c_roadsF {y N : Nat} {F : Nat → Nat} (hc : c < 2) (hN : N ≤ 10) (hy : y < 65536) (h : ∀ i, i < N → sf c i = nI (F i) ∧ F i < 10) : Cw (d + 2) 610 [.ref (so c), .int (nI y), .int (nI N)] z (Hp X (s, v, g, w, q, ct, cn, cc, di, dr, df, li, la, sf, sl) M) Q ↔ Q (some (.int (nI (foldu (pcF (foldu (rbF F y) 0 N 0)) 0 10 0)))) z (Hp X (s, v, g, w, q, ct, cn, cc, di, dr, df, li, la, sf, sl) M) := by
  rw [cw_wp]
  simp (disch := omega) only [W610, r_4, r_La, r_2, r_Li, h79_609, h80_1200, r_90, enR, LG, LSt, LC, nlR, psR, TK, up_s, up_n, up_u, lt_nI, le_nI, eq_nI, true_and, and_true, if_true, if_false, Nat.zero_add, Nat.add_zero, nI_add, ↓reduceIte, Nat.reduceAdd, Nat.reduceMul, Nat.reduceSub, Nat.reduceLT, Nat.reduceLeDiff, Nat.reduceEqDiff, Nat.not_lt_zero, Nat.lt_irrefl, decide_true, BEq.rfl, nm1, nm2, nm3, nm4, nm9, ngc, eq_self, List.length_cons, List.length_nil, hc, c_roadBits hc hN hy h, c_bitCount (rb_lt hN)]
end

/-! first -/
theorem run_mem (L : Nat → Nat → Nat) (R : Nat → Nat) (k i : Nat) : ∀ (j S : Nat), (run L R k j S).testBit i = true → ∃ q, S.testBit q = true ∧ (run L R k j (2 ^ q)).testBit i = true := by
  intro j
  induction j generalizing i with
  | zero => intro S h; exact ⟨i, h, Nat.testBit_two_pow_self⟩
  | succ j ih =>
    intro S h
    rw [run_last] at h
    obtain ⟨p, h1, h2, h3⟩ := (stp_bit _ _ _ _).mp h
    obtain ⟨q, h4, h5⟩ := ih p S h2
    exact ⟨q, h4, by rw [run_last]; exact (stp_bit _ _ _ _).mpr ⟨p, h1, h5, h3⟩⟩
def fi (c : Nat → Bool) : Nat → Nat → Nat
  | k, 0 => k
  | k, j + 1 => if c k = true then k else fi c (k + 1) j
theorem fi_ok (c : Nat → Bool) : ∀ (j k : Nat), (∃ i, k ≤ i ∧ i < k + j ∧ c i = true) → fi c k j < k + j ∧ c (fi c k j) = true := by
  intro j
  induction j with
  | zero => rintro k ⟨i, h1, h2, -⟩; omega
  | succ j ih =>
    rintro k ⟨i, h1, h2, h3⟩
    unfold fi
    by_cases h : c k = true
    · rw [if_pos h]; exact ⟨by omega, h⟩
    · rw [if_neg h]
      have := ih (k + 1) ⟨i, by
        have : i ≠ k := fun e => h (e ▸ h3)
        omega, by omega, h3⟩
      exact ⟨by omega, this.2⟩
/-- road i serves at number k from place pl -/
def fcn (N : Nat) (F K O T R : Nat → Nat) (n k pl i : Nat) : Bool := decide (F i = R k) && match ldm K O T i pl with
  | none => false
  | some q => decide (run (lds N F K O T) R (k + 1) (n - (k + 1)) (2 ^ q) ≠ 0)
def fpl (N : Nat) (F K O T R : Nat → Nat) (n p : Nat) : Nat → Nat
  | 0 => p
  | k + 1 => (ldm K O T (fi (fcn N F K O T R n k (fpl N F K O T R n p k)) 0 N) (fpl N F K O T R n p k)).getD 0
def fro (N : Nat) (F K O T R : Nat → Nat) (n p k : Nat) : Nat := fi (fcn N F K O T R n k (fpl N F K O T R n p k)) 0 N
theorem fcn_ex {N : Nat} {F K O T R : Nat → Nat} {n k pl : Nat} (hk : k < n) (hp : pl < 7) (h : run (lds N F K O T) R k (n - k) (2 ^ pl) ≠ 0) : ∃ i, 0 ≤ i ∧ i < 0 + N ∧ fcn N F K O T R n k pl i = true := by
  rw [show n - k = (n - (k + 1)) + 1 by omega] at h
  have h1 : run (lds N F K O T) R (k + 1) (n - (k + 1)) (stp (lds N F K O T) (2 ^ pl) (R k)) ≠ 0 := h
  rw [stp_one _ hp] at h1
  obtain ⟨x, hx⟩ := nz_bit.mp h1
  obtain ⟨q, h2, h3⟩ := run_mem _ _ _ _ _ _ hx
  obtain ⟨i, h4, h5, h6⟩ := (lds_bit _ _ _ _ _ _ _ _).mp h2
  refine ⟨i, Nat.zero_le _, by omega, ?_⟩
  unfold fcn
  rw [h6]
  simp only [h5, decide_true, Bool.true_and]
  exact decide_eq_true (nz_bit.mpr ⟨x, h3⟩)
theorem fcn_step {P N W : Nat} {F K O T J R : Nat → Nat} {n k pl i : Nat} (hb : LB P N W K O T J) (hi : i < N) (h : fcn N F K O T R n k pl i = true) : F i = R k ∧ ∃ q, ldm K O T i pl = some q ∧ q < P ∧ run (lds N F K O T) R (k + 1) (n - (k + 1)) (2 ^ q) ≠ 0 := by
  unfold fcn at h
  rw [Bool.and_eq_true, decide_eq_true_eq] at h
  refine ⟨h.1, ?_⟩
  cases hd : ldm K O T i pl with
  | none => rw [hd] at h; exact absurd h.2 (by simp)
  | some q =>
    rw [hd] at h
    exact ⟨q, rfl, ldm_lt hb hi hd, of_decide_eq_true h.2⟩
/-- what holds along the way -/
theorem fst_inv {P N W : Nat} {F K O T J R : Nat → Nat} {n p k : Nat} (hb : LB P N W K O T J) (hk : k < n) (hp : fpl N F K O T R n p k < P) (h : run (lds N F K O T) R k (n - k) (2 ^ fpl N F K O T R n p k) ≠ 0) :
    fro N F K O T R n p k < N ∧ F (fro N F K O T R n p k) = R k ∧ fcn N F K O T R n k (fpl N F K O T R n p k) (fro N F K O T R n p k) = true ∧ ldm K O T (fro N F K O T R n p k) (fpl N F K O T R n p k) = some (fpl N F K O T R n p (k + 1)) ∧ fpl N F K O T R n p (k + 1) < P ∧ run (lds N F K O T) R (k + 1) (n - (k + 1)) (2 ^ fpl N F K O T R n p (k + 1)) ≠ 0 := by
  have hP := hb.1
  obtain ⟨h1, h2⟩ := fi_ok _ N 0 (fcn_ex hk (by omega) h)
  rw [Nat.zero_add] at h1
  obtain ⟨h3, q, h4, h5, h6⟩ := fcn_step hb h1 h2
  have e1 : fpl N F K O T R n p (k + 1) = q := by
    show (ldm K O T (fi (fcn N F K O T R n k (fpl N F K O T R n p k)) 0 N) (fpl N F K O T R n p k)).getD 0 = q
    rw [h4]; rfl
  exact ⟨h1, h3, h2, by rw [e1]; exact h4, by rw [e1]; exact h5, by rw [e1]; exact h6⟩
section
variable {t d : Nat} {z : AZ} {X : Nat × (Nat → Int32)} {C : CT} {M : MT} {s : Nat → Int32} {v : Nat → Int64} {g : Nat → Nat → Int32} {w : Nat → Nat → Int64} {q : Nat → Nat} {ct : Nat → Int32} {cn : Nat → Int32} {cc : Nat → Nat → Int32} {di : Nat → Nat → Int32} {dr : Nat → Nat → Int32} {df : Nat → Nat → Int32} {li : Nat → Nat → Int32} {la : Nat → Nat → Nat → Int32} {sf : Nat → Nat → Int32} {sl : Nat → Nat → Int32} {a : Nat → Int32} {b : Nat → Int64} {e : Nat → Nat → Int32} {o : Nat → Nat → Int64} {B : Nat → Bool} {n : Nat → Nat} {P N W : Nat} {K O T J : Nat → Nat} {l : Nat} {Ds : Nat → Nat} {Dr Df Dp : Nat → Nat → Nat} {KB : Nat → Bool}
variable {Q : Option Value → AZ → AH → Prop}
theorem lp_fro {r m k pl : Nat} {R : Nat → Nat} (hl : l < 2) (hq : q 0 = l) (hC : CLn (li l) (la l) P N K O T J) (hb : LB P N W K O T J) (hS : SEn (sf 0) (sl 0) N (fe W K J) K O T) (hr : r < 10) (hn : cn r = nI m) (hm : m ≤ cap r) (hk : k < m) (hp : pl < P) (hR : ∀ k, k < m → cc r k = nI (R k) ∧ R k < 10) : ∀ (j i : Nat), i + j = N → (∃ i0, i ≤ i0 ∧ i0 < i + j ∧ fcn N (fe W K J) K O T R m k pl i0 = true) → (Wp (d + 3) 958 23 [some (.ref 0), some (.ref (co r)), some (.int (nI k)), some (.int (nI pl)), some (.int (nI (bgn (lds N (fe W K J) K O T) R (k + 1) (m - (k + 1)) (2 ^ P - 1)))), some (.int (nI i))] [] z (Hp X (s, v, g, w, q, ct, cn, cc, di, dr, df, li, la, sf, sl) M) Q ↔ Q (some (.int (nI (fi (fcn N (fe W K J) K O T R m k pl) i j)))) z (Hp X (s, v, g, w, q, ct, cn, cc, di, dr, df, li, la, sf, sl) M)) := by
  have hP := hb.1
  have hN := hb.2.1
  have h9 := hC.2.1
  obtain ⟨r1, r2⟩ := hR k hk
  have h8 : cap r ≤ 80 := by unfold cap; split <;> omega
  intro j
  induction j with
  | zero => rintro i hi ⟨i0, h1, h2, -⟩; omega
  | succ j ih =>
    rintro i hi ⟨i0, h1, h2, h3⟩
    have hiN : i < N := by omega
    have hi10 : i < 10 := by omega
    have e5 : sf 0 i = nI (fe W K J i) := by rw [hS.1 i hi10, if_pos hiN]
    have hf := fe_lt hb hiN
    have hnext : fcn N (fe W K J) K O T R m k pl i = false → ∃ i0, i + 1 ≤ i0 ∧ i0 < i + 1 + j ∧ fcn N (fe W K J) K O T R m k pl i0 = true := fun hx => ⟨i0, by
      have : i0 ≠ i := fun e => by rw [e, hx] at h3; cases h3
      omega, by omega, h3⟩
    have hfi : fi (fcn N (fe W K J) K O T R m k pl) i (j + 1) = if fcn N (fe W K J) K O T R m k pl i = true then i else fi (fcn N (fe W K J) K O T R m k pl) (i + 1) j := rfl
    have hc : ∀ t0, ldm K O T i pl = t0 → fcn N (fe W K J) K O T R m k pl i = (decide (fe W K J i = R k) && match t0 with | none => false | some q => decide (run (lds N (fe W K J) K O T) R (k + 1) (m - (k + 1)) (2 ^ q) ≠ 0)) := fun t0 ht => by unfold fcn; rw [ht]
    rw [W958_23]
    cases hd : ldm K O T i pl with
    | none =>
      have hx : fcn N (fe W K J) K O T R m k pl i = false := by rw [hc _ hd]; simp
      simp (disch := omega) only [W958, r_4, r_La, h60_9_5, r_2, r_Li, s_0, ci_1, r_10, h60_9_12, h79_305, h79_606, r_5, ci_0, h60_3_5, r_49, h79_306, ci_m1, r_46, h60_6_0, h79_5, r_47, r_18, r_15, s_40, r_90, s_8, r_In, r_52, h64_sf, enR, LG, LSt, LC, nlR, psR, TK, up_s, up_n, up_u, lt_nI, le_nI, eq_nI, true_and, and_true, if_true, if_false, Nat.zero_add, Nat.add_zero, nI_add, ↓reduceIte, Nat.reduceAdd, Nat.reduceMul, Nat.reduceSub, Nat.reduceLT, Nat.reduceLeDiff, Nat.reduceEqDiff, Nat.not_lt_zero, Nat.lt_irrefl, decide_true, BEq.rfl, nm1, nm2, nm3, nm4, nm9, ngc, eq_self, List.length_cons, List.length_nil, hq, hl, h9, hiN, c_lead hl hC hb hiN (show pl < 65536 by omega), hd, o2i]
      rw [ih (i + 1) (by omega) (hnext hx), hfi, hx]
      simp only [Bool.false_eq_true, if_false]
    | some t0 =>
      have ht := ldm_lt hb hiN hd
      by_cases h4 : fe W K J i = R k
      · cases hg : (bgn (lds N (fe W K J) K O T) R (k + 1) (m - (k + 1)) (2 ^ P - 1)).testBit t0 with
        | true =>
          have hx : fcn N (fe W K J) K O T R m k pl i = true := by
            rw [hc _ hd, h4]
            simp only [decide_true, Bool.true_and]
            exact decide_eq_true ((bgn_all hb ht).mp hg)
          simp (disch := omega) only [W958, r_4, r_La, h60_9_5, r_2, r_Li, s_0, ci_1, r_10, h60_9_12, h79_305, h79_606, r_5, ci_0, h60_3_5, r_49, h79_306, ci_m1, r_46, h60_6_0, h79_5, r_47, r_18, r_15, s_40, r_90, s_8, r_In, r_52, h64_sf, enR, LG, LSt, LC, nlR, psR, TK, up_s, up_n, up_u, lt_nI, le_nI, eq_nI, true_and, and_true, if_true, if_false, Nat.zero_add, Nat.add_zero, nI_add, ↓reduceIte, Nat.reduceAdd, Nat.reduceMul, Nat.reduceSub, Nat.reduceLT, Nat.reduceLeDiff, Nat.reduceEqDiff, Nat.not_lt_zero, Nat.lt_irrefl, decide_true, BEq.rfl, nm1, nm2, nm3, nm4, nm9, ngc, eq_self, List.length_cons, List.length_nil, hq, hl, h9, hiN, hi10, c_lead hl hC hb hiN (show pl < 65536 by omega), hd, o2i, e5, h4, c_valueAt hr hn hk hm, r1, nI_bit, nI_and, bitz, hg, Bool.true_eq_false]
          rw [hfi, hx, if_pos rfl]
        | false =>
          have hx : fcn N (fe W K J) K O T R m k pl i = false := by
            rw [hc _ hd, h4]
            simp only [decide_true, Bool.true_and]
            refine decide_eq_false (fun h => ?_)
            rw [(bgn_all hb ht).mpr h] at hg
            cases hg
          simp (disch := omega) only [W958, r_4, r_La, h60_9_5, r_2, r_Li, s_0, ci_1, r_10, h60_9_12, h79_305, h79_606, r_5, ci_0, h60_3_5, r_49, h79_306, ci_m1, r_46, h60_6_0, h79_5, r_47, r_18, r_15, s_40, r_90, s_8, r_In, r_52, h64_sf, enR, LG, LSt, LC, nlR, psR, TK, up_s, up_n, up_u, lt_nI, le_nI, eq_nI, true_and, and_true, if_true, if_false, Nat.zero_add, Nat.add_zero, nI_add, ↓reduceIte, Nat.reduceAdd, Nat.reduceMul, Nat.reduceSub, Nat.reduceLT, Nat.reduceLeDiff, Nat.reduceEqDiff, Nat.not_lt_zero, Nat.lt_irrefl, decide_true, BEq.rfl, nm1, nm2, nm3, nm4, nm9, ngc, eq_self, List.length_cons, List.length_nil, hq, hl, h9, hiN, hi10, c_lead hl hC hb hiN (show pl < 65536 by omega), hd, o2i, e5, h4, c_valueAt hr hn hk hm, r1, nI_bit, nI_and, bitz, hg, Bool.true_eq_false]
          rw [ih (i + 1) (by omega) (hnext hx), hfi, hx]
          simp only [Bool.false_eq_true, if_false]
      · have hx : fcn N (fe W K J) K O T R m k pl i = false := by rw [hc _ hd, decide_eq_false h4]; rfl
        simp (disch := omega) only [W958, r_4, r_La, h60_9_5, r_2, r_Li, s_0, ci_1, r_10, h60_9_12, h79_305, h79_606, r_5, ci_0, h60_3_5, r_49, h79_306, ci_m1, r_46, h60_6_0, h79_5, r_47, r_18, r_15, s_40, r_90, s_8, r_In, r_52, h64_sf, enR, LG, LSt, LC, nlR, psR, TK, up_s, up_n, up_u, lt_nI, le_nI, eq_nI, true_and, and_true, if_true, if_false, Nat.zero_add, Nat.add_zero, nI_add, ↓reduceIte, Nat.reduceAdd, Nat.reduceMul, Nat.reduceSub, Nat.reduceLT, Nat.reduceLeDiff, Nat.reduceEqDiff, Nat.not_lt_zero, Nat.lt_irrefl, decide_true, BEq.rfl, nm1, nm2, nm3, nm4, nm9, ngc, eq_self, List.length_cons, List.length_nil, hq, hl, h9, hiN, hi10, c_lead hl hC hb hiN (show pl < 65536 by omega), hd, o2i, e5, h4, c_valueAt hr hn hk hm, r1]
        rw [ih (i + 1) (by omega) (hnext hx), hfi, hx]
        simp only [Bool.false_eq_true, if_false]
theorem c_fro {r m k pl : Nat} {R : Nat → Nat} (hl : l < 2) (hq : q 0 = l) (hC : CLn (li l) (la l) P N K O T J) (hb : LB P N W K O T J) (hS : SEn (sf 0) (sl 0) N (fe W K J) K O T) (hr : r < 10) (hn : cn r = nI m) (hm : m ≤ cap r) (hk : k < m) (hp : pl < P) (hR : ∀ k, k < m → cc r k = nI (R k) ∧ R k < 10) (hx : run (lds N (fe W K J) K O T) R k (m - k) (2 ^ pl) ≠ 0) : Cw (d + 4) 958 [.ref 0, .ref (co r), .int (nI k), .int (nI pl)] z (Hp X (s, v, g, w, q, ct, cn, cc, di, dr, df, li, la, sf, sl) M) Q ↔ Q (some (.int (nI (fi (fcn N (fe W K J) K O T R m k pl) 0 N)))) z (Hp X (s, v, g, w, q, ct, cn, cc, di, dr, df, li, la, sf, sl) M) := by
  have hP := hb.1
  rw [cw_wp]
  simp (disch := omega) only [W958, r_4, r_La, h60_9_5, r_2, r_Li, s_0, ci_1, r_10, h60_9_12, h79_305, h79_606, r_5, ci_0, h60_3_5, r_49, h79_306, ci_m1, r_46, h60_6_0, h79_5, r_47, r_18, r_15, s_40, r_90, s_8, r_In, r_52, h64_sf, enR, LG, LSt, LC, nlR, psR, TK, up_s, up_n, up_u, lt_nI, le_nI, eq_nI, true_and, and_true, if_true, if_false, Nat.zero_add, Nat.add_zero, nI_add, ↓reduceIte, Nat.reduceAdd, Nat.reduceMul, Nat.reduceSub, Nat.reduceLT, Nat.reduceLeDiff, Nat.reduceEqDiff, Nat.not_lt_zero, Nat.lt_irrefl, decide_true, BEq.rfl, nm1, nm2, nm3, nm4, nm9, ngc, eq_self, List.length_cons, List.length_nil, hq, c_allPlaces hl hC hP, c_begun (show 0 < 2 by omega) (sen_SL hb hS) hr hn hm (show k + 1 ≤ m by omega) hR]
  exact lp_fro hl hq hC hb hS hr hn hm hk hp hR N 0 (by omega) (fcn_ex hk (by omega) hx)
theorem lp_cfirst {r u m p : Nat} {R : Nat → Nat} {x4 : Int32} (hl : l < 2) (hq : q 0 = l) (hC : CLn (li l) (la l) P N K O T J) (hb : LB P N W K O T J) (hS : SEn (sf 0) (sl 0) N (fe W K J) K O T) (hr : r < 6) (hu : u < 6) (hn : cn r = nI m) (hm : m ≤ 16) (hR : ∀ k, k < m → cc r k = nI (R k) ∧ R k < 10)
    (hQ : ∀ τ : Nat → Int32, (∀ j, j < m → τ j = nI (fro N (fe W K J) K O T R m p j)) → Q (some (.int (nI (fpl N (fe W K J) K O T R m p m)))) z (Hp X (s, v, va_up g 31 τ, w, q, va_up ct u (nI 1), va_up cn u (nI m), va_up cc u (va_cpy τ (fil (cc u) 0 40 (nI 0)) 0 0 m), di, dr, df, li, la, sf, sl) M)) :
    ∀ (j k : Nat) (τ : Nat → Int32), k + j = m → (∀ i, i < k → τ i = nI (fro N (fe W K J) K O T R m p i)) → fpl N (fe W K J) K O T R m p k < P → run (lds N (fe W K J) K O T) R k (m - k) (2 ^ fpl N (fe W K J) K O T R m p k) ≠ 0 → Wp (d + 4) 926 88 [some (.ref 0), some (.int (nI r)), some (.int (nI p)), some (.int (nI u)), some (.int x4), some (.int (nI (fpl N (fe W K J) K O T R m p k))), some (.int (nI m)), some (.int (nI k))] [] z (Hp X (s, v, va_up g 31 τ, w, q, ct, cn, cc, di, dr, df, li, la, sf, sl) M) Q := by
  have hP := hb.1
  have hN := hb.2.1
  have hcap : cap r = 40 := if_pos hr
  intro j
  induction j with
  | zero =>
    intro k τ hk hτ hp hrun
    have hk : k = m := by omega
    subst hk
    rw [W926_88]
    simp (disch := omega) only [W926, r_2, r_Li, h80_948, s_40, r_4, r_La, h60_9_12, h79_303, s_41, s_0, ci_m1, r_90, h60_9_0, ci_16, h79_955, r_5, h60_9_5, ci_1, r_18, h79_605, ci_m9, h60_0_2, ci_0, r_49, h79_958, r_47, h60_9_10, h79_306, s_8, r_In, r_52, h79_2, h68_1, h65_31, enR, LG, LSt, LC, nlR, psR, TK, up_s, up_n, up_u, lt_nI, le_nI, eq_nI, true_and, and_true, if_true, if_false, Nat.zero_add, Nat.add_zero, nI_add, ↓reduceIte, Nat.reduceAdd, Nat.reduceMul, Nat.reduceSub, Nat.reduceLT, Nat.reduceLeDiff, Nat.reduceEqDiff, Nat.not_lt_zero, Nat.lt_irrefl, decide_true, BEq.rfl, nm1, nm2, nm3, nm4, nm9, ngc, eq_self, List.length_cons, List.length_nil, hu, c_takeT hu (show k ≤ 40 by omega)]
    exact hQ τ hτ
  | succ j ih =>
    intro k τ hk hτ hp hrun
    have h1 : k < m := by omega
    have h40 : k < 40 := by omega
    obtain ⟨v1, v2, v3, v4, v5, v6⟩ := fst_inv (p := p) hb h1 hp hrun
    have e1 : fi (fcn N (fe W K J) K O T R m k (fpl N (fe W K J) K O T R m p k)) 0 N = fro N (fe W K J) K O T R m p k := rfl
    rw [W926_88]
    simp (disch := omega) only [W926, r_2, r_Li, h80_948, s_40, r_4, r_La, h60_9_12, h79_303, s_41, s_0, ci_m1, r_90, h60_9_0, ci_16, h79_955, r_5, h60_9_5, ci_1, r_18, h79_605, ci_m9, h60_0_2, ci_0, r_49, h79_958, r_47, h60_9_10, h79_306, s_8, r_In, r_52, h79_2, h68_1, h65_31, enR, LG, LSt, LC, nlR, psR, TK, up_s, up_n, up_u, lt_nI, le_nI, eq_nI, true_and, and_true, if_true, if_false, Nat.zero_add, Nat.add_zero, nI_add, ↓reduceIte, Nat.reduceAdd, Nat.reduceMul, Nat.reduceSub, Nat.reduceLT, Nat.reduceLeDiff, Nat.reduceEqDiff, Nat.not_lt_zero, Nat.lt_irrefl, decide_true, BEq.rfl, nm1, nm2, nm3, nm4, nm9, ngc, eq_self, List.length_cons, List.length_nil, h1, h40, hr, c_fro (g := va_up g 31 τ) hl hq hC hb hS (show r < 10 by omega) hn (by omega) h1 hp hR hrun, e1, hq, c_lead (g := va_up g 31 (upd τ k (nI (fro N (fe W K J) K O T R m p k)))) hl hC hb v1 (show fpl N (fe W K J) K O T R m p k < 65536 by omega), v4, o2i]
    refine ih (k + 1) _ (by omega) (fun i hi => ?_) v5 v6
    by_cases h2 : i = k
    · subst h2; rw [ud_s]
    · rw [ud_n _ _ h2]; exact hτ i (by omega)
end
section
variable {d : Nat} {z : AZ} {f : AH} {Q : Option Value → AZ → AH → Prop} {X : Nat × (Nat → Int32)} {C : CT} {a : Nat → Int32} {b : Nat → Int64} {e : Nat → Nat → Int32} {o : Nat → Nat → Int64} {P N W : Nat} {K O T J : Nat → Nat}
theorem lp_mfirst3 {r u m p : Nat} {x4 x6 : Int32} (hu : u < 6) (hm : m ≤ 40) : ∀ (j k : Nat) (e : Nat → Nat → Int32) (y : Nat → Int32), k + j = m → (∀ q, y q = if 40 * u + k ≤ q ∧ q < 40 * u + m then e 71 (q - 40 * u) else e 70 q) → (Wp (d + 5) 1059 157 [some (.ref 67), some (.int (nI r)), some (.int (nI p)), some (.int (nI u)), some (.int x4), some (.int (nI m)), some (.int x6), some (.int (nI k))] [] z (Hp X C (a, b, e, o)) Q ↔ Q (some (.int x6)) z (Hp X C (a, b, va_up e 70 y, o))) := by
  intro j
  induction j with
  | zero =>
    intro k e y hk hy
    have hk : k = m := by omega
    subst hk
    have e1 : e 70 = y := by
      funext q
      rw [hy q, if_neg (by omega)]
    rw [W1059_157, up_id e1]
    simp (disch := omega) only [W1059, r_2, r_Li, h80_1007, s_41, s_0, ci_m1, r_90, r_4, r_La, h79_1053, r_5, s_43, ci_1, r_18, ci_0, h79_1057, ci_m9, h60_10_5, r_49, h79_1032, h79_1011, r_47, h79_1038, r_46, r_10, s_8, r_In, r_52, h60_10_7, h79_1013, r_32, h79_1012, h64_69, h65_69, h64_71, h65_71, enR, LG, LSt, LC, nlR, psR, TK, up_s, up_n, up_u, lt_nI, le_nI, eq_nI, true_and, and_true, if_true, if_false, Nat.zero_add, Nat.add_zero, nI_add, ↓reduceIte, Nat.reduceAdd, Nat.reduceMul, Nat.reduceSub, Nat.reduceLT, Nat.reduceLeDiff, Nat.reduceEqDiff, Nat.not_lt_zero, Nat.lt_irrefl, decide_true, BEq.rfl, nm1, nm2, nm3, nm4, nm9, ngc, eq_self, List.length_cons, List.length_nil]
  | succ j ih =>
    intro k e y hk hy
    have h1 : k < m := by omega
    have h40 : k < 40 := by omega
    rw [W1059_157]
    simp (disch := omega) only [W1059, r_2, r_Li, h80_1007, s_41, s_0, ci_m1, r_90, r_4, r_La, h79_1053, r_5, s_43, ci_1, r_18, ci_0, h79_1057, ci_m9, h60_10_5, r_49, h79_1032, h79_1011, r_47, h79_1038, r_46, r_10, s_8, r_In, r_52, h60_10_7, h79_1013, r_32, h79_1012, h64_69, h65_69, h64_71, h65_71, enR, LG, LSt, LC, nlR, psR, TK, up_s, up_n, up_u, lt_nI, le_nI, eq_nI, true_and, and_true, if_true, if_false, Nat.zero_add, Nat.add_zero, nI_add, ↓reduceIte, Nat.reduceAdd, Nat.reduceMul, Nat.reduceSub, Nat.reduceLT, Nat.reduceLeDiff, Nat.reduceEqDiff, Nat.not_lt_zero, Nat.lt_irrefl, decide_true, BEq.rfl, nm1, nm2, nm3, nm4, nm9, ngc, eq_self, List.length_cons, List.length_nil, h1, h40, m_setRow]
    rw [ih (k + 1) _ y (by omega) (fun q => ?_), up_u]
    rw [hy q, up_s, up_n e _ (show 71 ≠ 70 by decide)]
    by_cases h2 : q = 40 * u + k
    · subst h2
      rw [if_pos (by omega), if_neg (by omega), ud_s]
      congr 1
      omega
    · rw [ud_n _ _ h2]
      by_cases h3 : 40 * u + (k + 1) ≤ q ∧ q < 40 * u + m
      · rw [if_pos h3, if_pos (by omega)]
      · rw [if_neg h3, if_neg (by omega)]
theorem lp_mfirst2 {r u m p k pl : Nat} {R : Nat → Nat} {x4 : Int32} (h : MLn a (e 74) P N W K O T J) (hb : LB P N W K O T J) (hr : r < 6) (hm : m ≤ 16) (h69 : e 69 r = nI m) (hR : ∀ k, k < m → e 70 (40 * r + k) = nI (R k) ∧ R k < 10) (hk : k < m) (hp : pl < P) : ∀ (j i : Nat), i + j = N → (∃ i0, i ≤ i0 ∧ i0 < i + j ∧ fcn N (fe W K J) K O T R m k pl i0 = true) → (Wp (d + 5) 1059 64 [some (.ref 67), some (.int (nI r)), some (.int (nI p)), some (.int (nI u)), some (.int x4), some (.int (nI m)), some (.int (nI pl)), some (.int (nI k)), some (.int (nI i))] [] z (Hp X C (a, b, e, o)) Q ↔ Wp (d + 5) 1059 54 [some (.ref 67), some (.int (nI r)), some (.int (nI p)), some (.int (nI u)), some (.int x4), some (.int (nI m)), some (.int (nI ((ldm K O T (fi (fcn N (fe W K J) K O T R m k pl) i j) pl).getD 0))), some (.int (nI (k + 1)))] [] z (Hp X C (a, b, va_up e 71 (upd (e 71) k (nI (fi (fcn N (fe W K J) K O T R m k pl) i j))), o)) Q) := by
  have hP := hb.1
  have hN := hb.2.1
  obtain ⟨r1, r2⟩ := hR k hk
  intro j
  induction j with
  | zero => rintro i hi ⟨i0, h1, h2, -⟩; omega
  | succ j ih =>
    rintro i hi ⟨i0, h1, h2, h3⟩
    have hiN : i < N := by omega
    have hk40 : k < 40 := by omega
    have hf := fe_lt hb hiN
    have hnext : fcn N (fe W K J) K O T R m k pl i = false → ∃ i0, i + 1 ≤ i0 ∧ i0 < i + 1 + j ∧ fcn N (fe W K J) K O T R m k pl i0 = true := fun hx => ⟨i0, by
      have : i0 ≠ i := fun e => by rw [e, hx] at h3; cases h3
      omega, by omega, h3⟩
    have hfi : fi (fcn N (fe W K J) K O T R m k pl) i (j + 1) = if fcn N (fe W K J) K O T R m k pl i = true then i else fi (fcn N (fe W K J) K O T R m k pl) (i + 1) j := rfl
    have hc : ∀ t0, ldm K O T i pl = t0 → fcn N (fe W K J) K O T R m k pl i = (decide (fe W K J i = R k) && match t0 with | none => false | some q => decide (run (lds N (fe W K J) K O T) R (k + 1) (m - (k + 1)) (2 ^ q) ≠ 0)) := fun t0 ht => by unfold fcn; rw [ht]
    rw [W1059_64]
    by_cases h4 : fe W K J i = R k
    · cases hd : ldm K O T i pl with
      | none =>
        have hx : fcn N (fe W K J) K O T R m k pl i = false := by rw [hc _ hd]; simp
        simp (disch := omega) only [W1059, r_2, r_Li, h80_1007, s_41, s_0, ci_m1, r_90, r_4, r_La, h79_1053, r_5, s_43, ci_1, r_18, ci_0, h79_1057, ci_m9, h60_10_5, r_49, h79_1032, h79_1011, r_47, h79_1038, r_46, r_10, s_8, r_In, r_52, h60_10_7, h79_1013, r_32, h79_1012, h64_69, h65_69, h64_71, h65_71, enR, LG, LSt, LC, nlR, psR, TK, up_s, up_n, up_u, lt_nI, le_nI, eq_nI, true_and, and_true, if_true, if_false, Nat.zero_add, Nat.add_zero, nI_add, ↓reduceIte, Nat.reduceAdd, Nat.reduceMul, Nat.reduceSub, Nat.reduceLT, Nat.reduceLeDiff, Nat.reduceEqDiff, Nat.not_lt_zero, Nat.lt_irrefl, decide_true, BEq.rfl, nm1, nm2, nm3, nm4, nm9, ngc, eq_self, List.length_cons, List.length_nil, m_feelOf h hb hiN, m_rowAt, r1, h4, m_leads h hb hiN (show pl < 65536 by omega), hd, o2i]
        rw [ih (i + 1) (by omega) (hnext hx), hfi, hx]
        simp only [Bool.false_eq_true, if_false]
      | some t0 =>
        have ht := ldm_lt hb hiN hd
        have h7 : 2 ^ t0 < 128 := Nat.pow_lt_pow_right (a := 2) (by decide) (show t0 < 7 by omega)
        have hrl := run_lt (F := fe W K J) (R := R) hb (m - (k + 1)) (k + 1) (2 ^ t0) h7
        by_cases hg : run (lds N (fe W K J) K O T) R (k + 1) (m - (k + 1)) (2 ^ t0) = 0
        · have hx : fcn N (fe W K J) K O T R m k pl i = false := by rw [hc _ hd, h4]; simp [hg]
          simp (disch := omega) only [W1059, r_2, r_Li, h80_1007, s_41, s_0, ci_m1, r_90, r_4, r_La, h79_1053, r_5, s_43, ci_1, r_18, ci_0, h79_1057, ci_m9, h60_10_5, r_49, h79_1032, h79_1011, r_47, h79_1038, r_46, r_10, s_8, r_In, r_52, h60_10_7, h79_1013, r_32, h79_1012, h64_69, h65_69, h64_71, h65_71, enR, LG, LSt, LC, nlR, psR, TK, up_s, up_n, up_u, lt_nI, le_nI, eq_nI, true_and, and_true, if_true, if_false, Nat.zero_add, Nat.add_zero, nI_add, ↓reduceIte, Nat.reduceAdd, Nat.reduceMul, Nat.reduceSub, Nat.reduceLT, Nat.reduceLeDiff, Nat.reduceEqDiff, Nat.not_lt_zero, Nat.lt_irrefl, decide_true, BEq.rfl, nm1, nm2, nm3, nm4, nm9, ngc, eq_self, List.length_cons, List.length_nil, m_feelOf h hb hiN, m_rowAt, r1, h4, m_leads h hb hiN (show pl < 65536 by omega), hd, o2i, nI_bit, m_endsOf h hb hr (show m ≤ 40 by omega) h69 hR (show k + 1 ≤ m by omega) h7, hg]
          rw [ih (i + 1) (by omega) (hnext hx), hfi, hx]
          simp only [Bool.false_eq_true, if_false]
        · have hx : fcn N (fe W K J) K O T R m k pl i = true := by rw [hc _ hd, h4]; simp [hg]
          simp (disch := omega) only [W1059, r_2, r_Li, h80_1007, s_41, s_0, ci_m1, r_90, r_4, r_La, h79_1053, r_5, s_43, ci_1, r_18, ci_0, h79_1057, ci_m9, h60_10_5, r_49, h79_1032, h79_1011, r_47, h79_1038, r_46, r_10, s_8, r_In, r_52, h60_10_7, h79_1013, r_32, h79_1012, h64_69, h65_69, h64_71, h65_71, enR, LG, LSt, LC, nlR, psR, TK, up_s, up_n, up_u, lt_nI, le_nI, eq_nI, true_and, and_true, if_true, if_false, Nat.zero_add, Nat.add_zero, nI_add, ↓reduceIte, Nat.reduceAdd, Nat.reduceMul, Nat.reduceSub, Nat.reduceLT, Nat.reduceLeDiff, Nat.reduceEqDiff, Nat.not_lt_zero, Nat.lt_irrefl, decide_true, BEq.rfl, nm1, nm2, nm3, nm4, nm9, ngc, eq_self, List.length_cons, List.length_nil, m_feelOf h hb hiN, m_rowAt, r1, h4, m_leads h hb hiN (show pl < 65536 by omega), hd, o2i, nI_bit, m_endsOf h hb hr (show m ≤ 40 by omega) h69 hR (show k + 1 ≤ m by omega) h7, hg, hk40]
          rw [m_leads (e := va_up e 71 (upd (e 71) k (nI i))) h hb hiN (show pl < 65536 by omega), hd]
          simp (disch := omega) only [W1059, r_2, r_Li, h80_1007, s_41, s_0, ci_m1, r_90, r_4, r_La, h79_1053, r_5, s_43, ci_1, r_18, ci_0, h79_1057, ci_m9, h60_10_5, r_49, h79_1032, h79_1011, r_47, h79_1038, r_46, r_10, s_8, r_In, r_52, h60_10_7, h79_1013, r_32, h79_1012, h64_69, h65_69, h64_71, h65_71, enR, LG, LSt, LC, nlR, psR, TK, up_s, up_n, up_u, lt_nI, le_nI, eq_nI, true_and, and_true, if_true, if_false, Nat.zero_add, Nat.add_zero, nI_add, ↓reduceIte, Nat.reduceAdd, Nat.reduceMul, Nat.reduceSub, Nat.reduceLT, Nat.reduceLeDiff, Nat.reduceEqDiff, Nat.not_lt_zero, Nat.lt_irrefl, decide_true, BEq.rfl, nm1, nm2, nm3, nm4, nm9, ngc, eq_self, List.length_cons, List.length_nil, o2i, hfi, hx, hd, Option.getD_some]
    · have hx : fcn N (fe W K J) K O T R m k pl i = false := by unfold fcn; rw [decide_eq_false h4]; rfl
      simp (disch := omega) only [W1059, r_2, r_Li, h80_1007, s_41, s_0, ci_m1, r_90, r_4, r_La, h79_1053, r_5, s_43, ci_1, r_18, ci_0, h79_1057, ci_m9, h60_10_5, r_49, h79_1032, h79_1011, r_47, h79_1038, r_46, r_10, s_8, r_In, r_52, h60_10_7, h79_1013, r_32, h79_1012, h64_69, h65_69, h64_71, h65_71, enR, LG, LSt, LC, nlR, psR, TK, up_s, up_n, up_u, lt_nI, le_nI, eq_nI, true_and, and_true, if_true, if_false, Nat.zero_add, Nat.add_zero, nI_add, ↓reduceIte, Nat.reduceAdd, Nat.reduceMul, Nat.reduceSub, Nat.reduceLT, Nat.reduceLeDiff, Nat.reduceEqDiff, Nat.not_lt_zero, Nat.lt_irrefl, decide_true, BEq.rfl, nm1, nm2, nm3, nm4, nm9, ngc, eq_self, List.length_cons, List.length_nil, m_feelOf h hb hiN, m_rowAt, r1, h4]
      rw [ih (i + 1) (by omega) (hnext hx), hfi, hx]
      simp only [Bool.false_eq_true, if_false]
theorem lp_mfirst {r u m p : Nat} {R : Nat → Nat} {x4 : Int32} (h : MLn a (e 74) P N W K O T J) (hb : LB P N W K O T J) (hr : r < 6) (hu : u < 6) (hm : m ≤ 16) (h69 : e 69 r = nI m) (hR : ∀ k, k < m → e 70 (40 * r + k) = nI (R k) ∧ R k < 10)
    (hQ : ∀ (μ y : Nat → Int32), (∀ j, j < m → y (40 * u + j) = nI (fro N (fe W K J) K O T R m p j)) → (∀ j, (j < 40 * u ∨ 40 * u + 40 ≤ j) → y j = e 70 j) → Q (some (.int (nI (fpl N (fe W K J) K O T R m p m)))) z (Hp X C (a, b, va_up (va_up (va_up e 71 μ) 69 (upd (e 69) u (nI m))) 70 y, o))) :
    ∀ (j k : Nat) (μ : Nat → Int32), k + j = m → (∀ i, i < k → μ i = nI (fro N (fe W K J) K O T R m p i)) → fpl N (fe W K J) K O T R m p k < P → run (lds N (fe W K J) K O T) R k (m - k) (2 ^ fpl N (fe W K J) K O T R m p k) ≠ 0 → Wp (d + 5) 1059 54 [some (.ref 67), some (.int (nI r)), some (.int (nI p)), some (.int (nI u)), some (.int x4), some (.int (nI m)), some (.int (nI (fpl N (fe W K J) K O T R m p k))), some (.int (nI k))] [] z (Hp X C (a, b, va_up e 71 μ, o)) Q := by
  have hP := hb.1
  intro j
  induction j with
  | zero =>
    intro k μ hk hμ hp hrun
    have hk : k = m := by omega
    subst hk
    rw [W1059_54]
    simp (disch := omega) only [W1059, r_2, r_Li, h80_1007, s_41, s_0, ci_m1, r_90, r_4, r_La, h79_1053, r_5, s_43, ci_1, r_18, ci_0, h79_1057, ci_m9, h60_10_5, r_49, h79_1032, h79_1011, r_47, h79_1038, r_46, r_10, s_8, r_In, r_52, h60_10_7, h79_1013, r_32, h79_1012, h64_69, h65_69, h64_71, h65_71, enR, LG, LSt, LC, nlR, psR, TK, up_s, up_n, up_u, lt_nI, le_nI, eq_nI, true_and, and_true, if_true, if_false, Nat.zero_add, Nat.add_zero, nI_add, ↓reduceIte, Nat.reduceAdd, Nat.reduceMul, Nat.reduceSub, Nat.reduceLT, Nat.reduceLeDiff, Nat.reduceEqDiff, Nat.not_lt_zero, Nat.lt_irrefl, decide_true, BEq.rfl, nm1, nm2, nm3, nm4, nm9, ngc, eq_self, List.length_cons, List.length_nil, m_row (e := va_up e 71 μ) hu (show k ≤ 40 by omega)]
    rw [lp_mfirst3 hu (show k ≤ 40 by omega) k 0 _ (fun q => if 40 * u ≤ q ∧ q < 40 * u + k then μ (q - 40 * u) else fil (e 70) (40 * u) (40 * u + 40) (nI 0) q) (by omega) (fun q => rfl), up_u]
    refine hQ _ _ (fun j hj => ?_) (fun j hj => ?_)
    · rw [if_pos (by omega), show 40 * u + j - 40 * u = j by omega]; exact hμ j hj
    · rw [if_neg (by omega)]; exact if_neg (by omega)
  | succ j ih =>
    intro k μ hk hμ hp hrun
    have h1 : k < m := by omega
    obtain ⟨v1, v2, v3, v4, v5, v6⟩ := fst_inv (p := p) hb h1 hp hrun
    rw [W1059_54]
    simp (disch := omega) only [W1059, r_2, r_Li, h80_1007, s_41, s_0, ci_m1, r_90, r_4, r_La, h79_1053, r_5, s_43, ci_1, r_18, ci_0, h79_1057, ci_m9, h60_10_5, r_49, h79_1032, h79_1011, r_47, h79_1038, r_46, r_10, s_8, r_In, r_52, h60_10_7, h79_1013, r_32, h79_1012, h64_69, h65_69, h64_71, h65_71, enR, LG, LSt, LC, nlR, psR, TK, up_s, up_n, up_u, lt_nI, le_nI, eq_nI, true_and, and_true, if_true, if_false, Nat.zero_add, Nat.add_zero, nI_add, ↓reduceIte, Nat.reduceAdd, Nat.reduceMul, Nat.reduceSub, Nat.reduceLT, Nat.reduceLeDiff, Nat.reduceEqDiff, Nat.not_lt_zero, Nat.lt_irrefl, decide_true, BEq.rfl, nm1, nm2, nm3, nm4, nm9, ngc, eq_self, List.length_cons, List.length_nil, h1]
    rw [lp_mfirst2 (e := va_up e 71 μ) h hb hr hm h69 hR h1 hp N 0 (by omega) (fcn_ex h1 (by omega) hrun), up_u, up_s]
    refine ih (k + 1) _ (by omega) (fun i hi => ?_) v5 v6
    by_cases h2 : i = k
    · subst h2; rw [ud_s]; rfl
    · rw [ud_n _ _ h2]; exact hμ i (by omega)
end
section
variable {t d : Nat} {z : AZ} {X : Nat × (Nat → Int32)} {C : CT} {M : MT} {s : Nat → Int32} {v : Nat → Int64} {g : Nat → Nat → Int32} {w : Nat → Nat → Int64} {q : Nat → Nat} {ct : Nat → Int32} {cn : Nat → Int32} {cc : Nat → Nat → Int32} {di : Nat → Nat → Int32} {dr : Nat → Nat → Int32} {df : Nat → Nat → Int32} {li : Nat → Nat → Int32} {la : Nat → Nat → Nat → Int32} {sf : Nat → Nat → Int32} {sl : Nat → Nat → Int32} {a : Nat → Int32} {b : Nat → Int64} {e : Nat → Nat → Int32} {o : Nat → Nat → Int64} {B : Nat → Bool} {n : Nat → Nat} {P N W : Nat} {K O T J : Nat → Nat} {l : Nat} {Ds : Nat → Nat} {Dr Df Dp : Nat → Nat → Nat} {KB : Nat → Bool}
theorem op_first {x y u : Int32} (H : RL t z s v g w q ct cn cc di dr df li la sf sl a b e o B n P N W K O T J l Ds Dr Df Dp KB) : OPI (d + 20) 926 1059 [.int x, .int y, .int u] t z X (s, v, g, w, q, ct, cn, cc, di, dr, df, li, la, sf, sl) (a, b, e, o) := by
  obtain ⟨hb, hl, hq, hC, hs, hM, hS⟩ := rl_land H
  have hP := hb.1
  have hN := hb.2.1
  unfold OPI
  rcases ix u (n := 5) (by decide) with h | ⟨h1, h2, h3⟩ | ⟨to, hto, rfl⟩
  · rw [cw_wp]
    have hcl : Wp (d + 19) 926 0 (en [.ref 0, .int x, .int y, .int u]) [] z (Hp X (s, v, g, w, q, ct, cn, cc, di, dr, df, li, la, sf, sl) (a, b, e, o)) (OKc (d + 20) 1059 [.int x, .int y, .int u] t X (a, b, e, o)) ↔ OKc (d + 20) 1059 [.int x, .int y, .int u] t X (a, b, e, o) (some (.int (-1))) z (Hp X (s, v, g, w, q, ct, cn, cc, di, dr, df, li, la, sf, sl) (a, b, e, o)) := by
      by_cases q1 : x < nI 0
      · simp (disch := omega) only [W926, r_2, r_Li, h80_948, s_40, r_4, r_La, h60_9_12, h79_303, s_41, s_0, ci_m1, r_90, h60_9_0, ci_16, h79_955, r_5, h60_9_5, ci_1, r_18, h79_605, ci_m9, h60_0_2, ci_0, r_49, h79_958, r_47, h60_9_10, h79_306, s_8, r_In, r_52, h79_2, h68_1, h65_31, enR, LG, LSt, LC, nlR, psR, TK, up_s, up_n, up_u, lt_nI, le_nI, eq_nI, true_and, and_true, if_true, if_false, Nat.zero_add, Nat.add_zero, nI_add, ↓reduceIte, Nat.reduceAdd, Nat.reduceMul, Nat.reduceSub, Nat.reduceLT, Nat.reduceLeDiff, Nat.reduceEqDiff, Nat.not_lt_zero, Nat.lt_irrefl, decide_true, BEq.rfl, nm1, nm2, nm3, nm4, nm9, ngc, eq_self, List.length_cons, List.length_nil, c_isRow, q1]
      · by_cases q2 : x < nI 6
        · by_cases q3 : y < nI 0
          · simp (disch := omega) only [W926, r_2, r_Li, h80_948, s_40, r_4, r_La, h60_9_12, h79_303, s_41, s_0, ci_m1, r_90, h60_9_0, ci_16, h79_955, r_5, h60_9_5, ci_1, r_18, h79_605, ci_m9, h60_0_2, ci_0, r_49, h79_958, r_47, h60_9_10, h79_306, s_8, r_In, r_52, h79_2, h68_1, h65_31, enR, LG, LSt, LC, nlR, psR, TK, up_s, up_n, up_u, lt_nI, le_nI, eq_nI, true_and, and_true, if_true, if_false, Nat.zero_add, Nat.add_zero, nI_add, ↓reduceIte, Nat.reduceAdd, Nat.reduceMul, Nat.reduceSub, Nat.reduceLT, Nat.reduceLeDiff, Nat.reduceEqDiff, Nat.not_lt_zero, Nat.lt_irrefl, decide_true, BEq.rfl, nm1, nm2, nm3, nm4, nm9, ngc, eq_self, List.length_cons, List.length_nil, c_isRow, q1, q2, hq, c_hasPlace hl hC, q3]
          · by_cases q4 : y < nI P
            · simp (disch := omega) only [W926, r_2, r_Li, h80_948, s_40, r_4, r_La, h60_9_12, h79_303, s_41, s_0, ci_m1, r_90, h60_9_0, ci_16, h79_955, r_5, h60_9_5, ci_1, r_18, h79_605, ci_m9, h60_0_2, ci_0, r_49, h79_958, r_47, h60_9_10, h79_306, s_8, r_In, r_52, h79_2, h68_1, h65_31, enR, LG, LSt, LC, nlR, psR, TK, up_s, up_n, up_u, lt_nI, le_nI, eq_nI, true_and, and_true, if_true, if_false, Nat.zero_add, Nat.add_zero, nI_add, ↓reduceIte, Nat.reduceAdd, Nat.reduceMul, Nat.reduceSub, Nat.reduceLT, Nat.reduceLeDiff, Nat.reduceEqDiff, Nat.not_lt_zero, Nat.lt_irrefl, decide_true, BEq.rfl, nm1, nm2, nm3, nm4, nm9, ngc, eq_self, List.length_cons, List.length_nil, c_isRow, q1, q2, hq, c_hasPlace hl hC, q3, q4, h]
            · simp (disch := omega) only [W926, r_2, r_Li, h80_948, s_40, r_4, r_La, h60_9_12, h79_303, s_41, s_0, ci_m1, r_90, h60_9_0, ci_16, h79_955, r_5, h60_9_5, ci_1, r_18, h79_605, ci_m9, h60_0_2, ci_0, r_49, h79_958, r_47, h60_9_10, h79_306, s_8, r_In, r_52, h79_2, h68_1, h65_31, enR, LG, LSt, LC, nlR, psR, TK, up_s, up_n, up_u, lt_nI, le_nI, eq_nI, true_and, and_true, if_true, if_false, Nat.zero_add, Nat.add_zero, nI_add, ↓reduceIte, Nat.reduceAdd, Nat.reduceMul, Nat.reduceSub, Nat.reduceLT, Nat.reduceLeDiff, Nat.reduceEqDiff, Nat.not_lt_zero, Nat.lt_irrefl, decide_true, BEq.rfl, nm1, nm2, nm3, nm4, nm9, ngc, eq_self, List.length_cons, List.length_nil, c_isRow, q1, q2, hq, c_hasPlace hl hC, q3, q4]
        · simp (disch := omega) only [W926, r_2, r_Li, h80_948, s_40, r_4, r_La, h60_9_12, h79_303, s_41, s_0, ci_m1, r_90, h60_9_0, ci_16, h79_955, r_5, h60_9_5, ci_1, r_18, h79_605, ci_m9, h60_0_2, ci_0, r_49, h79_958, r_47, h60_9_10, h79_306, s_8, r_In, r_52, h79_2, h68_1, h65_31, enR, LG, LSt, LC, nlR, psR, TK, up_s, up_n, up_u, lt_nI, le_nI, eq_nI, true_and, and_true, if_true, if_false, Nat.zero_add, Nat.add_zero, nI_add, ↓reduceIte, Nat.reduceAdd, Nat.reduceMul, Nat.reduceSub, Nat.reduceLT, Nat.reduceLeDiff, Nat.reduceEqDiff, Nat.not_lt_zero, Nat.lt_irrefl, decide_true, BEq.rfl, nm1, nm2, nm3, nm4, nm9, ngc, eq_self, List.length_cons, List.length_nil, c_isRow, q1, q2]
    refine hcl.mpr (okc ?_)
    rw [cw_wp]
    simp (disch := omega) only [W1059, r_2, r_Li, h80_1007, s_41, s_0, ci_m1, r_90, r_4, r_La, h79_1053, r_5, s_43, ci_1, r_18, ci_0, h79_1057, ci_m9, h60_10_5, r_49, h79_1032, h79_1011, r_47, h79_1038, r_46, r_10, s_8, r_In, r_52, h60_10_7, h79_1013, r_32, h79_1012, h64_69, h65_69, h64_71, h65_71, enR, LG, LSt, LC, nlR, psR, TK, up_s, up_n, up_u, lt_nI, le_nI, eq_nI, true_and, and_true, if_true, if_false, Nat.zero_add, Nat.add_zero, nI_add, ↓reduceIte, Nat.reduceAdd, Nat.reduceMul, Nat.reduceSub, Nat.reduceLT, Nat.reduceLeDiff, Nat.reduceEqDiff, Nat.not_lt_zero, Nat.lt_irrefl, decide_true, BEq.rfl, nm1, nm2, nm3, nm4, nm9, ngc, eq_self, List.length_cons, List.length_nil, m_isRow, h]
    exact okm (rl_inv (rl_t H))
  · rw [cw_wp]
    have hcl : Wp (d + 19) 926 0 (en [.ref 0, .int x, .int y, .int u]) [] z (Hp X (s, v, g, w, q, ct, cn, cc, di, dr, df, li, la, sf, sl) (a, b, e, o)) (OKc (d + 20) 1059 [.int x, .int y, .int u] t X (a, b, e, o)) ↔ OKc (d + 20) 1059 [.int x, .int y, .int u] t X (a, b, e, o) (some (.int (-1))) z (Hp X (s, v, g, w, q, ct, cn, cc, di, dr, df, li, la, sf, sl) (a, b, e, o)) := by
      by_cases q1 : x < nI 0
      · simp (disch := omega) only [W926, r_2, r_Li, h80_948, s_40, r_4, r_La, h60_9_12, h79_303, s_41, s_0, ci_m1, r_90, h60_9_0, ci_16, h79_955, r_5, h60_9_5, ci_1, r_18, h79_605, ci_m9, h60_0_2, ci_0, r_49, h79_958, r_47, h60_9_10, h79_306, s_8, r_In, r_52, h79_2, h68_1, h65_31, enR, LG, LSt, LC, nlR, psR, TK, up_s, up_n, up_u, lt_nI, le_nI, eq_nI, true_and, and_true, if_true, if_false, Nat.zero_add, Nat.add_zero, nI_add, ↓reduceIte, Nat.reduceAdd, Nat.reduceMul, Nat.reduceSub, Nat.reduceLT, Nat.reduceLeDiff, Nat.reduceEqDiff, Nat.not_lt_zero, Nat.lt_irrefl, decide_true, BEq.rfl, nm1, nm2, nm3, nm4, nm9, ngc, eq_self, List.length_cons, List.length_nil, c_isRow, q1]
      · by_cases q2 : x < nI 6
        · by_cases q3 : y < nI 0
          · simp (disch := omega) only [W926, r_2, r_Li, h80_948, s_40, r_4, r_La, h60_9_12, h79_303, s_41, s_0, ci_m1, r_90, h60_9_0, ci_16, h79_955, r_5, h60_9_5, ci_1, r_18, h79_605, ci_m9, h60_0_2, ci_0, r_49, h79_958, r_47, h60_9_10, h79_306, s_8, r_In, r_52, h79_2, h68_1, h65_31, enR, LG, LSt, LC, nlR, psR, TK, up_s, up_n, up_u, lt_nI, le_nI, eq_nI, true_and, and_true, if_true, if_false, Nat.zero_add, Nat.add_zero, nI_add, ↓reduceIte, Nat.reduceAdd, Nat.reduceMul, Nat.reduceSub, Nat.reduceLT, Nat.reduceLeDiff, Nat.reduceEqDiff, Nat.not_lt_zero, Nat.lt_irrefl, decide_true, BEq.rfl, nm1, nm2, nm3, nm4, nm9, ngc, eq_self, List.length_cons, List.length_nil, c_isRow, q1, q2, hq, c_hasPlace hl hC, q3]
          · by_cases q4 : y < nI P
            · simp (disch := omega) only [W926, r_2, r_Li, h80_948, s_40, r_4, r_La, h60_9_12, h79_303, s_41, s_0, ci_m1, r_90, h60_9_0, ci_16, h79_955, r_5, h60_9_5, ci_1, r_18, h79_605, ci_m9, h60_0_2, ci_0, r_49, h79_958, r_47, h60_9_10, h79_306, s_8, r_In, r_52, h79_2, h68_1, h65_31, enR, LG, LSt, LC, nlR, psR, TK, up_s, up_n, up_u, lt_nI, le_nI, eq_nI, true_and, and_true, if_true, if_false, Nat.zero_add, Nat.add_zero, nI_add, ↓reduceIte, Nat.reduceAdd, Nat.reduceMul, Nat.reduceSub, Nat.reduceLT, Nat.reduceLeDiff, Nat.reduceEqDiff, Nat.not_lt_zero, Nat.lt_irrefl, decide_true, BEq.rfl, nm1, nm2, nm3, nm4, nm9, ngc, eq_self, List.length_cons, List.length_nil, c_isRow, q1, q2, hq, c_hasPlace hl hC, q3, q4, h1, h2]
            · simp (disch := omega) only [W926, r_2, r_Li, h80_948, s_40, r_4, r_La, h60_9_12, h79_303, s_41, s_0, ci_m1, r_90, h60_9_0, ci_16, h79_955, r_5, h60_9_5, ci_1, r_18, h79_605, ci_m9, h60_0_2, ci_0, r_49, h79_958, r_47, h60_9_10, h79_306, s_8, r_In, r_52, h79_2, h68_1, h65_31, enR, LG, LSt, LC, nlR, psR, TK, up_s, up_n, up_u, lt_nI, le_nI, eq_nI, true_and, and_true, if_true, if_false, Nat.zero_add, Nat.add_zero, nI_add, ↓reduceIte, Nat.reduceAdd, Nat.reduceMul, Nat.reduceSub, Nat.reduceLT, Nat.reduceLeDiff, Nat.reduceEqDiff, Nat.not_lt_zero, Nat.lt_irrefl, decide_true, BEq.rfl, nm1, nm2, nm3, nm4, nm9, ngc, eq_self, List.length_cons, List.length_nil, c_isRow, q1, q2, hq, c_hasPlace hl hC, q3, q4]
        · simp (disch := omega) only [W926, r_2, r_Li, h80_948, s_40, r_4, r_La, h60_9_12, h79_303, s_41, s_0, ci_m1, r_90, h60_9_0, ci_16, h79_955, r_5, h60_9_5, ci_1, r_18, h79_605, ci_m9, h60_0_2, ci_0, r_49, h79_958, r_47, h60_9_10, h79_306, s_8, r_In, r_52, h79_2, h68_1, h65_31, enR, LG, LSt, LC, nlR, psR, TK, up_s, up_n, up_u, lt_nI, le_nI, eq_nI, true_and, and_true, if_true, if_false, Nat.zero_add, Nat.add_zero, nI_add, ↓reduceIte, Nat.reduceAdd, Nat.reduceMul, Nat.reduceSub, Nat.reduceLT, Nat.reduceLeDiff, Nat.reduceEqDiff, Nat.not_lt_zero, Nat.lt_irrefl, decide_true, BEq.rfl, nm1, nm2, nm3, nm4, nm9, ngc, eq_self, List.length_cons, List.length_nil, c_isRow, q1, q2]
    refine hcl.mpr (okc ?_)
    rw [cw_wp]
    simp (disch := omega) only [W1059, r_2, r_Li, h80_1007, s_41, s_0, ci_m1, r_90, r_4, r_La, h79_1053, r_5, s_43, ci_1, r_18, ci_0, h79_1057, ci_m9, h60_10_5, r_49, h79_1032, h79_1011, r_47, h79_1038, r_46, r_10, s_8, r_In, r_52, h60_10_7, h79_1013, r_32, h79_1012, h64_69, h65_69, h64_71, h65_71, enR, LG, LSt, LC, nlR, psR, TK, up_s, up_n, up_u, lt_nI, le_nI, eq_nI, true_and, and_true, if_true, if_false, Nat.zero_add, Nat.add_zero, nI_add, ↓reduceIte, Nat.reduceAdd, Nat.reduceMul, Nat.reduceSub, Nat.reduceLT, Nat.reduceLeDiff, Nat.reduceEqDiff, Nat.not_lt_zero, Nat.lt_irrefl, decide_true, BEq.rfl, nm1, nm2, nm3, nm4, nm9, ngc, eq_self, List.length_cons, List.length_nil, m_isRow, h1, h3]
    exact okm (rl_inv (rl_t H))
  have hto6 : to < 6 := by omega
  have hto5 : ¬ 5 < to := by omega
  rcases ix x (n := 5) (by decide) with h | ⟨h1, h2, h3⟩ | ⟨r, hr, rfl⟩
  · rw [cw_wp]
    simp (disch := omega) only [W926, r_2, r_Li, h80_948, s_40, r_4, r_La, h60_9_12, h79_303, s_41, s_0, ci_m1, r_90, h60_9_0, ci_16, h79_955, r_5, h60_9_5, ci_1, r_18, h79_605, ci_m9, h60_0_2, ci_0, r_49, h79_958, r_47, h60_9_10, h79_306, s_8, r_In, r_52, h79_2, h68_1, h65_31, enR, LG, LSt, LC, nlR, psR, TK, up_s, up_n, up_u, lt_nI, le_nI, eq_nI, true_and, and_true, if_true, if_false, Nat.zero_add, Nat.add_zero, nI_add, ↓reduceIte, Nat.reduceAdd, Nat.reduceMul, Nat.reduceSub, Nat.reduceLT, Nat.reduceLeDiff, Nat.reduceEqDiff, Nat.not_lt_zero, Nat.lt_irrefl, decide_true, BEq.rfl, nm1, nm2, nm3, nm4, nm9, ngc, eq_self, List.length_cons, List.length_nil, c_isRow, h, hto6]
    refine okc ?_
    rw [cw_wp]
    simp (disch := omega) only [W1059, r_2, r_Li, h80_1007, s_41, s_0, ci_m1, r_90, r_4, r_La, h79_1053, r_5, s_43, ci_1, r_18, ci_0, h79_1057, ci_m9, h60_10_5, r_49, h79_1032, h79_1011, r_47, h79_1038, r_46, r_10, s_8, r_In, r_52, h60_10_7, h79_1013, r_32, h79_1012, h64_69, h65_69, h64_71, h65_71, W1053, s_40, h79_1029, ci_16, h79_1052, (fun d => cw_wp d 1053), enR, LG, LSt, LC, nlR, psR, TK, up_s, up_n, up_u, lt_nI, le_nI, eq_nI, true_and, and_true, if_true, if_false, Nat.zero_add, Nat.add_zero, nI_add, ↓reduceIte, Nat.reduceAdd, Nat.reduceMul, Nat.reduceSub, Nat.reduceLT, Nat.reduceLeDiff, Nat.reduceEqDiff, Nat.not_lt_zero, Nat.lt_irrefl, decide_true, BEq.rfl, nm1, nm2, nm3, nm4, nm9, ngc, eq_self, List.length_cons, List.length_nil, m_isRow, h, hto5]
    exact okm (rl_inv (rl_t H))
  · rw [cw_wp]
    simp (disch := omega) only [W926, r_2, r_Li, h80_948, s_40, r_4, r_La, h60_9_12, h79_303, s_41, s_0, ci_m1, r_90, h60_9_0, ci_16, h79_955, r_5, h60_9_5, ci_1, r_18, h79_605, ci_m9, h60_0_2, ci_0, r_49, h79_958, r_47, h60_9_10, h79_306, s_8, r_In, r_52, h79_2, h68_1, h65_31, enR, LG, LSt, LC, nlR, psR, TK, up_s, up_n, up_u, lt_nI, le_nI, eq_nI, true_and, and_true, if_true, if_false, Nat.zero_add, Nat.add_zero, nI_add, ↓reduceIte, Nat.reduceAdd, Nat.reduceMul, Nat.reduceSub, Nat.reduceLT, Nat.reduceLeDiff, Nat.reduceEqDiff, Nat.not_lt_zero, Nat.lt_irrefl, decide_true, BEq.rfl, nm1, nm2, nm3, nm4, nm9, ngc, eq_self, List.length_cons, List.length_nil, c_isRow, h1, h2, hto6]
    refine okc ?_
    rw [cw_wp]
    simp (disch := omega) only [W1059, r_2, r_Li, h80_1007, s_41, s_0, ci_m1, r_90, r_4, r_La, h79_1053, r_5, s_43, ci_1, r_18, ci_0, h79_1057, ci_m9, h60_10_5, r_49, h79_1032, h79_1011, r_47, h79_1038, r_46, r_10, s_8, r_In, r_52, h60_10_7, h79_1013, r_32, h79_1012, h64_69, h65_69, h64_71, h65_71, W1053, s_40, h79_1029, ci_16, h79_1052, (fun d => cw_wp d 1053), enR, LG, LSt, LC, nlR, psR, TK, up_s, up_n, up_u, lt_nI, le_nI, eq_nI, true_and, and_true, if_true, if_false, Nat.zero_add, Nat.add_zero, nI_add, ↓reduceIte, Nat.reduceAdd, Nat.reduceMul, Nat.reduceSub, Nat.reduceLT, Nat.reduceLeDiff, Nat.reduceEqDiff, Nat.not_lt_zero, Nat.lt_irrefl, decide_true, BEq.rfl, nm1, nm2, nm3, nm4, nm9, ngc, eq_self, List.length_cons, List.length_nil, m_isRow, h1, h3, hto5]
    exact okm (rl_inv (rl_t H))
  have hr6 : r < 6 := by omega
  have hr5 : ¬ 5 < r := by omega
  rcases ixN y (show P ≤ 80 by omega) with h | ⟨h1, h2, h3⟩ | ⟨p, hp, rfl⟩
  · rw [cw_wp]
    simp (disch := omega) only [W926, r_2, r_Li, h80_948, s_40, r_4, r_La, h60_9_12, h79_303, s_41, s_0, ci_m1, r_90, h60_9_0, ci_16, h79_955, r_5, h60_9_5, ci_1, r_18, h79_605, ci_m9, h60_0_2, ci_0, r_49, h79_958, r_47, h60_9_10, h79_306, s_8, r_In, r_52, h79_2, h68_1, h65_31, enR, LG, LSt, LC, nlR, psR, TK, up_s, up_n, up_u, lt_nI, le_nI, eq_nI, true_and, and_true, if_true, if_false, Nat.zero_add, Nat.add_zero, nI_add, ↓reduceIte, Nat.reduceAdd, Nat.reduceMul, Nat.reduceSub, Nat.reduceLT, Nat.reduceLeDiff, Nat.reduceEqDiff, Nat.not_lt_zero, Nat.lt_irrefl, decide_true, BEq.rfl, nm1, nm2, nm3, nm4, nm9, ngc, eq_self, List.length_cons, List.length_nil, c_isRow, hr6, hq, c_hasPlace hl hC, h, hto6]
    refine okc ?_
    rw [cw_wp]
    simp (disch := omega) only [W1059, r_2, r_Li, h80_1007, s_41, s_0, ci_m1, r_90, r_4, r_La, h79_1053, r_5, s_43, ci_1, r_18, ci_0, h79_1057, ci_m9, h60_10_5, r_49, h79_1032, h79_1011, r_47, h79_1038, r_46, r_10, s_8, r_In, r_52, h60_10_7, h79_1013, r_32, h79_1012, h64_69, h65_69, h64_71, h65_71, W1053, s_40, h79_1029, ci_16, h79_1052, (fun d => cw_wp d 1053), enR, LG, LSt, LC, nlR, psR, TK, up_s, up_n, up_u, lt_nI, le_nI, eq_nI, true_and, and_true, if_true, if_false, Nat.zero_add, Nat.add_zero, nI_add, ↓reduceIte, Nat.reduceAdd, Nat.reduceMul, Nat.reduceSub, Nat.reduceLT, Nat.reduceLeDiff, Nat.reduceEqDiff, Nat.not_lt_zero, Nat.lt_irrefl, decide_true, BEq.rfl, nm1, nm2, nm3, nm4, nm9, ngc, eq_self, List.length_cons, List.length_nil, m_isRow, hr5, m_isPlace hM, h, hto5]
    exact okm (rl_inv (rl_t H))
  · rw [cw_wp]
    simp (disch := omega) only [W926, r_2, r_Li, h80_948, s_40, r_4, r_La, h60_9_12, h79_303, s_41, s_0, ci_m1, r_90, h60_9_0, ci_16, h79_955, r_5, h60_9_5, ci_1, r_18, h79_605, ci_m9, h60_0_2, ci_0, r_49, h79_958, r_47, h60_9_10, h79_306, s_8, r_In, r_52, h79_2, h68_1, h65_31, enR, LG, LSt, LC, nlR, psR, TK, up_s, up_n, up_u, lt_nI, le_nI, eq_nI, true_and, and_true, if_true, if_false, Nat.zero_add, Nat.add_zero, nI_add, ↓reduceIte, Nat.reduceAdd, Nat.reduceMul, Nat.reduceSub, Nat.reduceLT, Nat.reduceLeDiff, Nat.reduceEqDiff, Nat.not_lt_zero, Nat.lt_irrefl, decide_true, BEq.rfl, nm1, nm2, nm3, nm4, nm9, ngc, eq_self, List.length_cons, List.length_nil, c_isRow, hr6, hq, c_hasPlace hl hC, h1, h2, hto6]
    refine okc ?_
    rw [cw_wp]
    simp (disch := omega) only [W1059, r_2, r_Li, h80_1007, s_41, s_0, ci_m1, r_90, r_4, r_La, h79_1053, r_5, s_43, ci_1, r_18, ci_0, h79_1057, ci_m9, h60_10_5, r_49, h79_1032, h79_1011, r_47, h79_1038, r_46, r_10, s_8, r_In, r_52, h60_10_7, h79_1013, r_32, h79_1012, h64_69, h65_69, h64_71, h65_71, W1053, s_40, h79_1029, ci_16, h79_1052, (fun d => cw_wp d 1053), enR, LG, LSt, LC, nlR, psR, TK, up_s, up_n, up_u, lt_nI, le_nI, eq_nI, true_and, and_true, if_true, if_false, Nat.zero_add, Nat.add_zero, nI_add, ↓reduceIte, Nat.reduceAdd, Nat.reduceMul, Nat.reduceSub, Nat.reduceLT, Nat.reduceLeDiff, Nat.reduceEqDiff, Nat.not_lt_zero, Nat.lt_irrefl, decide_true, BEq.rfl, nm1, nm2, nm3, nm4, nm9, ngc, eq_self, List.length_cons, List.length_nil, m_isRow, hr5, m_isPlace hM, h1, h3, hto5]
    exact okm (rl_inv (rl_t H))
  have hp2 := nsub (show P < 65536 by omega) hp
  rcases rl_r H hr6 with ⟨q1, q2, q3, q4, q5⟩ | ⟨q1, q2, q3, q4, q5, q6⟩
  · rw [cw_wp]
    simp (disch := omega) only [W926, r_2, r_Li, h80_948, s_40, r_4, r_La, h60_9_12, h79_303, s_41, s_0, ci_m1, r_90, h60_9_0, ci_16, h79_955, r_5, h60_9_5, ci_1, r_18, h79_605, ci_m9, h60_0_2, ci_0, r_49, h79_958, r_47, h60_9_10, h79_306, s_8, r_In, r_52, h79_2, h68_1, h65_31, enR, LG, LSt, LC, nlR, psR, TK, up_s, up_n, up_u, lt_nI, le_nI, eq_nI, true_and, and_true, if_true, if_false, Nat.zero_add, Nat.add_zero, nI_add, ↓reduceIte, Nat.reduceAdd, Nat.reduceMul, Nat.reduceSub, Nat.reduceLT, Nat.reduceLeDiff, Nat.reduceEqDiff, Nat.not_lt_zero, Nat.lt_irrefl, decide_true, BEq.rfl, nm1, nm2, nm3, nm4, nm9, ngc, eq_self, List.length_cons, List.length_nil, c_isRow, hr6, hq, c_hasPlace hl hC, hp, hto6, c_felt_no (show r < 10 by omega) q2]
    refine okc ?_
    rw [cw_wp]
    simp (disch := omega) only [W1059, r_2, r_Li, h80_1007, s_41, s_0, ci_m1, r_90, r_4, r_La, h79_1053, r_5, s_43, ci_1, r_18, ci_0, h79_1057, ci_m9, h60_10_5, r_49, h79_1032, h79_1011, r_47, h79_1038, r_46, r_10, s_8, r_In, r_52, h60_10_7, h79_1013, r_32, h79_1012, h64_69, h65_69, h64_71, h65_71, W1053, s_40, h79_1029, ci_16, h79_1052, (fun d => cw_wp d 1053), enR, LG, LSt, LC, nlR, psR, TK, up_s, up_n, up_u, lt_nI, le_nI, eq_nI, true_and, and_true, if_true, if_false, Nat.zero_add, Nat.add_zero, nI_add, ↓reduceIte, Nat.reduceAdd, Nat.reduceMul, Nat.reduceSub, Nat.reduceLT, Nat.reduceLeDiff, Nat.reduceEqDiff, Nat.not_lt_zero, Nat.lt_irrefl, decide_true, BEq.rfl, nm1, nm2, nm3, nm4, nm9, ngc, eq_self, List.length_cons, List.length_nil, m_isRow, hr5, m_isPlace hM, hp2, hto5, m_felt_no hr6 q5]
    exact okm (rl_inv (rl_found (k := 1) (by decide) H))
  by_cases hw : 16 < n r
  · rw [cw_wp]
    simp (disch := omega) only [W926, r_2, r_Li, h80_948, s_40, r_4, r_La, h60_9_12, h79_303, s_41, s_0, ci_m1, r_90, h60_9_0, ci_16, h79_955, r_5, h60_9_5, ci_1, r_18, h79_605, ci_m9, h60_0_2, ci_0, r_49, h79_958, r_47, h60_9_10, h79_306, s_8, r_In, r_52, h79_2, h68_1, h65_31, enR, LG, LSt, LC, nlR, psR, TK, up_s, up_n, up_u, lt_nI, le_nI, eq_nI, true_and, and_true, if_true, if_false, Nat.zero_add, Nat.add_zero, nI_add, ↓reduceIte, Nat.reduceAdd, Nat.reduceMul, Nat.reduceSub, Nat.reduceLT, Nat.reduceLeDiff, Nat.reduceEqDiff, Nat.not_lt_zero, Nat.lt_irrefl, decide_true, BEq.rfl, nm1, nm2, nm3, nm4, nm9, ngc, eq_self, List.length_cons, List.length_nil, c_isRow, hr6, hq, c_hasPlace hl hC, hp, hto6, c_felt_size (show r < 10 by omega) q2 q3 (show n r ≤ 80 by omega) hw]
    refine okc ?_
    rw [cw_wp]
    simp (disch := omega) only [W1059, r_2, r_Li, h80_1007, s_41, s_0, ci_m1, r_90, r_4, r_La, h79_1053, r_5, s_43, ci_1, r_18, ci_0, h79_1057, ci_m9, h60_10_5, r_49, h79_1032, h79_1011, r_47, h79_1038, r_46, r_10, s_8, r_In, r_52, h60_10_7, h79_1013, r_32, h79_1012, h64_69, h65_69, h64_71, h65_71, W1053, s_40, h79_1029, ci_16, h79_1052, (fun d => cw_wp d 1053), enR, LG, LSt, LC, nlR, psR, TK, up_s, up_n, up_u, lt_nI, le_nI, eq_nI, true_and, and_true, if_true, if_false, Nat.zero_add, Nat.add_zero, nI_add, ↓reduceIte, Nat.reduceAdd, Nat.reduceMul, Nat.reduceSub, Nat.reduceLT, Nat.reduceLeDiff, Nat.reduceEqDiff, Nat.not_lt_zero, Nat.lt_irrefl, decide_true, BEq.rfl, nm1, nm2, nm3, nm4, nm9, ngc, eq_self, List.length_cons, List.length_nil, m_isRow, hr5, m_isPlace hM, hp2, hto5, m_felt_size hr6 q5 q4 hw]
    exact okm (rl_inv (rl_found (k := 5) (by decide) H))
  have hw2 : n r ≤ 16 := by omega
  have hcap : n r ≤ cap r := by rw [show cap r = 40 from if_pos hr6]; exact q4
  cases hf : felt (cc r) (n r) with
  | false =>
    rw [cw_wp]
    simp (disch := omega) only [W926, r_2, r_Li, h80_948, s_40, r_4, r_La, h60_9_12, h79_303, s_41, s_0, ci_m1, r_90, h60_9_0, ci_16, h79_955, r_5, h60_9_5, ci_1, r_18, h79_605, ci_m9, h60_0_2, ci_0, r_49, h79_958, r_47, h60_9_10, h79_306, s_8, r_In, r_52, h79_2, h68_1, h65_31, enR, LG, LSt, LC, nlR, psR, TK, up_s, up_n, up_u, lt_nI, le_nI, eq_nI, true_and, and_true, if_true, if_false, Nat.zero_add, Nat.add_zero, nI_add, ↓reduceIte, Nat.reduceAdd, Nat.reduceMul, Nat.reduceSub, Nat.reduceLT, Nat.reduceLeDiff, Nat.reduceEqDiff, Nat.not_lt_zero, Nat.lt_irrefl, decide_true, BEq.rfl, nm1, nm2, nm3, nm4, nm9, ngc, eq_self, List.length_cons, List.length_nil, c_isRow, hr6, hq, c_hasPlace hl hC, hp, hto6, c_felt_unlike (show r < 10 by omega) q2 q3 hcap hw2 (by omega) hf]
    refine okc ?_
    rw [cw_wp]
    simp (disch := omega) only [W1059, r_2, r_Li, h80_1007, s_41, s_0, ci_m1, r_90, r_4, r_La, h79_1053, r_5, s_43, ci_1, r_18, ci_0, h79_1057, ci_m9, h60_10_5, r_49, h79_1032, h79_1011, r_47, h79_1038, r_46, r_10, s_8, r_In, r_52, h60_10_7, h79_1013, r_32, h79_1012, h64_69, h65_69, h64_71, h65_71, W1053, s_40, h79_1029, ci_16, h79_1052, (fun d => cw_wp d 1053), enR, LG, LSt, LC, nlR, psR, TK, up_s, up_n, up_u, lt_nI, le_nI, eq_nI, true_and, and_true, if_true, if_false, Nat.zero_add, Nat.add_zero, nI_add, ↓reduceIte, Nat.reduceAdd, Nat.reduceMul, Nat.reduceSub, Nat.reduceLT, Nat.reduceLeDiff, Nat.reduceEqDiff, Nat.not_lt_zero, Nat.lt_irrefl, decide_true, BEq.rfl, nm1, nm2, nm3, nm4, nm9, ngc, eq_self, List.length_cons, List.length_nil, m_isRow, hr5, m_isPlace hM, hp2, hto5, m_felt_unlike hr6 q5 q4 hw2 (by omega) q6 hf]
    exact okm (rl_inv (rl_found (k := 3) (by decide) H))
  | true =>
    obtain ⟨R, hR⟩ := felt_ok hf
    have hR7 : ∀ k, k < n r → e 70 (40 * r + k) = nI (R k) ∧ R k < 10 := fun k hk => ⟨by rw [q6 k hk]; exact (hR k hk).1, (hR k hk).2⟩
    have hr10 : r < 10 := by omega
    have hSL := sen_SL hb hS
    have h7 : 2 ^ p < 128 := Nat.pow_lt_pow_right (a := 2) (by decide) (show p < 7 by omega)
    have hrl := run_lt (F := fe W K J) (R := R) hb (n r) 0 (2 ^ p) h7
    have hrl2 : foldu (rcF (lds N (fe W K J) K O T) R) 0 (n r) (2 ^ p) = run (lds N (fe W K J) K O T) R 0 (n r) (2 ^ p) := rfl
    by_cases hz : run (lds N (fe W K J) K O T) R 0 (n r) (2 ^ p) = 0
    · rw [cw_wp]
      simp (disch := omega) only [W926, r_2, r_Li, h80_948, s_40, r_4, r_La, h60_9_12, h79_303, s_41, s_0, ci_m1, r_90, h60_9_0, ci_16, h79_955, r_5, h60_9_5, ci_1, r_18, h79_605, ci_m9, h60_0_2, ci_0, r_49, h79_958, r_47, h60_9_10, h79_306, s_8, r_In, r_52, h79_2, h68_1, h65_31, enR, LG, LSt, LC, nlR, psR, TK, up_s, up_n, up_u, lt_nI, le_nI, eq_nI, true_and, and_true, if_true, if_false, Nat.zero_add, Nat.add_zero, nI_add, ↓reduceIte, Nat.reduceAdd, Nat.reduceMul, Nat.reduceSub, Nat.reduceLT, Nat.reduceLeDiff, Nat.reduceEqDiff, Nat.not_lt_zero, Nat.lt_irrefl, decide_true, BEq.rfl, nm1, nm2, nm3, nm4, nm9, ngc, eq_self, List.length_cons, List.length_nil, c_isRow, hr6, hq, c_hasPlace hl hC, hp, hto6, c_felt_ok (show r < 10 by omega) q2 q3 hcap hw2 (by omega) hf, nI_bit, c_reached (show 0 < 2 by omega) hSL hr10 q3 hcap hR, hrl2, hz]
      refine okc ?_
      rw [cw_wp]
      simp (disch := omega) only [W1059, r_2, r_Li, h80_1007, s_41, s_0, ci_m1, r_90, r_4, r_La, h79_1053, r_5, s_43, ci_1, r_18, ci_0, h79_1057, ci_m9, h60_10_5, r_49, h79_1032, h79_1011, r_47, h79_1038, r_46, r_10, s_8, r_In, r_52, h60_10_7, h79_1013, r_32, h79_1012, h64_69, h65_69, h64_71, h65_71, W1053, s_40, h79_1029, ci_16, h79_1052, (fun d => cw_wp d 1053), enR, LG, LSt, LC, nlR, psR, TK, up_s, up_n, up_u, lt_nI, le_nI, eq_nI, true_and, and_true, if_true, if_false, Nat.zero_add, Nat.add_zero, nI_add, ↓reduceIte, Nat.reduceAdd, Nat.reduceMul, Nat.reduceSub, Nat.reduceLT, Nat.reduceLeDiff, Nat.reduceEqDiff, Nat.not_lt_zero, Nat.lt_irrefl, decide_true, BEq.rfl, nm1, nm2, nm3, nm4, nm9, ngc, eq_self, List.length_cons, List.length_nil, m_isRow, hr5, m_isPlace hM, hp2, hto5, m_felt_ok hr6 q5 q4 hw2 (by omega) q6 hf, nI_bit, m_endsOf hM hb hr6 q4 q5 hR7 (Nat.zero_le _) h7, Nat.sub_zero, hz]
      exact okm (rl_inv (rl_t H))
    · rw [cw_wp]
      simp (disch := omega) only [W926, r_2, r_Li, h80_948, s_40, r_4, r_La, h60_9_12, h79_303, s_41, s_0, ci_m1, r_90, h60_9_0, ci_16, h79_955, r_5, h60_9_5, ci_1, r_18, h79_605, ci_m9, h60_0_2, ci_0, r_49, h79_958, r_47, h60_9_10, h79_306, s_8, r_In, r_52, h79_2, h68_1, h65_31, enR, LG, LSt, LC, nlR, psR, TK, up_s, up_n, up_u, lt_nI, le_nI, eq_nI, true_and, and_true, if_true, if_false, Nat.zero_add, Nat.add_zero, nI_add, ↓reduceIte, Nat.reduceAdd, Nat.reduceMul, Nat.reduceSub, Nat.reduceLT, Nat.reduceLeDiff, Nat.reduceEqDiff, Nat.not_lt_zero, Nat.lt_irrefl, decide_true, BEq.rfl, nm1, nm2, nm3, nm4, nm9, ngc, eq_self, List.length_cons, List.length_nil, c_isRow, hr6, hq, c_hasPlace hl hC, hp, hto6, c_felt_ok (show r < 10 by omega) q2 q3 hcap hw2 (by omega) hf, nI_bit, c_reached (show 0 < 2 by omega) hSL hr10 q3 hcap hR, hrl2, hz, q3]
      have := lp_cfirst (d := d + 15) (z := z) (X := X) (M := (a, b, e, o)) (s := s) (v := v) (g := g) (w := w) (ct := ct) (cn := cn) (cc := cc) (di := di) (dr := dr) (df := df) (sf := sf) (sl := sl) (Q := OKc (d + 20) 1059 [.int (nI r), .int (nI p), .int (nI to)] t X (a, b, e, o)) (r := r) (u := to) (m := n r) (p := p) (R := R) (x4 := nI 0) hl hq hC hb hS hr6 hto6 q3 hw2 hR (fun τ hτ => ?_) (n r) 0 (g 31) (by omega) (fun i hi => absurd hi (by omega)) hp (by rw [Nat.sub_zero]; exact hz)
      · rw [up_id (rfl : g 31 = g 31)] at this
        exact this
      · refine okc ?_
        rw [cw_wp]
        simp (disch := omega) only [W1059, r_2, r_Li, h80_1007, s_41, s_0, ci_m1, r_90, r_4, r_La, h79_1053, r_5, s_43, ci_1, r_18, ci_0, h79_1057, ci_m9, h60_10_5, r_49, h79_1032, h79_1011, r_47, h79_1038, r_46, r_10, s_8, r_In, r_52, h60_10_7, h79_1013, r_32, h79_1012, h64_69, h65_69, h64_71, h65_71, W1053, s_40, h79_1029, ci_16, h79_1052, (fun d => cw_wp d 1053), enR, LG, LSt, LC, nlR, psR, TK, up_s, up_n, up_u, lt_nI, le_nI, eq_nI, true_and, and_true, if_true, if_false, Nat.zero_add, Nat.add_zero, nI_add, ↓reduceIte, Nat.reduceAdd, Nat.reduceMul, Nat.reduceSub, Nat.reduceLT, Nat.reduceLeDiff, Nat.reduceEqDiff, Nat.not_lt_zero, Nat.lt_irrefl, decide_true, BEq.rfl, nm1, nm2, nm3, nm4, nm9, ngc, eq_self, List.length_cons, List.length_nil, m_isRow, hr5, m_isPlace hM, hp2, hto5, m_felt_ok hr6 q5 q4 hw2 (by omega) q6 hf, nI_bit, m_endsOf hM hb hr6 q4 q5 hR7 (Nat.zero_le _) h7, Nat.sub_zero, hz, q5]
        have := lp_mfirst (d := d + 14) (z := z) (X := X) (C := (s, v, va_up g 31 τ, w, q, va_up ct to (nI 1), va_up cn to (nI (n r)), va_up cc to (va_cpy τ (fil (cc to) 0 40 (nI 0)) 0 0 (n r)), di, dr, df, li, la, sf, sl)) (a := a) (b := b) (e := e) (o := o) (Q := OKm (nI (fpl N (fe W K J) K O T R (n r) p (n r))) t X (s, v, va_up g 31 τ, w, q, va_up ct to (nI 1), va_up cn to (nI (n r)), va_up cc to (va_cpy τ (fil (cc to) 0 40 (nI 0)) 0 0 (n r)), di, dr, df, li, la, sf, sl)) (r := r) (u := to) (m := n r) (p := p) (R := R) (x4 := nI 0) hM hb hr6 hto6 hw2 q5 hR7 (fun μ y hy1 hy2 => ?_) (n r) 0 (e 71) (by omega) (fun i hi => absurd hi (by omega)) hp (by rw [Nat.sub_zero]; exact hz)
        · rw [up_id (rfl : e 71 = e 71)] at this
          exact this
        · have H0 : RL t z s v (va_up g 31 τ) w q ct cn cc di dr df li la sf sl a b (va_up e 71 μ) o B n P N W K O T J l Ds Dr Df Dp KB := H
          refine okm (rl_inv (rl_rows H0 (ic_row H0.2.1 hto6 q4 (fun j hj => ?_) (fun j hj => hy2 j hj))))
          rw [hy1 j hj]
          unfold va_cpy
          rw [if_pos (by omega), show 0 + (j - 0) = j by omega]
          exact (hτ j hj).symm
end

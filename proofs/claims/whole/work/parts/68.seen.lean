/-! telling places apart: the model -/
theorem stp_0 (L : Nat → Nat → Nat) (v : Nat) : stp L 0 v = 0 :=
  foldu_inv (F := stpF L 0 v) (fun _ r => r = 0) 7 0 0 rfl (fun p x _ _ h => by
    show stpF L 0 v p x = 0
    unfold stpF
    rw [if_neg (by simp)]
    exact h)
theorem rnw_0 (L : Nat → Nat → Nat) : ∀ (k x : Nat), rnw L 0 k x = 0 := by
  intro k
  induction k with
  | zero => intro x; rfl
  | succ k ih =>
    intro x
    show stp L (rnw L 0 k (x / 10)) (x % 10) = 0
    rw [ih, stp_0]
def prw (A B : Nat) : Nat := A * 2 ^ 7 ||| B
theorem prw_add {A B : Nat} (hB : B < 128) : prw A B = A * 128 + B := by
  have := Nat.two_pow_add_eq_or_of_lt (i := 7) hB A
  unfold prw
  rw [Nat.mul_comm]
  exact this.symm
theorem prw_hi {A B : Nat} (hB : B < 128) : prw A B / 128 = A := by rw [prw_add hB]; omega
theorem prw_lo {A B : Nat} (hB : B < 128) : prw A B &&& 127 = B := by
  rw [show 127 = 2 ^ 7 - 1 from rfl, Nat.and_two_pow_sub_one_eq_mod, prw_add hB]
  show (A * 128 + B) % 128 = B
  omega
theorem prw_lt {A B : Nat} (hA : A < 128) (hB : B < 128) : prw A B < 16384 := by rw [prw_add hB]; omega
def NX (L : Nat → Nat → Nat) (P : Nat) (γ : Nat → Int32) : Prop := ∀ S v, S < 2 ^ P → v < 10 → γ (10 * S + v) = nI (stp L S v)
/-- what the model holds of the line -/
def MS (L : Nat → Nat → Nat) (S T n : Nat) (M Y : Nat → Nat) (i c P mk : Nat) (a30 : Int32) (e84 e85 : Nat → Int32) : Prop :=
  WK L S T n M Y i c ∧ a30 = nI mk ∧ (∀ w, w < 16384 → (e84 w = nI mk ↔ ∃ j, j < n ∧ prw (rnw L S (M j) (Y j)) (rnw L T (M j) (Y j)) = w)) ∧ (∀ w, w < 16384 → ∃ v, v ≤ mk ∧ e84 w = nI v) ∧ cnt (fun w => decide (e84 w = nI mk)) 16384 = n ∧
  ∀ j, j < n → e85 j = nI (prw (rnw L S (M j) (Y j)) (rnw L T (M j) (Y j))) ∧ rnw L S (M j) (Y j) < 2 ^ P ∧ rnw L T (M j) (Y j) < 2 ^ P
theorem ms_room {e84 : Nat → Int32} {n mk w : Nat} (h : cnt (fun w => decide (e84 w = nI mk)) 16384 = n) (hw : w < 16384) (hn : ¬ e84 w = nI mk) : n < 16384 := by
  have h1 := cnt_ins (S := fun w => decide (e84 w = nI mk)) (q := w) (by simpa using hn) 16384
  rw [if_pos hw, h] at h1
  have := cnt_le (va_up (fun w => decide (e84 w = nI mk)) w true) 16384
  omega
theorem ms_add {L : Nat → Nat → Nat} {S T n i c P mk A B : Nat} {M Y : Nat → Nat} {a30 : Int32} {e84 e85 : Nat → Int32} (H : MS L S T n M Y i c P mk a30 e84 e85) (hP : P ≤ 7) (hi : i < n) (hc : c < 10) (hs : sam L S T (M i + 1) (10 * Y i + c)) (eA : stp L (rnw L S (M i) (Y i)) c = A) (eB : stp L (rnw L T (M i) (Y i)) c = B) (hA : A < 2 ^ P) (hB : B < 2 ^ P) (hw : ¬ e84 (prw A B) = nI mk) : MS L S T (n + 1) (va_up M n (M i + 1)) (va_up Y n (10 * Y i + c)) i (c + 1) P mk a30 (upd e84 (prw A B) (nI mk)) (upd e85 n (nI (prw A B))) := by
  obtain ⟨h1, h2, h3, h4, h5, h6⟩ := H
  have h7 := pow_le7 hP
  have hw2 : prw A B < 16384 := prw_lt (by omega) (by omega)
  have d1 := rnw_dig L S (M i) (Y i) c hc
  have d2 := rnw_dig L T (M i) (Y i) c hc
  rw [eA] at d1
  rw [eB] at d2
  refine ⟨wk_add h1 hi hc hs, h2, fun w hlt => ?_, fun w hlt => ?_, ?_, fun j hj => ?_⟩
  · by_cases hww : w = prw A B
    · subst hww
      rw [ud_s]
      refine iff_of_true rfl ⟨n, by omega, ?_⟩
      rw [up_s, up_s, d1, d2]
    · rw [ud_n _ _ hww, h3 w hlt]
      constructor
      · rintro ⟨j, g1, g2⟩
        exact ⟨j, by omega, by rw [up_n _ _ (by omega), up_n _ _ (by omega)]; exact g2⟩
      · rintro ⟨j, g1, g2⟩
        by_cases hjn : j = n
        · subst hjn
          rw [up_s, up_s, d1, d2] at g2
          exact absurd g2.symm hww
        · rw [up_n _ _ hjn, up_n _ _ hjn] at g2
          exact ⟨j, by omega, g2⟩
  · by_cases hww : w = prw A B
    · subst hww; exact ⟨mk, Nat.le_refl _, ud_s _ _ _⟩
    · rw [ud_n _ _ hww]; exact h4 w hlt
  · have e : (fun w => decide (upd e84 (prw A B) (nI mk) w = nI mk)) = va_up (fun w => decide (e84 w = nI mk)) (prw A B) true := by
      funext w
      by_cases hww : w = prw A B
      · subst hww; rw [ud_s, up_s]; simp
      · rw [ud_n _ _ hww, up_n _ _ hww]
    rw [e, cnt_ins (by simpa using hw), if_pos hw2, h5]
  · by_cases hjn : j = n
    · subst hjn
      rw [ud_s, up_s, up_s, d1, d2]
      exact ⟨rfl, hA, hB⟩
    · rw [ud_n _ _ hjn, up_n _ _ hjn, up_n _ _ hjn]; exact h6 j (by omega)
section
variable {d : Nat} {z : AZ} {f : AH} {Q : Option Value → AZ → AH → Prop} {X : Nat × (Nat → Int32)} {C : CT} {a : Nat → Int32} {b : Nat → Int64} {e : Nat → Nat → Int32} {o : Nat → Nat → Int64} {P N W : Nat} {K O T J : Nat → Nat}
theorem lp_nx2 {S : Nat} (h : MLn a (e 74) P N W K O T J) (hb : LB P N W K O T J) (hS : S < 128) : ∀ (j v : Nat) (γ : Nat → Int32), v + j = 10 → (∀ w, w < v → γ (10 * S + w) = nI (stp (lds N (fe W K J) K O T) S w)) → (∀ γ', (∀ w, w < 10 → γ' (10 * S + w) = nI (stp (lds N (fe W K J) K O T) S w)) → (∀ i, i < 10 * S → γ' i = γ i) → Wp (d + 3) 1064 2 [some (.ref 67), some (.int (nI (S + 1)))] [] z (Hp X C (a, b, va_up e 83 γ', o)) Q) → Wp (d + 3) 1064 12 [some (.ref 67), some (.int (nI S)), some (.int (nI v))] [] z (Hp X C (a, b, va_up e 83 γ, o)) Q := by
  intro j
  induction j with
  | zero =>
    intro v γ hv hγ hQ
    have hv : v = 10 := by omega
    subst hv
    rw [W1064_12]
    simp (disch := omega) only [W1064, s_0, ci_0, r_5, r_2, r_Li, r_4, r_La, h79_1060, r_50, ci_9, h60_10_27, ci_10, r_12, r_10, h79_1056, s_8, r_In, ci_1, r_52, r_93, h65_83, enR, LG, LSt, LC, nlR, psR, TK, up_s, up_n, up_u, lt_nI, le_nI, eq_nI, true_and, and_true, if_true, if_false, Nat.zero_add, Nat.add_zero, nI_add, ↓reduceIte, Nat.reduceAdd, Nat.reduceMul, Nat.reduceSub, Nat.reduceLT, Nat.reduceLeDiff, Nat.reduceEqDiff, Nat.not_lt_zero, Nat.lt_irrefl, decide_true, BEq.rfl, nm1, nm2, nm3, nm4, nm9, ngc, eq_self, List.length_cons, List.length_nil]
    exact hQ γ hγ (fun _ _ => rfl)
  | succ j ih =>
    intro v γ hv hγ hQ
    have h1 : ¬ 9 < v := by omega
    have h2 : v < 10 := by omega
    rw [W1064_12]
    simp (disch := omega) only [W1064, s_0, ci_0, r_5, r_2, r_Li, r_4, r_La, h79_1060, r_50, ci_9, h60_10_27, ci_10, r_12, r_10, h79_1056, s_8, r_In, ci_1, r_52, r_93, h65_83, enR, LG, LSt, LC, nlR, psR, TK, up_s, up_n, up_u, lt_nI, le_nI, eq_nI, true_and, and_true, if_true, if_false, Nat.zero_add, Nat.add_zero, nI_add, ↓reduceIte, Nat.reduceAdd, Nat.reduceMul, Nat.reduceSub, Nat.reduceLT, Nat.reduceLeDiff, Nat.reduceEqDiff, Nat.not_lt_zero, Nat.lt_irrefl, decide_true, BEq.rfl, nm1, nm2, nm3, nm4, nm9, ngc, eq_self, List.length_cons, List.length_nil, h1, m_stepSet (e := va_up e 83 γ) h hb (show S < 65536 by omega) (show v < 65536 by omega), nI_mul]
    refine ih (v + 1) _ (by omega) (fun w hw => ?_) (fun γ' g1 g2 => hQ γ' g1 (fun i hi => ?_))
    · by_cases hwv : w = v
      · subst hwv; rw [ud_s]
      · rw [ud_n _ _ (by omega)]; exact hγ w (by omega)
    · rw [g2 i hi, ud_n _ _ (by omega)]
theorem lp_nx (h : MLn a (e 74) P N W K O T J) (hb : LB P N W K O T J) (hQ : ∀ γ, NX (lds N (fe W K J) K O T) P γ → Q none z (Hp X C (a, b, va_up e 83 γ, o))) : ∀ (j S : Nat) (γ : Nat → Int32), S + j = 2 ^ P → (∀ S' v, S' < S → v < 10 → γ (10 * S' + v) = nI (stp (lds N (fe W K J) K O T) S' v)) → Wp (d + 3) 1064 2 [some (.ref 67), some (.int (nI S))] [] z (Hp X C (a, b, va_up e 83 γ, o)) Q := by
  have hP := hb.1
  have h7 := pow_le7 hP
  have h2 := Nat.two_pow_pos P
  intro j
  induction j with
  | zero =>
    intro S γ hS hγ
    have h3 : 2 ^ P - 1 < S := by omega
    rw [W1064_2]
    simp (disch := omega) only [W1064, s_0, ci_0, r_5, r_2, r_Li, r_4, r_La, h79_1060, r_50, ci_9, h60_10_27, ci_10, r_12, r_10, h79_1056, s_8, r_In, ci_1, r_52, r_93, h65_83, enR, LG, LSt, LC, nlR, psR, TK, up_s, up_n, up_u, lt_nI, le_nI, eq_nI, true_and, and_true, if_true, if_false, Nat.zero_add, Nat.add_zero, nI_add, ↓reduceIte, Nat.reduceAdd, Nat.reduceMul, Nat.reduceSub, Nat.reduceLT, Nat.reduceLeDiff, Nat.reduceEqDiff, Nat.not_lt_zero, Nat.lt_irrefl, decide_true, BEq.rfl, nm1, nm2, nm3, nm4, nm9, ngc, eq_self, List.length_cons, List.length_nil, m_all (e := va_up e 83 γ) h hP, h3]
    exact hQ γ (fun S' v g1 g2 => hγ S' v (by omega) g2)
  | succ j ih =>
    intro S γ hS hγ
    have h3 : ¬ 2 ^ P - 1 < S := by omega
    rw [W1064_2]
    simp (disch := omega) only [W1064, s_0, ci_0, r_5, r_2, r_Li, r_4, r_La, h79_1060, r_50, ci_9, h60_10_27, ci_10, r_12, r_10, h79_1056, s_8, r_In, ci_1, r_52, r_93, h65_83, enR, LG, LSt, LC, nlR, psR, TK, up_s, up_n, up_u, lt_nI, le_nI, eq_nI, true_and, and_true, if_true, if_false, Nat.zero_add, Nat.add_zero, nI_add, ↓reduceIte, Nat.reduceAdd, Nat.reduceMul, Nat.reduceSub, Nat.reduceLT, Nat.reduceLeDiff, Nat.reduceEqDiff, Nat.not_lt_zero, Nat.lt_irrefl, decide_true, BEq.rfl, nm1, nm2, nm3, nm4, nm9, ngc, eq_self, List.length_cons, List.length_nil, m_all (e := va_up e 83 γ) h hP, h3]
    refine lp_nx2 h hb (by omega) 10 0 γ (by omega) (fun w hw => absurd hw (by omega)) (fun γ' g1 g2 => ?_)
    refine ih (S + 1) γ' (by omega) (fun S' v k1 k2 => ?_)
    by_cases hSS : S' = S
    · subst hSS; exact g1 v k2
    · rw [g2 _ (by omega)]; exact hγ S' v (by omega) k2
theorem m_setNext (h : MLn a (e 74) P N W K O T J) (hb : LB P N W K O T J) (hQ : ∀ γ, NX (lds N (fe W K J) K O T) P γ → Q none z (Hp X C (a, b, va_up e 83 γ, o))) : Cw (d + 4) 1064 [.ref 67] z (Hp X C (a, b, e, o)) Q := by
  rw [cw_wp]
  simp (disch := omega) only [W1064, s_0, ci_0, r_5, r_2, r_Li, r_4, r_La, h79_1060, r_50, ci_9, h60_10_27, ci_10, r_12, r_10, h79_1056, s_8, r_In, ci_1, r_52, r_93, h65_83, enR, LG, LSt, LC, nlR, psR, TK, up_s, up_n, up_u, lt_nI, le_nI, eq_nI, true_and, and_true, if_true, if_false, Nat.zero_add, Nat.add_zero, nI_add, ↓reduceIte, Nat.reduceAdd, Nat.reduceMul, Nat.reduceSub, Nat.reduceLT, Nat.reduceLeDiff, Nat.reduceEqDiff, Nat.not_lt_zero, Nat.lt_irrefl, decide_true, BEq.rfl, nm1, nm2, nm3, nm4, nm9, ngc, eq_self, List.length_cons, List.length_nil]
  have := lp_nx (d := d) h hb hQ (2 ^ P) 0 (e 83) (by omega) (fun S' v h => absurd h (by omega))
  rw [up_id (rfl : e 83 = e 83)] at this
  exact this
def FRa (a a' : Nat → Int32) : Prop := ∀ k, k ≠ 30 → k ≠ 31 → a' k = a k
def FRe (e e' : Nat → Nat → Int32) : Prop := ∀ k, k ≠ 84 → k ≠ 85 → e' k = e k
theorem lp_ap82 {L : Nat → Nat → Nat} {S T i lev en mk p0 q0 : Nat} (hP7 : P ≤ 7) (hmk : mk < 2147483648) (hp0 : p0 < 7) (hq0 : q0 < 7) (hNX : NX L P (e 83)) (hst : ∀ S v, stp L S v < 2 ^ P)
    (hP : ∀ (a' : Nat → Int32) (e' : Nat → Nat → Int32) (m y : Nat), FRa a a' → FRe e e' → (∀ w, w < 16384 → ∃ v, v ≤ mk ∧ e' 84 w = nI v) → Tres L S T (some (m, y)) → m = lev → m ≤ 16384 → a' 30 = nI mk → a' 31 = nI (if rnw L S m y = 0 then q0 else p0) → Q (some (.int (nI lev))) z (Hp X C (a', b, e', o)))
    (hQ : ∀ (a' : Nat → Int32) (e' : Nat → Nat → Int32) (n : Nat) (M Y : Nat → Nat), FRa a a' → FRe e e' → MS L S T n M Y i 10 P mk (a' 30) (e' 84) (e' 85) → LV n M i lev en → Wp d 1065 60 [some (.ref 67), some (.int (nI p0)), some (.int (nI q0)), some (.int (nI n)), some (.int (nI (i + 1))), some (.int (nI lev)), some (.int (nI en))] [] z (Hp X C (a', b, e', o)) Q) :
    ∀ (j y : Nat) (a' : Nat → Int32) (e' : Nat → Nat → Int32) (n : Nat) (M Y : Nat → Nat), y + j = 10 → FRa a a' → FRe e e' → MS L S T n M Y i y P mk (a' 30) (e' 84) (e' 85) → LV n M i lev en → i < en → Wp d 1065 82 [some (.ref 67), some (.int (nI p0)), some (.int (nI q0)), some (.int (nI n)), some (.int (nI (i + 1))), some (.int (nI lev)), some (.int (nI en)), some (.int (nI (prw (rnw L S (M i) (Y i)) (rnw L T (M i) (Y i))))), some (.int (nI y))] [] z (Hp X C (a', b, e', o)) Q := by
  have h7 := pow_le7 hP7
  intro j
  induction j with
  | zero =>
    intro y a' e' n M Y hy ha he hMS hLV hen
    have hy : y = 10 := by omega
    subst hy
    rw [W1065_82]
    simp (disch := omega) only [W1065, r_4, r_La, r_30, r_30r, h60_10_30, s_0, ci_1, r_10, h61_10_30, r_5, ci_0, h60_10_29, ci_128, r_2, r_Li, r_18, r_16, h60_10_28, r_49, s_8, r_In, ci_9, r_50, h60_10_27, ci_10, ci_7, r_19, r_12, ci_127, r_15, s_41, r_52, r_46, h61_10_31, r_90, s_40, ci_m9, h64_83, h65_83, h64_84, h65_84, h64_85, h65_85, enR, LG, LSt, LC, nlR, psR, TK, up_s, up_n, up_u, lt_nI, le_nI, eq_nI, true_and, and_true, if_true, if_false, Nat.zero_add, Nat.add_zero, nI_add, ↓reduceIte, Nat.reduceAdd, Nat.reduceMul, Nat.reduceSub, Nat.reduceLT, Nat.reduceLeDiff, Nat.reduceEqDiff, Nat.not_lt_zero, Nat.lt_irrefl, decide_true, BEq.rfl, nm1, nm2, nm3, nm4, nm9, ngc, eq_self, List.length_cons, List.length_nil]
    exact hQ a' e' n M Y ha he hMS hLV
  | succ j ih =>
    intro y a' e' n M Y hy ha he hMS hLV hen
    have hy10 : y < 10 := by omega
    have hy9 : ¬ 9 < y := by omega
    obtain ⟨hW, h30, hse, hsv, hcn, hln⟩ := id hMS
    have hi : i < n := by have := hLV.2.1; omega
    have hn16 : n ≤ 16384 := by rw [← hcn]; exact cnt_le _ _
    obtain ⟨-, a1, a2⟩ := hln i hi
    have e83 : e' 83 = e 83 := he 83 (by decide) (by decide)
    have n1 : e' 83 (10 * rnw L S (M i) (Y i) + y) = nI (stp L (rnw L S (M i) (Y i)) y) := by rw [e83]; exact hNX _ _ a1 hy10
    have n2 : e' 83 (10 * rnw L T (M i) (Y i) + y) = nI (stp L (rnw L T (M i) (Y i)) y) := by rw [e83]; exact hNX _ _ a2 hy10
    have b1 := hst (rnw L S (M i) (Y i)) y
    have b2 := hst (rnw L T (M i) (Y i)) y
    have d1 := rnw_dig L S (M i) (Y i) y hy10
    have d2 := rnw_dig L T (M i) (Y i) y hy10
    have hlev : M i + 1 = lev := hLV.2.2.1 i (Nat.le_refl _) hen
    have hMi := (hW.2.1 i hi).2
    have hpw : prw (rnw L S (M i) (Y i)) (rnw L T (M i) (Y i)) < 16384 := prw_lt (by omega) (by omega)
    have p1 : prw (rnw L S (M i) (Y i)) (rnw L T (M i) (Y i)) / 2 ^ 7 = rnw L S (M i) (Y i) := prw_hi (by omega)
    have p2 : prw (rnw L S (M i) (Y i)) (rnw L T (M i) (Y i)) &&& 127 = rnw L T (M i) (Y i) := prw_lo (by omega)
    have hi2 : i < 16384 := by omega
    rw [W1065_82]
    by_cases z1 : stp L (rnw L S (M i) (Y i)) y = 0
    · by_cases z2 : stp L (rnw L T (M i) (Y i)) y = 0
      · have hsam : sam L S T (M i + 1) (10 * Y i + y) := by unfold sam; rw [d1, d2]; exact iff_of_true z1 z2
        rw [z1] at n1
        rw [z2] at n2
        simp (disch := omega) only [W1065, r_4, r_La, r_30, r_30r, h60_10_30, s_0, ci_1, r_10, h61_10_30, r_5, ci_0, h60_10_29, ci_128, r_2, r_Li, r_18, r_16, h60_10_28, r_49, s_8, r_In, ci_9, r_50, h60_10_27, ci_10, ci_7, r_19, r_12, ci_127, r_15, s_41, r_52, r_46, h61_10_31, r_90, s_40, ci_m9, h64_83, h65_83, h64_84, h65_84, h64_85, h65_85, enR, LG, LSt, LC, nlR, psR, TK, up_s, up_n, up_u, lt_nI, le_nI, eq_nI, true_and, and_true, if_true, if_false, Nat.zero_add, Nat.add_zero, nI_add, ↓reduceIte, Nat.reduceAdd, Nat.reduceMul, Nat.reduceSub, Nat.reduceLT, Nat.reduceLeDiff, Nat.reduceEqDiff, Nat.not_lt_zero, Nat.lt_irrefl, decide_true, BEq.rfl, nm1, nm2, nm3, nm4, nm9, ngc, eq_self, List.length_cons, List.length_nil, hy9, nI_shr, nI_and, nI_mul, p1, p2, n1, n2, nI_shl, nI_or, Nat.zero_mul, Nat.or_self]
        refine ih (y + 1) a' e' n M Y (by omega) ha he ⟨wk_skip hW hi hy10 hsam (fun k x _ hn2 => ?_), h30, hse, hsv, hcn, hln⟩ hLV hen
        rw [z1, z2] at hn2
        exact absurd Iff.rfl hn2
      · simp (disch := omega) only [W1065, r_4, r_La, r_30, r_30r, h60_10_30, s_0, ci_1, r_10, h61_10_30, r_5, ci_0, h60_10_29, ci_128, r_2, r_Li, r_18, r_16, h60_10_28, r_49, s_8, r_In, ci_9, r_50, h60_10_27, ci_10, ci_7, r_19, r_12, ci_127, r_15, s_41, r_52, r_46, h61_10_31, r_90, s_40, ci_m9, h64_83, h65_83, h64_84, h65_84, h64_85, h65_85, enR, LG, LSt, LC, nlR, psR, TK, up_s, up_n, up_u, lt_nI, le_nI, eq_nI, true_and, and_true, if_true, if_false, Nat.zero_add, Nat.add_zero, nI_add, ↓reduceIte, Nat.reduceAdd, Nat.reduceMul, Nat.reduceSub, Nat.reduceLT, Nat.reduceLeDiff, Nat.reduceEqDiff, Nat.not_lt_zero, Nat.lt_irrefl, decide_true, BEq.rfl, nm1, nm2, nm3, nm4, nm9, ngc, eq_self, List.length_cons, List.length_nil, hy9, nI_shr, nI_and, nI_mul, p1, p2, n1, n2, z1, z2]
        refine hP _ e' (M i + 1) (10 * Y i + y) (fun k k1 k2 => ?_) he hsv (wk_part hW hi hy10 (fun hh => ?_)) hlev (by omega) ?_ ?_
        · rw [up_n _ _ k2]; exact ha k k1 k2
        · unfold sam at hh; rw [d1, d2] at hh; exact z2 (hh.mp z1)
        · exact h30
        · rw [d1, if_pos z1]; exact up_s _ _ _
    · by_cases z2 : stp L (rnw L T (M i) (Y i)) y = 0
      · simp (disch := omega) only [W1065, r_4, r_La, r_30, r_30r, h60_10_30, s_0, ci_1, r_10, h61_10_30, r_5, ci_0, h60_10_29, ci_128, r_2, r_Li, r_18, r_16, h60_10_28, r_49, s_8, r_In, ci_9, r_50, h60_10_27, ci_10, ci_7, r_19, r_12, ci_127, r_15, s_41, r_52, r_46, h61_10_31, r_90, s_40, ci_m9, h64_83, h65_83, h64_84, h65_84, h64_85, h65_85, enR, LG, LSt, LC, nlR, psR, TK, up_s, up_n, up_u, lt_nI, le_nI, eq_nI, true_and, and_true, if_true, if_false, Nat.zero_add, Nat.add_zero, nI_add, ↓reduceIte, Nat.reduceAdd, Nat.reduceMul, Nat.reduceSub, Nat.reduceLT, Nat.reduceLeDiff, Nat.reduceEqDiff, Nat.not_lt_zero, Nat.lt_irrefl, decide_true, BEq.rfl, nm1, nm2, nm3, nm4, nm9, ngc, eq_self, List.length_cons, List.length_nil, hy9, nI_shr, nI_and, nI_mul, p1, p2, n1, n2, z1, z2]
        refine hP _ e' (M i + 1) (10 * Y i + y) (fun k k1 k2 => ?_) he hsv (wk_part hW hi hy10 (fun hh => ?_)) hlev (by omega) ?_ ?_
        · rw [up_n _ _ k2]; exact ha k k1 k2
        · unfold sam at hh; rw [d1, d2] at hh; exact z1 (hh.mpr z2)
        · exact h30
        · rw [d1, if_neg z1]; exact up_s _ _ _
      · have hsam : sam L S T (M i + 1) (10 * Y i + y) := by unfold sam; rw [d1, d2]; exact iff_of_false z1 z2
        have ew : stp L (rnw L S (M i) (Y i)) y * 2 ^ 7 ||| stp L (rnw L T (M i) (Y i)) y = prw (stp L (rnw L S (M i) (Y i)) y) (stp L (rnw L T (M i) (Y i)) y) := rfl
        have hw := prw_lt (A := stp L (rnw L S (M i) (Y i)) y) (B := stp L (rnw L T (M i) (Y i)) y) (by omega) (by omega)
        have hw0 : prw (stp L (rnw L S (M i) (Y i)) y) (stp L (rnw L T (M i) (Y i)) y) ≠ 0 := by rw [prw_add (by omega)]; omega
        by_cases hseen : e' 84 (prw (stp L (rnw L S (M i) (Y i)) y) (stp L (rnw L T (M i) (Y i)) y)) = nI mk
        · simp (disch := omega) only [W1065, r_4, r_La, r_30, r_30r, h60_10_30, s_0, ci_1, r_10, h61_10_30, r_5, ci_0, h60_10_29, ci_128, r_2, r_Li, r_18, r_16, h60_10_28, r_49, s_8, r_In, ci_9, r_50, h60_10_27, ci_10, ci_7, r_19, r_12, ci_127, r_15, s_41, r_52, r_46, h61_10_31, r_90, s_40, ci_m9, h64_83, h65_83, h64_84, h65_84, h64_85, h65_85, enR, LG, LSt, LC, nlR, psR, TK, up_s, up_n, up_u, lt_nI, le_nI, eq_nI, true_and, and_true, if_true, if_false, Nat.zero_add, Nat.add_zero, nI_add, ↓reduceIte, Nat.reduceAdd, Nat.reduceMul, Nat.reduceSub, Nat.reduceLT, Nat.reduceLeDiff, Nat.reduceEqDiff, Nat.not_lt_zero, Nat.lt_irrefl, decide_true, BEq.rfl, nm1, nm2, nm3, nm4, nm9, ngc, eq_self, List.length_cons, List.length_nil, hy9, nI_shr, nI_and, nI_mul, p1, p2, n1, n2, z1, z2, nI_shl, nI_or, h30, ew, hw, hw0, hseen]
          refine ih (y + 1) a' e' n M Y (by omega) ha he ⟨wk_skip hW hi hy10 hsam (fun k x _ hn2 => ?_), h30, hse, hsv, hcn, hln⟩ hLV hen
          obtain ⟨j', g1, g2⟩ := (hse _ hw).mp hseen
          obtain ⟨-, g3, g4⟩ := hln j' g1
          have f1 : rnw L S (M j') (Y j') = stp L (rnw L S (M i) (Y i)) y := by
            rw [← prw_hi (A := rnw L S (M j') (Y j')) (B := rnw L T (M j') (Y j')) (by omega), g2, prw_hi (by omega)]
          have f2 : rnw L T (M j') (Y j') = stp L (rnw L T (M i) (Y i)) y := by
            rw [← prw_lo (A := rnw L S (M j') (Y j')) (B := rnw L T (M j') (Y j')) (by omega), g2, prw_lo (by omega)]
          exact ⟨j', g1, by rw [f1, f2]; exact hn2⟩
        · have hroom := ms_room hcn hw hseen
          simp (disch := omega) only [W1065, r_4, r_La, r_30, r_30r, h60_10_30, s_0, ci_1, r_10, h61_10_30, r_5, ci_0, h60_10_29, ci_128, r_2, r_Li, r_18, r_16, h60_10_28, r_49, s_8, r_In, ci_9, r_50, h60_10_27, ci_10, ci_7, r_19, r_12, ci_127, r_15, s_41, r_52, r_46, h61_10_31, r_90, s_40, ci_m9, h64_83, h65_83, h64_84, h65_84, h64_85, h65_85, enR, LG, LSt, LC, nlR, psR, TK, up_s, up_n, up_u, lt_nI, le_nI, eq_nI, true_and, and_true, if_true, if_false, Nat.zero_add, Nat.add_zero, nI_add, ↓reduceIte, Nat.reduceAdd, Nat.reduceMul, Nat.reduceSub, Nat.reduceLT, Nat.reduceLeDiff, Nat.reduceEqDiff, Nat.not_lt_zero, Nat.lt_irrefl, decide_true, BEq.rfl, nm1, nm2, nm3, nm4, nm9, ngc, eq_self, List.length_cons, List.length_nil, hy9, nI_shr, nI_and, nI_mul, p1, p2, n1, n2, z1, z2, nI_shl, nI_or, h30, ew, hw, hw0, hseen]
          have hcur : prw (rnw L S (va_up M n (M i + 1) i) (va_up Y n (10 * Y i + y) i)) (rnw L T (va_up M n (M i + 1) i) (va_up Y n (10 * Y i + y) i)) = prw (rnw L S (M i) (Y i)) (rnw L T (M i) (Y i)) := by
            rw [up_n _ _ (by omega), up_n _ _ (by omega)]
          rw [← hcur]
          refine ih (y + 1) a' _ (n + 1) (va_up M n (M i + 1)) (va_up Y n (10 * Y i + y)) (by omega) ha (fun k k1 k2 => ?_) (ms_add hMS hP7 hi hy10 hsam rfl rfl b1 b2 hseen) (lv_add hLV hen) hen
          rw [up_n _ _ k2, up_n _ _ k1]; exact he k k1 k2
theorem lp_ap60 {L : Nat → Nat → Nat} {S T mk p0 q0 : Nat} (hP7 : P ≤ 7) (hmk : mk < 2147483648) (hp0 : p0 < 7) (hq0 : q0 < 7) (hNX : NX L P (e 83)) (hst : ∀ S v, stp L S v < 2 ^ P)
    (hQ : ∀ (a' : Nat → Int32) (e' : Nat → Nat → Int32) (out : Option (Nat × Nat)), FRa a a' → FRe e e' → (∀ w, w < 16384 → ∃ v, v ≤ mk ∧ e' 84 w = nI v) → Tres L S T out → a' 30 = nI mk → (∀ m y, out = some (m, y) → m ≤ 16384 ∧ a' 31 = nI (if rnw L S m y = 0 then q0 else p0)) → Q (some (.int (tdo out))) z (Hp X C (a', b, e', o))) :
    ∀ (j i lev en : Nat) (a' : Nat → Int32) (e' : Nat → Nat → Int32) (n : Nat) (M Y : Nat → Nat), i + j = 16385 → i ≤ n → FRa a a' → FRe e e' → MS L S T n M Y i 0 P mk (a' 30) (e' 84) (e' 85) → LV n M i lev en → Wp d 1065 60 [some (.ref 67), some (.int (nI p0)), some (.int (nI q0)), some (.int (nI n)), some (.int (nI i)), some (.int (nI lev)), some (.int (nI en))] [] z (Hp X C (a', b, e', o)) Q := by
  intro j
  induction j with
  | zero =>
    intro i lev en a' e' n M Y hj hin ha he hMS hLV
    have hn16 : n ≤ 16384 := by rw [← hMS.2.2.2.2.1]; exact cnt_le _ _
    omega
  | succ j ih =>
    intro i lev en a' e' n M Y hj hin ha he hMS hLV
    have hn16 : n ≤ 16384 := by rw [← hMS.2.2.2.2.1]; exact cnt_le _ _
    have hen := hLV.2.1
    have hie := hLV.1
    have hgo : ∀ lev en, LV n M i lev en → i < en → Wp d 1065 60 [some (.ref 67), some (.int (nI p0)), some (.int (nI q0)), some (.int (nI n)), some (.int (nI i)), some (.int (nI lev)), some (.int (nI en))] [] z (Hp X C (a', b, e', o)) Q := by
      intro lev en hLV2 hien
      have hen2 := hLV2.2.1
      obtain ⟨e85, a1, a2⟩ := hMS.2.2.2.2.2 i (by omega)
      have hi16 : i < 16384 := by omega
      rw [W1065_60]
      simp (disch := omega) only [W1065, r_4, r_La, r_30, r_30r, h60_10_30, s_0, ci_1, r_10, h61_10_30, r_5, ci_0, h60_10_29, ci_128, r_2, r_Li, r_18, r_16, h60_10_28, r_49, s_8, r_In, ci_9, r_50, h60_10_27, ci_10, ci_7, r_19, r_12, ci_127, r_15, s_41, r_52, r_46, h61_10_31, r_90, s_40, ci_m9, h64_83, h65_83, h64_84, h65_84, h64_85, h65_85, enR, LG, LSt, LC, nlR, psR, TK, up_s, up_n, up_u, lt_nI, le_nI, eq_nI, true_and, and_true, if_true, if_false, Nat.zero_add, Nat.add_zero, nI_add, ↓reduceIte, Nat.reduceAdd, Nat.reduceMul, Nat.reduceSub, Nat.reduceLT, Nat.reduceLeDiff, Nat.reduceEqDiff, Nat.not_lt_zero, Nat.lt_irrefl, decide_true, BEq.rfl, nm1, nm2, nm3, nm4, nm9, ngc, eq_self, List.length_cons, List.length_nil, hien, hi16, e85]
      refine lp_ap82 (S := S) (T := T) hP7 hmk hp0 hq0 hNX hst (fun a2 e2 m y f1 f2 f3 f4 f5 f6 f7 f8 => ?_) (fun a2 e2 n2 M2 Y2 f1 f2 f3 f4 => ?_) 10 0 a' e' n M Y (by omega) ha he hMS hLV2 hien
      · rw [← f5]
        exact hQ a2 e2 (some (m, y)) f1 f2 f3 f4 f7 (fun m' y' hh => by
          cases hh
          exact ⟨f6, f8⟩)
      · have hi2 : i < n2 := by have := f4.2.1; omega
        exact ih (i + 1) lev en a2 e2 n2 M2 Y2 (by omega) (by omega) f1 f2 ⟨wk_next f3.1 hi2, f3.2⟩ (lv_next f4 hien)
    by_cases hien : i < en
    · exact hgo lev en hLV hien
    · have he2 : en = i := by omega
      subst he2
      rw [W1065_60]
      by_cases hi : en < n
      · simp (disch := omega) only [W1065, r_4, r_La, r_30, r_30r, h60_10_30, s_0, ci_1, r_10, h61_10_30, r_5, ci_0, h60_10_29, ci_128, r_2, r_Li, r_18, r_16, h60_10_28, r_49, s_8, r_In, ci_9, r_50, h60_10_27, ci_10, ci_7, r_19, r_12, ci_127, r_15, s_41, r_52, r_46, h61_10_31, r_90, s_40, ci_m9, h64_83, h65_83, h64_84, h65_84, h64_85, h65_85, enR, LG, LSt, LC, nlR, psR, TK, up_s, up_n, up_u, lt_nI, le_nI, eq_nI, true_and, and_true, if_true, if_false, Nat.zero_add, Nat.add_zero, nI_add, ↓reduceIte, Nat.reduceAdd, Nat.reduceMul, Nat.reduceSub, Nat.reduceLT, Nat.reduceLeDiff, Nat.reduceEqDiff, Nat.not_lt_zero, Nat.lt_irrefl, decide_true, BEq.rfl, nm1, nm2, nm3, nm4, nm9, ngc, eq_self, List.length_cons, List.length_nil]
        rw [W1065_48]
        simp (disch := omega) only [W1065, r_4, r_La, r_30, r_30r, h60_10_30, s_0, ci_1, r_10, h61_10_30, r_5, ci_0, h60_10_29, ci_128, r_2, r_Li, r_18, r_16, h60_10_28, r_49, s_8, r_In, ci_9, r_50, h60_10_27, ci_10, ci_7, r_19, r_12, ci_127, r_15, s_41, r_52, r_46, h61_10_31, r_90, s_40, ci_m9, h64_83, h65_83, h64_84, h65_84, h64_85, h65_85, enR, LG, LSt, LC, nlR, psR, TK, up_s, up_n, up_u, lt_nI, le_nI, eq_nI, true_and, and_true, if_true, if_false, Nat.zero_add, Nat.add_zero, nI_add, ↓reduceIte, Nat.reduceAdd, Nat.reduceMul, Nat.reduceSub, Nat.reduceLT, Nat.reduceLeDiff, Nat.reduceEqDiff, Nat.not_lt_zero, Nat.lt_irrefl, decide_true, BEq.rfl, nm1, nm2, nm3, nm4, nm9, ngc, eq_self, List.length_cons, List.length_nil, hi]
        exact hgo (lev + 1) n (lv_adv hLV) hi
      · have hn2 : en = n := by omega
        subst hn2
        simp (disch := omega) only [W1065, r_4, r_La, r_30, r_30r, h60_10_30, s_0, ci_1, r_10, h61_10_30, r_5, ci_0, h60_10_29, ci_128, r_2, r_Li, r_18, r_16, h60_10_28, r_49, s_8, r_In, ci_9, r_50, h60_10_27, ci_10, ci_7, r_19, r_12, ci_127, r_15, s_41, r_52, r_46, h61_10_31, r_90, s_40, ci_m9, h64_83, h65_83, h64_84, h65_84, h64_85, h65_85, enR, LG, LSt, LC, nlR, psR, TK, up_s, up_n, up_u, lt_nI, le_nI, eq_nI, true_and, and_true, if_true, if_false, Nat.zero_add, Nat.add_zero, nI_add, ↓reduceIte, Nat.reduceAdd, Nat.reduceMul, Nat.reduceSub, Nat.reduceLT, Nat.reduceLeDiff, Nat.reduceEqDiff, Nat.not_lt_zero, Nat.lt_irrefl, decide_true, BEq.rfl, nm1, nm2, nm3, nm4, nm9, ngc, eq_self, List.length_cons, List.length_nil]
        rw [W1065_48]
        simp (disch := omega) only [W1065, r_4, r_La, r_30, r_30r, h60_10_30, s_0, ci_1, r_10, h61_10_30, r_5, ci_0, h60_10_29, ci_128, r_2, r_Li, r_18, r_16, h60_10_28, r_49, s_8, r_In, ci_9, r_50, h60_10_27, ci_10, ci_7, r_19, r_12, ci_127, r_15, s_41, r_52, r_46, h61_10_31, r_90, s_40, ci_m9, h64_83, h65_83, h64_84, h65_84, h64_85, h65_85, enR, LG, LSt, LC, nlR, psR, TK, up_s, up_n, up_u, lt_nI, le_nI, eq_nI, true_and, and_true, if_true, if_false, Nat.zero_add, Nat.add_zero, nI_add, ↓reduceIte, Nat.reduceAdd, Nat.reduceMul, Nat.reduceSub, Nat.reduceLT, Nat.reduceLeDiff, Nat.reduceEqDiff, Nat.not_lt_zero, Nat.lt_irrefl, decide_true, BEq.rfl, nm1, nm2, nm3, nm4, nm9, ngc, eq_self, List.length_cons, List.length_nil]
        exact hQ a' e' none ha he hMS.2.2.2.1 (wk_end hMS.1) hMS.2.1 (fun m y h => absurd h (by simp))
theorem m_apartOf {L : Nat → Nat → Nat} {mk p0 q0 : Nat} (hP7 : P ≤ 7) (hmk : mk + 1 < 2147483648) (hp0 : p0 < P) (hq0 : q0 < P) (hNX : NX L P (e 83)) (hst : ∀ S v, stp L S v < 2 ^ P) (h30 : a 30 = nI mk) (h84 : ∀ w, w < 16384 → ∃ v, v ≤ mk ∧ e 84 w = nI v)
    (hQ : ∀ (a' : Nat → Int32) (e' : Nat → Nat → Int32) (out : Option (Nat × Nat)), FRa a a' → FRe e e' → (∀ w, w < 16384 → ∃ v, v ≤ mk + 1 ∧ e' 84 w = nI v) → Tres L (2 ^ p0) (2 ^ q0) out → a' 30 = nI (mk + 1) → (∀ m y, out = some (m, y) → m ≤ 16384 ∧ a' 31 = nI (if rnw L (2 ^ p0) m y = 0 then q0 else p0)) → Q (some (.int (tdo out))) z (Hp X C (a', b, e', o))) : Cw (d + 1) 1065 [.ref 67, .int (nI p0), .int (nI q0)] z (Hp X C (a, b, e, o)) Q := by
  have h7 := pow_le7 hP7
  have g1 : 2 ^ p0 < 2 ^ P := Nat.pow_lt_pow_right (by decide) hp0
  have g2 : 2 ^ q0 < 2 ^ P := Nat.pow_lt_pow_right (by decide) hq0
  have g3 := Nat.two_pow_pos p0
  have g4 := Nat.two_pow_pos q0
  have ew : 128 * 2 ^ p0 ||| 2 ^ q0 = prw (2 ^ p0) (2 ^ q0) := by
    show _ = 2 ^ p0 * 2 ^ 7 ||| 2 ^ q0
    rw [Nat.mul_comm 128]
  have hw := prw_lt (A := 2 ^ p0) (B := 2 ^ q0) (by omega) (by omega)
  rw [cw_wp]
  simp (disch := omega) only [W1065, r_4, r_La, r_30, r_30r, h60_10_30, s_0, ci_1, r_10, h61_10_30, r_5, ci_0, h60_10_29, ci_128, r_2, r_Li, r_18, r_16, h60_10_28, r_49, s_8, r_In, ci_9, r_50, h60_10_27, ci_10, ci_7, r_19, r_12, ci_127, r_15, s_41, r_52, r_46, h61_10_31, r_90, s_40, ci_m9, h64_83, h65_83, h64_84, h65_84, h64_85, h65_85, enR, LG, LSt, LC, nlR, psR, TK, up_s, up_n, up_u, lt_nI, le_nI, eq_nI, true_and, and_true, if_true, if_false, Nat.zero_add, Nat.add_zero, nI_add, ↓reduceIte, Nat.reduceAdd, Nat.reduceMul, Nat.reduceSub, Nat.reduceLT, Nat.reduceLeDiff, Nat.reduceEqDiff, Nat.not_lt_zero, Nat.lt_irrefl, decide_true, BEq.rfl, nm1, nm2, nm3, nm4, nm9, ngc, eq_self, List.length_cons, List.length_nil, h30, nI_shl, nI_or, Nat.one_mul, ew, hw, ud_s]
  rw [W1065_48]
  simp (disch := omega) only [W1065, r_4, r_La, r_30, r_30r, h60_10_30, s_0, ci_1, r_10, h61_10_30, r_5, ci_0, h60_10_29, ci_128, r_2, r_Li, r_18, r_16, h60_10_28, r_49, s_8, r_In, ci_9, r_50, h60_10_27, ci_10, ci_7, r_19, r_12, ci_127, r_15, s_41, r_52, r_46, h61_10_31, r_90, s_40, ci_m9, h64_83, h65_83, h64_84, h65_84, h64_85, h65_85, enR, LG, LSt, LC, nlR, psR, TK, up_s, up_n, up_u, lt_nI, le_nI, eq_nI, true_and, and_true, if_true, if_false, Nat.zero_add, Nat.add_zero, nI_add, ↓reduceIte, Nat.reduceAdd, Nat.reduceMul, Nat.reduceSub, Nat.reduceLT, Nat.reduceLeDiff, Nat.reduceEqDiff, Nat.not_lt_zero, Nat.lt_irrefl, decide_true, BEq.rfl, nm1, nm2, nm3, nm4, nm9, ngc, eq_self, List.length_cons, List.length_nil]
  refine lp_ap60 (S := 2 ^ p0) (T := 2 ^ q0) hP7 hmk (by omega) (by omega) hNX hst hQ 16385 0 1 1 _ _ 1 (fun _ => 0) (fun _ => 0) (by decide) (by decide) (fun k k1 k2 => up_n _ _ k1) (fun k k1 k2 => ?_) ⟨wk_start (by omega) (by omega), up_s _ _ _, fun w hlt => ?_, fun w hlt => ?_, ?_, fun j hj => ?_⟩ ⟨by decide, by decide, fun j g1 g2 => rfl, fun j g1 g2 => by omega⟩
  · rw [up_n _ _ k1, up_n _ _ k2]
  · show upd (e 84) (prw (2 ^ p0) (2 ^ q0)) (nI (mk + 1)) w = nI (mk + 1) ↔ _
    by_cases hww : w = prw (2 ^ p0) (2 ^ q0)
    · subst hww
      rw [ud_s]
      exact iff_of_true rfl ⟨0, by decide, rfl⟩
    · rw [ud_n _ _ hww]
      obtain ⟨v, v1, v2⟩ := h84 w hlt
      refine iff_of_false (fun hh => ?_) (fun hh => ?_)
      · rw [v2] at hh
        have := (nI_eq (by omega) (by omega)).mp hh
        omega
      · obtain ⟨j, -, j2⟩ := hh
        exact hww j2.symm
  · show ∃ v, v ≤ mk + 1 ∧ upd (e 84) (prw (2 ^ p0) (2 ^ q0)) (nI (mk + 1)) w = nI v
    by_cases hww : w = prw (2 ^ p0) (2 ^ q0)
    · subst hww; exact ⟨mk + 1, Nat.le_refl _, ud_s _ _ _⟩
    · rw [ud_n _ _ hww]
      obtain ⟨v, v1, v2⟩ := h84 w hlt
      exact ⟨v, by omega, v2⟩
  · have e1 : (fun w => decide (upd (e 84) (prw (2 ^ p0) (2 ^ q0)) (nI (mk + 1)) w = nI (mk + 1))) = va_up (fun w => decide (e 84 w = nI (mk + 1))) (prw (2 ^ p0) (2 ^ q0)) true := by
      funext w
      by_cases hww : w = prw (2 ^ p0) (2 ^ q0)
      · subst hww; rw [ud_s, up_s]; simp
      · rw [ud_n _ _ hww, up_n _ _ hww]
    have hno : ∀ w, w < 16384 → decide (e 84 w = nI (mk + 1)) = false := fun w hlt => by
      obtain ⟨v, v1, v2⟩ := h84 w hlt
      rw [v2]
      exact decide_eq_false (fun hh => by have := (nI_eq (by omega) (by omega)).mp hh; omega)
    show cnt (fun w => decide (upd (e 84) (prw (2 ^ p0) (2 ^ q0)) (nI (mk + 1)) w = nI (mk + 1))) 16384 = 1
    rw [e1, cnt_ins (hno _ hw), if_pos hw]
    have e2 : cnt (fun w => decide (e 84 w = nI (mk + 1))) 16384 = cnt (fun _ => false) 16384 := cnt_congr (fun w hlt => hno w hlt)
    rw [e2, cnt_ext (p := fun _ => false) (Nat.zero_le 16384) (fun _ _ => rfl)]
    rfl
  · have hj : j = 0 := by omega
    subst hj
    show upd (e 85) 0 (nI (prw (2 ^ p0) (2 ^ q0))) 0 = nI (prw (2 ^ p0) (2 ^ q0)) ∧ 2 ^ p0 < 2 ^ P ∧ 2 ^ q0 < 2 ^ P
    exact ⟨ud_s _ _ _, g1, g2⟩
end

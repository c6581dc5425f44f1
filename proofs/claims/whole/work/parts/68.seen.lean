/-! telling places apart: the model -/
theorem stp_0 (L : Nat → Nat → Nat) (v : Nat) : stp L 0 v = 0 :=
  foldu_inv (F := stpF L 0 v) (fun _ r => r = 0) 7 0 0 rfl (fun p x _ _ h => by
    show stpF L 0 v p x = 0
    unfold stpF
    rw [if_neg (by simp)]
    exact h)
theorem rnw_0 (L : Nat → Nat → Nat) : ∀ (k x : Nat), rnw L 0 k x = 0 := by
  intro k
  induction k with
  | zero => intro x; rfl
  | succ k ih =>
    intro x
    show stp L (rnw L 0 k (x / 10)) (x % 10) = 0
    rw [ih, stp_0]
def prw (A B : Nat) : Nat := A * 128 ||| B
theorem prw_add {A B : Nat} (hB : B < 128) : prw A B = A * 128 + B := by
  have := Nat.two_pow_add_eq_or_of_lt (i := 7) hB A
  unfold prw
  rw [Nat.mul_comm]
  exact this.symm
theorem prw_hi {A B : Nat} (hB : B < 128) : prw A B / 128 = A := by rw [prw_add hB]; omega
theorem prw_lo {A B : Nat} (hB : B < 128) : prw A B &&& 127 = B := by
  rw [show 127 = 2 ^ 7 - 1 from rfl, Nat.and_two_pow_sub_one_eq_mod, prw_add hB]
  show (A * 128 + B) % 128 = B
  omega
theorem prw_lt {A B : Nat} (hA : A < 128) (hB : B < 128) : prw A B < 16384 := by rw [prw_add hB]; omega
def NX (L : Nat → Nat → Nat) (P : Nat) (γ : Nat → Int32) : Prop := ∀ S v, S < 2 ^ P → v < 10 → γ (10 * S + v) = nI (stp L S v)
/-- what the model holds of the line -/
def MS (L : Nat → Nat → Nat) (S T n : Nat) (M Y : Nat → Nat) (i c P mk : Nat) (a30 : Int32) (e84 e85 : Nat → Int32) : Prop :=
  WK L S T n M Y i c ∧ a30 = nI mk ∧ (∀ w, w < 16384 → (e84 w = nI mk ↔ ∃ j, j < n ∧ prw (rnw L S (M j) (Y j)) (rnw L T (M j) (Y j)) = w)) ∧ (∀ w, w < 16384 → ∃ v, v ≤ mk ∧ e84 w = nI v) ∧ cnt (fun w => decide (e84 w = nI mk)) 16384 = n ∧
  ∀ j, j < n → e85 j = nI (prw (rnw L S (M j) (Y j)) (rnw L T (M j) (Y j))) ∧ rnw L S (M j) (Y j) < 2 ^ P ∧ rnw L T (M j) (Y j) < 2 ^ P
theorem ms_room {e84 : Nat → Int32} {n mk w : Nat} (h : cnt (fun w => decide (e84 w = nI mk)) 16384 = n) (hw : w < 16384) (hn : ¬ e84 w = nI mk) : n < 16384 := by
  have h1 := cnt_ins (S := fun w => decide (e84 w = nI mk)) (q := w) (by simpa using hn) 16384
  rw [if_pos hw, h] at h1
  have := cnt_le (va_up (fun w => decide (e84 w = nI mk)) w true) 16384
  omega
theorem ms_add {L : Nat → Nat → Nat} {S T n i c P mk A B : Nat} {M Y : Nat → Nat} {a30 : Int32} {e84 e85 : Nat → Int32} (H : MS L S T n M Y i c P mk a30 e84 e85) (hP : P ≤ 7) (hi : i < n) (hc : c < 10) (hs : sam L S T (M i + 1) (10 * Y i + c)) (eA : stp L (rnw L S (M i) (Y i)) c = A) (eB : stp L (rnw L T (M i) (Y i)) c = B) (hA : A < 2 ^ P) (hB : B < 2 ^ P) (hw : ¬ e84 (prw A B) = nI mk) : MS L S T (n + 1) (va_up M n (M i + 1)) (va_up Y n (10 * Y i + c)) i (c + 1) P mk a30 (upd e84 (prw A B) (nI mk)) (upd e85 n (nI (prw A B))) := by
  obtain ⟨h1, h2, h3, h4, h5, h6⟩ := H
  have h7 := pow_le7 hP
  have hw2 : prw A B < 16384 := prw_lt (by omega) (by omega)
  have d1 := rnw_dig L S (M i) (Y i) c hc
  have d2 := rnw_dig L T (M i) (Y i) c hc
  rw [eA] at d1
  rw [eB] at d2
  refine ⟨wk_add h1 hi hc hs, h2, fun w hlt => ?_, fun w hlt => ?_, ?_, fun j hj => ?_⟩
  · by_cases hww : w = prw A B
    · subst hww
      rw [ud_s]
      refine iff_of_true rfl ⟨n, by omega, ?_⟩
      rw [up_s, up_s, d1, d2]
    · rw [ud_n _ _ hww, h3 w hlt]
      constructor
      · rintro ⟨j, g1, g2⟩
        exact ⟨j, by omega, by rw [up_n _ _ (by omega), up_n _ _ (by omega)]; exact g2⟩
      · rintro ⟨j, g1, g2⟩
        by_cases hjn : j = n
        · subst hjn
          rw [up_s, up_s, d1, d2] at g2
          exact absurd g2.symm hww
        · rw [up_n _ _ hjn, up_n _ _ hjn] at g2
          exact ⟨j, by omega, g2⟩
  · by_cases hww : w = prw A B
    · subst hww; exact ⟨mk, Nat.le_refl _, ud_s _ _ _⟩
    · rw [ud_n _ _ hww]; exact h4 w hlt
  · have e : (fun w => decide (upd e84 (prw A B) (nI mk) w = nI mk)) = va_up (fun w => decide (e84 w = nI mk)) (prw A B) true := by
      funext w
      by_cases hww : w = prw A B
      · subst hww; rw [ud_s, up_s]; simp
      · rw [ud_n _ _ hww, up_n _ _ hww]
    rw [e, cnt_ins (by simpa using hw), if_pos hw2, h5]
  · by_cases hjn : j = n
    · subst hjn
      rw [ud_s, up_s, up_s, d1, d2]
      exact ⟨rfl, hA, hB⟩
    · rw [ud_n _ _ hjn, up_n _ _ hjn, up_n _ _ hjn]; exact h6 j (by omega)
section
variable {d : Nat} {z : AZ} {f : AH} {Q : Option Value → AZ → AH → Prop} {X : Nat × (Nat → Int32)} {C : CT} {a : Nat → Int32} {b : Nat → Int64} {e : Nat → Nat → Int32} {o : Nat → Nat → Int64} {P N W : Nat} {K O T J : Nat → Nat}
theorem lp_nx2 {S : Nat} (h : MLn a (e 74) P N W K O T J) (hb : LB P N W K O T J) (hS : S < 128) : ∀ (j v : Nat) (γ : Nat → Int32), v + j = 10 → (∀ w, w < v → γ (10 * S + w) = nI (stp (lds N (fe W K J) K O T) S w)) → (∀ γ', (∀ w, w < 10 → γ' (10 * S + w) = nI (stp (lds N (fe W K J) K O T) S w)) → (∀ i, i < 10 * S → γ' i = γ i) → Wp (d + 3) 1064 2 [some (.ref 67), some (.int (nI (S + 1)))] [] z (Hp X C (a, b, va_up e 83 γ', o)) Q) → Wp (d + 3) 1064 12 [some (.ref 67), some (.int (nI S)), some (.int (nI v))] [] z (Hp X C (a, b, va_up e 83 γ, o)) Q := by
  intro j
  induction j with
  | zero =>
    intro v γ hv hγ hQ
    have hv : v = 10 := by omega
    subst hv
    rw [W1064_12]
    simp (disch := omega) only [W1064, s_0, ci_0, r_5, r_2, r_Li, r_4, r_La, h79_1060, r_50, ci_9, h60_10_27, ci_10, r_12, r_10, h79_1056, s_8, r_In, ci_1, r_52, r_93, h65_83, enR, LG, LSt, LC, nlR, psR, TK, up_s, up_n, up_u, lt_nI, le_nI, eq_nI, true_and, and_true, if_true, if_false, Nat.zero_add, Nat.add_zero, nI_add, ↓reduceIte, Nat.reduceAdd, Nat.reduceMul, Nat.reduceSub, Nat.reduceLT, Nat.reduceLeDiff, Nat.reduceEqDiff, Nat.not_lt_zero, Nat.lt_irrefl, decide_true, BEq.rfl, nm1, nm2, nm3, nm4, nm9, ngc, eq_self, List.length_cons, List.length_nil]
    exact hQ γ hγ (fun _ _ => rfl)
  | succ j ih =>
    intro v γ hv hγ hQ
    have h1 : ¬ 9 < v := by omega
    have h2 : v < 10 := by omega
    rw [W1064_12]
    simp (disch := omega) only [W1064, s_0, ci_0, r_5, r_2, r_Li, r_4, r_La, h79_1060, r_50, ci_9, h60_10_27, ci_10, r_12, r_10, h79_1056, s_8, r_In, ci_1, r_52, r_93, h65_83, enR, LG, LSt, LC, nlR, psR, TK, up_s, up_n, up_u, lt_nI, le_nI, eq_nI, true_and, and_true, if_true, if_false, Nat.zero_add, Nat.add_zero, nI_add, ↓reduceIte, Nat.reduceAdd, Nat.reduceMul, Nat.reduceSub, Nat.reduceLT, Nat.reduceLeDiff, Nat.reduceEqDiff, Nat.not_lt_zero, Nat.lt_irrefl, decide_true, BEq.rfl, nm1, nm2, nm3, nm4, nm9, ngc, eq_self, List.length_cons, List.length_nil, h1, m_stepSet (e := va_up e 83 γ) h hb (show S < 65536 by omega) (show v < 65536 by omega), nI_mul]
    refine ih (v + 1) _ (by omega) (fun w hw => ?_) (fun γ' g1 g2 => hQ γ' g1 (fun i hi => ?_))
    · by_cases hwv : w = v
      · subst hwv; rw [ud_s]
      · rw [ud_n _ _ (by omega)]; exact hγ w (by omega)
    · rw [g2 i hi, ud_n _ _ (by omega)]
theorem lp_nx (h : MLn a (e 74) P N W K O T J) (hb : LB P N W K O T J) (hQ : ∀ γ, NX (lds N (fe W K J) K O T) P γ → Q none z (Hp X C (a, b, va_up e 83 γ, o))) : ∀ (j S : Nat) (γ : Nat → Int32), S + j = 2 ^ P → (∀ S' v, S' < S → v < 10 → γ (10 * S' + v) = nI (stp (lds N (fe W K J) K O T) S' v)) → Wp (d + 3) 1064 2 [some (.ref 67), some (.int (nI S))] [] z (Hp X C (a, b, va_up e 83 γ, o)) Q := by
  have hP := hb.1
  have h7 := pow_le7 hP
  have h2 := Nat.two_pow_pos P
  intro j
  induction j with
  | zero =>
    intro S γ hS hγ
    have h3 : 2 ^ P - 1 < S := by omega
    rw [W1064_2]
    simp (disch := omega) only [W1064, s_0, ci_0, r_5, r_2, r_Li, r_4, r_La, h79_1060, r_50, ci_9, h60_10_27, ci_10, r_12, r_10, h79_1056, s_8, r_In, ci_1, r_52, r_93, h65_83, enR, LG, LSt, LC, nlR, psR, TK, up_s, up_n, up_u, lt_nI, le_nI, eq_nI, true_and, and_true, if_true, if_false, Nat.zero_add, Nat.add_zero, nI_add, ↓reduceIte, Nat.reduceAdd, Nat.reduceMul, Nat.reduceSub, Nat.reduceLT, Nat.reduceLeDiff, Nat.reduceEqDiff, Nat.not_lt_zero, Nat.lt_irrefl, decide_true, BEq.rfl, nm1, nm2, nm3, nm4, nm9, ngc, eq_self, List.length_cons, List.length_nil, m_all (e := va_up e 83 γ) h hP, h3]
    exact hQ γ (fun S' v g1 g2 => hγ S' v (by omega) g2)
  | succ j ih =>
    intro S γ hS hγ
    have h3 : ¬ 2 ^ P - 1 < S := by omega
    rw [W1064_2]
    simp (disch := omega) only [W1064, s_0, ci_0, r_5, r_2, r_Li, r_4, r_La, h79_1060, r_50, ci_9, h60_10_27, ci_10, r_12, r_10, h79_1056, s_8, r_In, ci_1, r_52, r_93, h65_83, enR, LG, LSt, LC, nlR, psR, TK, up_s, up_n, up_u, lt_nI, le_nI, eq_nI, true_and, and_true, if_true, if_false, Nat.zero_add, Nat.add_zero, nI_add, ↓reduceIte, Nat.reduceAdd, Nat.reduceMul, Nat.reduceSub, Nat.reduceLT, Nat.reduceLeDiff, Nat.reduceEqDiff, Nat.not_lt_zero, Nat.lt_irrefl, decide_true, BEq.rfl, nm1, nm2, nm3, nm4, nm9, ngc, eq_self, List.length_cons, List.length_nil, m_all (e := va_up e 83 γ) h hP, h3]
    refine lp_nx2 h hb (by omega) 10 0 γ (by omega) (fun w hw => absurd hw (by omega)) (fun γ' g1 g2 => ?_)
    refine ih (S + 1) γ' (by omega) (fun S' v k1 k2 => ?_)
    by_cases hSS : S' = S
    · subst hSS; exact g1 v k2
    · rw [g2 _ (by omega)]; exact hγ S' v (by omega) k2
theorem m_setNext (h : MLn a (e 74) P N W K O T J) (hb : LB P N W K O T J) (hQ : ∀ γ, NX (lds N (fe W K J) K O T) P γ → Q none z (Hp X C (a, b, va_up e 83 γ, o))) : Cw (d + 4) 1064 [.ref 67] z (Hp X C (a, b, e, o)) Q := by
  rw [cw_wp]
  simp (disch := omega) only [W1064, s_0, ci_0, r_5, r_2, r_Li, r_4, r_La, h79_1060, r_50, ci_9, h60_10_27, ci_10, r_12, r_10, h79_1056, s_8, r_In, ci_1, r_52, r_93, h65_83, enR, LG, LSt, LC, nlR, psR, TK, up_s, up_n, up_u, lt_nI, le_nI, eq_nI, true_and, and_true, if_true, if_false, Nat.zero_add, Nat.add_zero, nI_add, ↓reduceIte, Nat.reduceAdd, Nat.reduceMul, Nat.reduceSub, Nat.reduceLT, Nat.reduceLeDiff, Nat.reduceEqDiff, Nat.not_lt_zero, Nat.lt_irrefl, decide_true, BEq.rfl, nm1, nm2, nm3, nm4, nm9, ngc, eq_self, List.length_cons, List.length_nil]
  have := lp_nx (d := d) h hb hQ (2 ^ P) 0 (e 83) (by omega) (fun S' v h => absurd h (by omega))
  rw [up_id (rfl : e 83 = e 83)] at this
  exact this
end

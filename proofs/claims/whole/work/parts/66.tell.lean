/-! telling places apart: words -/
/-- where a word of k numbers leads from the PLACES S: its numbers are the digits of x -/
def rnw (L : Nat → Nat → Nat) (S : Nat) : Nat → Nat → Nat
  | 0, _ => S
  | k + 1, x => stp L (rnw L S k (x / 10)) (x % 10)
theorem rnw_app (L : Nat → Nat → Nat) (S m y : Nat) : ∀ (k x : Nat), x < 10 ^ k → rnw L S (m + k) (y * 10 ^ k + x) = rnw L (rnw L S m y) k x := by
  intro k
  induction k with
  | zero =>
    intro x hx
    have hx : x = 0 := by
      have : (10:Nat) ^ 0 = 1 := rfl
      omega
    subst hx
    show rnw L S m (y * 1 + 0) = rnw L S m y
    rw [Nat.mul_one, Nat.add_zero]
  | succ k ih =>
    intro x hx
    have h10 : (10:Nat) ^ (k + 1) = 10 ^ k * 10 := Nat.pow_succ 10 k
    have e1 : (y * 10 ^ (k + 1) + x) / 10 = y * 10 ^ k + x / 10 := by
      rw [h10, ← Nat.mul_assoc]; omega
    have e2 : (y * 10 ^ (k + 1) + x) % 10 = x % 10 := by
      rw [h10, ← Nat.mul_assoc]; omega
    show stp L (rnw L S (m + k) ((y * 10 ^ (k + 1) + x) / 10)) ((y * 10 ^ (k + 1) + x) % 10) = stp L (rnw L (rnw L S m y) k (x / 10)) (x % 10)
    rw [e1, e2, ih (x / 10) (by rw [h10] at hx; omega)]
def sam (L : Nat → Nat → Nat) (S T k x : Nat) : Prop := rnw L S k x = 0 ↔ rnw L T k x = 0
/-- the word (m, y) comes before the word (k, x), or is it -/
def wle (m y k x : Nat) : Prop := m < k ∨ (m = k ∧ y ≤ x)
/-- what telling two sets of PLACES apart finds -/
def Tres (L : Nat → Nat → Nat) (S T : Nat) : Option (Nat × Nat) → Prop
  | none => ∀ k x, x < 10 ^ k → sam L S T k x
  | some (m, y) => y < 10 ^ m ∧ ¬ sam L S T m y ∧ ∀ k x, x < 10 ^ k → ¬ sam L S T k x → wle m y k x
theorem tres_eq {L : Nat → Nat → Nat} {S T : Nat} {r r' : Option (Nat × Nat)} (h : Tres L S T r) (h' : Tres L S T r') : r = r' := by
  cases r with
  | none =>
    cases r' with
    | none => rfl
    | some p => exact absurd (h p.1 p.2 h'.1) h'.2.1
  | some p =>
    cases r' with
    | none => exact absurd (h' p.1 p.2 h.1) h.2.1
    | some p' =>
      have h1 := h.2.2 p'.1 p'.2 h'.1 h'.2.1
      have h2 := h'.2.2 p.1 p.2 h.1 h.2.1
      obtain ⟨m, y⟩ := p
      obtain ⟨m', y'⟩ := p'
      unfold wle at h1 h2
      have e1 : m = m' := by simp only at h1 h2; omega
      subst e1
      have e2 : y = y' := by simp only at h1 h2; omega
      subst e2
      rfl
/-- a line of words, gone through in order: a word that tells comes from the line -/
theorem line_ok {L : Nat → Nat → Nat} {S T n : Nat} {M Y : Nat → Nat} {below : Nat → Nat → Prop} (hS : S ≠ 0) (hT : T ≠ 0) (hn : 0 < n) (hM : M 0 = 0) (hY : Y 0 = 0)
    (hdn : ∀ m y k x, below k x → wle m y k x → below m y)
    (hcov : ∀ j d, j < n → d < 10 → below (M j + 1) (10 * Y j + d) → ∀ k x, x < 10 ^ k → ¬ sam L (rnw L S (M j + 1) (10 * Y j + d)) (rnw L T (M j + 1) (10 * Y j + d)) k x → ∃ j', j' < n ∧ wle (M j') (Y j') (M j + 1) (10 * Y j + d) ∧ Y j' < 10 ^ M j' ∧ ¬ sam L (rnw L S (M j') (Y j')) (rnw L T (M j') (Y j')) k x)
    (hnp : ∀ j d, j < n → d < 10 → below (M j + 1) (10 * Y j + d) → sam L S T (M j + 1) (10 * Y j + d)) :
    ∀ (c m y : Nat), 10 ^ m + y = c → y < 10 ^ m → below m y → sam L S T m y := by
  intro c
  induction c using Nat.strongRecOn with
  | _ c IH =>
  intro m y hc hy hb
  refine Classical.byContradiction (fun hns => ?_)
  have hm : m ≠ 0 := by
    intro h0
    subst h0
    exact hns ⟨fun h => absurd h hS, fun h => absurd h hT⟩
  have hpre : ∀ t, t < m → ∃ j, j < n ∧ M j = t ∧ Y j = y / 10 ^ (m - t) := by
    intro t
    induction t with
    | zero =>
      intro _
      refine ⟨0, hn, hM, ?_⟩
      rw [hY, Nat.sub_zero, Nat.div_eq_of_lt hy]
    | succ t iht =>
      intro ht
      obtain ⟨j, h1, h2, h3⟩ := iht (by omega)
      obtain ⟨k, hk⟩ : ∃ k, m = t + 1 + k := ⟨m - t - 1, by omega⟩
      have ek : m - t = k + 1 := by omega
      have ek2 : m - (t + 1) = k := by omega
      have hp := Nat.pow_succ 10 k
      have hpos : 0 < 10 ^ k := Nat.pow_pos (by decide)
      have e4 : 10 * Y j + y / 10 ^ k % 10 = y / 10 ^ k := by
        rw [h3, ek, hp, ← Nat.div_div_eq_div_mul]; omega
      have hx : y % 10 ^ k < 10 ^ k := Nat.mod_lt _ hpos
      have e5 : y / 10 ^ k * 10 ^ k + y % 10 ^ k = y := by rw [Nat.mul_comm]; exact Nat.div_add_mod y (10 ^ k)
      have hbel : below (M j + 1) (10 * Y j + y / 10 ^ k % 10) := hdn _ _ m y hb (Or.inl (by omega))
      have hns2 : ¬ sam L (rnw L S (M j + 1) (10 * Y j + y / 10 ^ k % 10)) (rnw L T (M j + 1) (10 * Y j + y / 10 ^ k % 10)) k (y % 10 ^ k) := by
        unfold sam at hns ⊢
        rw [e4, h2, ← rnw_app L S (t + 1) (y / 10 ^ k) k _ hx, ← rnw_app L T (t + 1) (y / 10 ^ k) k _ hx, e5, ← hk]
        exact hns
      obtain ⟨j', g1, g2, g3, g4⟩ := hcov j _ h1 (Nat.mod_lt _ (by decide)) hbel k _ hx hns2
      have hns3 : ¬ sam L S T (M j' + k) (Y j' * 10 ^ k + y % 10 ^ k) := by
        unfold sam at g4 ⊢
        rw [rnw_app L S _ _ k _ hx, rnw_app L T _ _ k _ hx]
        exact g4
      rw [e4, h2] at g2
      have hlt : Y j' * 10 ^ k + y % 10 ^ k < 10 ^ (M j' + k) := by
        rw [Nat.pow_add]
        calc Y j' * 10 ^ k + y % 10 ^ k < Y j' * 10 ^ k + 10 ^ k := by omega
          _ = (Y j' + 1) * 10 ^ k := (Nat.succ_mul _ _).symm
          _ ≤ 10 ^ M j' * 10 ^ k := Nat.mul_le_mul_right _ g3
      have hcm : M j' = t + 1 ∧ Y j' = y / 10 ^ k := by
        rcases g2 with g2 | ⟨g2, g5⟩
        · exfalso
          have hpl : 10 ^ (M j' + k) * 10 ≤ 10 ^ m := by
            rw [← Nat.pow_succ]
            exact Nat.pow_le_pow_right (by decide) (by omega)
          exact hns3 (IH (10 ^ (M j' + k) + (Y j' * 10 ^ k + y % 10 ^ k)) (by omega) _ _ rfl hlt (hdn _ _ m y hb (Or.inl (by omega))))
        · refine ⟨g2, ?_⟩
          refine Decidable.byContradiction (fun hne => ?_)
          have h6 : Y j' + 1 ≤ y / 10 ^ k := by omega
          have h7 : (Y j' + 1) * 10 ^ k ≤ y / 10 ^ k * 10 ^ k := Nat.mul_le_mul_right _ h6
          rw [Nat.succ_mul] at h7
          have e6 : M j' + k = m := by omega
          rw [e6] at hns3 hlt
          exact hns3 (IH (10 ^ m + (Y j' * 10 ^ k + y % 10 ^ k)) (by omega) _ _ rfl hlt (hdn _ _ m y hb (Or.inr ⟨rfl, by omega⟩)))
      exact ⟨j', g1, hcm.1, by rw [ek2]; exact hcm.2⟩
  obtain ⟨j, h1, h2, h3⟩ := hpre (m - 1) (by omega)
  have e7 : m - (m - 1) = 1 := by omega
  rw [e7, Nat.pow_one] at h3
  have e8 : M j + 1 = m := by omega
  have e9 : 10 * Y j + y % 10 = y := by rw [h3]; omega
  have := hnp j (y % 10) h1 (Nat.mod_lt _ (by decide)) (by rw [e8, e9]; exact hb)
  rw [e8, e9] at this
  exact hns this
/-- going through a line: word i at the number d; n words stand in the line -/
def WK (L : Nat → Nat → Nat) (S T n : Nat) (M Y : Nat → Nat) (i d : Nat) : Prop :=
  (0 < n ∧ S ≠ 0 ∧ T ≠ 0 ∧ M 0 = 0 ∧ Y 0 = 0) ∧ (∀ j, j < n → Y j < 10 ^ M j ∧ M j ≤ j) ∧
  (∀ j j', j < j' → j' < n → M j < M j' ∨ (M j = M j' ∧ Y j < Y j')) ∧
  (i < n → ∀ j, j < n → M j < M i + 1 ∨ (M j = M i + 1 ∧ Y j < 10 * Y i + d)) ∧
  (∀ j c, j < n → ((j < i ∧ c < 10) ∨ (j = i ∧ c < d)) → sam L S T (M j + 1) (10 * Y j + c) ∧
    ∀ k x, x < 10 ^ k → ¬ sam L (rnw L S (M j + 1) (10 * Y j + c)) (rnw L T (M j + 1) (10 * Y j + c)) k x → ∃ j', j' < n ∧ wle (M j') (Y j') (M j + 1) (10 * Y j + c) ∧ Y j' < 10 ^ M j' ∧ ¬ sam L (rnw L S (M j') (Y j')) (rnw L T (M j') (Y j')) k x)
theorem rnw_dig (L : Nat → Nat → Nat) (S m y c : Nat) (hc : c < 10) : rnw L S (m + 1) (10 * y + c) = stp L (rnw L S m y) c := by
  show stp L (rnw L S m ((10 * y + c) / 10)) ((10 * y + c) % 10) = _
  rw [show (10 * y + c) / 10 = y by omega, show (10 * y + c) % 10 = c by omega]
theorem wk_start {L : Nat → Nat → Nat} {S T : Nat} (hS : S ≠ 0) (hT : T ≠ 0) : WK L S T 1 (fun _ => 0) (fun _ => 0) 0 0 :=
  ⟨⟨by decide, hS, hT, rfl, rfl⟩, fun j hj => ⟨show 0 < 1 by decide, Nat.zero_le _⟩, fun j j' h1 h2 => by omega, fun _ j hj => Or.inl (by show 0 < 0 + 1; decide), fun j c hj hc => by omega⟩
section
variable {L : Nat → Nat → Nat} {S T n i c : Nat} {M Y : Nat → Nat}
theorem wk_skip (H : WK L S T n M Y i c) (hi : i < n) (hc : c < 10) (hs : sam L S T (M i + 1) (10 * Y i + c)) (hd : ∀ k x, x < 10 ^ k → ¬ sam L (stp L (rnw L S (M i) (Y i)) c) (stp L (rnw L T (M i) (Y i)) c) k x → ∃ j', j' < n ∧ ¬ sam L (rnw L S (M j') (Y j')) (rnw L T (M j') (Y j')) k x) : WK L S T n M Y i (c + 1) := by
  obtain ⟨h1, h2, h3, h4, h5⟩ := H
  refine ⟨h1, h2, h3, fun _ j hj => ?_, fun j c' hj hc' => ?_⟩
  · have := h4 hi j hj; omega
  · by_cases hh : j = i ∧ c' = c
    · obtain ⟨rfl, rfl⟩ := hh
      refine ⟨hs, fun k x hx hn => ?_⟩
      rw [rnw_dig L S _ _ _ hc, rnw_dig L T _ _ _ hc] at hn
      obtain ⟨j', g1, g2⟩ := hd k x hx hn
      refine ⟨j', g1, ?_, (h2 j' g1).1, g2⟩
      have := h4 hi j' g1
      unfold wle
      omega
    · exact h5 j c' hj (by omega)
theorem wk_add (H : WK L S T n M Y i c) (hi : i < n) (hc : c < 10) (hs : sam L S T (M i + 1) (10 * Y i + c)) : WK L S T (n + 1) (va_up M n (M i + 1)) (va_up Y n (10 * Y i + c)) i (c + 1) := by
  obtain ⟨⟨h1, hS, hT, h10, h11⟩, h2, h3, h4, h5⟩ := H
  have eM : ∀ j, j ≠ n → va_up M n (M i + 1) j = M j := fun j hj => up_n _ _ hj
  have eY : ∀ j, j ≠ n → va_up Y n (10 * Y i + c) j = Y j := fun j hj => up_n _ _ hj
  have hpos := Nat.pow_succ 10 (M i)
  refine ⟨⟨by omega, hS, hT, by rw [eM _ (by omega)]; exact h10, by rw [eY _ (by omega)]; exact h11⟩, fun j hj => ?_, fun j j' g1 g2 => ?_, fun _ j hj => ?_, fun j c' hj hc' => ?_⟩
  · by_cases hjn : j = n
    · subst hjn
      rw [up_s, up_s]
      have := h2 i hi
      exact ⟨by omega, by omega⟩
    · rw [eM _ hjn, eY _ hjn]; exact h2 j (by omega)
  · rw [eM j (by omega), eY j (by omega)]
    by_cases hjn : j' = n
    · subst hjn
      rw [up_s, up_s]
      exact h4 hi j g1
    · rw [eM _ hjn, eY _ hjn]; exact h3 j j' g1 (by omega)
  · rw [eM i (by omega), eY i (by omega)]
    by_cases hjn : j = n
    · subst hjn
      rw [up_s, up_s]
      exact Or.inr ⟨rfl, by omega⟩
    · rw [eM _ hjn, eY _ hjn]
      have := h4 hi j (by omega); omega
  · have hjn : j ≠ n := by omega
    rw [eM j hjn, eY j hjn]
    by_cases hh : j = i ∧ c' = c
    · obtain ⟨rfl, rfl⟩ := hh
      refine ⟨hs, fun k x hx hn => ⟨n, by omega, ?_, ?_, ?_⟩⟩
      · rw [up_s, up_s]; exact Or.inr ⟨rfl, Nat.le_refl _⟩
      · rw [up_s, up_s]
        have := h2 j hi
        omega
      · rw [up_s, up_s]; exact hn
    · obtain ⟨g1, g2⟩ := h5 j c' (by omega) (by omega)
      refine ⟨g1, fun k x hx hn => ?_⟩
      obtain ⟨j', k1, k2, k3, k4⟩ := g2 k x hx hn
      exact ⟨j', by omega, by rw [eM _ (by omega), eY _ (by omega)]; exact k2, by rw [eM _ (by omega), eY _ (by omega)]; exact k3, by rw [eM _ (by omega), eY _ (by omega)]; exact k4⟩
theorem wk_next (H : WK L S T n M Y i 10) (hi : i < n) : WK L S T n M Y (i + 1) 0 := by
  obtain ⟨h1, h2, h3, h4, h5⟩ := H
  refine ⟨h1, h2, h3, fun hi2 j hj => ?_, fun j c' hj hc' => h5 j c' hj (by omega)⟩
  have g1 := h4 hi j hj
  have g2 := h3 i (i + 1) (by omega) hi2
  omega
theorem wk_part (H : WK L S T n M Y i c) (hi : i < n) (hc : c < 10) (hs : ¬ sam L S T (M i + 1) (10 * Y i + c)) : Tres L S T (some (M i + 1, 10 * Y i + c)) := by
  obtain ⟨⟨h1, hS, hT, h10, h11⟩, h2, h3, h4, h5⟩ := H
  have hpos := Nat.pow_succ 10 (M i)
  have hYi := (h2 i hi).1
  have hcons : ∀ j c', j < n → c' < 10 → (M j + 1 < M i + 1 ∨ (M j + 1 = M i + 1 ∧ 10 * Y j + c' < 10 * Y i + c)) → (j < i ∧ c' < 10) ∨ (j = i ∧ c' < c) := by
    intro j c' hj hc' hb
    by_cases hji : j < i
    · exact Or.inl ⟨hji, hc'⟩
    · by_cases hji2 : j = i
      · subst hji2; exact Or.inr ⟨rfl, by omega⟩
      · have := h3 i j (by omega) hj
        omega
  refine ⟨by omega, hs, fun k x hx hn => ?_⟩
  refine Classical.byContradiction (fun hle => hn ?_)
  refine line_ok (below := fun m y => m < M i + 1 ∨ (m = M i + 1 ∧ y < 10 * Y i + c)) hS hT h1 h10 h11 (fun m y k x hb hw => ?_) (fun j c' hj hc' hb => ?_) (fun j c' hj hc' hb => ?_) (10 ^ k + x) k x rfl hx ?_
  · unfold wle at hw; omega
  · exact (h5 j c' hj (hcons j c' hj hc' hb)).2
  · exact (h5 j c' hj (hcons j c' hj hc' hb)).1
  · unfold wle at hle; omega
theorem wk_end (H : WK L S T n M Y n 0) : Tres L S T none := by
  obtain ⟨⟨h1, hS, hT, h10, h11⟩, h2, h3, h4, h5⟩ := H
  intro k x hx
  exact line_ok (below := fun _ _ => True) hS hT h1 h10 h11 (fun _ _ _ _ _ _ => trivial) (fun j c' hj hc' _ => (h5 j c' hj (Or.inl ⟨hj, hc'⟩)).2) (fun j c' hj hc' _ => (h5 j c' hj (Or.inl ⟨hj, hc'⟩)).1) (10 ^ k + x) k x rfl hx trivial
end
/-- the level of a word in the line, and where the level ends -/
def LV (n : Nat) (M : Nat → Nat) (i lev en : Nat) : Prop := i ≤ en ∧ en ≤ n ∧ (∀ j, i ≤ j → j < en → M j + 1 = lev) ∧ ∀ j, en ≤ j → j < n → M j = lev
theorem lv_adv {n i lev : Nat} {M : Nat → Nat} (h : LV n M i lev i) : LV n M i (lev + 1) n := by
  obtain ⟨h1, h2, h3, h4⟩ := h
  exact ⟨h2, Nat.le_refl _, fun j g1 g2 => by rw [h4 j g1 g2], fun j g1 g2 => by omega⟩
theorem lv_add {n i lev en : Nat} {M : Nat → Nat} (h : LV n M i lev en) (hi : i < en) : LV (n + 1) (va_up M n (M i + 1)) i lev en := by
  obtain ⟨h1, h2, h3, h4⟩ := h
  refine ⟨h1, by omega, fun j g1 g2 => ?_, fun j g1 g2 => ?_⟩
  · rw [up_n _ _ (by omega)]; exact h3 j g1 g2
  · by_cases hj : j = n
    · subst hj; rw [up_s]; exact h3 i (Nat.le_refl _) hi
    · rw [up_n _ _ hj]; exact h4 j g1 (by omega)
theorem lv_next {n i lev en : Nat} {M : Nat → Nat} (h : LV n M i lev en) (hi : i < en) : LV n M (i + 1) lev en := by
  obtain ⟨h1, h2, h3, h4⟩ := h
  exact ⟨by omega, h2, fun j g1 g2 => h3 j (by omega) g2, h4⟩

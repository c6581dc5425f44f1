/-! tour: the model -/
def TQx (N : Nat) (K O T : Nat → Nat) (p0 n h i0 : Nat) (ss dd : Nat → Nat) (e86 e87 : Nat → Int32) : Prop :=
  (∀ j, j < n → e87 j = nI (ss j) ∧ ss j < 7168 ∧ ss j % 1024 < 2 ^ N ∧ e86 (ss j) = nI (dd j) ∧ dd j ≤ j ∧ RNt N K O T p0 (dd j) (ss j)) ∧
  (∀ x, x < 7168 → e86 x = -9 ∨ ∃ j, j < n ∧ ss j = x) ∧ cnt (fun x => !decide (e86 x = -9)) 7168 = n ∧
  (∀ j k, j ≤ k → k < n → dd j ≤ dd k) ∧ (∀ k, k < n → h < n → dd k ≤ dd h + 1) ∧
  (∀ j i y, (j < h ∨ (j = h ∧ i < i0)) → j < n → i < N → scT K O T i (ss j) = some y → ∃ k, k < n ∧ ss k = y ∧ dd k ≤ dd j + 1) ∧ 0 < n ∧ ss 0 = 1024 * p0 ∧ dd 0 = 0
def TOx (N h : Nat) (ss dd : Nat → Nat) : Option (Nat × Nat) → Prop
  | none => ∀ j, j < h → ss j % 1024 ≠ 2 ^ N - 1
  | some (d, p) => (∃ j, j < h ∧ ss j = 1024 * p + (2 ^ N - 1) ∧ dd j = d) ∧ ∀ k, k < h → ss k % 1024 = 2 ^ N - 1 → d ≤ dd k ∧ (dd k = d → p ≤ ss k / 1024)
section
variable {N p0 n h i0 : Nat} {K O T : Nat → Nat} {ss dd : Nat → Nat} {e86 e87 : Nat → Int32}
theorem tq_room (H : TQx N K O T p0 n h i0 ss dd e86 e87) {y : Nat} (hy : y < 7168) (h9 : e86 y = -9) : n < 7168 := by
  have h1 := cnt_ins (S := fun x => !decide (e86 x = -9)) (q := y) (by simpa using h9) 7168
  rw [if_pos hy, H.2.2.1] at h1
  have := cnt_le (va_up (fun x => !decide (e86 x = -9)) y true) 7168
  omega
theorem tq_n (H : TQx N K O T p0 n h i0 ss dd e86 e87) : n ≤ 7168 := by
  rw [← H.2.2.1]; exact cnt_le _ _
theorem tq_skip (H : TQx N K O T p0 n h i0 ss dd e86 e87) (hh : h < n) (hs : ∀ y, scT K O T i0 (ss h) = some y → y < 7168 ∧ ¬ e86 y = -9) : TQx N K O T p0 n h (i0 + 1) ss dd e86 e87 := by
  obtain ⟨h1, h2, h3, h4, h5, h6, h7⟩ := H
  refine ⟨h1, h2, h3, h4, h5, fun j i y k1 k2 k3 k4 => ?_, h7⟩
  by_cases hji : j = h ∧ i = i0
  · obtain ⟨rfl, rfl⟩ := hji
    obtain ⟨g1, g2⟩ := hs y k4
    rcases h2 y g1 with g3 | ⟨k, g3, g4⟩
    · exact absurd g3 g2
    · exact ⟨k, g3, g4, h5 k g3 hh⟩
  · exact h6 j i y (by omega) k2 k3 k4
theorem tq_next (H : TQx N K O T p0 n h N ss dd e86 e87) (hh : h < n) : TQx N K O T p0 n (h + 1) 0 ss dd e86 e87 := by
  obtain ⟨h1, h2, h3, h4, h5, h6, h7⟩ := H
  refine ⟨h1, h2, h3, h4, fun k k1 k2 => ?_, fun j i y k1 k2 k3 k4 => ?_, h7⟩
  · have := h5 k k1 hh
    have := h4 h (h + 1) (by omega) k2
    omega
  · exact h6 j i y (by omega) k2 k3 k4
theorem tq_add (H : TQx N K O T p0 n h i0 ss dd e86 e87) (hh : h < n) (hi : i0 < N) {y : Nat} (hy : y < 7168) (hy2 : y % 1024 < 2 ^ N) (hs : scT K O T i0 (ss h) = some y) (h9 : e86 y = -9) : TQx N K O T p0 (n + 1) h (i0 + 1) (va_up ss n y) (va_up dd n (dd h + 1)) (upd e86 y (nI (dd h + 1))) (upd e87 n (nI y)) := by
  have hn := tq_room H hy h9
  obtain ⟨h1, h2, h3, h4, h5, h6, h7, h8, h10⟩ := H
  have hdh := (h1 h hh).2.2.2.2.1
  have hne : ∀ j, j < n → ss j ≠ y := fun j hj he => by
    obtain ⟨-, -, -, g4, g5, -⟩ := h1 j hj
    rw [he, h9] at g4
    exact ni_neg (c := -9) (q := dd j) (by omega) (by decide) g4.symm
  refine ⟨fun j hj => ?_, fun x hx => ?_, ?_, fun j k k1 k2 => ?_, fun k k1 k2 => ?_, fun j i y' k1 k2 k3 k4 => ?_, by omega, ?_, ?_⟩
  · by_cases hjn : j = n
    · subst hjn
      rw [ud_s, up_s, up_s, ud_s]
      exact ⟨rfl, hy, hy2, rfl, by omega, Or.inr ⟨ss h, i0, (h1 h hh).2.2.2.2.2, hi, hs⟩⟩
    · obtain ⟨g1, g2, g3, g4, g5, g6⟩ := h1 j (by omega)
      rw [ud_n _ _ hjn, up_n _ _ hjn, up_n _ _ hjn, ud_n _ _ (hne j (by omega))]
      exact ⟨g1, g2, g3, g4, g5, g6⟩
  · by_cases hxy : x = y
    · subst hxy; exact Or.inr ⟨n, by omega, up_s _ _ _⟩
    · rw [ud_n _ _ hxy]
      rcases h2 x hx with g | ⟨j, g1, g2⟩
      · exact Or.inl g
      · exact Or.inr ⟨j, by omega, by rw [up_n _ _ (by omega)]; exact g2⟩
  · have e : (fun x => !decide (upd e86 y (nI (dd h + 1)) x = -9)) = va_up (fun x => !decide (e86 x = -9)) y true := by
      funext x
      by_cases hxy : x = y
      · subst hxy
        rw [ud_s, up_s]
        have : ¬ nI (dd h + 1) = -9 := ni_neg (by omega) (by decide)
        simp [this]
      · rw [ud_n _ _ hxy, up_n _ _ hxy]
    rw [e, cnt_ins (by simpa using h9), if_pos hy, h3]
  · by_cases hkn : k = n
    · subst hkn
      rw [up_s]
      by_cases hjk : j = k
      · subst hjk; rw [up_s]; exact Nat.le_refl _
      · rw [up_n _ _ hjk]; exact h5 j (by omega) hh
    · rw [up_n _ _ hkn, up_n _ _ (by omega)]; exact h4 j k k1 (by omega)
  · rw [up_n _ _ (show h ≠ n by omega)]
    by_cases hkn : k = n
    · subst hkn; rw [up_s]; exact Nat.le_refl _
    · rw [up_n _ _ hkn]; exact h5 k (by omega) hh
  · have hjn : j ≠ n := by omega
    rw [up_n _ _ hjn] at k4 ⊢
    by_cases hji : j = h ∧ i = i0
    · obtain ⟨rfl, rfl⟩ := hji
      rw [hs] at k4
      cases k4
      exact ⟨n, by omega, up_s _ _ _, by rw [up_s]; exact Nat.le_refl _⟩
    · obtain ⟨k, g1, g2, g3⟩ := h6 j i y' (by omega) (by omega) k3 k4
      exact ⟨k, by omega, by rw [up_n _ _ (by omega)]; exact g2, by rw [up_n _ _ (by omega)]; exact g3⟩
  · rw [up_n _ _ (by omega)]; exact h8
  · rw [up_n _ _ (by omega)]; exact h10
theorem tq_all (H : TQx N K O T p0 n n i0 ss dd e86 e87) : ∀ r y, RNt N K O T p0 r y → ∃ k, k < n ∧ ss k = y ∧ dd k ≤ r := by
  obtain ⟨h1, h2, h3, h4, h5, h6, h7, h8, h10⟩ := H
  intro r
  induction r with
  | zero =>
    intro y hy
    have hy : y = 1024 * p0 := hy
    exact ⟨0, h7, by rw [h8, hy], by omega⟩
  | succ r ih =>
    intro y hy
    rcases hy with hy | ⟨y', i, k1, k2, k3⟩
    · obtain ⟨k, g1, g2, g3⟩ := ih y hy
      exact ⟨k, g1, g2, by omega⟩
    · obtain ⟨k, g1, g2, g3⟩ := ih y' k1
      subst g2
      obtain ⟨k', f1, f2, f3⟩ := h6 k i y (Or.inl g1) g1 k2 k3
      exact ⟨k', f1, f2, by omega⟩
theorem tq_ts (H : TQx N K O T p0 n n i0 ss dd e86 e87) (hN : N ≤ 10) {out : Option (Nat × Nat)} (hO : TOx N n ss dd out) : TSo N K O T p0 out := by
  have hn := tq_n H
  have hall := tq_all H
  have h1024 : 2 ^ N ≤ 1024 := Nat.pow_le_pow_right (n := 2) (by decide) hN
  have h0 := Nat.two_pow_pos N
  cases out with
  | none =>
    intro d p hd
    obtain ⟨k, k1, k2, k3⟩ := hall _ _ hd
    exact hO k k1 (by omega)
  | some w =>
    obtain ⟨d, p⟩ := w
    obtain ⟨⟨j, j1, j2, j3⟩, hk⟩ := hO
    obtain ⟨g1, g2, g3, g4, g5, g6⟩ := H.1 j j1
    refine ⟨by omega, by omega, ?_, fun p' hp' hd => ?_, fun d' p' hd' hd => ?_⟩
    · rw [← j2, ← j3]; exact g6
    · obtain ⟨k, k1, k2, k3⟩ := hall _ _ hd
      obtain ⟨f1, f2⟩ := hk k k1 (by omega)
      have := f2 (by omega)
      omega
    · obtain ⟨k, k1, k2, k3⟩ := hall _ _ hd
      obtain ⟨f1, f2⟩ := hk k k1 (by omega)
      omega
theorem to_skip {out : Option (Nat × Nat)} (hO : TOx N h ss dd out) (hs : ss h % 1024 ≠ 2 ^ N - 1) : TOx N (h + 1) ss dd out := by
  cases out with
  | none =>
    intro j hj
    by_cases hjh : j = h
    · subst hjh; exact hs
    · exact hO j (by omega)
  | some w =>
    obtain ⟨d, p⟩ := w
    obtain ⟨⟨j, j1, j2, j3⟩, hk⟩ := hO
    refine ⟨⟨j, by omega, j2, j3⟩, fun k k1 k2 => ?_⟩
    by_cases hkh : k = h
    · subst hkh; exact absurd k2 hs
    · exact hk k (by omega) k2
def toNx (d p : Nat) : Option (Nat × Nat) → Option (Nat × Nat)
  | none => some (d, p)
  | some (d', p') => if d = d' then some (d', if p < p' then p else p') else some (d', p')
theorem to_take {out : Option (Nat × Nat)} (hO : TOx N h ss dd out) (hs : ss h % 1024 = 2 ^ N - 1) (hd : ∀ j, j < h → dd j ≤ dd h) : TOx N (h + 1) ss dd (toNx (dd h) (ss h / 1024) out) := by
  have e : ss h = 1024 * (ss h / 1024) + (2 ^ N - 1) := by omega
  cases out with
  | none =>
    refine ⟨⟨h, by omega, e, rfl⟩, fun k k1 k2 => ?_⟩
    by_cases hkh : k = h
    · subst hkh; exact ⟨Nat.le_refl _, fun _ => Nat.le_refl _⟩
    · exact absurd k2 (hO k (by omega))
  | some w =>
    obtain ⟨d, p⟩ := w
    obtain ⟨⟨j, j1, j2, j3⟩, hk⟩ := hO
    have hdj := hd j j1
    show TOx N (h + 1) ss dd (if dd h = d then some (d, if ss h / 1024 < p then ss h / 1024 else p) else some (d, p))
    by_cases h1 : dd h = d
    · rw [if_pos h1]
      by_cases h2 : ss h / 1024 < p
      · rw [if_pos h2]
        refine ⟨⟨h, by omega, e, h1⟩, fun k k1 k2 => ?_⟩
        by_cases hkh : k = h
        · subst hkh; exact ⟨by omega, fun _ => Nat.le_refl _⟩
        · obtain ⟨f1, f2⟩ := hk k (by omega) k2
          exact ⟨f1, fun hh => by have := f2 hh; omega⟩
      · rw [if_neg h2]
        refine ⟨⟨j, by omega, j2, j3⟩, fun k k1 k2 => ?_⟩
        by_cases hkh : k = h
        · subst hkh; exact ⟨by omega, fun _ => by omega⟩
        · exact hk k (by omega) k2
    · rw [if_neg h1]
      refine ⟨⟨j, by omega, j2, j3⟩, fun k k1 k2 => ?_⟩
      by_cases hkh : k = h
      · subst hkh; exact ⟨by omega, fun hh => absurd hh h1⟩
      · exact hk k (by omega) k2
end

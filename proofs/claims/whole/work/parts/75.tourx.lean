/-! tour: what is reached in so many steps -/
def scT (K O T : Nat → Nat) (i x : Nat) : Option Nat := match ldm K O T i (x / 1024) with
  | none => none
  | some q => some (1024 * q + (x % 1024 ||| 2 ^ i))
def RNt (N : Nat) (K O T : Nat → Nat) (p0 : Nat) : Nat → Nat → Prop
  | 0, x => x = 1024 * p0
  | r + 1, x => RNt N K O T p0 r x ∨ ∃ y i, RNt N K O T p0 r y ∧ i < N ∧ scT K O T i y = some x
def DNt (N : Nat) (K O T : Nat → Nat) (p0 : Nat) : Nat → Nat → Prop
  | 0, x => x = 1024 * p0
  | r + 1, x => RNt N K O T p0 (r + 1) x ∧ ¬ RNt N K O T p0 r x
def TSo (N : Nat) (K O T : Nat → Nat) (p0 : Nat) : Option (Nat × Nat) → Prop
  | none => ∀ d p, ¬ RNt N K O T p0 d (1024 * p + (2 ^ N - 1))
  | some (d, p) => p < 7 ∧ d < 16384 ∧ RNt N K O T p0 d (1024 * p + (2 ^ N - 1)) ∧ (∀ p', p' < p → ¬ RNt N K O T p0 d (1024 * p' + (2 ^ N - 1))) ∧ ∀ d' p', d' < d → ¬ RNt N K O T p0 d' (1024 * p' + (2 ^ N - 1))
theorem ts_eq {N p0 : Nat} {K O T : Nat → Nat} {x y : Option (Nat × Nat)} (hx : TSo N K O T p0 x) (hy : TSo N K O T p0 y) : x = y := by
  cases x with
  | none =>
    cases y with
    | none => rfl
    | some w => obtain ⟨d, p⟩ := w; exact absurd hy.2.2.1 (hx d p)
  | some w =>
    obtain ⟨d, p⟩ := w
    cases y with
    | none => exact absurd hx.2.2.1 (hy d p)
    | some w' =>
      obtain ⟨d', p'⟩ := w'
      obtain ⟨-, -, a3, a4, a5⟩ := hx
      obtain ⟨-, -, b3, b4, b5⟩ := hy
      have h1 : ¬ d < d' := fun h => b5 d p h a3
      have h2 : ¬ d' < d := fun h => a5 d' p' h b3
      have h3 : d = d' := by omega
      subst h3
      have h4 : ¬ p < p' := fun h => b4 p h a3
      have h5 : ¬ p' < p := fun h => a4 p' h b3
      have h6 : p = p' := by omega
      subst h6
      rfl
theorem sc_some {K O T : Nat → Nat} {i x y : Nat} (h : scT K O T i x = some y) : ∃ q, ldm K O T i (x / 1024) = some q ∧ y = 1024 * q + (x % 1024 ||| 2 ^ i) := by
  unfold scT at h
  cases e : ldm K O T i (x / 1024) with
  | none => rw [e] at h; exact absurd h (by simp)
  | some q => rw [e] at h; exact ⟨q, rfl, (Option.some.inj h).symm⟩
theorem or_1024 {a i : Nat} (ha : a < 1024) (hi : i < 10) : a ||| 2 ^ i < 1024 := or_lt (n := 10) ha hi
theorem sc_lt {P N W p0 i x y : Nat} {K O T J : Nat → Nat} (hb : LB P N W K O T J) (hi : i < N) (hx : x % 1024 < 2 ^ N) (h : scT K O T i x = some y) : y < 1024 * P ∧ y % 1024 < 2 ^ N := by
  obtain ⟨q, h1, rfl⟩ := sc_some h
  have h2 := ldm_lt hb hi h1
  have hN := hb.2.1
  have h3 : x % 1024 ||| 2 ^ i < 2 ^ N := or_lt hx hi
  have h4 := or_1024 (a := x % 1024) (i := i) (by omega) (by omega)
  have h5 : (1024 * q + (x % 1024 ||| 2 ^ i)) % 1024 = (x % 1024 ||| 2 ^ i) := by omega
  rw [h5]
  exact ⟨by omega, h3⟩
theorem rn_lt {P N W p0 : Nat} {K O T J : Nat → Nat} (hb : LB P N W K O T J) (hp : p0 < P) : ∀ r x, RNt N K O T p0 r x → x < 1024 * P ∧ x % 1024 < 2 ^ N := by
  intro r
  induction r with
  | zero =>
    intro x h
    have h : x = 1024 * p0 := h
    have := Nat.two_pow_pos N
    omega
  | succ r ih =>
    intro x h
    rcases h with h | ⟨y, i, h1, h2, h3⟩
    · exact ih x h
    · exact sc_lt (p0 := p0) hb h2 (ih y h1).2 h3
theorem rn_mono {N p0 r x : Nat} {K O T : Nat → Nat} (h : RNt N K O T p0 r x) : ∀ k, RNt N K O T p0 (r + k) x := by
  intro k
  induction k with
  | zero => exact h
  | succ k ih => exact Or.inl ih
theorem dn_rn {N p0 r x : Nat} {K O T : Nat → Nat} (h : DNt N K O T p0 r x) : RNt N K O T p0 r x := by
  cases r with
  | zero => exact h
  | succ r => exact h.1
theorem dn_succ {N p0 r x : Nat} {K O T : Nat → Nat} : RNt N K O T p0 (r + 1) x ↔ RNt N K O T p0 r x ∨ ∃ y i, DNt N K O T p0 r y ∧ i < N ∧ scT K O T i y = some x := by
  constructor
  · intro h
    rcases h with h | ⟨y, i, h1, h2, h3⟩
    · exact Or.inl h
    · cases r with
      | zero => exact Or.inr ⟨y, i, h1, h2, h3⟩
      | succ r =>
        by_cases h4 : RNt N K O T p0 r y
        · exact Or.inl (Or.inr ⟨y, i, h4, h2, h3⟩)
        · exact Or.inr ⟨y, i, ⟨h1, h4⟩, h2, h3⟩
  · intro h
    rcases h with h | ⟨y, i, h1, h2, h3⟩
    · exact Or.inl h
    · exact Or.inr ⟨y, i, dn_rn h1, h2, h3⟩
theorem dn_pos {N p0 r x : Nat} {K O T : Nat → Nat} (h : DNt N K O T p0 (r + 1) x) : ∃ y, DNt N K O T p0 r y := by
  rcases dn_succ.mp h.1 with h1 | ⟨y, i, h1, -, -⟩
  · exact absurd h1 h.2
  · exact ⟨y, h1⟩
theorem cnt_lt {p q : Nat → Bool} {j : Nat} (hpq : ∀ i, p i = true → q i = true) (h1 : q j = true) (h2 : ¬ p j = true) : ∀ n, j < n → cnt p n < cnt q n := by
  have hle : ∀ n, cnt p n ≤ cnt q n := by
    intro n
    induction n with
    | zero => exact Nat.le_refl _
    | succ n ih =>
      rw [cnt_succ, cnt_succ]
      by_cases h : p n = true
      · rw [if_pos h, if_pos (hpq n h)]; omega
      · rw [if_neg h]; split <;> omega
  intro n
  induction n with
  | zero => intro h; omega
  | succ n ih =>
    intro hj
    rw [cnt_succ, cnt_succ]
    by_cases hjn : j = n
    · subst hjn
      rw [if_pos h1, if_neg h2]
      have := hle j
      omega
    · have := ih (by omega)
      by_cases h : p n = true
      · rw [if_pos h, if_pos (hpq n h)]; omega
      · rw [if_neg h]; split <;> omega
theorem dn_cnt {P N W p0 : Nat} {K O T J : Nat → Nat} (hb : LB P N W K O T J) (hp : p0 < P) : ∀ r x, DNt N K O T p0 r x → r < cnt (fun x => @decide (RNt N K O T p0 r x) (Classical.propDecidable _)) 7168 := by
  have hP := hb.1
  intro r
  induction r with
  | zero =>
    intro x h
    have := cnt_lt (p := fun _ => false) (q := fun x => @decide (RNt N K O T p0 0 x) (Classical.propDecidable _)) (j := x) (fun i h => absurd h (by decide)) (by simp only [decide_eq_true_eq]; exact h) (by decide) 7168 (by have := (rn_lt hb hp 0 x h).1; omega)
    omega
  | succ r ih =>
    intro x h
    obtain ⟨y, hy⟩ := dn_pos h
    have h1 := ih y hy
    have h2 := cnt_lt (p := fun x => @decide (RNt N K O T p0 r x) (Classical.propDecidable _)) (q := fun x => @decide (RNt N K O T p0 (r + 1) x) (Classical.propDecidable _)) (j := x) (fun i h => by
      simp only [decide_eq_true_eq] at h ⊢; exact Or.inl h) (by simp only [decide_eq_true_eq]; exact h.1) (by simp only [decide_eq_true_eq]; exact h.2) 7168 (by have := (rn_lt hb hp _ x h.1).1; omega)
    omega
theorem dn_lt {P N W p0 r x : Nat} {K O T J : Nat → Nat} (hb : LB P N W K O T J) (hp : p0 < P) (h : DNt N K O T p0 r x) : r < 7168 := by
  have := dn_cnt hb hp r x h
  have := cnt_le (fun x => @decide (RNt N K O T p0 r x) (Classical.propDecidable _)) 7168
  omega
/-- what is reached is on some level -/
theorem rn_dn {N p0 : Nat} {K O T : Nat → Nat} {x : Nat} : ∀ r, RNt N K O T p0 r x → ∃ k, k ≤ r ∧ DNt N K O T p0 k x := by
  intro r
  induction r with
  | zero => intro h; exact ⟨0, Nat.le_refl _, h⟩
  | succ r ih =>
    intro h
    by_cases h1 : RNt N K O T p0 r x
    · obtain ⟨k, k1, k2⟩ := ih h1
      exact ⟨k, by omega, k2⟩
    · exact ⟨r + 1, Nat.le_refl _, h, h1⟩
/-- a level without any ends all -/
theorem dn_end {N p0 r : Nat} {K O T : Nat → Nat} (h : ∀ x, ¬ DNt N K O T p0 r x) : ∀ k x, ¬ DNt N K O T p0 (r + k) x := by
  intro k
  induction k with
  | zero => exact h
  | succ k ih =>
    intro x hx
    obtain ⟨y, hy⟩ := dn_pos hx
    exact ih y hy
theorem laF_bit {K O T : Nat → Nat} {i S q : Nat} : (laF K O T i S).testBit q = true ↔ ∃ p, S.testBit p = true ∧ ldm K O T i p = some q := by
  have hb : ∀ (c : Prop) [Decidable c] (t : Nat), (if c then 2 ^ t else 0).testBit q = true ↔ c ∧ t = q := fun c _ t => by
    by_cases hc : c
    · rw [if_pos hc, Nat.testBit_two_pow]; simp [hc]
    · rw [if_neg hc]; simp [hc]
  unfold laF
  rw [Nat.testBit_or, Bool.or_eq_true, hb, hb]
  constructor
  · rintro (⟨h1, rfl⟩ | ⟨⟨h1, h2⟩, rfl⟩)
    · exact ⟨O i, h1, if_pos rfl⟩
    · refine ⟨T i, h1, ?_⟩
      unfold ldm
      by_cases h : O i = T i
      · rw [if_pos h, h]
      · rw [if_neg h, if_pos ⟨rfl, h2⟩]
  · rintro ⟨p, h1, h2⟩
    unfold ldm at h2
    by_cases h : O i = p
    · subst h
      rw [if_pos rfl] at h2
      exact Or.inl ⟨h1, Option.some.inj h2⟩
    · rw [if_neg h] at h2
      by_cases h3 : T i = p ∧ K i ≠ 4
      · obtain ⟨rfl, h4⟩ := h3
        rw [if_pos ⟨rfl, h4⟩] at h2
        exact Or.inr ⟨⟨h1, h4⟩, Option.some.inj h2⟩
      · rw [if_neg h3] at h2; exact absurd h2 (by simp)
/-- an array of sets: place b at S -/
def BMt (σ : Nat → Int32) (R : Nat → Prop) : Prop := ∀ S, S < 1024 → ∃ m, m < 128 ∧ σ S = nI m ∧ ∀ b, m.testBit b = true ↔ R (1024 * b + S)
theorem bm_ext {σ : Nat → Int32} {R R' : Nat → Prop} (h : BMt σ R) (he : ∀ x, R x ↔ R' x) : BMt σ R' := fun S hS => by
  obtain ⟨m, h1, h2, h3⟩ := h S hS
  exact ⟨m, h1, h2, fun b => (h3 b).trans (he _)⟩
theorem bm_step {σ θ : Nat → Int32} {A C A' : Nat → Prop} {S la : Nat} (hσ : BMt σ (fun x => C x ∨ A x)) (hθ : BMt θ (fun x => A x ∧ ¬ C x)) (hS : S < 1024) (hla : la < 128) (hA' : ∀ x, A' x ↔ A x ∨ ∃ q, la.testBit q = true ∧ x = 1024 * q + S) :
    ∃ m mt y, m < 128 ∧ mt < 128 ∧ y < 128 ∧ σ S = nI m ∧ θ S = nI mt ∧ nI la &&& (nI m ^^^ (-1)) = nI y ∧ BMt (upd σ S (nI (m ||| y))) (fun x => C x ∨ A' x) ∧ BMt (upd θ S (nI (mt ||| y))) (fun x => A' x ∧ ¬ C x) ∧ ((∃ x, A' x ∧ ¬ C x) ↔ (∃ x, A x ∧ ¬ C x) ∨ y ≠ 0) := by
  obtain ⟨m, h1, h2, h3'⟩ := hσ S hS
  have h3 : ∀ b, m.testBit b = true ↔ C (1024 * b + S) ∨ A (1024 * b + S) := h3'
  obtain ⟨mt, g1, g2, g3'⟩ := hθ S hS
  have g3 : ∀ b, mt.testBit b = true ↔ A (1024 * b + S) ∧ ¬ C (1024 * b + S) := g3'
  have e31 : ∀ q, la.testBit q = true → q < 31 := fun q hq => by
    have := Nat.ge_two_pow_of_testBit hq
    by_cases h : q < 31
    · exact h
    · have h5 : (2 : Nat) ^ 31 ≤ 2 ^ q := Nat.pow_le_pow_right (by decide) (by omega)
      omega
  have hy : ∀ q, (sto (fun j => la.testBit j && !m.testBit j) 31).testBit q = true ↔ la.testBit q = true ∧ ¬ m.testBit q = true := fun q => by
    rw [sto_bit]
    constructor
    · intro h; simp at h; exact ⟨h.2.1, by simp [h.2.2]⟩
    · rintro ⟨k1, k2⟩; have := e31 q k1; simp [k1, k2, this]
  have hyl : sto (fun j => la.testBit j && !m.testBit j) 31 < 128 := Nat.lt_pow_two_of_testBit (n := 7) _ (fun i hi => by
    by_cases h : (sto (fun j => la.testBit j && !m.testBit j) 31).testBit i = true
    · have h4 := ((hy i).mp h).1
      have := Nat.ge_two_pow_of_testBit h4
      have h5 : (2 : Nat) ^ 7 ≤ 2 ^ i := Nat.pow_le_pow_right (by decide) hi
      omega
    · simpa using h)
  have hor : ∀ a, a < 128 → a ||| sto (fun j => la.testBit j && !m.testBit j) 31 < 128 := fun a ha => Nat.or_lt_two_pow (n := 7) ha hyl
  refine ⟨m, mt, _, h1, g1, hyl, h2, g2, nI_andn (by omega), fun S' hS' => ?_, fun S' hS' => ?_, ?_⟩
  · by_cases hSS : S' = S
    · subst hSS
      refine ⟨_, hor m h1, ud_s _ _ _, fun b => ?_⟩
      show _ ↔ C (1024 * b + S') ∨ A' (1024 * b + S')
      rw [Nat.testBit_or, Bool.or_eq_true, h3, hy, h3, hA']
      constructor
      · rintro ((h | h) | ⟨h, -⟩)
        · exact Or.inl h
        · exact Or.inr (Or.inl h)
        · exact Or.inr (Or.inr ⟨b, h, rfl⟩)
      · rintro (h | h | ⟨q, k1, k2⟩)
        · exact Or.inl (Or.inl h)
        · exact Or.inl (Or.inr h)
        · have : b = q := by omega
          subst this
          by_cases h : C (1024 * b + S') ∨ A (1024 * b + S')
          · exact Or.inl h
          · exact Or.inr ⟨k1, h⟩
    · obtain ⟨m', k1, k2, k3⟩ := hσ S' hS'
      refine ⟨m', k1, by rw [ud_n _ _ hSS]; exact k2, fun b => (k3 b).trans ?_⟩
      show C (1024 * b + S') ∨ A (1024 * b + S') ↔ C (1024 * b + S') ∨ A' (1024 * b + S')
      rw  [hA']
      constructor
      · rintro (h | h)
        · exact Or.inl h
        · exact Or.inr (Or.inl h)
      · rintro (h | h | ⟨q, -, h⟩)
        · exact Or.inl h
        · exact Or.inr h
        · exact absurd h (by omega)
  · by_cases hSS : S' = S
    · subst hSS
      refine ⟨_, hor mt g1, ud_s _ _ _, fun b => ?_⟩
      show _ ↔ A' (1024 * b + S') ∧ ¬ C (1024 * b + S')
      rw [Nat.testBit_or, Bool.or_eq_true, g3, hy, h3, hA']
      constructor
      · rintro (⟨h, h'⟩ | ⟨h, h'⟩)
        · exact ⟨Or.inl h, h'⟩
        · exact ⟨Or.inr ⟨b, h, rfl⟩, fun hh => h' (Or.inl hh)⟩
      · rintro ⟨h | ⟨q, k1, k2⟩, h'⟩
        · exact Or.inl ⟨h, h'⟩
        · have : b = q := by omega
          subst this
          by_cases h : A (1024 * b + S')
          · exact Or.inl ⟨h, h'⟩
          · exact Or.inr ⟨k1, fun hh => hh.elim h' h⟩
    · obtain ⟨m', k1, k2, k3⟩ := hθ S' hS'
      refine ⟨m', k1, by rw [ud_n _ _ hSS]; exact k2, fun b => (k3 b).trans ?_⟩
      show A (1024 * b + S') ∧ ¬ C (1024 * b + S') ↔ A' (1024 * b + S') ∧ ¬ C (1024 * b + S')
      rw  [hA']
      constructor
      · rintro ⟨h, h'⟩; exact ⟨Or.inl h, h'⟩
      · rintro ⟨h | ⟨q, -, h⟩, h'⟩
        · exact ⟨h, h'⟩
        · exact absurd h (by omega)
  · constructor
    · rintro ⟨x, h, h'⟩
      rcases (hA' x).mp h with h | ⟨q, k1, rfl⟩
      · exact Or.inl ⟨x, h, h'⟩
      · by_cases h : A (1024 * q + S)
        · exact Or.inl ⟨_, h, h'⟩
        · refine Or.inr (fun h0 => ?_)
          have := (hy q).mpr ⟨k1, fun hh => ((h3 q).mp hh).elim h' h⟩
          rw [h0] at this
          simp at this
    · rintro (⟨x, h, h'⟩ | h)
      · exact ⟨x, (hA' x).mpr (Or.inl h), h'⟩
      · obtain ⟨q, hq⟩ := Nat.exists_testBit_of_ne_zero h
        obtain ⟨k1, k2⟩ := (hy q).mp hq
        exact ⟨1024 * q + S, (hA' _).mpr (Or.inr ⟨q, k1, rfl⟩), fun hh => k2 ((h3 q).mpr (Or.inl hh))⟩
theorem bnu_low {S x : Nat} (hx : S.testBit x = true) (hl : ∀ j, j < x → ¬ S.testBit j = true) : ∀ p b, b ≤ x → x < b + p → bnu p b S 0 0 = some x := by
  intro p
  induction p with
  | zero => intro b h1 h2; omega
  | succ p ih =>
    intro b h1 h2
    unfold bnu
    by_cases h : b = x
    · subst h; rw [if_pos hx, if_pos rfl]
    · rw [if_neg (hl b (by omega))]
      exact ih (b + 1) (by omega) (by omega)

/-! more small rules for simp: numbers below 0, bits -/
theorem ni_neg {q : Nat} {c : Int32} (hq : q < 2147483648) (hc : c < 0) : nI q ≠ c := by
  intro h
  have h1 := nI_pos (n := q) hq
  rw [h] at h1
  exact h1 hc
theorem nm1 {q : Nat} (hq : q < 2147483648) : (nI q = -1) = False := eq_false (ni_neg hq (by decide))
theorem nm2 {q : Nat} (hq : q < 2147483648) : (nI q = -2) = False := eq_false (ni_neg hq (by decide))
theorem nm3 {q : Nat} (hq : q < 2147483648) : (nI q = -3) = False := eq_false (ni_neg hq (by decide))
theorem nm4 {q : Nat} (hq : q < 2147483648) : (nI q = -4) = False := eq_false (ni_neg hq (by decide))
theorem nm9 {q : Nat} (hq : q < 2147483648) : (nI q = -9) = False := eq_false (ni_neg hq (by decide))
theorem nz_neg {q : Nat} (hq : q < 2147483648) : (nI q < nI 0) = False := eq_false (by rw [nI_0]; exact nI_pos hq)
theorem ngc : ((-1 : Int32) < nI 0) = True ∧ ((-2 : Int32) < nI 0) = True ∧ ((-3 : Int32) < nI 0) = True ∧ ((-4 : Int32) < nI 0) = True ∧ ((-9 : Int32) < nI 0) = True ∧ ((-1 : Int32) = -9) = False ∧ ((-9 : Int32) = -1) = False ∧ ((-1 : Int32) = nI 0) = False ∧ ((-9 : Int32) = nI 0) = False ∧ ((-3 : Int32) = nI 0) = False := by
  refine ⟨?_, ?_, ?_, ?_, ?_, ?_, ?_, ?_, ?_, ?_⟩ <;> first | exact eq_true (by decide) | exact eq_false (by decide)
theorem sl_32 : ∀ n, n < 32 → ((nI n &&& 31).toBitVec.smod 32).toNat = n := by decide +kernel
theorem nI_bit {k : Nat} (hk : k < 31) : nI 1 <<< (nI k &&& 31) = nI (2 ^ k) := by
  have h1 : 2 ^ k < 2 ^ 31 := Nat.pow_lt_pow_right (by decide) hk
  rw [pk_shlN (n := 1) _ k (sl_32 k (by omega)) (by omega), Nat.one_mul]
theorem nI_shl {a k : Nat} (hk : k < 32) (h : a * 2 ^ k < 2 ^ 32) : nI a <<< (nI k &&& 31) = nI (a * 2 ^ k) := pk_shlN _ k (sl_32 k hk) h
theorem nI_shr {a k : Nat} (ha : a < 2147483648) (hk : k < 32) : nI a >>> (nI k &&& 31) = nI (a / 2 ^ k) := pk_shrN ha _ k (sl_32 k hk)
theorem nI_and (a b : Nat) : nI a &&& nI b = nI (a &&& b) := by
  apply Int32.toBitVec_inj.1
  show BitVec.ofNat 32 a &&& BitVec.ofNat 32 b = BitVec.ofNat 32 (a &&& b)
  apply BitVec.eq_of_getLsbD_eq
  intro i hi
  simp [hi]
theorem nI_or (a b : Nat) : nI a ||| nI b = nI (a ||| b) := by
  apply Int32.toBitVec_inj.1
  show BitVec.ofNat 32 a ||| BitVec.ofNat 32 b = BitVec.ofNat 32 (a ||| b)
  apply BitVec.eq_of_getLsbD_eq
  intro i hi
  simp [hi]
theorem nI_mul (a b : Nat) : nI a * nI b = nI (a * b) := pk_mul a b
theorem nI_sub {a b : Nat} (h : b ≤ a) : nI a - nI b = nI (a - b) := pk_sub h
theorem nI_div {a d : Nat} (ha : a < 2147483648) (h0 : 0 < d) (hd : d < 2147483648) : nI a / nI d = nI (a / d) := pk_div ha h0 hd
theorem nI_rem {a d : Nat} (ha : a < 2147483648) (h0 : 0 < d) (hd : d < 2147483648) : nI a - nI a / nI d * nI d = nI (a % d) := pk_rem ha h0 hd
theorem and_bit {s k : Nat} : s &&& 2 ^ k = if s.testBit k = true then 2 ^ k else 0 := by
  apply Nat.eq_of_testBit_eq
  intro j
  by_cases h : s.testBit k = true
  · rw [if_pos h, Nat.testBit_and, Nat.testBit_two_pow]
    by_cases hj : k = j
    · subst hj; simp [h]
    · simp [hj]
  · rw [if_neg h, Nat.testBit_and, Nat.testBit_two_pow]
    by_cases hj : k = j
    · subst hj; simp [h]
    · simp [hj]
theorem bitz {s k : Nat} (hk : k < 31) : (nI (s &&& 2 ^ k) = nI 0) = (s.testBit k = false) := by
  have h1 : 2 ^ k < 2 ^ 31 := Nat.pow_lt_pow_right (by decide) hk
  have h2 := Nat.two_pow_pos k
  rw [and_bit]
  by_cases h : s.testBit k = true
  · rw [if_pos h]
    have h3 : nI (2 ^ k) ≠ nI 0 := fun e => by have := (nI_eq h1 (by decide)).mp e; omega
    simp [h3, h]
  · rw [if_neg h]
    simp [h]
theorem bith {s k : Nat} : (nI (s / 2 ^ k &&& 1) = nI 1) = (s.testBit k = true) := by
  rw [Nat.and_one_is_mod, Nat.testBit_eq_decide_div_mod_eq]
  have h1 : s / 2 ^ k % 2 < 2 := Nat.mod_lt _ (by decide)
  rw [nI_eq (by omega) (by decide)]
  simp
theorem or_lt {s k n : Nat} (h : s < 2 ^ n) (hk : k < n) : s ||| 2 ^ k < 2 ^ n := Nat.or_lt_two_pow h (Nat.pow_lt_pow_right (by decide) hk)
theorem sw_n {k : Nat} {t : Nat} {tb : List Nat} (hk : k < 2147483648) : sw 0 tb t (nI k) = if k < tb.length then tb.getD k 0 else t := by
  unfold sw
  rw [nI_toInt hk]
  by_cases h : k < tb.length
  · rw [if_neg (by omega), if_pos h]
    congr 1
  · rw [if_pos (by omega), if_neg h]
theorem sw_1 {k : Nat} {t : Nat} {tb : List Nat} (hk : k < 2147483648) : sw 1 tb t (nI k) = if 1 ≤ k ∧ k < 1 + tb.length then tb.getD (k - 1) 0 else t := by
  unfold sw
  rw [nI_toInt hk]
  by_cases h : 1 ≤ k ∧ k < 1 + tb.length
  · rw [if_neg (by omega), if_pos h]
    congr 1
    omega
  · rw [if_pos (by omega), if_neg h]
/-- an int argument: below 0, above n, or one of 0 .. n -/
theorem ix (x : Int32) {n : Nat} (hn : n < 2147483647) : x < nI 0 ∨ (¬ x < nI 0 ∧ ¬ x < nI (n + 1) ∧ nI n < x) ∨ ∃ j, j ≤ n ∧ x = nI j := by
  by_cases h : x < nI 0
  · exact Or.inl h
  · obtain ⟨j, hj, e⟩ := nI_of (x := x) (by rw [← nI_0]; exact h)
    subst e
    by_cases h2 : j ≤ n
    · exact Or.inr (Or.inr ⟨j, h2, rfl⟩)
    · exact Or.inr (Or.inl ⟨h, by rw [nI_ltI hj (by omega)]; omega, by rw [nI_ltI (by omega) hj]; omega⟩)
/-- counting up -/
def allb (p : Nat → Bool) : Nat → Nat → Bool
  | _, 0 => true
  | k, q + 1 => p k && allb p (k + 1) q
def foldu {α : Type} (F : Nat → α → α) : Nat → Nat → α → α
  | _, 0, a => a
  | k, q + 1, a => foldu F (k + 1) q (F k a)
/-- an array's places from k to m are x -/
def fil {α : Type} (g : Nat → α) (k m : Nat) (x : α) : Nat → α := fun j => if k ≤ j ∧ j < m then x else g j
theorem fil_done {α : Type} (g : Nat → α) (m : Nat) (x : α) : fil g m m x = g := by
  funext j
  simp only [fil]
  rw [if_neg (by omega)]
theorem fil_upd (g : Nat → Int32) (k m : Nat) (x : Int32) (h : k < m) : fil (upd g k x) (k + 1) m x = fil g k m x := by
  funext j
  simp only [fil, upd]
  by_cases h1 : j = k
  · subst h1
    rw [if_neg (by omega), if_pos rfl, if_pos (by omega)]
  · by_cases h2 : k + 1 ≤ j ∧ j < m
    · rw [if_pos h2, if_pos (by omega)]
    · rw [if_neg h2, if_neg h1, if_neg (by omega)]
theorem fil_updL (g : Nat → Int64) (k m : Nat) (x : Int64) (h : k < m) : fil (vp_updL g k x) (k + 1) m x = fil g k m x := by
  funext j
  simp only [fil, vp_updL]
  by_cases h1 : j = k
  · subst h1
    rw [if_neg (by omega), if_pos rfl, if_pos (by omega)]
  · by_cases h2 : k + 1 ≤ j ∧ j < m
    · rw [if_pos h2, if_pos (by omega)]
    · rw [if_neg h2, if_neg h1, if_neg (by omega)]
theorem up_id {α : Type} {f : Nat → α} {k : Nat} {e : α} (h : f k = e) : va_up f k e = f := by
  funext j
  by_cases hj : j = k
  · subst hj
    rw [up_s, h]
  · rw [up_n _ _ hj]
theorem ud_s (f : Nat → Int32) (k : Nat) (x : Int32) : upd f k x k = x := if_pos rfl
theorem ud_n (f : Nat → Int32) {k j : Nat} (x : Int32) (h : j ≠ k) : upd f k x j = f j := if_neg h
theorem ul_s (f : Nat → Int64) (k : Nat) (x : Int64) : vp_updL f k x k = x := if_pos rfl
theorem ul_n (f : Nat → Int64) {k j : Nat} (x : Int64) (h : j ≠ k) : vp_updL f k x j = f j := if_neg h
theorem max0 (k : Nat) : (if 0 < k then nI k else nI 0) = nI k := by
  by_cases h : 0 < k
  · rw [if_pos h]
  · rw [if_neg h, show k = 0 by omega]
theorem iteQ {p : Prop} [Decidable p] {α : Type} {Q : α → Prop} {x y : α} : (if p then Q x else Q y) ↔ Q (if p then x else y) := by
  by_cases h : p <;> simp [h]

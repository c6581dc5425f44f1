/-! more small rules for simp: numbers below 0 -/
theorem ni_neg {q : Nat} {c : Int32} (hq : q < 2147483648) (hc : c < 0) : nI q ≠ c := by
  intro h
  have h1 := nI_pos (n := q) hq
  rw [h] at h1
  exact h1 hc
theorem nm1 {q : Nat} (hq : q < 2147483648) : (nI q = -1) = False := eq_false (ni_neg hq (by decide))
theorem nm2 {q : Nat} (hq : q < 2147483648) : (nI q = -2) = False := eq_false (ni_neg hq (by decide))
theorem nm3 {q : Nat} (hq : q < 2147483648) : (nI q = -3) = False := eq_false (ni_neg hq (by decide))
theorem nm4 {q : Nat} (hq : q < 2147483648) : (nI q = -4) = False := eq_false (ni_neg hq (by decide))
theorem nm9 {q : Nat} (hq : q < 2147483648) : (nI q = -9) = False := eq_false (ni_neg hq (by decide))
theorem nz_neg {q : Nat} (hq : q < 2147483648) : (nI q < nI 0) = False := eq_false (by rw [nI_0]; exact nI_pos hq)
theorem ngc : ((-1 : Int32) < nI 0) = True ∧ ((-2 : Int32) < nI 0) = True ∧ ((-3 : Int32) < nI 0) = True ∧ ((-4 : Int32) < nI 0) = True ∧ ((-9 : Int32) < nI 0) = True ∧ ((-1 : Int32) = -9) = False ∧ ((-9 : Int32) = -1) = False ∧ ((-1 : Int32) = nI 0) = False ∧ ((-9 : Int32) = nI 0) = False ∧ ((-3 : Int32) = nI 0) = False := by
  refine ⟨?_, ?_, ?_, ?_, ?_, ?_, ?_, ?_, ?_, ?_⟩ <;> first | exact eq_true (by decide) | exact eq_false (by decide)

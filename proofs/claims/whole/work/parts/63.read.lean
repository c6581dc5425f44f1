/-! reading a land -/
def kdc (x : Int32) : Option Nat := if x = nI 114 then some 0 else if x = nI 112 then some 1 else if x = nI 115 then some 2 else if x = nI 102 then some 3 else if x = nI 116 then some 4 else if x = nI 118 then some 5 else none
theorem kdc_lt {x : Int32} {k : Nat} (h : kdc x = some k) : k < 6 := by
  unfold kdc at h
  repeat' split at h
  all_goals first | (cases h; decide) | exact absurd h (by simp)
def fgr (x : Int32) (lo hi : Nat) : Option Nat := if x < nI (48 + lo) ∨ nI (48 + hi) < x then none else some (x.toNatClampNeg - 48)
theorem nI_back {x : Int32} {c : Nat} (h : x - nI 48 = nI c) : x = nI (48 + c) := by
  have : x = x - nI 48 + nI 48 := (Int32.sub_add_cancel x (nI 48)).symm
  rw [this, h, nI_add, Nat.add_comm]
theorem fgr_some {x : Int32} {lo hi c : Nat} (hh : hi < 65536) (hlo : lo < 65536) (h : fgr x lo hi = some c) : x = nI (48 + c) ∧ lo ≤ c ∧ c ≤ hi := by
  unfold fgr at h
  split at h
  · exact absurd h (by simp)
  · rename_i hn
    have h1 : ¬ x < nI (48 + lo) := fun e => hn (Or.inl e)
    have h2 : ¬ nI (48 + hi) < x := fun e => hn (Or.inr e)
    by_cases h3 : x < nI 0
    · refine absurd (Int32.lt_trans h3 ?_) h1
      rw [nI_ltI (by decide) (by omega)]; omega
    · obtain ⟨k, hk, rfl⟩ := nI_of' h3
      rw [nI_ltI hk (by omega)] at h1
      rw [nI_ltI (by omega) hk] at h2
      rw [nI_clamp hk] at h
      cases h
      exact ⟨congrArg nI (by omega), by omega, by omega⟩
theorem fgr_no {x : Int32} {lo hi : Nat} (hh : hi < 65536) (hlo : lo < 65536) (h : fgr x lo hi = none) : (x - nI 48 < nI lo ∨ (¬ x - nI 48 < nI lo ∧ nI hi < x - nI 48)) ∧ (x < nI (48 + lo) ∨ (¬ x < nI (48 + lo) ∧ nI (48 + hi) < x)) := by
  unfold fgr at h
  split at h
  · rename_i hn
    constructor
    · by_cases h1 : x - nI 48 < nI lo
      · exact Or.inl h1
      refine Or.inr ⟨h1, ?_⟩
      refine Decidable.byContradiction (fun h2 => ?_)
      by_cases h3 : x - nI 48 < nI 0
      · by_cases h0 : lo = 0
        · subst h0; exact h1 h3
        · exact h1 (Int32.lt_trans h3 (by rw [nI_ltI (by decide) (by omega)]; omega))
      · obtain ⟨k, hk, e⟩ := nI_of' h3
        rw [e, nI_ltI hk (by omega)] at h1
        rw [e, nI_ltI (by omega) hk] at h2
        have := nI_back e
        rcases hn with hn | hn
        · rw [this, nI_ltI (by omega) (by omega)] at hn; omega
        · rw [this, nI_ltI (by omega) (by omega)] at hn; omega
    · rcases hn with hn | hn
      · exact Or.inl hn
      · by_cases h1 : x < nI (48 + lo)
        · exact Or.inl h1
        · exact Or.inr ⟨h1, hn⟩
  · exact absurd h (by simp)
def skp (γ : Nat → Int32) : Nat → Nat → Nat
  | 0, p => p
  | j + 1, p => if γ p = nI 32 then skp γ j (p + 1) else p
theorem skp_le (γ : Nat → Int32) : ∀ (j p : Nat), p ≤ skp γ j p ∧ skp γ j p ≤ p + j := by
  intro j
  induction j with
  | zero => intro p; exact ⟨Nat.le_refl _, Nat.le_refl _⟩
  | succ j ih =>
    intro p
    unfold skp
    split
    · have := ih (p + 1); omega
    · omega
/-- a figure at p -/
def fg (γ : Nat → Int32) (n p lo hi : Nat) : Option Nat := if p < n then fgr (γ p) lo hi else none
def rdr (γ : Nat → Int32) (n P N p : Nat) : Nat × Option (Nat × Nat × Nat × Nat) := match kdc (γ p) with
  | none => (p, none)
  | some k => if N = 10 then (p, none) else match fg γ n (p + 1) 0 (P - 1) with
    | none => (p + 1, none)
    | some a => match fg γ n (p + 2) 0 (P - 1) with
      | none => (p + 2, none)
      | some b => match fg γ n (p + 3) 0 9 with
        | none => (p + 3, none)
        | some c => (p + 4, some (k, a, b, c))
def hdr (γ : Nat → Int32) (n : Nat) : Nat × Option Nat := if skp γ n 0 < n ∧ γ (skp γ n 0) = nI 110 then (match fg γ n (skp γ n 0 + 1) 1 7 with
    | none => (skp γ n 0 + 1, none)
    | some P => (skp γ n 0 + 2, some P)) else (skp γ n 0, none)
def LD := (Nat → Nat) × (Nat → Nat) × (Nat → Nat) × (Nat → Nat)
def prs (γ : Nat → Int32) (n P : Nat) : Nat → Nat → Nat → LD → Option Nat × Nat × LD
  | 0, p, N, L => (some p, N, L)
  | r + 1, p, N, L => if n ≤ skp γ (n - p) p then (none, N, L) else match rdr γ n P N (skp γ (n - p) p) with
    | (q, none) => (some q, N, L)
    | (q, some (k, a, b, c)) => prs γ n P r q (N + 1) (va_up L.1 N k, va_up L.2.1 N a, va_up L.2.2.1 N b, va_up L.2.2.2 N c)
theorem fg_lt {γ : Nat → Int32} {n p lo hi c : Nat} (h : fg γ n p lo hi = some c) : p < n := by
  unfold fg at h
  split at h
  · assumption
  · exact absurd h (by simp)
theorem fg_some {γ : Nat → Int32} {n p lo hi c : Nat} (hh : hi < 65536) (hlo : lo < 65536) (h : fg γ n p lo hi = some c) : γ p = nI (48 + c) ∧ lo ≤ c ∧ c ≤ hi := by
  have h1 := fg_lt h
  unfold fg at h
  rw [if_pos h1] at h
  exact fgr_some hh hlo h
theorem rdr_ok {γ : Nat → Int32} {n P N p q k a b c : Nat} (h : rdr γ n P N p = (q, some (k, a, b, c))) : kdc (γ p) = some k ∧ N ≠ 10 ∧ fg γ n (p + 1) 0 (P - 1) = some a ∧ fg γ n (p + 2) 0 (P - 1) = some b ∧ fg γ n (p + 3) 0 9 = some c ∧ q = p + 4 := by
  unfold rdr at h
  cases h1 : kdc (γ p) with
  | none => rw [h1] at h; exact absurd (Prod.mk.inj h).2 (by simp)
  | some k' =>
    rw [h1] at h
    simp only at h
    by_cases hN : N = 10
    · rw [if_pos hN] at h; exact absurd (Prod.mk.inj h).2 (by simp)
    rw [if_neg hN] at h
    cases h2 : fg γ n (p + 1) 0 (P - 1) with
    | none => rw [h2] at h; exact absurd (Prod.mk.inj h).2 (by simp)
    | some a' =>
      rw [h2] at h
      simp only at h
      cases h3 : fg γ n (p + 2) 0 (P - 1) with
      | none => rw [h3] at h; exact absurd (Prod.mk.inj h).2 (by simp)
      | some b' =>
        rw [h3] at h
        simp only at h
        cases h4 : fg γ n (p + 3) 0 9 with
        | none => rw [h4] at h; exact absurd (Prod.mk.inj h).2 (by simp)
        | some c' =>
          rw [h4] at h
          simp only at h
          cases h
          exact ⟨rfl, hN, rfl, rfl, rfl, rfl⟩
theorem let0 : letters 0 = nI 114 := rfl
theorem let1 : letters 1 = nI 112 := rfl
theorem let2 : letters 2 = nI 115 := rfl
theorem let3 : letters 3 = nI 102 := rfl
theorem let4 : letters 4 = nI 116 := rfl
theorem let5 : letters 5 = nI 118 := rfl
section
variable {t d : Nat} {z : AZ} {X : Nat × (Nat → Int32)} {C : CT} {M : MT} {s : Nat → Int32} {v : Nat → Int64} {g : Nat → Nat → Int32} {w : Nat → Nat → Int64} {q : Nat → Nat} {ct : Nat → Int32} {cn : Nat → Int32} {cc : Nat → Nat → Int32} {di : Nat → Nat → Int32} {dr : Nat → Nat → Int32} {df : Nat → Nat → Int32} {li : Nat → Nat → Int32} {la : Nat → Nat → Nat → Int32} {sf : Nat → Nat → Int32} {sl : Nat → Nat → Int32} {a : Nat → Int32} {b : Nat → Int64} {e : Nat → Nat → Int32} {o : Nat → Nat → Int64} {B : Nat → Bool} {n : Nat → Nat} {P N W : Nat} {K O T J : Nat → Nat} {l : Nat} {Ds : Nat → Nat} {Dr Df Dp : Nat → Nat → Nat} {KB : Nat → Bool}
variable {Q : Option Value → AZ → AH → Prop}
theorem lp_skip {c n : Nat} (hc : c < 10) (h2 : q 2 = c) (hn : cn c = nI n) (hm : n ≤ cap c) : ∀ (j p : Nat), p + j = n → (Wp (d + 2) 503 0 [some (.ref 3)] [] z (Hp X (va_up s 20 (nI p), v, g, w, q, ct, cn, cc, di, dr, df, li, la, sf, sl) M) Q ↔ Q none z (Hp X (va_up s 20 (nI (skp (cc c) j p)), v, g, w, q, ct, cn, cc, di, dr, df, li, la, sf, sl) M)) := by
  have h8 : cap c ≤ 80 := by unfold cap; split <;> omega
  have h99 : svl c = .ref (co c) := if_neg (by omega)
  intro j
  induction j with
  | zero =>
    intro p hp
    have hp : p = n := by omega
    subst hp
    rw [W503_0]
    simp (disch := omega) only [W503, r_4, r_La, h60_5_2, h60_5_1, h60_0_2, r_49, h79_5, s_0, ci_32, r_47, r_30, r_30r, ci_1, r_10, h61_5_2, r_52, r_93, enR, LG, LSt, LC, nlR, psR, TK, up_s, up_n, up_u, lt_nI, le_nI, eq_nI, true_and, and_true, if_true, if_false, Nat.zero_add, Nat.add_zero, nI_add, ↓reduceIte, Nat.reduceAdd, Nat.reduceMul, Nat.reduceSub, Nat.reduceLT, Nat.reduceLeDiff, Nat.reduceEqDiff, Nat.not_lt_zero, Nat.lt_irrefl, decide_true, BEq.rfl, nm1, nm2, nm3, nm4, nm9, ngc, eq_self, List.length_cons, List.length_nil, h2, h99, hc, hn, skp]
  | succ j ih =>
    intro p hp
    have h1 : p < n := by omega
    rw [W503_0]
    by_cases h3 : cc c p = nI 32
    · simp (disch := omega) only [W503, r_4, r_La, h60_5_2, h60_5_1, h60_0_2, r_49, h79_5, s_0, ci_32, r_47, r_30, r_30r, ci_1, r_10, h61_5_2, r_52, r_93, enR, LG, LSt, LC, nlR, psR, TK, up_s, up_n, up_u, lt_nI, le_nI, eq_nI, true_and, and_true, if_true, if_false, Nat.zero_add, Nat.add_zero, nI_add, ↓reduceIte, Nat.reduceAdd, Nat.reduceMul, Nat.reduceSub, Nat.reduceLT, Nat.reduceLeDiff, Nat.reduceEqDiff, Nat.not_lt_zero, Nat.lt_irrefl, decide_true, BEq.rfl, nm1, nm2, nm3, nm4, nm9, ngc, eq_self, List.length_cons, List.length_nil, h2, h99, hc, hn, h1, c_valueAt hc hn h1 hm, h3, skp]
      exact ih (p + 1) (by omega)
    · simp (disch := omega) only [W503, r_4, r_La, h60_5_2, h60_5_1, h60_0_2, r_49, h79_5, s_0, ci_32, r_47, r_30, r_30r, ci_1, r_10, h61_5_2, r_52, r_93, enR, LG, LSt, LC, nlR, psR, TK, up_s, up_n, up_u, lt_nI, le_nI, eq_nI, true_and, and_true, if_true, if_false, Nat.zero_add, Nat.add_zero, nI_add, ↓reduceIte, Nat.reduceAdd, Nat.reduceMul, Nat.reduceSub, Nat.reduceLT, Nat.reduceLeDiff, Nat.reduceEqDiff, Nat.not_lt_zero, Nat.lt_irrefl, decide_true, BEq.rfl, nm1, nm2, nm3, nm4, nm9, ngc, eq_self, List.length_cons, List.length_nil, h2, h99, hc, hn, h1, c_valueAt hc hn h1 hm, h3, skp]
theorem c_skip {c n p : Nat} (hc : c < 10) (h2 : q 2 = c) (hn : cn c = nI n) (hm : n ≤ cap c) (hp : p ≤ n) : Cw (d + 3) 503 [.ref 3] z (Hp X (va_up s 20 (nI p), v, g, w, q, ct, cn, cc, di, dr, df, li, la, sf, sl) M) Q ↔ Q none z (Hp X (va_up s 20 (nI (skp (cc c) (n - p) p)), v, g, w, q, ct, cn, cc, di, dr, df, li, la, sf, sl) M) := by
  rw [cw_wp]
  exact lp_skip hc h2 hn hm (n - p) p (by omega)
theorem c_kind {c n p : Nat} (hc : c < 10) (h2 : q 2 = c) (hn : cn c = nI n) (hm : n ≤ cap c) (hp : p < n) : Cw (d + 3) 506 [.ref 3] z (Hp X (va_up s 20 (nI p), v, g, w, q, ct, cn, cc, di, dr, df, li, la, sf, sl) M) Q ↔ Q (some (.int (match kdc (cc c p) with | none => -1 | some k => nI k))) z (Hp X (va_up s 20 (nI p), v, g, w, q, ct, cn, cc, di, dr, df, li, la, sf, sl) M) := by
  have h99 : svl c = .ref (co c) := if_neg (by omega)
  rw [cw_wp]
  simp (disch := omega) only [W506, s_0, ci_0, r_5, r_2, r_Li, r_62, r_49, r_4, r_La, h60_5_1, h60_5_2, h79_5, r_47, r_90, s_8, r_In, ci_1, r_52, ci_m1, h64_L, h63_L, enR, LG, LSt, LC, nlR, psR, TK, up_s, up_n, up_u, lt_nI, le_nI, eq_nI, true_and, and_true, if_true, if_false, Nat.zero_add, Nat.add_zero, nI_add, ↓reduceIte, Nat.reduceAdd, Nat.reduceMul, Nat.reduceSub, Nat.reduceLT, Nat.reduceLeDiff, Nat.reduceEqDiff, Nat.not_lt_zero, Nat.lt_irrefl, decide_true, BEq.rfl, nm1, nm2, nm3, nm4, nm9, ngc, eq_self, List.length_cons, List.length_nil]
  by_cases g0 : cc c p = nI 114
  · rw [W506_2]
    simp (disch := omega) only [W506, s_0, ci_0, r_5, r_2, r_Li, r_62, r_49, r_4, r_La, h60_5_1, h60_5_2, h79_5, r_47, r_90, s_8, r_In, ci_1, r_52, ci_m1, h64_L, h63_L, enR, LG, LSt, LC, nlR, psR, TK, up_s, up_n, up_u, lt_nI, le_nI, eq_nI, true_and, and_true, if_true, if_false, Nat.zero_add, Nat.add_zero, nI_add, ↓reduceIte, Nat.reduceAdd, Nat.reduceMul, Nat.reduceSub, Nat.reduceLT, Nat.reduceLeDiff, Nat.reduceEqDiff, Nat.not_lt_zero, Nat.lt_irrefl, decide_true, BEq.rfl, nm1, nm2, nm3, nm4, nm9, ngc, eq_self, List.length_cons, List.length_nil, h2, h99, c_valueAt hc hn hp hm, let0, g0, kdc]
  rw [W506_2]
  simp (disch := omega) only [W506, s_0, ci_0, r_5, r_2, r_Li, r_62, r_49, r_4, r_La, h60_5_1, h60_5_2, h79_5, r_47, r_90, s_8, r_In, ci_1, r_52, ci_m1, h64_L, h63_L, enR, LG, LSt, LC, nlR, psR, TK, up_s, up_n, up_u, lt_nI, le_nI, eq_nI, true_and, and_true, if_true, if_false, Nat.zero_add, Nat.add_zero, nI_add, ↓reduceIte, Nat.reduceAdd, Nat.reduceMul, Nat.reduceSub, Nat.reduceLT, Nat.reduceLeDiff, Nat.reduceEqDiff, Nat.not_lt_zero, Nat.lt_irrefl, decide_true, BEq.rfl, nm1, nm2, nm3, nm4, nm9, ngc, eq_self, List.length_cons, List.length_nil, h2, h99, c_valueAt hc hn hp hm, let0, g0]
  by_cases g1 : cc c p = nI 112
  · rw [W506_2]
    simp (disch := omega) only [W506, s_0, ci_0, r_5, r_2, r_Li, r_62, r_49, r_4, r_La, h60_5_1, h60_5_2, h79_5, r_47, r_90, s_8, r_In, ci_1, r_52, ci_m1, h64_L, h63_L, enR, LG, LSt, LC, nlR, psR, TK, up_s, up_n, up_u, lt_nI, le_nI, eq_nI, true_and, and_true, if_true, if_false, Nat.zero_add, Nat.add_zero, nI_add, ↓reduceIte, Nat.reduceAdd, Nat.reduceMul, Nat.reduceSub, Nat.reduceLT, Nat.reduceLeDiff, Nat.reduceEqDiff, Nat.not_lt_zero, Nat.lt_irrefl, decide_true, BEq.rfl, nm1, nm2, nm3, nm4, nm9, ngc, eq_self, List.length_cons, List.length_nil, h2, h99, c_valueAt hc hn hp hm, let1, g1, kdc]
  rw [W506_2]
  simp (disch := omega) only [W506, s_0, ci_0, r_5, r_2, r_Li, r_62, r_49, r_4, r_La, h60_5_1, h60_5_2, h79_5, r_47, r_90, s_8, r_In, ci_1, r_52, ci_m1, h64_L, h63_L, enR, LG, LSt, LC, nlR, psR, TK, up_s, up_n, up_u, lt_nI, le_nI, eq_nI, true_and, and_true, if_true, if_false, Nat.zero_add, Nat.add_zero, nI_add, ↓reduceIte, Nat.reduceAdd, Nat.reduceMul, Nat.reduceSub, Nat.reduceLT, Nat.reduceLeDiff, Nat.reduceEqDiff, Nat.not_lt_zero, Nat.lt_irrefl, decide_true, BEq.rfl, nm1, nm2, nm3, nm4, nm9, ngc, eq_self, List.length_cons, List.length_nil, h2, h99, c_valueAt hc hn hp hm, let1, g1]
  by_cases g2 : cc c p = nI 115
  · rw [W506_2]
    simp (disch := omega) only [W506, s_0, ci_0, r_5, r_2, r_Li, r_62, r_49, r_4, r_La, h60_5_1, h60_5_2, h79_5, r_47, r_90, s_8, r_In, ci_1, r_52, ci_m1, h64_L, h63_L, enR, LG, LSt, LC, nlR, psR, TK, up_s, up_n, up_u, lt_nI, le_nI, eq_nI, true_and, and_true, if_true, if_false, Nat.zero_add, Nat.add_zero, nI_add, ↓reduceIte, Nat.reduceAdd, Nat.reduceMul, Nat.reduceSub, Nat.reduceLT, Nat.reduceLeDiff, Nat.reduceEqDiff, Nat.not_lt_zero, Nat.lt_irrefl, decide_true, BEq.rfl, nm1, nm2, nm3, nm4, nm9, ngc, eq_self, List.length_cons, List.length_nil, h2, h99, c_valueAt hc hn hp hm, let2, g2, kdc]
  rw [W506_2]
  simp (disch := omega) only [W506, s_0, ci_0, r_5, r_2, r_Li, r_62, r_49, r_4, r_La, h60_5_1, h60_5_2, h79_5, r_47, r_90, s_8, r_In, ci_1, r_52, ci_m1, h64_L, h63_L, enR, LG, LSt, LC, nlR, psR, TK, up_s, up_n, up_u, lt_nI, le_nI, eq_nI, true_and, and_true, if_true, if_false, Nat.zero_add, Nat.add_zero, nI_add, ↓reduceIte, Nat.reduceAdd, Nat.reduceMul, Nat.reduceSub, Nat.reduceLT, Nat.reduceLeDiff, Nat.reduceEqDiff, Nat.not_lt_zero, Nat.lt_irrefl, decide_true, BEq.rfl, nm1, nm2, nm3, nm4, nm9, ngc, eq_self, List.length_cons, List.length_nil, h2, h99, c_valueAt hc hn hp hm, let2, g2]
  by_cases g3 : cc c p = nI 102
  · rw [W506_2]
    simp (disch := omega) only [W506, s_0, ci_0, r_5, r_2, r_Li, r_62, r_49, r_4, r_La, h60_5_1, h60_5_2, h79_5, r_47, r_90, s_8, r_In, ci_1, r_52, ci_m1, h64_L, h63_L, enR, LG, LSt, LC, nlR, psR, TK, up_s, up_n, up_u, lt_nI, le_nI, eq_nI, true_and, and_true, if_true, if_false, Nat.zero_add, Nat.add_zero, nI_add, ↓reduceIte, Nat.reduceAdd, Nat.reduceMul, Nat.reduceSub, Nat.reduceLT, Nat.reduceLeDiff, Nat.reduceEqDiff, Nat.not_lt_zero, Nat.lt_irrefl, decide_true, BEq.rfl, nm1, nm2, nm3, nm4, nm9, ngc, eq_self, List.length_cons, List.length_nil, h2, h99, c_valueAt hc hn hp hm, let3, g3, kdc]
  rw [W506_2]
  simp (disch := omega) only [W506, s_0, ci_0, r_5, r_2, r_Li, r_62, r_49, r_4, r_La, h60_5_1, h60_5_2, h79_5, r_47, r_90, s_8, r_In, ci_1, r_52, ci_m1, h64_L, h63_L, enR, LG, LSt, LC, nlR, psR, TK, up_s, up_n, up_u, lt_nI, le_nI, eq_nI, true_and, and_true, if_true, if_false, Nat.zero_add, Nat.add_zero, nI_add, ↓reduceIte, Nat.reduceAdd, Nat.reduceMul, Nat.reduceSub, Nat.reduceLT, Nat.reduceLeDiff, Nat.reduceEqDiff, Nat.not_lt_zero, Nat.lt_irrefl, decide_true, BEq.rfl, nm1, nm2, nm3, nm4, nm9, ngc, eq_self, List.length_cons, List.length_nil, h2, h99, c_valueAt hc hn hp hm, let3, g3]
  by_cases g4 : cc c p = nI 116
  · rw [W506_2]
    simp (disch := omega) only [W506, s_0, ci_0, r_5, r_2, r_Li, r_62, r_49, r_4, r_La, h60_5_1, h60_5_2, h79_5, r_47, r_90, s_8, r_In, ci_1, r_52, ci_m1, h64_L, h63_L, enR, LG, LSt, LC, nlR, psR, TK, up_s, up_n, up_u, lt_nI, le_nI, eq_nI, true_and, and_true, if_true, if_false, Nat.zero_add, Nat.add_zero, nI_add, ↓reduceIte, Nat.reduceAdd, Nat.reduceMul, Nat.reduceSub, Nat.reduceLT, Nat.reduceLeDiff, Nat.reduceEqDiff, Nat.not_lt_zero, Nat.lt_irrefl, decide_true, BEq.rfl, nm1, nm2, nm3, nm4, nm9, ngc, eq_self, List.length_cons, List.length_nil, h2, h99, c_valueAt hc hn hp hm, let4, g4, kdc]
  rw [W506_2]
  simp (disch := omega) only [W506, s_0, ci_0, r_5, r_2, r_Li, r_62, r_49, r_4, r_La, h60_5_1, h60_5_2, h79_5, r_47, r_90, s_8, r_In, ci_1, r_52, ci_m1, h64_L, h63_L, enR, LG, LSt, LC, nlR, psR, TK, up_s, up_n, up_u, lt_nI, le_nI, eq_nI, true_and, and_true, if_true, if_false, Nat.zero_add, Nat.add_zero, nI_add, ↓reduceIte, Nat.reduceAdd, Nat.reduceMul, Nat.reduceSub, Nat.reduceLT, Nat.reduceLeDiff, Nat.reduceEqDiff, Nat.not_lt_zero, Nat.lt_irrefl, decide_true, BEq.rfl, nm1, nm2, nm3, nm4, nm9, ngc, eq_self, List.length_cons, List.length_nil, h2, h99, c_valueAt hc hn hp hm, let4, g4]
  by_cases g5 : cc c p = nI 118
  · rw [W506_2]
    simp (disch := omega) only [W506, s_0, ci_0, r_5, r_2, r_Li, r_62, r_49, r_4, r_La, h60_5_1, h60_5_2, h79_5, r_47, r_90, s_8, r_In, ci_1, r_52, ci_m1, h64_L, h63_L, enR, LG, LSt, LC, nlR, psR, TK, up_s, up_n, up_u, lt_nI, le_nI, eq_nI, true_and, and_true, if_true, if_false, Nat.zero_add, Nat.add_zero, nI_add, ↓reduceIte, Nat.reduceAdd, Nat.reduceMul, Nat.reduceSub, Nat.reduceLT, Nat.reduceLeDiff, Nat.reduceEqDiff, Nat.not_lt_zero, Nat.lt_irrefl, decide_true, BEq.rfl, nm1, nm2, nm3, nm4, nm9, ngc, eq_self, List.length_cons, List.length_nil, h2, h99, c_valueAt hc hn hp hm, let5, g5, kdc]
  rw [W506_2]
  simp (disch := omega) only [W506, s_0, ci_0, r_5, r_2, r_Li, r_62, r_49, r_4, r_La, h60_5_1, h60_5_2, h79_5, r_47, r_90, s_8, r_In, ci_1, r_52, ci_m1, h64_L, h63_L, enR, LG, LSt, LC, nlR, psR, TK, up_s, up_n, up_u, lt_nI, le_nI, eq_nI, true_and, and_true, if_true, if_false, Nat.zero_add, Nat.add_zero, nI_add, ↓reduceIte, Nat.reduceAdd, Nat.reduceMul, Nat.reduceSub, Nat.reduceLT, Nat.reduceLeDiff, Nat.reduceEqDiff, Nat.not_lt_zero, Nat.lt_irrefl, decide_true, BEq.rfl, nm1, nm2, nm3, nm4, nm9, ngc, eq_self, List.length_cons, List.length_nil, h2, h99, c_valueAt hc hn hp hm, let5, g5]
  rw [W506_2]
  simp (disch := omega) only [W506, s_0, ci_0, r_5, r_2, r_Li, r_62, r_49, r_4, r_La, h60_5_1, h60_5_2, h79_5, r_47, r_90, s_8, r_In, ci_1, r_52, ci_m1, h64_L, h63_L, enR, LG, LSt, LC, nlR, psR, TK, up_s, up_n, up_u, lt_nI, le_nI, eq_nI, true_and, and_true, if_true, if_false, Nat.zero_add, Nat.add_zero, nI_add, ↓reduceIte, Nat.reduceAdd, Nat.reduceMul, Nat.reduceSub, Nat.reduceLT, Nat.reduceLeDiff, Nat.reduceEqDiff, Nat.not_lt_zero, Nat.lt_irrefl, decide_true, BEq.rfl, nm1, nm2, nm3, nm4, nm9, ngc, eq_self, List.length_cons, List.length_nil, kdc, g0, g1, g2, g3, g4, g5]
theorem c_fig_no {c n p lo hi : Nat} (hc : c < 10) (h2 : q 2 = c) (hn : cn c = nI n) (hm : n ≤ cap c) (hp : p ≤ n) (hlo : lo < 65536) (hhi : hi < 65536) (h : fg (cc c) n p lo hi = none) : Cw (d + 3) 507 [.ref 3, .int (nI lo), .int (nI hi)] z (Hp X (va_up s 20 (nI p), v, g, w, q, ct, cn, cc, di, dr, df, li, la, sf, sl) M) Q ↔ Q (some (.int (-1))) z (Hp X (va_up s 20 (nI p), v, g, w, q, ct, cn, cc, di, dr, df, li, la, sf, sl) M) := by
  have h8 : cap c ≤ 80 := by unfold cap; split <;> omega
  have h99 : svl c = .ref (co c) := if_neg (by omega)
  unfold fg at h
  rw [cw_wp]
  by_cases h1 : p < n
  · rw [if_pos h1] at h
    obtain ⟨h3, -⟩ := fgr_no hhi hlo h
    rcases h3 with h3 | ⟨h3, h4⟩
    · simp (disch := omega) only [W507, r_4, r_La, h60_5_2, h60_5_1, h60_0_2, r_48, s_0, ci_m1, r_90, h79_5, ci_48, r_11, r_5, r_2, r_Li, r_51, r_30, r_30r, ci_1, r_10, h61_5_2, enR, LG, LSt, LC, nlR, psR, TK, up_s, up_n, up_u, lt_nI, le_nI, eq_nI, true_and, and_true, if_true, if_false, Nat.zero_add, Nat.add_zero, nI_add, ↓reduceIte, Nat.reduceAdd, Nat.reduceMul, Nat.reduceSub, Nat.reduceLT, Nat.reduceLeDiff, Nat.reduceEqDiff, Nat.not_lt_zero, Nat.lt_irrefl, decide_true, BEq.rfl, nm1, nm2, nm3, nm4, nm9, ngc, eq_self, List.length_cons, List.length_nil, h2, h99, hc, hn, h1, c_valueAt hc hn h1 hm, h3]
    · simp (disch := omega) only [W507, r_4, r_La, h60_5_2, h60_5_1, h60_0_2, r_48, s_0, ci_m1, r_90, h79_5, ci_48, r_11, r_5, r_2, r_Li, r_51, r_30, r_30r, ci_1, r_10, h61_5_2, enR, LG, LSt, LC, nlR, psR, TK, up_s, up_n, up_u, lt_nI, le_nI, eq_nI, true_and, and_true, if_true, if_false, Nat.zero_add, Nat.add_zero, nI_add, ↓reduceIte, Nat.reduceAdd, Nat.reduceMul, Nat.reduceSub, Nat.reduceLT, Nat.reduceLeDiff, Nat.reduceEqDiff, Nat.not_lt_zero, Nat.lt_irrefl, decide_true, BEq.rfl, nm1, nm2, nm3, nm4, nm9, ngc, eq_self, List.length_cons, List.length_nil, h2, h99, hc, hn, h1, c_valueAt hc hn h1 hm, h3, h4]
  · simp (disch := omega) only [W507, r_4, r_La, h60_5_2, h60_5_1, h60_0_2, r_48, s_0, ci_m1, r_90, h79_5, ci_48, r_11, r_5, r_2, r_Li, r_51, r_30, r_30r, ci_1, r_10, h61_5_2, enR, LG, LSt, LC, nlR, psR, TK, up_s, up_n, up_u, lt_nI, le_nI, eq_nI, true_and, and_true, if_true, if_false, Nat.zero_add, Nat.add_zero, nI_add, ↓reduceIte, Nat.reduceAdd, Nat.reduceMul, Nat.reduceSub, Nat.reduceLT, Nat.reduceLeDiff, Nat.reduceEqDiff, Nat.not_lt_zero, Nat.lt_irrefl, decide_true, BEq.rfl, nm1, nm2, nm3, nm4, nm9, ngc, eq_self, List.length_cons, List.length_nil, h2, h99, hc, hn, h1]
theorem c_fig_ok {c n p lo hi x : Nat} (hc : c < 10) (h2 : q 2 = c) (hn : cn c = nI n) (hm : n ≤ cap c) (hlo : lo < 65536) (hhi : hi < 65536) (h : fg (cc c) n p lo hi = some x) : Cw (d + 3) 507 [.ref 3, .int (nI lo), .int (nI hi)] z (Hp X (va_up s 20 (nI p), v, g, w, q, ct, cn, cc, di, dr, df, li, la, sf, sl) M) Q ↔ Q (some (.int (nI x))) z (Hp X (va_up s 20 (nI (p + 1)), v, g, w, q, ct, cn, cc, di, dr, df, li, la, sf, sl) M) := by
  have h8 : cap c ≤ 80 := by unfold cap; split <;> omega
  have h99 : svl c = .ref (co c) := if_neg (by omega)
  have h1 := fg_lt h
  unfold fg at h
  rw [if_pos h1] at h
  obtain ⟨h3, h4, h5⟩ := fgr_some hhi hlo h
  have h6 : ¬ x < lo := by omega
  have h7 : ¬ hi < x := by omega
  rw [cw_wp]
  simp (disch := omega) only [W507, r_4, r_La, h60_5_2, h60_5_1, h60_0_2, r_48, s_0, ci_m1, r_90, h79_5, ci_48, r_11, r_5, r_2, r_Li, r_51, r_30, r_30r, ci_1, r_10, h61_5_2, enR, LG, LSt, LC, nlR, psR, TK, up_s, up_n, up_u, lt_nI, le_nI, eq_nI, true_and, and_true, if_true, if_false, Nat.zero_add, Nat.add_zero, nI_add, ↓reduceIte, Nat.reduceAdd, Nat.reduceMul, Nat.reduceSub, Nat.reduceLT, Nat.reduceLeDiff, Nat.reduceEqDiff, Nat.not_lt_zero, Nat.lt_irrefl, decide_true, BEq.rfl, nm1, nm2, nm3, nm4, nm9, ngc, eq_self, List.length_cons, List.length_nil, h2, h99, hc, hn, h1, c_valueAt hc hn h1 hm, h3, nI_sub, Nat.add_sub_cancel_left, h6, h7]
theorem c_road_no {c n p N p' D P : Nat} (hD : D < 2) (h1 : q 1 = D) (h4 : li D 0 = nI P) (h5 : li D 1 = nI N) (hP : 1 ≤ P) (hP7 : P ≤ 7) (hN : N ≤ 10) (hc : c < 10) (h2 : q 2 = c) (hn : cn c = nI n) (hm : n ≤ cap c) (hp : p < n) (h : rdr (cc c) n P N p = (p', none)) : Cw (d + 4) 505 [.ref 3] z (Hp X (va_up s 20 (nI p), v, g, w, q, ct, cn, cc, di, dr, df, li, la, sf, sl) M) Q ↔ Q (some (.int (nI 0))) z (Hp X (va_up s 20 (nI p'), v, g, w, q, ct, cn, cc, di, dr, df, li, la, sf, sl) M) := by
  have h8 : cap c ≤ 80 := by unfold cap; split <;> omega
  unfold rdr at h
  rw [cw_wp]
  cases g1 : kdc (cc c p) with
  | none =>
    rw [g1] at h
    have e1 := (Prod.mk.inj h).1
    subst e1
    simp (disch := omega) only [W505, r_4, r_La, h79_506, r_5, r_2, r_Li, s_0, ci_m1, r_46, h60_5_0, h60_3_5, ci_10, r_48, ci_0, r_94, s_Z0, s_Z1, r_30, r_30r, h60_5_2, ci_1, r_10, h61_5_2, h60_3_4, r_11, h79_507, r_47, ci_9, h79_302, enR, LG, LSt, LC, nlR, psR, TK, up_s, up_n, up_u, lt_nI, le_nI, eq_nI, true_and, and_true, if_true, if_false, Nat.zero_add, Nat.add_zero, nI_add, ↓reduceIte, Nat.reduceAdd, Nat.reduceMul, Nat.reduceSub, Nat.reduceLT, Nat.reduceLeDiff, Nat.reduceEqDiff, Nat.not_lt_zero, Nat.lt_irrefl, decide_true, BEq.rfl, nm1, nm2, nm3, nm4, nm9, ngc, eq_self, List.length_cons, List.length_nil, c_kind hc h2 hn hm hp, g1]
  | some k =>
    have hk6 := kdc_lt g1
    rw [g1] at h
    simp only at h
    by_cases hN2 : N = 10
    · rw [if_pos hN2] at h
      have e1 := (Prod.mk.inj h).1
      subst e1
      subst hN2
      simp (disch := omega) only [W505, r_4, r_La, h79_506, r_5, r_2, r_Li, s_0, ci_m1, r_46, h60_5_0, h60_3_5, ci_10, r_48, ci_0, r_94, s_Z0, s_Z1, r_30, r_30r, h60_5_2, ci_1, r_10, h61_5_2, h60_3_4, r_11, h79_507, r_47, ci_9, h79_302, enR, LG, LSt, LC, nlR, psR, TK, up_s, up_n, up_u, lt_nI, le_nI, eq_nI, true_and, and_true, if_true, if_false, Nat.zero_add, Nat.add_zero, nI_add, ↓reduceIte, Nat.reduceAdd, Nat.reduceMul, Nat.reduceSub, Nat.reduceLT, Nat.reduceLeDiff, Nat.reduceEqDiff, Nat.not_lt_zero, Nat.lt_irrefl, decide_true, BEq.rfl, nm1, nm2, nm3, nm4, nm9, ngc, eq_self, List.length_cons, List.length_nil, c_kind hc h2 hn hm hp, g1, h1, hD, h5]
    rw [if_neg hN2] at h
    have hN3 : N < 10 := by omega
    cases g2 : fg (cc c) n (p + 1) 0 (P - 1) with
    | none =>
      rw [g2] at h
      have e1 := (Prod.mk.inj h).1
      subst e1
      simp (disch := omega) only [W505, r_4, r_La, h79_506, r_5, r_2, r_Li, s_0, ci_m1, r_46, h60_5_0, h60_3_5, ci_10, r_48, ci_0, r_94, s_Z0, s_Z1, r_30, r_30r, h60_5_2, ci_1, r_10, h61_5_2, h60_3_4, r_11, h79_507, r_47, ci_9, h79_302, enR, LG, LSt, LC, nlR, psR, TK, up_s, up_n, up_u, lt_nI, le_nI, eq_nI, true_and, and_true, if_true, if_false, Nat.zero_add, Nat.add_zero, nI_add, ↓reduceIte, Nat.reduceAdd, Nat.reduceMul, Nat.reduceSub, Nat.reduceLT, Nat.reduceLeDiff, Nat.reduceEqDiff, Nat.not_lt_zero, Nat.lt_irrefl, decide_true, BEq.rfl, nm1, nm2, nm3, nm4, nm9, ngc, eq_self, List.length_cons, List.length_nil, c_kind hc h2 hn hm hp, g1, h1, hD, h4, h5, hN3, nI_sub, c_fig_no hc h2 hn hm (show p + 1 ≤ n by omega) (show 0 < 65536 by decide) (show P - 1 < 65536 by omega) g2]
    | some a0 =>
      have l1 := fg_lt g2
      obtain ⟨-, -, u1⟩ := fg_some (show P - 1 < 65536 by omega) (show 0 < 65536 by decide) g2
      rw [g2] at h
      simp only at h
      cases g3 : fg (cc c) n (p + 2) 0 (P - 1) with
      | none =>
        rw [g3] at h
        have e1 := (Prod.mk.inj h).1
        subst e1
        simp (disch := omega) only [W505, r_4, r_La, h79_506, r_5, r_2, r_Li, s_0, ci_m1, r_46, h60_5_0, h60_3_5, ci_10, r_48, ci_0, r_94, s_Z0, s_Z1, r_30, r_30r, h60_5_2, ci_1, r_10, h61_5_2, h60_3_4, r_11, h79_507, r_47, ci_9, h79_302, enR, LG, LSt, LC, nlR, psR, TK, up_s, up_n, up_u, lt_nI, le_nI, eq_nI, true_and, and_true, if_true, if_false, Nat.zero_add, Nat.add_zero, nI_add, ↓reduceIte, Nat.reduceAdd, Nat.reduceMul, Nat.reduceSub, Nat.reduceLT, Nat.reduceLeDiff, Nat.reduceEqDiff, Nat.not_lt_zero, Nat.lt_irrefl, decide_true, BEq.rfl, nm1, nm2, nm3, nm4, nm9, ngc, eq_self, List.length_cons, List.length_nil, c_kind hc h2 hn hm hp, g1, h1, hD, h4, h5, hN3, nI_sub, c_fig_ok hc h2 hn hm (show 0 < 65536 by decide) (show P - 1 < 65536 by omega) g2, c_fig_no hc h2 hn hm (show p + 2 ≤ n by omega) (show 0 < 65536 by decide) (show P - 1 < 65536 by omega) g3]
      | some b0 =>
        have l2 := fg_lt g3
        obtain ⟨-, -, u2⟩ := fg_some (show P - 1 < 65536 by omega) (show 0 < 65536 by decide) g3
        rw [g3] at h
        simp only at h
        cases g4 : fg (cc c) n (p + 3) 0 9 with
        | none =>
          rw [g4] at h
          have e1 := (Prod.mk.inj h).1
          subst e1
          simp (disch := omega) only [W505, r_4, r_La, h79_506, r_5, r_2, r_Li, s_0, ci_m1, r_46, h60_5_0, h60_3_5, ci_10, r_48, ci_0, r_94, s_Z0, s_Z1, r_30, r_30r, h60_5_2, ci_1, r_10, h61_5_2, h60_3_4, r_11, h79_507, r_47, ci_9, h79_302, enR, LG, LSt, LC, nlR, psR, TK, up_s, up_n, up_u, lt_nI, le_nI, eq_nI, true_and, and_true, if_true, if_false, Nat.zero_add, Nat.add_zero, nI_add, ↓reduceIte, Nat.reduceAdd, Nat.reduceMul, Nat.reduceSub, Nat.reduceLT, Nat.reduceLeDiff, Nat.reduceEqDiff, Nat.not_lt_zero, Nat.lt_irrefl, decide_true, BEq.rfl, nm1, nm2, nm3, nm4, nm9, ngc, eq_self, List.length_cons, List.length_nil, c_kind hc h2 hn hm hp, g1, h1, hD, h4, h5, hN3, nI_sub, c_fig_ok hc h2 hn hm (show 0 < 65536 by decide) (show P - 1 < 65536 by omega) g2, c_fig_ok hc h2 hn hm (show 0 < 65536 by decide) (show P - 1 < 65536 by omega) g3, c_fig_no hc h2 hn hm (show p + 3 ≤ n by omega) (show 0 < 65536 by decide) (show 9 < 65536 by decide) g4]
        | some c0 =>
          rw [g4] at h
          exact absurd (Prod.mk.inj h).2 (by simp)
theorem c_road_ok {c n p N p' D P k a0 b0 c0 : Nat} (hD : D < 2) (h1 : q 1 = D) (h4 : li D 0 = nI P) (h5 : li D 1 = nI N) (hP : 1 ≤ P) (hP7 : P ≤ 7) (hN : N ≤ 10) (hc : c < 10) (h2 : q 2 = c) (hn : cn c = nI n) (hm : n ≤ cap c) (hp : p < n) (h : rdr (cc c) n P N p = (p', some (k, a0, b0, c0))) : Cw (d + 4) 505 [.ref 3] z (Hp X (va_up s 20 (nI p), v, g, w, q, ct, cn, cc, di, dr, df, li, la, sf, sl) M) Q ↔ Q (some (.int (nI 1))) z (Hp X (va_up s 20 (nI p'), v, g, w, q, ct, cn, cc, di, dr, df, va_up li D (va_up (li D) 1 (nI (N + 1))), va_up la D (va_up (va_up (va_up (va_up (la D) 0 (upd (la D 0) N (nI k))) 1 (upd (la D 1) N (nI a0))) 2 (upd (la D 2) N (nI b0))) 3 (upd (la D 3) N (nI c0))), sf, sl) M) := by
  have h8 : cap c ≤ 80 := by unfold cap; split <;> omega
  obtain ⟨g1, hN2, g2, g3, g4, rfl⟩ := rdr_ok h
  have hN3 : N < 10 := by omega
  have l1 := fg_lt g2
  have l2 := fg_lt g3
  have hk6 := kdc_lt g1
  obtain ⟨-, -, u1⟩ := fg_some (show P - 1 < 65536 by omega) (show 0 < 65536 by decide) g2
  obtain ⟨-, -, u2⟩ := fg_some (show P - 1 < 65536 by omega) (show 0 < 65536 by decide) g3
  obtain ⟨-, -, u3⟩ := fg_some (show 9 < 65536 by decide) (show 0 < 65536 by decide) g4
  rw [cw_wp]
  simp (disch := omega) only [W505, r_4, r_La, h79_506, r_5, r_2, r_Li, s_0, ci_m1, r_46, h60_5_0, h60_3_5, ci_10, r_48, ci_0, r_94, s_Z0, s_Z1, r_30, r_30r, h60_5_2, ci_1, r_10, h61_5_2, h60_3_4, r_11, h79_507, r_47, ci_9, h79_302, W302, r_49, h60_3_0, h60_3_1, h60_3_2, h60_3_3, h61_3_5, r_93, h65_la0, h65_la1, h65_la2, h65_la3, (fun d => cw_wp d 302), enR, LG, LSt, LC, nlR, psR, TK, up_s, up_n, up_u, lt_nI, le_nI, eq_nI, true_and, and_true, if_true, if_false, Nat.zero_add, Nat.add_zero, nI_add, ↓reduceIte, Nat.reduceAdd, Nat.reduceMul, Nat.reduceSub, Nat.reduceLT, Nat.reduceLeDiff, Nat.reduceEqDiff, Nat.not_lt_zero, Nat.lt_irrefl, decide_true, BEq.rfl, nm1, nm2, nm3, nm4, nm9, ngc, eq_self, List.length_cons, List.length_nil, c_kind hc h2 hn hm hp, g1, h1, hD, h4, h5, hN3, nI_sub, c_fig_ok hc h2 hn hm (show 0 < 65536 by decide) (show P - 1 < 65536 by omega) g2, c_fig_ok hc h2 hn hm (show 0 < 65536 by decide) (show P - 1 < 65536 by omega) g3, c_fig_ok hc h2 hn hm (show 0 < 65536 by decide) (show 9 < 65536 by decide) g4]
theorem cln_add {φ : Nat → Int32} {ψ : Nat → Nat → Int32} {K O T J : Nat → Nat} {k a b c : Nat} (h : CLn φ ψ P N K O T J) : CLn (va_up φ 1 (nI (N + 1))) (va_up (va_up (va_up (va_up ψ 0 (upd (ψ 0) N (nI k))) 1 (upd (ψ 1) N (nI a))) 2 (upd (ψ 2) N (nI b))) 3 (upd (ψ 3) N (nI c))) P (N + 1) (va_up K N k) (va_up O N a) (va_up T N b) (va_up J N c) := by
  obtain ⟨h1, h2, h3⟩ := h
  refine ⟨by rw [up_n _ _ (by decide)]; exact h1, up_s _ _ _, fun i hi => ?_⟩
  have e0 : va_up (va_up (va_up (va_up ψ 0 (upd (ψ 0) N (nI k))) 1 (upd (ψ 1) N (nI a))) 2 (upd (ψ 2) N (nI b))) 3 (upd (ψ 3) N (nI c)) 0 = upd (ψ 0) N (nI k) := rfl
  have e1 : va_up (va_up (va_up (va_up ψ 0 (upd (ψ 0) N (nI k))) 1 (upd (ψ 1) N (nI a))) 2 (upd (ψ 2) N (nI b))) 3 (upd (ψ 3) N (nI c)) 1 = upd (ψ 1) N (nI a) := rfl
  have e2 : va_up (va_up (va_up (va_up ψ 0 (upd (ψ 0) N (nI k))) 1 (upd (ψ 1) N (nI a))) 2 (upd (ψ 2) N (nI b))) 3 (upd (ψ 3) N (nI c)) 2 = upd (ψ 2) N (nI b) := rfl
  have e3 : va_up (va_up (va_up (va_up ψ 0 (upd (ψ 0) N (nI k))) 1 (upd (ψ 1) N (nI a))) 2 (upd (ψ 2) N (nI b))) 3 (upd (ψ 3) N (nI c)) 3 = upd (ψ 3) N (nI c) := rfl
  rw [e0, e1, e2, e3]
  by_cases hi2 : i = N
  · subst hi2
    simp only [ud_s, up_s]
    exact ⟨trivial, trivial, trivial, trivial⟩
  · rw [ud_n _ _ hi2, ud_n _ _ hi2, ud_n _ _ hi2, ud_n _ _ hi2, up_n _ _ hi2, up_n _ _ hi2, up_n _ _ hi2, up_n _ _ hi2]
    exact h3 i (by omega)
def rdo (x : Option Nat) : Int32 := match x with
  | none => -9
  | some p => nI p
theorem lp_read {c n D P N' : Nat} {x : Option Nat} {L' : LD} (hD : D < 2) (h1 : q 1 = D) (hP : 1 ≤ P) (hP7 : P ≤ 7) (hc : c < 10) (h2 : q 2 = c) (hn : cn c = nI n) (hm : n ≤ cap c)
    (hQ : ∀ y φ ψ, (x = none → CLn φ ψ P N' L'.1 L'.2.1 L'.2.2.1 L'.2.2.2) → Q (some (.int (rdo x))) z (Hp X (va_up s 20 y, v, g, w, q, ct, cn, cc, di, dr, df, va_up li D φ, va_up la D ψ, sf, sl) M)) : ∀ (r N p : Nat) (L : LD) (φ : Nat → Int32) (ψ : Nat → Nat → Int32), N + r = 11 → p ≤ n → CLn φ ψ P N L.1 L.2.1 L.2.2.1 L.2.2.2 → prs (cc c) n P r p N L = (x, N', L') → Wp (d + 4) 501 35 [some (.ref 3), some (.ref (co c)), some (.int (nI N))] [] z (Hp X (va_up s 20 (nI p), v, g, w, q, ct, cn, cc, di, dr, df, va_up li D φ, va_up la D ψ, sf, sl) M) Q := by
  have h8 : cap c ≤ 80 := by unfold cap; split <;> omega
  have h99 : svl c = .ref (co c) := if_neg (by omega)
  intro r
  induction r with
  | zero =>
    intro N p L φ ψ hN hp hC hpr
    have hN : N = 11 := by omega
    subst hN
    have e1 := (Prod.mk.inj hpr).1
    have e2 := (Prod.mk.inj (Prod.mk.inj hpr).2).1
    have e3 := (Prod.mk.inj (Prod.mk.inj hpr).2).2
    subst e1
    rw [W501_35]
    simp (disch := omega) only [W501, r_4, r_La, h61_5_1, s_0, ci_0, h61_5_2, h60_5_0, h79_301, h79_503, h79_504, s_41, h60_5_2, r_90, r_5, r_2, r_Li, ci_10, r_50, h60_5_1, h60_0_2, r_48, ci_m9, h79_505, s_8, r_In, ci_1, r_52, enR, LG, LSt, LC, nlR, psR, TK, up_s, up_n, up_u, lt_nI, le_nI, eq_nI, true_and, and_true, if_true, if_false, Nat.zero_add, Nat.add_zero, nI_add, ↓reduceIte, Nat.reduceAdd, Nat.reduceMul, Nat.reduceSub, Nat.reduceLT, Nat.reduceLeDiff, Nat.reduceEqDiff, Nat.not_lt_zero, Nat.lt_irrefl, decide_true, BEq.rfl, nm1, nm2, nm3, nm4, nm9, ngc, eq_self, List.length_cons, List.length_nil]
    exact hQ (nI p) φ ψ (fun h => absurd h (by simp))
  | succ r ih =>
    intro N p L φ ψ hN hp hC hpr
    have h10 : ¬ 10 < N := by omega
    have hs1 := skp_le (cc c) (n - p) p
    unfold prs at hpr
    rw [W501_35]
    by_cases h3 : n ≤ skp (cc c) (n - p) p
    · rw [if_pos h3] at hpr
      have h3' : ¬ skp (cc c) (n - p) p < n := by omega
      have e1 := (Prod.mk.inj hpr).1
      have e2 := (Prod.mk.inj (Prod.mk.inj hpr).2).1
      have e3 := (Prod.mk.inj (Prod.mk.inj hpr).2).2
      subst e1
      subst e2
      subst e3
      simp (disch := omega) only [W501, r_4, r_La, h61_5_1, s_0, ci_0, h61_5_2, h60_5_0, h79_301, h79_503, h79_504, s_41, h60_5_2, r_90, r_5, r_2, r_Li, ci_10, r_50, h60_5_1, h60_0_2, r_48, ci_m9, h79_505, s_8, r_In, ci_1, r_52, enR, LG, LSt, LC, nlR, psR, TK, up_s, up_n, up_u, lt_nI, le_nI, eq_nI, true_and, and_true, if_true, if_false, Nat.zero_add, Nat.add_zero, nI_add, ↓reduceIte, Nat.reduceAdd, Nat.reduceMul, Nat.reduceSub, Nat.reduceLT, Nat.reduceLeDiff, Nat.reduceEqDiff, Nat.not_lt_zero, Nat.lt_irrefl, decide_true, BEq.rfl, nm1, nm2, nm3, nm4, nm9, ngc, eq_self, List.length_cons, List.length_nil, h10, c_skip hc h2 hn hm hp, h2, h99, hc, hn, h3']
      exact hQ _ φ ψ (fun _ => hC)
    · rw [if_neg h3] at hpr
      have h3' : skp (cc c) (n - p) p < n := by omega
      have a1 : va_up li D φ D 0 = nI P := by rw [up_s]; exact hC.1
      have a2 : va_up li D φ D 1 = nI N := by rw [up_s]; exact hC.2.1
      cases hr : rdr (cc c) n P N (skp (cc c) (n - p) p) with
      | mk q0 o0 =>
      rw [hr] at hpr
      cases o0 with
      | none =>
        have e1 := (Prod.mk.inj hpr).1
        subst e1
        simp (disch := omega) only [W501, r_4, r_La, h61_5_1, s_0, ci_0, h61_5_2, h60_5_0, h79_301, h79_503, h79_504, s_41, h60_5_2, r_90, r_5, r_2, r_Li, ci_10, r_50, h60_5_1, h60_0_2, r_48, ci_m9, h79_505, s_8, r_In, ci_1, r_52, enR, LG, LSt, LC, nlR, psR, TK, up_s, up_n, up_u, lt_nI, le_nI, eq_nI, true_and, and_true, if_true, if_false, Nat.zero_add, Nat.add_zero, nI_add, ↓reduceIte, Nat.reduceAdd, Nat.reduceMul, Nat.reduceSub, Nat.reduceLT, Nat.reduceLeDiff, Nat.reduceEqDiff, Nat.not_lt_zero, Nat.lt_irrefl, decide_true, BEq.rfl, nm1, nm2, nm3, nm4, nm9, ngc, eq_self, List.length_cons, List.length_nil, h10, c_skip hc h2 hn hm hp, h2, h99, hc, hn, h3', c_road_no (li := va_up li D φ) (la := va_up la D ψ) hD h1 a1 a2 hP hP7 (show N ≤ 10 by omega) hc h2 hn hm h3' hr]
        exact hQ _ φ ψ (fun h => absurd h (by simp))
      | some y =>
        obtain ⟨k, a0, b0, c0⟩ := y
        have hq := (rdr_ok hr).2.2.2.2
        have hq4 := fg_lt hq.1
        have hpr' : prs (cc c) n P r q0 (N + 1) (va_up L.1 N k, va_up L.2.1 N a0, va_up L.2.2.1 N b0, va_up L.2.2.2 N c0) = (x, N', L') := hpr
        simp (disch := omega) only [W501, r_4, r_La, h61_5_1, s_0, ci_0, h61_5_2, h60_5_0, h79_301, h79_503, h79_504, s_41, h60_5_2, r_90, r_5, r_2, r_Li, ci_10, r_50, h60_5_1, h60_0_2, r_48, ci_m9, h79_505, s_8, r_In, ci_1, r_52, enR, LG, LSt, LC, nlR, psR, TK, up_s, up_n, up_u, lt_nI, le_nI, eq_nI, true_and, and_true, if_true, if_false, Nat.zero_add, Nat.add_zero, nI_add, ↓reduceIte, Nat.reduceAdd, Nat.reduceMul, Nat.reduceSub, Nat.reduceLT, Nat.reduceLeDiff, Nat.reduceEqDiff, Nat.not_lt_zero, Nat.lt_irrefl, decide_true, BEq.rfl, nm1, nm2, nm3, nm4, nm9, ngc, eq_self, List.length_cons, List.length_nil, h10, c_skip hc h2 hn hm hp, h2, h99, hc, hn, h3', c_road_ok (li := va_up li D φ) (la := va_up la D ψ) hD h1 a1 a2 hP hP7 (show N ≤ 10 by omega) hc h2 hn hm h3' hr]
        exact ih (N + 1) q0 _ _ _ (by omega) (by omega) (cln_add hC) hpr'
end

/-! the smoothest way -/
def c64 (m : Nat) : Nat := 64 * (m / 100) + m % 100
def M2C (U : Nat → Option Nat) : Nat → Option Nat := fun p => (U p).map c64
theorem cnt_ins {S : Nat → Bool} {q : Nat} (hS : S q = false) : ∀ n, cnt (va_up S q true) n = if q < n then cnt S n + 1 else cnt S n := by
  intro n
  induction n with
  | zero => rfl
  | succ n ih =>
    rw [cnt_succ, cnt_succ, ih]
    by_cases h : n = q
    · subst h
      rw [up_s, if_neg (Nat.lt_irrefl _), if_pos rfl, if_pos (Nat.lt_succ_self _), hS]
      rfl
    · rw [up_n _ _ h]
      by_cases h2 : q < n
      · rw [if_pos h2, if_pos (show q < n + 1 by omega)]
        split <;> rfl
      · rw [if_neg h2, if_neg (show ¬ q < n + 1 by omega)]
/-- every value is that of a way that passes no place twice -/
def PI (U : Nat → Option Nat) : Prop := ∀ x m, U x = some m → x < 7 ∧ m / 100 ≤ 9 * (m % 100) ∧ ∃ S : Nat → Bool, cnt S 7 = m % 100 + 1 ∧ ∀ y, y < 7 → S y = true → ∃ m', U y = some m' ∧ m' ≤ m
theorem PI_b {U : Nat → Option Nat} (h : PI U) {x m : Nat} (hx : U x = some m) : m % 100 ≤ 6 ∧ m / 100 ≤ 54 := by
  obtain ⟨h1, h2, S, h3, -⟩ := h x m hx
  have := cnt_le S 7
  omega
theorem PI_step {U : Nat → Option Nat} (h : PI U) {p q m f : Nat} (hq : q < 7) (hp : U p = some m) (hf : f ≤ 9) : PI (va_up U q (omn (U q) (m + (100 * f + 1)))) := by
  obtain ⟨hm6, hm54⟩ := PI_b h hp
  obtain ⟨hp7, hpq, S, hS1, hS2⟩ := h p m hp
  by_cases hc : ∃ a, U q = some a ∧ a ≤ m + (100 * f + 1)
  · obtain ⟨a, ha, hle⟩ := hc
    have : va_up U q (omn (U q) (m + (100 * f + 1))) = U := up_id (by
      rw [ha]
      show some a = if m + (100 * f + 1) < a then some (m + (100 * f + 1)) else some a
      rw [if_neg (by omega)])
    rw [this]
    exact h
  · have hnew : omn (U q) (m + (100 * f + 1)) = some (m + (100 * f + 1)) := by
      cases hu : U q with
      | none => rfl
      | some a =>
        have : ¬ a ≤ m + (100 * f + 1) := fun hle => hc ⟨a, hu, hle⟩
        show (if m + (100 * f + 1) < a then some (m + (100 * f + 1)) else some a) = _
        rw [if_pos (by omega)]
    have hSq : S q = false := by
      cases hs : S q with
      | false => rfl
      | true =>
        obtain ⟨m', h1, h2⟩ := hS2 q hq hs
        exact absurd ⟨m', h1, by omega⟩ hc
    rw [hnew]
    intro x mx hx
    by_cases hxq : x = q
    · subst hxq
      rw [up_s] at hx
      cases hx
      have q1 : (m + (100 * f + 1)) % 100 = m % 100 + 1 := by omega
      have q2 : (m + (100 * f + 1)) / 100 = m / 100 + f := by omega
      refine ⟨hq, by rw [q1, q2]; omega, va_up S x true, ?_, fun y hy hs => ?_⟩
      · rw [cnt_ins hSq, if_pos hq, hS1, q1]
      · by_cases hyq : y = x
        · subst hyq
          exact ⟨_, up_s _ _ _, Nat.le_refl _⟩
        · rw [up_n _ _ hyq] at hs
          obtain ⟨m', h1, h2⟩ := hS2 y hy hs
          exact ⟨m', by rw [up_n _ _ hyq]; exact h1, by omega⟩
    · rw [up_n _ _ hxq] at hx
      obtain ⟨g1, g2, Sx, g3, g4⟩ := h x mx hx
      refine ⟨g1, g2, Sx, g3, fun y hy hs => ?_⟩
      obtain ⟨m', h1, h2⟩ := g4 y hy hs
      by_cases hyq : y = q
      · subst hyq
        refine ⟨_, up_s _ _ _, ?_⟩
        have : ¬ m' ≤ m + (100 * f + 1) := fun hle => hc ⟨m', h1, hle⟩
        omega
      · exact ⟨m', by rw [up_n _ _ hyq]; exact h1, h2⟩
theorem PI_lsS {P N W i p : Nat} {K O T J : Nat → Nat} {U : Nat → Option Nat} (hb : LB P N W K O T J) (hi : i < N) (h : PI U) : PI (lsS K O T i (100 * fe W K J i + 1) p U) := by
  have hP := hb.1
  unfold lsS
  cases hd : ldm K O T i p with
  | none => exact h
  | some q =>
    have hq := ldm_lt hb hi hd
    have hf := fe_lt hb hi
    cases hu : U p with
    | none => exact h
    | some m => exact PI_step h (by omega) hu (by omega)
theorem ls_rel {P N W i p : Nat} {K O T J : Nat → Nat} {U : Nat → Option Nat} (hb : LB P N W K O T J) (hi : i < N) (h : PI U) : lsS K O T i (fe W K J i * 64 + 1) p (M2C U) = M2C (lsS K O T i (100 * fe W K J i + 1) p U) := by
  unfold lsS
  cases hd : ldm K O T i p with
  | none => rfl
  | some q =>
    cases hu : U p with
    | none =>
      have : M2C U p = none := by unfold M2C; rw [hu]; rfl
      rw [this]
    | some m =>
      have e1 : M2C U p = some (c64 m) := by unfold M2C; rw [hu]; rfl
      obtain ⟨b1, b2⟩ := PI_b h hu
      rw [e1]
      funext x
      show va_up (M2C U) q (omn (M2C U q) (c64 m + (fe W K J i * 64 + 1))) x = (va_up U q (omn (U q) (m + (100 * fe W K J i + 1))) x).map c64
      have e3 : c64 m + (fe W K J i * 64 + 1) = c64 (m + (100 * fe W K J i + 1)) := by unfold c64; omega
      by_cases hx : x = q
      · subst hx
        rw [up_s, up_s]
        cases hq : U x with
        | none =>
          have e2 : M2C U x = none := by unfold M2C; rw [hq]; rfl
          rw [e2, e3]
          rfl
        | some a =>
          have e2 : M2C U x = some (c64 a) := by unfold M2C; rw [hq]; rfl
          obtain ⟨a1, a2⟩ := PI_b h hq
          rw [e2, e3]
          show (if c64 (m + (100 * fe W K J i + 1)) < c64 a then some (c64 (m + (100 * fe W K J i + 1))) else some (c64 a)) = (if m + (100 * fe W K J i + 1) < a then some (m + (100 * fe W K J i + 1)) else some a).map c64
          have hiff : c64 (m + (100 * fe W K J i + 1)) < c64 a ↔ m + (100 * fe W K J i + 1) < a := by
            unfold c64
            omega
          by_cases hc : m + (100 * fe W K J i + 1) < a
          · rw [if_pos hc, if_pos (hiff.mpr hc)]; rfl
          · rw [if_neg hc, if_neg (fun h => hc (hiff.mp h))]; rfl
      · rw [up_n _ _ hx, up_n _ _ hx]
        rfl
def wyI (K O T : Nat → Nat) (P : Nat) (w : Nat → Nat) (i : Nat) (t : Nat → Option Nat) : Nat → Option Nat := foldu (lsS K O T i (w i)) 0 P t
def wyN (K O T : Nat → Nat) (P N : Nat) (w : Nat → Nat) (_ : Nat) (t : Nat → Option Nat) : Nat → Option Nat := foldu (wyI K O T P w) 0 N t
def wy0 (p : Nat) : Nat → Option Nat := fun q => if q = p then some 0 else none
theorem PI_0 {p : Nat} (hp : p < 7) : PI (wy0 p) := by
  intro x m hx
  have hx' : (if x = p then some 0 else none) = some m := hx
  split at hx'
  · cases hx'
    rename_i e
    subst e
    refine ⟨hp, by decide, va_up (fun _ => false) x true, ?_, fun y hy hs => ?_⟩
    · have := cnt_ins (S := fun _ => false) (q := x) rfl 7
      rw [if_pos hp] at this
      rw [this]
      rfl
    · by_cases h : y = x
      · subst h; exact ⟨0, if_pos rfl, Nat.le_refl _⟩
      · rw [up_n _ _ h] at hs; cases hs
  · cases hx'
theorem wy_rel {P N W p : Nat} {K O T J : Nat → Nat} (hb : LB P N W K O T J) (hp : p < 7) (j : Nat) : PI (foldu (wyN K O T P N (fun i => 100 * fe W K J i + 1)) 0 j (wy0 p)) ∧ foldu (wyN K O T P N (fun i => fe W K J i * 64 + 1)) 0 j (wy0 p) = M2C (foldu (wyN K O T P N (fun i => 100 * fe W K J i + 1)) 0 j (wy0 p)) := by
  have := foldu_rel (F := wyN K O T P N (fun i => fe W K J i * 64 + 1)) (G := wyN K O T P N (fun i => 100 * fe W K J i + 1)) (fun V U => PI U ∧ V = M2C U) j 0 (wy0 p) (wy0 p) ⟨PI_0 hp, by
    funext x
    unfold M2C wy0
    by_cases h : x = p <;> simp [h, c64]⟩ (fun n V U _ _ h => by
    show PI (foldu (wyI K O T P _) 0 N U) ∧ foldu (wyI K O T P _) 0 N V = M2C (foldu (wyI K O T P _) 0 N U)
    refine foldu_rel (fun V U => PI U ∧ V = M2C U) N 0 V U h (fun i V U _ hi h => ?_)
    show PI (foldu (lsS K O T i _) 0 P U) ∧ foldu (lsS K O T i _) 0 P V = M2C (foldu (lsS K O T i _) 0 P U)
    refine foldu_rel (fun V U => PI U ∧ V = M2C U) P 0 V U h (fun x V U _ _ h => ?_)
    refine ⟨PI_lsS hb (by omega) h.1, ?_⟩
    rw [h.2]
    exact ls_rel hb (by omega) h.1)
  exact this
section
variable {d : Nat} {z : AZ} {f : AH} {Q : Option Value → AZ → AH → Prop} {X : Nat × (Nat → Int32)} {M : MT} {s : Nat → Int32} {v : Nat → Int64} {g : Nat → Nat → Int32} {w : Nat → Nat → Int64} {q : Nat → Nat} {ct cn : Nat → Int32} {cc di dr df li : Nat → Nat → Int32} {la : Nat → Nat → Nat → Int32} {sf sl : Nat → Nat → Int32} {l P N W : Nat} {K O T J : Nat → Nat} {x : Nat}
def CI6 (t : Nat → Option Nat) : Prop := ∃ U, PI U ∧ t = M2C U
theorem CI6_b {t : Nat → Option Nat} (h : CI6 t) : bdd 4000 t := by
  obtain ⟨U, hU, rfl⟩ := h
  intro p c hc
  have hc' : (U p).map c64 = some c := hc
  cases hu : U p with
  | none => rw [hu] at hc'; cases hc'
  | some m =>
    rw [hu] at hc'
    cases hc'
    obtain ⟨b1, b2⟩ := PI_b hU hu
    unfold c64
    omega
theorem CI6_s {i p : Nat} {t : Nat → Option Nat} (hb : LB P N W K O T J) (hi : i < N) (h : CI6 t) : CI6 (lsS K O T i (fe W K J i * 64 + 1) p t) := by
  obtain ⟨U, hU, rfl⟩ := h
  exact ⟨_, PI_lsS hb hi hU, ls_rel hb hi hU⟩
theorem lp_less1 {i : Nat} (hl : l < 2) (hC : CLn (li l) (la l) P N K O T J) (hb : LB P N W K O T J) (hi : i < N) (hx : x < 2) (h5 : q 5 = x) : ∀ (j p : Nat) (γ : Nat → Int32) (t : Nat → Option Nat), p + j = P → agC γ t → CI6 t → (∀ γ', agC γ' (foldu (lsS K O T i (fe W K J i * 64 + 1)) p j t) → Q none z (Hp X (s, v, va_up g x γ', w, q, ct, cn, cc, di, dr, df, li, la, sf, sl) M)) → Wp (d + 2) 104 3 [some (.ref 22), some (.ref (lo l)), some (.int (nI i)), some (.int (nI (fe W K J i * 64 + 1))), some (.ref (cst x)), some (.int (nI p))] [] z (Hp X (s, v, va_up g x γ, w, q, ct, cn, cc, di, dr, df, li, la, sf, sl) M) Q := by
  have hP := hb.1
  have h0 := hC.1
  have hf := fe_lt hb hi
  intro j
  induction j with
  | zero =>
    intro p γ t hp hγ ht hQ
    have hp : p = P := by omega
    subst hp
    rw [W104_3]
    simp (disch := omega) only [W104, s_0, ci_0, r_5, r_2, r_Li, r_4, r_La, h60_3_4, r_49, h79_306, ci_m1, r_46, h60_1_0, ci_1000000, r_10, s_84, s_8, r_In, ci_1, r_52, r_93, h64_cs, h65_cs, enR, LG, LSt, LC, nlR, psR, TK, up_s, up_n, up_u, lt_nI, le_nI, eq_nI, true_and, and_true, if_true, if_false, Nat.zero_add, Nat.add_zero, nI_add, ↓reduceIte, Nat.reduceAdd, Nat.reduceMul, Nat.reduceSub, Nat.reduceLT, Nat.reduceLeDiff, Nat.reduceEqDiff, Nat.not_lt_zero, Nat.lt_irrefl, decide_true, BEq.rfl, nm1, nm2, nm3, nm4, nm9, ngc, eq_self, List.length_cons, List.length_nil, hl, h0]
    exact hQ γ hγ
  | succ j ih =>
    intro p γ t hp hγ ht hQ
    have h1 : p < P := by omega
    have h7 : p < 7 := by omega
    rw [W104_3]
    cases hd : ldm K O T i p with
    | none =>
      simp (disch := omega) only [W104, s_0, ci_0, r_5, r_2, r_Li, r_4, r_La, h60_3_4, r_49, h79_306, ci_m1, r_46, h60_1_0, ci_1000000, r_10, s_84, s_8, r_In, ci_1, r_52, r_93, h64_cs, h65_cs, enR, LG, LSt, LC, nlR, psR, TK, up_s, up_n, up_u, lt_nI, le_nI, eq_nI, true_and, and_true, if_true, if_false, Nat.zero_add, Nat.add_zero, nI_add, ↓reduceIte, Nat.reduceAdd, Nat.reduceMul, Nat.reduceSub, Nat.reduceLT, Nat.reduceLeDiff, Nat.reduceEqDiff, Nat.not_lt_zero, Nat.lt_irrefl, decide_true, BEq.rfl, nm1, nm2, nm3, nm4, nm9, ngc, eq_self, List.length_cons, List.length_nil, hl, h0, h1, c_lead hl hC hb hi (show p < 65536 by omega), hd, o2i]
      refine ih (p + 1) γ t (by omega) hγ ht (fun γ' h => hQ γ' ?_)
      simp only [foldu, lsS, hd]; exact h
    | some t0 =>
      have ht0 := ldm_lt hb hi hd
      have ht7 : t0 < 7 := by omega
      have hup := hγ p h7
      cases hu : t p with
      | none =>
        rw [hu] at hup
        have hup' : γ p = nI 1000000 := hup
        simp (disch := omega) only [W104, s_0, ci_0, r_5, r_2, r_Li, r_4, r_La, h60_3_4, r_49, h79_306, ci_m1, r_46, h60_1_0, ci_1000000, r_10, s_84, s_8, r_In, ci_1, r_52, r_93, h64_cs, h65_cs, enR, LG, LSt, LC, nlR, psR, TK, up_s, up_n, up_u, lt_nI, le_nI, eq_nI, true_and, and_true, if_true, if_false, Nat.zero_add, Nat.add_zero, nI_add, ↓reduceIte, Nat.reduceAdd, Nat.reduceMul, Nat.reduceSub, Nat.reduceLT, Nat.reduceLeDiff, Nat.reduceEqDiff, Nat.not_lt_zero, Nat.lt_irrefl, decide_true, BEq.rfl, nm1, nm2, nm3, nm4, nm9, ngc, eq_self, List.length_cons, List.length_nil, hl, h0, h1, h7, c_lead hl hC hb hi (show p < 65536 by omega), hd, o2i, h5, hup']
        refine ih (p + 1) γ t (by omega) hγ ht (fun γ' h => hQ γ' ?_)
        simp only [foldu, lsS, hd, hu]; exact h
      | some c =>
        rw [hu] at hup
        have hup' : γ p = nI c := hup
        have hc := CI6_b ht p c hu
        have hne : ¬ c = 1000000 := by omega
        have hm := ec_mn (o := t t0) (x := c + (fe W K J i * 64 + 1)) (by omega) (fun a ha => by have := CI6_b ht t0 a ha; omega)
        simp (disch := omega) only [W104, s_0, ci_0, r_5, r_2, r_Li, r_4, r_La, h60_3_4, r_49, h79_306, ci_m1, r_46, h60_1_0, ci_1000000, r_10, s_84, s_8, r_In, ci_1, r_52, r_93, h64_cs, h65_cs, enR, LG, LSt, LC, nlR, psR, TK, up_s, up_n, up_u, lt_nI, le_nI, eq_nI, true_and, and_true, if_true, if_false, Nat.zero_add, Nat.add_zero, nI_add, ↓reduceIte, Nat.reduceAdd, Nat.reduceMul, Nat.reduceSub, Nat.reduceLT, Nat.reduceLeDiff, Nat.reduceEqDiff, Nat.not_lt_zero, Nat.lt_irrefl, decide_true, BEq.rfl, nm1, nm2, nm3, nm4, nm9, ngc, eq_self, List.length_cons, List.length_nil, hl, h0, h1, h7, ht7, c_lead hl hC hb hi (show p < 65536 by omega), hd, o2i, h5, hup', hne, hγ t0 ht7, hm]
        have hs := CI6_s (p := p) hb hi ht
        refine ih (p + 1) _ (va_up t t0 (omn (t t0) (c + (fe W K J i * 64 + 1)))) (by omega) (fun r hr => ?_) ?_ (fun γ' h => hQ γ' ?_)
        · by_cases h2 : r = t0
          · subst h2; rw [ud_s, up_s]
          · rw [ud_n _ _ h2, up_n _ _ h2]; exact hγ r hr
        · unfold lsS at hs
          rw [hd, hu] at hs
          exact hs
        · simp only [foldu, lsS, hd, hu]; exact h
theorem lp_spr2 {n0 : Nat} (hl : l < 2) (hC : CLn (li l) (la l) P N K O T J) (hb : LB P N W K O T J) (hx : x < 2) (h5 : q 5 = x) (hF : ∀ i, i < N → sf 0 i = nI (fe W K J i)) : ∀ (j i : Nat) (γ : Nat → Int32) (t : Nat → Option Nat), i + j = N → agC γ t → CI6 t → (∀ γ', agC γ' (foldu (wyI K O T P (fun i => fe W K J i * 64 + 1)) i j t) → CI6 (foldu (wyI K O T P (fun i => fe W K J i * 64 + 1)) i j t) → Wp (d + 3) 103 2 [some (.ref 22), some (.ref (lo l)), some (.ref (so 0)), some (.int (nI (n0 + 1)))] [] z (Hp X (s, v, va_up g x γ', w, q, ct, cn, cc, di, dr, df, li, la, sf, sl) M) Q) → Wp (d + 3) 103 13 [some (.ref 22), some (.ref (lo l)), some (.ref (so 0)), some (.int (nI n0)), some (.int (nI i))] [] z (Hp X (s, v, va_up g x γ, w, q, ct, cn, cc, di, dr, df, li, la, sf, sl) M) Q := by
  have hN := hb.2.1
  have h9 := hC.2.1
  intro j
  induction j with
  | zero =>
    intro i γ t hi hγ ht hQ
    have hi : i = N := by omega
    subst hi
    rw [W103_13]
    simp (disch := omega) only [W103, s_0, ci_0, r_5, r_2, r_Li, r_4, r_La, h60_3_4, r_49, h60_3_5, h60_6_0, ci_64, r_12, ci_1, r_10, h60_1_0, h79_104, s_8, r_In, r_52, r_93, h64_cs, h64_sf, enR, LG, LSt, LC, nlR, psR, TK, up_s, up_n, up_u, lt_nI, le_nI, eq_nI, true_and, and_true, if_true, if_false, Nat.zero_add, Nat.add_zero, nI_add, ↓reduceIte, Nat.reduceAdd, Nat.reduceMul, Nat.reduceSub, Nat.reduceLT, Nat.reduceLeDiff, Nat.reduceEqDiff, Nat.not_lt_zero, Nat.lt_irrefl, decide_true, BEq.rfl, nm1, nm2, nm3, nm4, nm9, ngc, eq_self, List.length_cons, List.length_nil, hl, h9]
    exact hQ γ hγ ht
  | succ j ih =>
    intro i γ t hi hγ ht hQ
    have h1 : i < N := by omega
    have h10 : i < 10 := by omega
    have e1 := hF i h1
    rw [W103_13]
    simp (disch := omega) only [W103, s_0, ci_0, r_5, r_2, r_Li, r_4, r_La, h60_3_4, r_49, h60_3_5, h60_6_0, ci_64, r_12, ci_1, r_10, h60_1_0, h79_104, s_8, r_In, r_52, r_93, h64_cs, h64_sf, enR, LG, LSt, LC, nlR, psR, TK, up_s, up_n, up_u, lt_nI, le_nI, eq_nI, true_and, and_true, if_true, if_false, Nat.zero_add, Nat.add_zero, nI_add, ↓reduceIte, Nat.reduceAdd, Nat.reduceMul, Nat.reduceSub, Nat.reduceLT, Nat.reduceLeDiff, Nat.reduceEqDiff, Nat.not_lt_zero, Nat.lt_irrefl, decide_true, BEq.rfl, nm1, nm2, nm3, nm4, nm9, ngc, eq_self, List.length_cons, List.length_nil, hl, h9, h1, h10, e1, nI_mul, h5]
    rw [cw_wp]
    simp (disch := omega) only [W104, s_0, ci_0, r_5, r_2, r_Li, r_4, r_La, h60_3_4, r_49, h79_306, ci_m1, r_46, h60_1_0, ci_1000000, r_10, s_84, s_8, r_In, ci_1, r_52, r_93, h64_cs, h65_cs, enR, LG, LSt, LC, nlR, psR, TK, up_s, up_n, up_u, lt_nI, le_nI, eq_nI, true_and, and_true, if_true, if_false, Nat.zero_add, Nat.add_zero, nI_add, ↓reduceIte, Nat.reduceAdd, Nat.reduceMul, Nat.reduceSub, Nat.reduceLT, Nat.reduceLeDiff, Nat.reduceEqDiff, Nat.not_lt_zero, Nat.lt_irrefl, decide_true, BEq.rfl, nm1, nm2, nm3, nm4, nm9, ngc, eq_self, List.length_cons, List.length_nil]
    refine lp_less1 hl hC hb h1 hx h5 P 0 γ t (by omega) hγ ht (fun γ' h => ?_)
    refine ih (i + 1) γ' _ (by omega) h ?_ hQ
    exact foldu_inv (F := lsS K O T i (fe W K J i * 64 + 1)) (fun _ t => CI6 t) P 0 _ ht (fun p t _ _ h => CI6_s hb h1 h)
theorem lp_spr (hl : l < 2) (hC : CLn (li l) (la l) P N K O T J) (hb : LB P N W K O T J) (hx : x < 2) (h5 : q 5 = x) (hF : ∀ i, i < N → sf 0 i = nI (fe W K J i)) : ∀ (j k : Nat) (γ : Nat → Int32) (t : Nat → Option Nat), k + j = P → agC γ t → CI6 t → (∀ γ', agC γ' (foldu (wyN K O T P N (fun i => fe W K J i * 64 + 1)) k j t) → Q none z (Hp X (s, v, va_up g x γ', w, q, ct, cn, cc, di, dr, df, li, la, sf, sl) M)) → Wp (d + 3) 103 2 [some (.ref 22), some (.ref (lo l)), some (.ref (so 0)), some (.int (nI k))] [] z (Hp X (s, v, va_up g x γ, w, q, ct, cn, cc, di, dr, df, li, la, sf, sl) M) Q := by
  have hP := hb.1
  have h0 := hC.1
  intro j
  induction j with
  | zero =>
    intro k γ t hk hγ ht hQ
    have hk : k = P := by omega
    subst hk
    rw [W103_2]
    simp (disch := omega) only [W103, s_0, ci_0, r_5, r_2, r_Li, r_4, r_La, h60_3_4, r_49, h60_3_5, h60_6_0, ci_64, r_12, ci_1, r_10, h60_1_0, h79_104, s_8, r_In, r_52, r_93, h64_cs, h64_sf, enR, LG, LSt, LC, nlR, psR, TK, up_s, up_n, up_u, lt_nI, le_nI, eq_nI, true_and, and_true, if_true, if_false, Nat.zero_add, Nat.add_zero, nI_add, ↓reduceIte, Nat.reduceAdd, Nat.reduceMul, Nat.reduceSub, Nat.reduceLT, Nat.reduceLeDiff, Nat.reduceEqDiff, Nat.not_lt_zero, Nat.lt_irrefl, decide_true, BEq.rfl, nm1, nm2, nm3, nm4, nm9, ngc, eq_self, List.length_cons, List.length_nil, hl, h0]
    exact hQ γ hγ
  | succ j ih =>
    intro k γ t hk hγ ht hQ
    have h1 : k < P := by omega
    rw [W103_2]
    simp (disch := omega) only [W103, s_0, ci_0, r_5, r_2, r_Li, r_4, r_La, h60_3_4, r_49, h60_3_5, h60_6_0, ci_64, r_12, ci_1, r_10, h60_1_0, h79_104, s_8, r_In, r_52, r_93, h64_cs, h64_sf, enR, LG, LSt, LC, nlR, psR, TK, up_s, up_n, up_u, lt_nI, le_nI, eq_nI, true_and, and_true, if_true, if_false, Nat.zero_add, Nat.add_zero, nI_add, ↓reduceIte, Nat.reduceAdd, Nat.reduceMul, Nat.reduceSub, Nat.reduceLT, Nat.reduceLeDiff, Nat.reduceEqDiff, Nat.not_lt_zero, Nat.lt_irrefl, decide_true, BEq.rfl, nm1, nm2, nm3, nm4, nm9, ngc, eq_self, List.length_cons, List.length_nil, hl, h0, h1]
    exact lp_spr2 hl hC hb hx h5 hF N 0 γ t (by omega) hγ ht (fun γ' h h' => ih (k + 1) γ' _ (by omega) h h' hQ)
theorem c_spread {p : Nat} {γ : Nat → Int32} (hl : l < 2) (hC : CLn (li l) (la l) P N K O T J) (hb : LB P N W K O T J) (hx : x < 2) (h5 : q 5 = x) (hF : ∀ i, i < N → sf 0 i = nI (fe W K J i)) (hp : p < 7) (hγ : agC γ (wy0 p)) (hQ : ∀ γ', agC γ' (foldu (wyN K O T P N (fun i => fe W K J i * 64 + 1)) 0 P (wy0 p)) → Q none z (Hp X (s, v, va_up g x γ', w, q, ct, cn, cc, di, dr, df, li, la, sf, sl) M)) : Cw (d + 4) 103 [.ref 22, .ref (lo l), .ref (so 0)] z (Hp X (s, v, va_up g x γ, w, q, ct, cn, cc, di, dr, df, li, la, sf, sl) M) Q := by
  rw [cw_wp]
  simp (disch := omega) only [W103, s_0, ci_0, r_5, r_2, r_Li, r_4, r_La, h60_3_4, r_49, h60_3_5, h60_6_0, ci_64, r_12, ci_1, r_10, h60_1_0, h79_104, s_8, r_In, r_52, r_93, h64_cs, h64_sf, enR, LG, LSt, LC, nlR, psR, TK, up_s, up_n, up_u, lt_nI, le_nI, eq_nI, true_and, and_true, if_true, if_false, Nat.zero_add, Nat.add_zero, nI_add, ↓reduceIte, Nat.reduceAdd, Nat.reduceMul, Nat.reduceSub, Nat.reduceLT, Nat.reduceLeDiff, Nat.reduceEqDiff, Nat.not_lt_zero, Nat.lt_irrefl, decide_true, BEq.rfl, nm1, nm2, nm3, nm4, nm9, ngc, eq_self, List.length_cons, List.length_nil]
  refine lp_spr hl hC hb hx h5 hF P 0 γ _ (by omega) hγ ⟨wy0 p, PI_0 hp, ?_⟩ hQ
  funext x
  unfold M2C wy0
  by_cases h : x = p <;> simp [h, c64]
end
section
variable {d : Nat} {z : AZ} {f : AH} {Q : Option Value → AZ → AH → Prop} {X : Nat × (Nat → Int32)} {C : CT} {a : Nat → Int32} {b : Nat → Int64} {e : Nat → Nat → Int32} {o : Nat → Nat → Int64} {P N W : Nat} {K O T J : Nat → Nat}
theorem PI_bd {U : Nat → Option Nat} (h : PI U) : bdd 6000 U := fun p c hc => by
  obtain ⟨b1, b2⟩ := PI_b h hc
  omega
theorem lp_mway4 {p y k i : Nat} (h : MLn a (e 74) P N W K O T J) (hb : LB P N W K O T J) (hi : i < N) : ∀ (j x : Nat) (γ : Nat → Int32) (t : Nat → Option Nat), x + j = P → agM P γ t → PI t → (∀ γ', agM P γ' (foldu (lsS K O T i (100 * fe W K J i + 1)) x j t) → Wp (d + 2) 1072 64 [some (.ref 67), some (.int (nI p)), some (.int (nI y)), some (.int (nI k)), some (.int (nI (i + 1)))] [] z (Hp X C (a, b, va_up e 81 γ', o)) Q) → Wp (d + 2) 1072 76 [some (.ref 67), some (.int (nI p)), some (.int (nI y)), some (.int (nI k)), some (.int (nI i)), some (.int (nI x))] [] z (Hp X C (a, b, va_up e 81 γ, o)) Q := by
  have hP := hb.1
  have h10 := h.1
  have hf := fe_lt hb hi
  intro j
  induction j with
  | zero =>
    intro x γ t hx hγ ht hQ
    have hx : x = P := by omega
    subst hx
    rw [W1072_76]
    simp (disch := omega) only [W1072, r_4, r_La, r_2, r_Li, h79_1029, s_40, s_41, s_0, ci_m1, r_90, ci_0, r_5, h60_10_10, r_49, h60_10_25, r_47, r_52, ci_1048576, s_8, r_In, ci_1, h60_10_11, h79_1038, ci_100, h79_1032, r_12, r_10, ci_m9, r_46, r_48, s_14, s_13, h79_1003, h64_81, h65_81, enR, LG, LSt, LC, nlR, psR, TK, up_s, up_n, up_u, lt_nI, le_nI, eq_nI, true_and, and_true, if_true, if_false, Nat.zero_add, Nat.add_zero, nI_add, ↓reduceIte, Nat.reduceAdd, Nat.reduceMul, Nat.reduceSub, Nat.reduceLT, Nat.reduceLeDiff, Nat.reduceEqDiff, Nat.not_lt_zero, Nat.lt_irrefl, decide_true, BEq.rfl, nm1, nm2, nm3, nm4, nm9, ngc, eq_self, List.length_cons, List.length_nil, h10]
    exact hQ γ hγ
  | succ j ih =>
    intro x γ t hx hγ ht hQ
    have h1 : x < P := by omega
    have h7 : x < 7 := by omega
    have hup := hγ x h1
    rw [W1072_76]
    cases hd : ldm K O T i x with
    | none =>
      simp (disch := omega) only [W1072, r_4, r_La, r_2, r_Li, h79_1029, s_40, s_41, s_0, ci_m1, r_90, ci_0, r_5, h60_10_10, r_49, h60_10_25, r_47, r_52, ci_1048576, s_8, r_In, ci_1, h60_10_11, h79_1038, ci_100, h79_1032, r_12, r_10, ci_m9, r_46, r_48, s_14, s_13, h79_1003, h64_81, h65_81, enR, LG, LSt, LC, nlR, psR, TK, up_s, up_n, up_u, lt_nI, le_nI, eq_nI, true_and, and_true, if_true, if_false, Nat.zero_add, Nat.add_zero, nI_add, ↓reduceIte, Nat.reduceAdd, Nat.reduceMul, Nat.reduceSub, Nat.reduceLT, Nat.reduceLeDiff, Nat.reduceEqDiff, Nat.not_lt_zero, Nat.lt_irrefl, decide_true, BEq.rfl, nm1, nm2, nm3, nm4, nm9, ngc, eq_self, List.length_cons, List.length_nil, h10, h1, h7, m_leads (e := va_up e 81 γ) h hb hi (show x < 65536 by omega), m_feelOf (e := va_up e 81 γ) h hb hi, hd, o2i]
      refine ih (x + 1) γ t (by omega) hγ ht (fun γ' h => hQ γ' ?_)
      simp only [foldu, lsS, hd]; exact h
    | some t0 =>
      have ht0 := ldm_lt hb hi hd
      have ht7 : t0 < 7 := by omega
      have eT := hγ t0 ht0
      cases hu : t x with
      | none =>
        rw [hu] at hup
        have hup' : γ x = nI 1048576 := hup
        simp (disch := omega) only [W1072, r_4, r_La, r_2, r_Li, h79_1029, s_40, s_41, s_0, ci_m1, r_90, ci_0, r_5, h60_10_10, r_49, h60_10_25, r_47, r_52, ci_1048576, s_8, r_In, ci_1, h60_10_11, h79_1038, ci_100, h79_1032, r_12, r_10, ci_m9, r_46, r_48, s_14, s_13, h79_1003, h64_81, h65_81, enR, LG, LSt, LC, nlR, psR, TK, up_s, up_n, up_u, lt_nI, le_nI, eq_nI, true_and, and_true, if_true, if_false, Nat.zero_add, Nat.add_zero, nI_add, ↓reduceIte, Nat.reduceAdd, Nat.reduceMul, Nat.reduceSub, Nat.reduceLT, Nat.reduceLeDiff, Nat.reduceEqDiff, Nat.not_lt_zero, Nat.lt_irrefl, decide_true, BEq.rfl, nm1, nm2, nm3, nm4, nm9, ngc, eq_self, List.length_cons, List.length_nil, h10, h1, h7, m_leads (e := va_up e 81 γ) h hb hi (show x < 65536 by omega), m_feelOf (e := va_up e 81 γ) h hb hi, hd, o2i, hup', nI_mul]
        refine ih (x + 1) γ t (by omega) hγ ht (fun γ' h => hQ γ' ?_)
        simp only [foldu, lsS, hd, hu]; exact h
      | some c =>
        rw [hu] at hup
        have hup' : γ x = nI c := hup
        have hc := PI_bd ht x c hu
        have hc8 : c < 1048576 := by omega
        have hs := PI_lsS (p := x) hb hi ht
        unfold lsS at hs
        rw [hd, hu] at hs
        have hfin : ∀ γ1, agM P γ1 (va_up t t0 (omn (t t0) (c + (100 * fe W K J i + 1)))) → Wp (d + 2) 1072 76 [some (.ref 67), some (.int (nI p)), some (.int (nI y)), some (.int (nI k)), some (.int (nI i)), some (.int (nI (x + 1)))] [] z (Hp X C (a, b, va_up e 81 γ1, o)) Q := fun γ1 hγ1 => by
          refine ih (x + 1) γ1 (va_up t t0 (omn (t t0) (c + (100 * fe W K J i + 1)))) (by omega) hγ1 hs (fun γ' h => hQ γ' ?_)
          simp only [foldu, lsS, hd, hu]; exact h
        by_cases hn : nI (c + 100 * fe W K J i + 1) < ecM (t t0)
        · have ho : omn (t t0) (c + (100 * fe W K J i + 1)) = some (c + 100 * fe W K J i + 1) := by
            cases htt : t t0 with
            | none => rfl
            | some a =>
              rw [htt] at hn
              have := PI_bd ht t0 a htt
              have hn' : nI (c + 100 * fe W K J i + 1) < nI a := hn
              rw [nI_ltI (by omega) (by omega)] at hn'
              show (if c + (100 * fe W K J i + 1) < a then some (c + (100 * fe W K J i + 1)) else some a) = _
              rw [if_pos (by omega)]
              rfl
          simp (disch := omega) only [W1072, r_4, r_La, r_2, r_Li, h79_1029, s_40, s_41, s_0, ci_m1, r_90, ci_0, r_5, h60_10_10, r_49, h60_10_25, r_47, r_52, ci_1048576, s_8, r_In, ci_1, h60_10_11, h79_1038, ci_100, h79_1032, r_12, r_10, ci_m9, r_46, r_48, s_14, s_13, h79_1003, h64_81, h65_81, enR, LG, LSt, LC, nlR, psR, TK, up_s, up_n, up_u, lt_nI, le_nI, eq_nI, true_and, and_true, if_true, if_false, Nat.zero_add, Nat.add_zero, nI_add, ↓reduceIte, Nat.reduceAdd, Nat.reduceMul, Nat.reduceSub, Nat.reduceLT, Nat.reduceLeDiff, Nat.reduceEqDiff, Nat.not_lt_zero, Nat.lt_irrefl, decide_true, BEq.rfl, nm1, nm2, nm3, nm4, nm9, ngc, eq_self, List.length_cons, List.length_nil, h10, h1, h7, ht7, m_leads (e := va_up e 81 γ) h hb hi (show x < 65536 by omega), m_feelOf (e := va_up e 81 γ) h hb hi, hd, o2i, hup', hc8, nI_mul, eT, hn]
          refine hfin _ (fun r hr => ?_)
          rw [ho]
          by_cases h2 : r = t0
          · subst h2; rw [ud_s, up_s]; rfl
          · rw [ud_n _ _ h2, up_n _ _ h2]; exact hγ r hr
        · have ho : omn (t t0) (c + (100 * fe W K J i + 1)) = t t0 := by
            cases htt : t t0 with
            | none =>
              rw [htt] at hn
              exact absurd ((nI_ltI (a := c + 100 * fe W K J i + 1) (b := 1048576) (by omega) (by decide)).mpr (by omega)) hn
            | some a =>
              rw [htt] at hn
              have := PI_bd ht t0 a htt
              have hn' : ¬ nI (c + 100 * fe W K J i + 1) < nI a := hn
              rw [nI_ltI (by omega) (by omega)] at hn'
              show (if c + (100 * fe W K J i + 1) < a then some (c + (100 * fe W K J i + 1)) else some a) = _
              rw [if_neg (by omega)]
          simp (disch := omega) only [W1072, r_4, r_La, r_2, r_Li, h79_1029, s_40, s_41, s_0, ci_m1, r_90, ci_0, r_5, h60_10_10, r_49, h60_10_25, r_47, r_52, ci_1048576, s_8, r_In, ci_1, h60_10_11, h79_1038, ci_100, h79_1032, r_12, r_10, ci_m9, r_46, r_48, s_14, s_13, h79_1003, h64_81, h65_81, enR, LG, LSt, LC, nlR, psR, TK, up_s, up_n, up_u, lt_nI, le_nI, eq_nI, true_and, and_true, if_true, if_false, Nat.zero_add, Nat.add_zero, nI_add, ↓reduceIte, Nat.reduceAdd, Nat.reduceMul, Nat.reduceSub, Nat.reduceLT, Nat.reduceLeDiff, Nat.reduceEqDiff, Nat.not_lt_zero, Nat.lt_irrefl, decide_true, BEq.rfl, nm1, nm2, nm3, nm4, nm9, ngc, eq_self, List.length_cons, List.length_nil, h10, h1, h7, ht7, m_leads (e := va_up e 81 γ) h hb hi (show x < 65536 by omega), m_feelOf (e := va_up e 81 γ) h hb hi, hd, o2i, hup', hc8, nI_mul, eT, hn]
          refine hfin γ (fun r hr => ?_)
          rw [ho, up_id rfl]
          exact hγ r hr
theorem lp_mway3 {p y k : Nat} (h : MLn a (e 74) P N W K O T J) (hb : LB P N W K O T J) : ∀ (j i : Nat) (γ : Nat → Int32) (t : Nat → Option Nat), i + j = N → agM P γ t → PI t → (∀ γ', agM P γ' (foldu (wyI K O T P (fun i => 100 * fe W K J i + 1)) i j t) → PI (foldu (wyI K O T P (fun i => 100 * fe W K J i + 1)) i j t) → Wp (d + 2) 1072 53 [some (.ref 67), some (.int (nI p)), some (.int (nI y)), some (.int (nI (k + 1)))] [] z (Hp X C (a, b, va_up e 81 γ', o)) Q) → Wp (d + 2) 1072 64 [some (.ref 67), some (.int (nI p)), some (.int (nI y)), some (.int (nI k)), some (.int (nI i))] [] z (Hp X C (a, b, va_up e 81 γ, o)) Q := by
  have hN := hb.2.1
  have h11 := h.2.1
  intro j
  induction j with
  | zero =>
    intro i γ t hi hγ ht hQ
    have hi : i = N := by omega
    subst hi
    rw [W1072_64]
    simp (disch := omega) only [W1072, r_4, r_La, r_2, r_Li, h79_1029, s_40, s_41, s_0, ci_m1, r_90, ci_0, r_5, h60_10_10, r_49, h60_10_25, r_47, r_52, ci_1048576, s_8, r_In, ci_1, h60_10_11, h79_1038, ci_100, h79_1032, r_12, r_10, ci_m9, r_46, r_48, s_14, s_13, h79_1003, h64_81, h65_81, enR, LG, LSt, LC, nlR, psR, TK, up_s, up_n, up_u, lt_nI, le_nI, eq_nI, true_and, and_true, if_true, if_false, Nat.zero_add, Nat.add_zero, nI_add, ↓reduceIte, Nat.reduceAdd, Nat.reduceMul, Nat.reduceSub, Nat.reduceLT, Nat.reduceLeDiff, Nat.reduceEqDiff, Nat.not_lt_zero, Nat.lt_irrefl, decide_true, BEq.rfl, nm1, nm2, nm3, nm4, nm9, ngc, eq_self, List.length_cons, List.length_nil, h11]
    exact hQ γ hγ ht
  | succ j ih =>
    intro i γ t hi hγ ht hQ
    have h1 : i < N := by omega
    rw [W1072_64]
    simp (disch := omega) only [W1072, r_4, r_La, r_2, r_Li, h79_1029, s_40, s_41, s_0, ci_m1, r_90, ci_0, r_5, h60_10_10, r_49, h60_10_25, r_47, r_52, ci_1048576, s_8, r_In, ci_1, h60_10_11, h79_1038, ci_100, h79_1032, r_12, r_10, ci_m9, r_46, r_48, s_14, s_13, h79_1003, h64_81, h65_81, enR, LG, LSt, LC, nlR, psR, TK, up_s, up_n, up_u, lt_nI, le_nI, eq_nI, true_and, and_true, if_true, if_false, Nat.zero_add, Nat.add_zero, nI_add, ↓reduceIte, Nat.reduceAdd, Nat.reduceMul, Nat.reduceSub, Nat.reduceLT, Nat.reduceLeDiff, Nat.reduceEqDiff, Nat.not_lt_zero, Nat.lt_irrefl, decide_true, BEq.rfl, nm1, nm2, nm3, nm4, nm9, ngc, eq_self, List.length_cons, List.length_nil, h11, h1]
    refine lp_mway4 h hb h1 P 0 γ t (by omega) hγ ht (fun γ' h' => ih (i + 1) γ' _ (by omega) h' ?_ hQ)
    exact foldu_inv (F := lsS K O T i (100 * fe W K J i + 1)) (fun _ t => PI t) P 0 _ ht (fun p t _ _ h => PI_lsS hb h1 h)
theorem lp_mway2 {p y : Nat} (h : MLn a (e 74) P N W K O T J) (hb : LB P N W K O T J) (hy : y < P) : ∀ (j k : Nat) (γ : Nat → Int32) (t : Nat → Option Nat), k + j = P → agM P γ t → PI t → (∀ γ', match foldu (wyN K O T P N (fun i => 100 * fe W K J i + 1)) k j t y with
      | none => Q (some (.int (-9))) z (Hp X C (a, b, va_up e 81 γ', o))
      | some m => Q (some (.int (nI (m / 100)))) z (Hp X C (va_up a 2 (nI (m % 100)), b, va_up e 81 γ', o))) → Wp (d + 2) 1072 53 [some (.ref 67), some (.int (nI p)), some (.int (nI y)), some (.int (nI k))] [] z (Hp X C (a, b, va_up e 81 γ, o)) Q := by
  have hP := hb.1
  have h10 := h.1
  intro j
  induction j with
  | zero =>
    intro k γ t hk hγ ht hQ
    have hk : k = P := by omega
    subst hk
    have h7 : y < 7 := by omega
    have e1 := hγ y hy
    have hQ := hQ γ
    rw [W1072_53]
    cases hu : t y with
    | none =>
      rw [hu] at e1
      have e1' : γ y = nI 1048576 := e1
      have hQ' : Q (some (.int (-9))) z (Hp X C (a, b, va_up e 81 γ, o)) := by
        have : foldu (wyN K O T k N (fun i => 100 * fe W K J i + 1)) k 0 t y = none := hu
        rw [this] at hQ; exact hQ
      simp (disch := omega) only [W1072, r_4, r_La, r_2, r_Li, h79_1029, s_40, s_41, s_0, ci_m1, r_90, ci_0, r_5, h60_10_10, r_49, h60_10_25, r_47, r_52, ci_1048576, s_8, r_In, ci_1, h60_10_11, h79_1038, ci_100, h79_1032, r_12, r_10, ci_m9, r_46, r_48, s_14, s_13, h79_1003, h64_81, h65_81, enR, LG, LSt, LC, nlR, psR, TK, up_s, up_n, up_u, lt_nI, le_nI, eq_nI, true_and, and_true, if_true, if_false, Nat.zero_add, Nat.add_zero, nI_add, ↓reduceIte, Nat.reduceAdd, Nat.reduceMul, Nat.reduceSub, Nat.reduceLT, Nat.reduceLeDiff, Nat.reduceEqDiff, Nat.not_lt_zero, Nat.lt_irrefl, decide_true, BEq.rfl, nm1, nm2, nm3, nm4, nm9, ngc, eq_self, List.length_cons, List.length_nil, h10, h7, e1']
      exact hQ'
    | some m =>
      rw [hu] at e1
      have e1' : γ y = nI m := e1
      have hm := PI_bd ht y m hu
      have hm8 : m < 1048576 := by omega
      have hQ' : Q (some (.int (nI (m / 100)))) z (Hp X C (va_up a 2 (nI (m % 100)), b, va_up e 81 γ, o)) := by
        have : foldu (wyN K O T k N (fun i => 100 * fe W K J i + 1)) k 0 t y = some m := hu
        rw [this] at hQ; exact hQ
      have h100 : ¬ (100 : Nat) = 0 := by decide
      simp (disch := omega) only [W1072, r_4, r_La, r_2, r_Li, h79_1029, s_40, s_41, s_0, ci_m1, r_90, ci_0, r_5, h60_10_10, r_49, h60_10_25, r_47, r_52, ci_1048576, s_8, r_In, ci_1, h60_10_11, h79_1038, ci_100, h79_1032, r_12, r_10, ci_m9, r_46, r_48, s_14, s_13, h79_1003, h64_81, h65_81, enR, LG, LSt, LC, nlR, psR, TK, up_s, up_n, up_u, lt_nI, le_nI, eq_nI, true_and, and_true, if_true, if_false, Nat.zero_add, Nat.add_zero, nI_add, ↓reduceIte, Nat.reduceAdd, Nat.reduceMul, Nat.reduceSub, Nat.reduceLT, Nat.reduceLeDiff, Nat.reduceEqDiff, Nat.not_lt_zero, Nat.lt_irrefl, decide_true, BEq.rfl, nm1, nm2, nm3, nm4, nm9, ngc, eq_self, List.length_cons, List.length_nil, h10, h7, e1', hm8, h100, not_false_eq_true, m_ask]
      rw [nI_rem (by omega) (by decide) (by decide), nI_div (by omega) (by decide) (by decide)]
      exact hQ'
  | succ j ih =>
    intro k γ t hk hγ ht hQ
    have h1 : k < P := by omega
    rw [W1072_53]
    simp (disch := omega) only [W1072, r_4, r_La, r_2, r_Li, h79_1029, s_40, s_41, s_0, ci_m1, r_90, ci_0, r_5, h60_10_10, r_49, h60_10_25, r_47, r_52, ci_1048576, s_8, r_In, ci_1, h60_10_11, h79_1038, ci_100, h79_1032, r_12, r_10, ci_m9, r_46, r_48, s_14, s_13, h79_1003, h64_81, h65_81, enR, LG, LSt, LC, nlR, psR, TK, up_s, up_n, up_u, lt_nI, le_nI, eq_nI, true_and, and_true, if_true, if_false, Nat.zero_add, Nat.add_zero, nI_add, ↓reduceIte, Nat.reduceAdd, Nat.reduceMul, Nat.reduceSub, Nat.reduceLT, Nat.reduceLeDiff, Nat.reduceEqDiff, Nat.not_lt_zero, Nat.lt_irrefl, decide_true, BEq.rfl, nm1, nm2, nm3, nm4, nm9, ngc, eq_self, List.length_cons, List.length_nil, h10, h1]
    exact lp_mway3 h hb N 0 γ t (by omega) hγ ht (fun γ' h h' => ih (k + 1) γ' _ (by omega) h h' hQ)
theorem lp_mway1 {p y : Nat} (h : MLn a (e 74) P N W K O T J) (hP : P ≤ 7) (hp : p < 7) (hQ : ∀ γ, agM P γ (wy0 p) → Wp (d + 2) 1072 53 [some (.ref 67), some (.int (nI p)), some (.int (nI y)), some (.int (nI 0))] [] z (Hp X C (a, b, va_up e 81 γ, o)) Q) : ∀ (j x : Nat) (γ : Nat → Int32), x + j = P → (∀ i, i < x → γ i = ecM (wy0 p i)) → Wp (d + 2) 1072 20 [some (.ref 67), some (.int (nI p)), some (.int (nI y)), some (.int (nI x))] [] z (Hp X C (a, b, va_up e 81 γ, o)) Q := by
  have h10 := h.1
  intro j
  induction j with
  | zero =>
    intro x γ hx hγ
    have hx : x = P := by omega
    subst hx
    rw [W1072_20]
    simp (disch := omega) only [W1072, r_4, r_La, r_2, r_Li, h79_1029, s_40, s_41, s_0, ci_m1, r_90, ci_0, r_5, h60_10_10, r_49, h60_10_25, r_47, r_52, ci_1048576, s_8, r_In, ci_1, h60_10_11, h79_1038, ci_100, h79_1032, r_12, r_10, ci_m9, r_46, r_48, s_14, s_13, h79_1003, h64_81, h65_81, enR, LG, LSt, LC, nlR, psR, TK, up_s, up_n, up_u, lt_nI, le_nI, eq_nI, true_and, and_true, if_true, if_false, Nat.zero_add, Nat.add_zero, nI_add, ↓reduceIte, Nat.reduceAdd, Nat.reduceMul, Nat.reduceSub, Nat.reduceLT, Nat.reduceLeDiff, Nat.reduceEqDiff, Nat.not_lt_zero, Nat.lt_irrefl, decide_true, BEq.rfl, nm1, nm2, nm3, nm4, nm9, ngc, eq_self, List.length_cons, List.length_nil, h10]
    exact hQ γ hγ
  | succ j ih =>
    intro x γ hx hγ
    have h1 : x < P := by omega
    have h7 : x < 7 := by omega
    have hgo : ∀ u, u = ecM (wy0 p x) → ∀ i, i < x + 1 → upd γ x u i = ecM (wy0 p i) := fun u hu i hi => by
      by_cases h2 : i = x
      · subst h2; rw [ud_s]; exact hu
      · rw [ud_n _ _ h2]; exact hγ i (by omega)
    rw [W1072_20]
    by_cases h2 : x = p
    · subst h2
      simp (disch := omega) only [W1072, r_4, r_La, r_2, r_Li, h79_1029, s_40, s_41, s_0, ci_m1, r_90, ci_0, r_5, h60_10_10, r_49, h60_10_25, r_47, r_52, ci_1048576, s_8, r_In, ci_1, h60_10_11, h79_1038, ci_100, h79_1032, r_12, r_10, ci_m9, r_46, r_48, s_14, s_13, h79_1003, h64_81, h65_81, enR, LG, LSt, LC, nlR, psR, TK, up_s, up_n, up_u, lt_nI, le_nI, eq_nI, true_and, and_true, if_true, if_false, Nat.zero_add, Nat.add_zero, nI_add, ↓reduceIte, Nat.reduceAdd, Nat.reduceMul, Nat.reduceSub, Nat.reduceLT, Nat.reduceLeDiff, Nat.reduceEqDiff, Nat.not_lt_zero, Nat.lt_irrefl, decide_true, BEq.rfl, nm1, nm2, nm3, nm4, nm9, ngc, eq_self, List.length_cons, List.length_nil, h10, h1, h7]
      exact ih (x + 1) _ (by omega) (hgo _ (by unfold wy0; rw [if_pos rfl]; rfl))
    · simp (disch := omega) only [W1072, r_4, r_La, r_2, r_Li, h79_1029, s_40, s_41, s_0, ci_m1, r_90, ci_0, r_5, h60_10_10, r_49, h60_10_25, r_47, r_52, ci_1048576, s_8, r_In, ci_1, h60_10_11, h79_1038, ci_100, h79_1032, r_12, r_10, ci_m9, r_46, r_48, s_14, s_13, h79_1003, h64_81, h65_81, enR, LG, LSt, LC, nlR, psR, TK, up_s, up_n, up_u, lt_nI, le_nI, eq_nI, true_and, and_true, if_true, if_false, Nat.zero_add, Nat.add_zero, nI_add, ↓reduceIte, Nat.reduceAdd, Nat.reduceMul, Nat.reduceSub, Nat.reduceLT, Nat.reduceLeDiff, Nat.reduceEqDiff, Nat.not_lt_zero, Nat.lt_irrefl, decide_true, BEq.rfl, nm1, nm2, nm3, nm4, nm9, ngc, eq_self, List.length_cons, List.length_nil, h10, h1, h7, h2]
      exact ih (x + 1) _ (by omega) (hgo _ (by unfold wy0; rw [if_neg h2]; rfl))
end
section
variable {t d : Nat} {z : AZ} {X : Nat × (Nat → Int32)} {C : CT} {M : MT} {s : Nat → Int32} {v : Nat → Int64} {g : Nat → Nat → Int32} {w : Nat → Nat → Int64} {q : Nat → Nat} {ct : Nat → Int32} {cn : Nat → Int32} {cc : Nat → Nat → Int32} {di : Nat → Nat → Int32} {dr : Nat → Nat → Int32} {df : Nat → Nat → Int32} {li : Nat → Nat → Int32} {la : Nat → Nat → Nat → Int32} {sf : Nat → Nat → Int32} {sl : Nat → Nat → Int32} {a : Nat → Int32} {b : Nat → Int64} {e : Nat → Nat → Int32} {o : Nat → Nat → Int64} {B : Nat → Bool} {n : Nat → Nat} {P N W : Nat} {K O T J : Nat → Nat} {l : Nat} {Ds : Nat → Nat} {Dr Df Dp : Nat → Nat → Nat} {KB : Nat → Bool}
theorem op_way {x y : Int32} (H : RL t z s v g w q ct cn cc di dr df li la sf sl a b e o B n P N W K O T J l Ds Dr Df Dp KB) : OPI (d + 20) 934 1072 [.int x, .int y] t z X (s, v, g, w, q, ct, cn, cc, di, dr, df, li, la, sf, sl) (a, b, e, o) := by
  obtain ⟨hb, hl, hq, hC, hs, hM, hS⟩ := rl_land H
  have hP := hb.1
  have hN := hb.2.1
  unfold OPI
  rw [cw_wp]
  rcases ixN x (show P ≤ 80 by omega) with h | ⟨h1, h2, h3⟩ | ⟨p, hp, rfl⟩
  · simp (disch := omega) only [W934, r_4, r_La, h60_9_12, r_2, r_Li, h79_303, s_40, s_41, s_0, ci_m1, r_90, h60_9_8, h79_101, h60_9_5, h79_103, h60_1_0, ci_1000000, r_47, ci_m9, ci_64, s_14, h61_9_15, s_13, h64_cs, enR, LG, LSt, LC, nlR, psR, TK, up_s, up_n, up_u, lt_nI, le_nI, eq_nI, true_and, and_true, if_true, if_false, Nat.zero_add, Nat.add_zero, nI_add, ↓reduceIte, Nat.reduceAdd, Nat.reduceMul, Nat.reduceSub, Nat.reduceLT, Nat.reduceLeDiff, Nat.reduceEqDiff, Nat.not_lt_zero, Nat.lt_irrefl, decide_true, BEq.rfl, nm1, nm2, nm3, nm4, nm9, ngc, eq_self, List.length_cons, List.length_nil, hq, hl, c_hasPlace hl hC, h]
    refine okc ?_
    rw [cw_wp]
    simp (disch := omega) only [W1072, r_4, r_La, r_2, r_Li, h79_1029, s_40, s_41, s_0, ci_m1, r_90, ci_0, r_5, h60_10_10, r_49, h60_10_25, r_47, r_52, ci_1048576, s_8, r_In, ci_1, h60_10_11, h79_1038, ci_100, h79_1032, r_12, r_10, ci_m9, r_46, r_48, s_14, s_13, h79_1003, h64_81, h65_81, enR, LG, LSt, LC, nlR, psR, TK, up_s, up_n, up_u, lt_nI, le_nI, eq_nI, true_and, and_true, if_true, if_false, Nat.zero_add, Nat.add_zero, nI_add, ↓reduceIte, Nat.reduceAdd, Nat.reduceMul, Nat.reduceSub, Nat.reduceLT, Nat.reduceLeDiff, Nat.reduceEqDiff, Nat.not_lt_zero, Nat.lt_irrefl, decide_true, BEq.rfl, nm1, nm2, nm3, nm4, nm9, ngc, eq_self, List.length_cons, List.length_nil, m_isPlace hM, h]
    exact okm (rl_inv (rl_t H))
  · simp (disch := omega) only [W934, r_4, r_La, h60_9_12, r_2, r_Li, h79_303, s_40, s_41, s_0, ci_m1, r_90, h60_9_8, h79_101, h60_9_5, h79_103, h60_1_0, ci_1000000, r_47, ci_m9, ci_64, s_14, h61_9_15, s_13, h64_cs, enR, LG, LSt, LC, nlR, psR, TK, up_s, up_n, up_u, lt_nI, le_nI, eq_nI, true_and, and_true, if_true, if_false, Nat.zero_add, Nat.add_zero, nI_add, ↓reduceIte, Nat.reduceAdd, Nat.reduceMul, Nat.reduceSub, Nat.reduceLT, Nat.reduceLeDiff, Nat.reduceEqDiff, Nat.not_lt_zero, Nat.lt_irrefl, decide_true, BEq.rfl, nm1, nm2, nm3, nm4, nm9, ngc, eq_self, List.length_cons, List.length_nil, hq, hl, c_hasPlace hl hC, h1, h2]
    refine okc ?_
    rw [cw_wp]
    simp (disch := omega) only [W1072, r_4, r_La, r_2, r_Li, h79_1029, s_40, s_41, s_0, ci_m1, r_90, ci_0, r_5, h60_10_10, r_49, h60_10_25, r_47, r_52, ci_1048576, s_8, r_In, ci_1, h60_10_11, h79_1038, ci_100, h79_1032, r_12, r_10, ci_m9, r_46, r_48, s_14, s_13, h79_1003, h64_81, h65_81, enR, LG, LSt, LC, nlR, psR, TK, up_s, up_n, up_u, lt_nI, le_nI, eq_nI, true_and, and_true, if_true, if_false, Nat.zero_add, Nat.add_zero, nI_add, ↓reduceIte, Nat.reduceAdd, Nat.reduceMul, Nat.reduceSub, Nat.reduceLT, Nat.reduceLeDiff, Nat.reduceEqDiff, Nat.not_lt_zero, Nat.lt_irrefl, decide_true, BEq.rfl, nm1, nm2, nm3, nm4, nm9, ngc, eq_self, List.length_cons, List.length_nil, m_isPlace hM, h1, h3]
    exact okm (rl_inv (rl_t H))
  have hp2 := nsub (show P < 65536 by omega) hp
  rcases ixN y (show P ≤ 80 by omega) with h | ⟨h1, h2, h3⟩ | ⟨r, hr, rfl⟩
  · simp (disch := omega) only [W934, r_4, r_La, h60_9_12, r_2, r_Li, h79_303, s_40, s_41, s_0, ci_m1, r_90, h60_9_8, h79_101, h60_9_5, h79_103, h60_1_0, ci_1000000, r_47, ci_m9, ci_64, s_14, h61_9_15, s_13, h64_cs, enR, LG, LSt, LC, nlR, psR, TK, up_s, up_n, up_u, lt_nI, le_nI, eq_nI, true_and, and_true, if_true, if_false, Nat.zero_add, Nat.add_zero, nI_add, ↓reduceIte, Nat.reduceAdd, Nat.reduceMul, Nat.reduceSub, Nat.reduceLT, Nat.reduceLeDiff, Nat.reduceEqDiff, Nat.not_lt_zero, Nat.lt_irrefl, decide_true, BEq.rfl, nm1, nm2, nm3, nm4, nm9, ngc, eq_self, List.length_cons, List.length_nil, hq, hl, c_hasPlace hl hC, hp, h]
    refine okc ?_
    rw [cw_wp]
    simp (disch := omega) only [W1072, r_4, r_La, r_2, r_Li, h79_1029, s_40, s_41, s_0, ci_m1, r_90, ci_0, r_5, h60_10_10, r_49, h60_10_25, r_47, r_52, ci_1048576, s_8, r_In, ci_1, h60_10_11, h79_1038, ci_100, h79_1032, r_12, r_10, ci_m9, r_46, r_48, s_14, s_13, h79_1003, h64_81, h65_81, enR, LG, LSt, LC, nlR, psR, TK, up_s, up_n, up_u, lt_nI, le_nI, eq_nI, true_and, and_true, if_true, if_false, Nat.zero_add, Nat.add_zero, nI_add, ↓reduceIte, Nat.reduceAdd, Nat.reduceMul, Nat.reduceSub, Nat.reduceLT, Nat.reduceLeDiff, Nat.reduceEqDiff, Nat.not_lt_zero, Nat.lt_irrefl, decide_true, BEq.rfl, nm1, nm2, nm3, nm4, nm9, ngc, eq_self, List.length_cons, List.length_nil, m_isPlace hM, hp2, h]
    exact okm (rl_inv (rl_t H))
  · simp (disch := omega) only [W934, r_4, r_La, h60_9_12, r_2, r_Li, h79_303, s_40, s_41, s_0, ci_m1, r_90, h60_9_8, h79_101, h60_9_5, h79_103, h60_1_0, ci_1000000, r_47, ci_m9, ci_64, s_14, h61_9_15, s_13, h64_cs, enR, LG, LSt, LC, nlR, psR, TK, up_s, up_n, up_u, lt_nI, le_nI, eq_nI, true_and, and_true, if_true, if_false, Nat.zero_add, Nat.add_zero, nI_add, ↓reduceIte, Nat.reduceAdd, Nat.reduceMul, Nat.reduceSub, Nat.reduceLT, Nat.reduceLeDiff, Nat.reduceEqDiff, Nat.not_lt_zero, Nat.lt_irrefl, decide_true, BEq.rfl, nm1, nm2, nm3, nm4, nm9, ngc, eq_self, List.length_cons, List.length_nil, hq, hl, c_hasPlace hl hC, hp, h1, h2]
    refine okc ?_
    rw [cw_wp]
    simp (disch := omega) only [W1072, r_4, r_La, r_2, r_Li, h79_1029, s_40, s_41, s_0, ci_m1, r_90, ci_0, r_5, h60_10_10, r_49, h60_10_25, r_47, r_52, ci_1048576, s_8, r_In, ci_1, h60_10_11, h79_1038, ci_100, h79_1032, r_12, r_10, ci_m9, r_46, r_48, s_14, s_13, h79_1003, h64_81, h65_81, enR, LG, LSt, LC, nlR, psR, TK, up_s, up_n, up_u, lt_nI, le_nI, eq_nI, true_and, and_true, if_true, if_false, Nat.zero_add, Nat.add_zero, nI_add, ↓reduceIte, Nat.reduceAdd, Nat.reduceMul, Nat.reduceSub, Nat.reduceLT, Nat.reduceLeDiff, Nat.reduceEqDiff, Nat.not_lt_zero, Nat.lt_irrefl, decide_true, BEq.rfl, nm1, nm2, nm3, nm4, nm9, ngc, eq_self, List.length_cons, List.length_nil, m_isPlace hM, hp2, h1, h3]
    exact okm (rl_inv (rl_t H))
  have hr2 := nsub (show P < 65536 by omega) hr
  have hp7 : p < 7 := by omega
  have hr7 : r < 7 := by omega
  obtain ⟨x, y, h5, h6, hx, hy, hxy⟩ := iq56 H
  obtain ⟨hPI, hrel⟩ := wy_rel (p := p) hb hp7 P
  simp (disch := omega) only [W934, r_4, r_La, h60_9_12, r_2, r_Li, h79_303, s_40, s_41, s_0, ci_m1, r_90, h60_9_8, h79_101, h60_9_5, h79_103, h60_1_0, ci_1000000, r_47, ci_m9, ci_64, s_14, h61_9_15, s_13, h64_cs, enR, LG, LSt, LC, nlR, psR, TK, up_s, up_n, up_u, lt_nI, le_nI, eq_nI, true_and, and_true, if_true, if_false, Nat.zero_add, Nat.add_zero, nI_add, ↓reduceIte, Nat.reduceAdd, Nat.reduceMul, Nat.reduceSub, Nat.reduceLT, Nat.reduceLeDiff, Nat.reduceEqDiff, Nat.not_lt_zero, Nat.lt_irrefl, decide_true, BEq.rfl, nm1, nm2, nm3, nm4, nm9, ngc, eq_self, List.length_cons, List.length_nil, hq, hl, c_hasPlace hl hC, hp, hr, c_cstart hx h5 hp7]
  refine c_spread (p := p) hl hC hb hx h5 (fun i hi => by rw [hS.1 i (by omega), if_pos hi]) hp7 (fun q hq => ?_) (fun γ' hγ' => ?_)
  · unfold wy0
    by_cases h : q = p
    · subst h; rw [ud_s, if_pos rfl]; rfl
    · rw [ud_n _ _ h, if_neg h]; exact if_pos (by omega)
  · have e1 := hγ' r hr7
    rw [hrel] at e1
    have hmod : ∀ (Q' : Option Value → AZ → AH → Prop) (C' : CT), (∀ γ81, match foldu (wyN K O T P N (fun i => 100 * fe W K J i + 1)) 0 P (wy0 p) r with | none => Q' (some (.int (-9))) z (Hp X C' (a, b, va_up e 81 γ81, o)) | some m => Q' (some (.int (nI (m / 100)))) z (Hp X C' (va_up a 2 (nI (m % 100)), b, va_up e 81 γ81, o))) → Cw (d + 20) 1072 [.ref 67, .int (nI p), .int (nI r)] z (Hp X C' (a, b, e, o)) Q' := fun Q' C' hQ => by
      rw [cw_wp]
      simp (disch := omega) only [W1072, r_4, r_La, r_2, r_Li, h79_1029, s_40, s_41, s_0, ci_m1, r_90, ci_0, r_5, h60_10_10, r_49, h60_10_25, r_47, r_52, ci_1048576, s_8, r_In, ci_1, h60_10_11, h79_1038, ci_100, h79_1032, r_12, r_10, ci_m9, r_46, r_48, s_14, s_13, h79_1003, h64_81, h65_81, enR, LG, LSt, LC, nlR, psR, TK, up_s, up_n, up_u, lt_nI, le_nI, eq_nI, true_and, and_true, if_true, if_false, Nat.zero_add, Nat.add_zero, nI_add, ↓reduceIte, Nat.reduceAdd, Nat.reduceMul, Nat.reduceSub, Nat.reduceLT, Nat.reduceLeDiff, Nat.reduceEqDiff, Nat.not_lt_zero, Nat.lt_irrefl, decide_true, BEq.rfl, nm1, nm2, nm3, nm4, nm9, ngc, eq_self, List.length_cons, List.length_nil, m_isPlace hM, hp2, hr2]
      have h1 := lp_mway1 (d := d + 17) (z := z) (Q := Q') (X := X) (C := C') (b := b) (o := o) (y := r) (e := e) hM hP hp7 (fun γ hγ => ?_) P 0 (e 81) (by omega) (fun i hi => absurd hi (by omega))
      · rw [up_id (rfl : e 81 = e 81)] at h1
        exact h1
      · exact lp_mway2 (d := d + 17) hM hb hr P 0 γ (wy0 p) (by omega) hγ (PI_0 hp7) hQ
    have H0 : ∀ γ81, RL t z s v (va_up g x γ') w q ct cn cc di dr df li la sf sl a b (va_up e 81 γ81) o B n P N W K O T J l Ds Dr Df Dp KB := fun γ81 => by
      obtain ⟨⟨g1, g2, g3, g4, g5⟩, h2, h3, h4, h5, h6, h7⟩ := H
      exact ⟨⟨g1, g2, g3, g4, by rw [up_n g _ (show 32 ≠ x by omega)]; exact g5⟩, h2, h3, h4, h5, h6, h7⟩
    cases hst : foldu (wyN K O T P N (fun i => 100 * fe W K J i + 1)) 0 P (wy0 p) r with
    | none =>
      have e2 : γ' r = nI 1000000 := by rw [e1]; unfold M2C; rw [hst]; rfl
      simp (disch := omega) only [W934, r_4, r_La, h60_9_12, r_2, r_Li, h79_303, s_40, s_41, s_0, ci_m1, r_90, h60_9_8, h79_101, h60_9_5, h79_103, h60_1_0, ci_1000000, r_47, ci_m9, ci_64, s_14, h61_9_15, s_13, h64_cs, enR, LG, LSt, LC, nlR, psR, TK, up_s, up_n, up_u, lt_nI, le_nI, eq_nI, true_and, and_true, if_true, if_false, Nat.zero_add, Nat.add_zero, nI_add, ↓reduceIte, Nat.reduceAdd, Nat.reduceMul, Nat.reduceSub, Nat.reduceLT, Nat.reduceLeDiff, Nat.reduceEqDiff, Nat.not_lt_zero, Nat.lt_irrefl, decide_true, BEq.rfl, nm1, nm2, nm3, nm4, nm9, ngc, eq_self, List.length_cons, List.length_nil, h5, hr7, e2]
      refine okc (hmod _ _ (fun γ81 => ?_))
      rw [hst]
      exact okm (rl_inv (rl_t (H0 γ81)))
    | some m =>
      obtain ⟨b1, b2⟩ := PI_b hPI hst
      have e2 : γ' r = nI (c64 m) := by rw [e1]; unfold M2C; rw [hst]; rfl
      have e3 : c64 m < 1000000 := by unfold c64; omega
      have e4 : ¬ c64 m = 1000000 := by omega
      have h64 : ¬ (64 : Nat) = 0 := by decide
      have e5 : c64 m / 64 = m / 100 := by unfold c64; omega
      have e6 : c64 m % 64 = m % 100 := by unfold c64; omega
      simp (disch := omega) only [W934, r_4, r_La, h60_9_12, r_2, r_Li, h79_303, s_40, s_41, s_0, ci_m1, r_90, h60_9_8, h79_101, h60_9_5, h79_103, h60_1_0, ci_1000000, r_47, ci_m9, ci_64, s_14, h61_9_15, s_13, h64_cs, enR, LG, LSt, LC, nlR, psR, TK, up_s, up_n, up_u, lt_nI, le_nI, eq_nI, true_and, and_true, if_true, if_false, Nat.zero_add, Nat.add_zero, nI_add, ↓reduceIte, Nat.reduceAdd, Nat.reduceMul, Nat.reduceSub, Nat.reduceLT, Nat.reduceLeDiff, Nat.reduceEqDiff, Nat.not_lt_zero, Nat.lt_irrefl, decide_true, BEq.rfl, nm1, nm2, nm3, nm4, nm9, ngc, eq_self, List.length_cons, List.length_nil, h5, hr7, e2, e4, h64, not_false_eq_true]
      rw [nI_rem (by omega) (by decide) (by decide), nI_div (by omega) (by decide) (by decide), e5, e6]
      refine okc (hmod _ _ (fun γ81 => ?_))
      rw [hst]
      exact okm (rl_inv (rl_ask (H0 γ81)))
end

/-! least costs: slips -/
def ecC : Option Nat → Int32
  | none => nI 1000000
  | some c => nI c
def ecM : Option Nat → Int32
  | none => nI 1048576
  | some c => nI c
def omn (o : Option Nat) (c : Nat) : Option Nat := match o with
  | none => some c
  | some a => if c < a then some c else some a
def lsF (K O T : Nat → Nat) (U : Nat → Option Nat) (i w p : Nat) (t : Nat → Option Nat) : Nat → Option Nat := match ldm K O T i p with
  | none => t
  | some q => match U p with
    | none => t
    | some c => va_up t q (omn (t q) (c + w))
def lsS (K O T : Nat → Nat) (i w p : Nat) (t : Nat → Option Nat) : Nat → Option Nat := match ldm K O T i p with
  | none => t
  | some q => match t p with
    | none => t
    | some c => va_up t q (omn (t q) (c + w))
def slw (F : Nat → Nat) (r i : Nat) : Nat := if F i = r then 0 else 1
def sadI (F K O T : Nat → Nat) (P r : Nat) (U : Nat → Option Nat) (i : Nat) (t : Nat → Option Nat) : Nat → Option Nat := foldu (lsF K O T U i (slw F r i)) 0 P t
def sad (F K O T : Nat → Nat) (P N r : Nat) (U : Nat → Option Nat) : Nat → Option Nat := foldu (sadI F K O T P r U) 0 N (fun _ => none)
def slU (F K O T R : Nat → Nat) (P N p : Nat) : Nat → Nat → Option Nat
  | 0 => fun q => if q = p then some 0 else none
  | k + 1 => sad F K O T P N (R k) (slU F K O T R P N p k)
def bdd (B : Nat) (t : Nat → Option Nat) : Prop := ∀ p c, t p = some c → c ≤ B
def agC (γ : Nat → Int32) (t : Nat → Option Nat) : Prop := ∀ p, p < 7 → γ p = ecC (t p)
def agM (P : Nat) (γ : Nat → Int32) (t : Nat → Option Nat) : Prop := ∀ p, p < P → γ p = ecM (t p)
theorem slw_le (F : Nat → Nat) (r i : Nat) : slw F r i ≤ 1 := by unfold slw; split <;> omega
theorem omn_le {o : Option Nat} {c B : Nat} (h : ∀ a, o = some a → a ≤ B) (hc : c ≤ B) {x : Nat} (hx : omn o c = some x) : x ≤ B := by
  unfold omn at hx
  cases o with
  | none => cases hx; exact hc
  | some a =>
    have := h a rfl
    simp only at hx
    split at hx <;> cases hx <;> omega
theorem bdd_up {B : Nat} {t : Nat → Option Nat} {q c : Nat} (h : bdd B t) (hc : c ≤ B) : bdd B (va_up t q (omn (t q) c)) := fun p x hx => by
  by_cases h1 : p = q
  · subst h1
    rw [up_s] at hx
    exact omn_le (h p) hc hx
  · rw [up_n _ _ h1] at hx
    exact h p x hx
theorem bdd_lsF {K O T : Nat → Nat} {U t : Nat → Option Nat} {i w p B : Nat} (hU : bdd B U) (h : bdd (B + 1) t) (hw : w ≤ 1) : bdd (B + 1) (lsF K O T U i w p t) := by
  unfold lsF
  cases ldm K O T i p with
  | none => exact h
  | some q =>
    cases hu : U p with
    | none => exact h
    | some c =>
      have := hU p c hu
      exact bdd_up h (by omega)
theorem bdd_sad {F K O T : Nat → Nat} {P N r B : Nat} {U : Nat → Option Nat} (hU : bdd B U) : bdd (B + 1) (sad F K O T P N r U) :=
  foldu_inv (F := sadI F K O T P r U) (fun _ t => bdd (B + 1) t) N 0 _ (fun p c h => by cases h) (fun i t _ _ h =>
    foldu_inv (F := lsF K O T U i (slw F r i)) (fun _ t => bdd (B + 1) t) P 0 _ h (fun p t _ _ h => bdd_lsF hU h (slw_le F r i)))
theorem bdd_slU (F K O T R : Nat → Nat) (P N p : Nat) : ∀ k, bdd k (slU F K O T R P N p k) := by
  intro k
  induction k with
  | zero =>
    intro q c h
    have h : (if q = p then some 0 else none) = some c := h
    split at h
    · cases h; exact Nat.le_refl _
    · cases h
  | succ k ih => exact bdd_sad ih
theorem ec_mn {o : Option Nat} {x : Nat} (hx : x < 1000000) (ho : ∀ a, o = some a → a < 1000000) : (if nI x < ecC o then nI x else ecC o) = ecC (omn o x) := by
  cases o with
  | none =>
    show (if nI x < nI 1000000 then nI x else nI 1000000) = nI x
    rw [if_pos ((nI_ltI (by omega) (by decide)).mpr hx)]
  | some a =>
    have := ho a rfl
    show (if nI x < nI a then nI x else nI a) = ecC (if x < a then some x else some a)
    by_cases h : x < a
    · rw [if_pos h, if_pos ((nI_ltI (by omega) (by omega)).mpr h)]; rfl
    · rw [if_neg h, if_neg (fun h' => h ((nI_ltI (by omega) (by omega)).mp h'))]; rfl
/-- none is reached beyond the places -/
theorem slU_none {P N W p : Nat} {F K O T J R : Nat → Nat} (hb : LB P N W K O T J) (hp : p < P) {q : Nat} (hq : P ≤ q) (k : Nat) : slU F K O T R P N p k q = none := by
  cases k with
  | zero => exact if_neg (by omega)
  | succ k =>
    refine foldu_inv (F := sadI F K O T P (R k) (slU F K O T R P N p k)) (fun _ t => t q = none) N 0 _ rfl (fun i t _ hi h => ?_)
    refine foldu_inv (F := lsF K O T (slU F K O T R P N p k) i (slw F (R k) i)) (fun _ t => t q = none) P 0 _ h (fun x t _ _ h => ?_)
    show lsF K O T (slU F K O T R P N p k) i (slw F (R k) i) x t q = none
    unfold lsF
    cases hd : ldm K O T i x with
    | none => exact h
    | some y =>
      have hy := ldm_lt hb (show i < N by omega) hd
      cases slU F K O T R P N p k x with
      | none => exact h
      | some c =>
        show va_up t y _ q = none
        rw [up_n _ _ (show q ≠ y by omega)]; exact h
/-- the first of the least -/
def chF (U : Nat → Option Nat) (p : Nat) (st : Option (Nat × Nat)) : Option (Nat × Nat) := match U p with
  | none => st
  | some c => match st with
    | none => some (p, c)
    | some q => if c < q.2 then some (p, c) else some q
theorem ch_ext {U : Nat → Option Nat} {P : Nat} (h : ∀ q, P ≤ q → U q = none) (j : Nat) : foldu (chF U) 0 (P + j) none = foldu (chF U) 0 P none := by
  induction j with
  | zero => rfl
  | succ j ih =>
    rw [show P + (j + 1) = (P + j) + 1 by omega, foldu_last, ih]
    unfold chF
    rw [h _ (by omega)]
theorem up_56 {α : Type} (f : Nat → α) (x y x' y' : α) : va_up (va_up (va_up (va_up f 5 x) 6 y) 5 x') 6 y' = va_up (va_up f 5 x') 6 y' := by
  funext j
  unfold va_up
  by_cases h : j = 6
  · simp [h]
  · by_cases h2 : j = 5 <;> simp [h, h2]
section
variable {d : Nat} {z : AZ} {f : AH} {Q : Option Value → AZ → AH → Prop} {X : Nat × (Nat → Int32)} {M : MT} {s : Nat → Int32} {v : Nat → Int64} {g : Nat → Nat → Int32} {w : Nat → Nat → Int64} {q : Nat → Nat} {ct cn : Nat → Int32} {cc di dr df li : Nat → Nat → Int32} {la : Nat → Nat → Nat → Int32} {sf sl : Nat → Nat → Int32} {l P N W : Nat} {K O T J : Nat → Nat} {x y : Nat}
theorem c_cstart {p : Nat} (hx : x < 2) (h5 : q 5 = x) (hp : p < 7) : Cw (d + 2) 101 [.ref 22, .int (nI p)] z (Hp X (s, v, g, w, q, ct, cn, cc, di, dr, df, li, la, sf, sl) M) Q ↔ Q none z (Hp X (s, v, va_up g x (upd (fil (g x) 0 7 (nI 1000000)) p (nI 0)), w, q, ct, cn, cc, di, dr, df, li, la, sf, sl) M) := by
  rw [cw_wp]
  simp (disch := omega) only [W101, r_4, r_La, h60_1_0, s_0, ci_1000000, h80_1300, r_2, r_Li, s_42, ci_7, r_49, ci_0, r_93, h65_cs, enR, LG, LSt, LC, nlR, psR, TK, up_s, up_n, up_u, lt_nI, le_nI, eq_nI, true_and, and_true, if_true, if_false, Nat.zero_add, Nat.add_zero, nI_add, ↓reduceIte, Nat.reduceAdd, Nat.reduceMul, Nat.reduceSub, Nat.reduceLT, Nat.reduceLeDiff, Nat.reduceEqDiff, Nat.not_lt_zero, Nat.lt_irrefl, decide_true, BEq.rfl, nm1, nm2, nm3, nm4, nm9, ngc, eq_self, List.length_cons, List.length_nil, h5, hp, f_cs hx]
theorem lp_less2 {i c0 B : Nat} {U : Nat → Option Nat} (hl : l < 2) (hC : CLn (li l) (la l) P N K O T J) (hb : LB P N W K O T J) (hi : i < N) (hx : x < 2) (hy : y < 2) (hxy : x ≠ y) (h5 : q 5 = x) (hB : B < 900000) (hc0 : c0 ≤ 1) (hU : agC (g x) U) (hUb : bdd B U) : ∀ (j p : Nat) (γ : Nat → Int32) (t : Nat → Option Nat), p + j = P → agC γ t → bdd (B + 1) t → (∀ γ', agC γ' (foldu (lsF K O T U i c0) p j t) → Q none z (Hp X (s, v, va_up g y γ', w, q, ct, cn, cc, di, dr, df, li, la, sf, sl) M)) → Wp (d + 2) 104 3 [some (.ref 22), some (.ref (lo l)), some (.int (nI i)), some (.int (nI c0)), some (.ref (cst y)), some (.int (nI p))] [] z (Hp X (s, v, va_up g y γ, w, q, ct, cn, cc, di, dr, df, li, la, sf, sl) M) Q := by
  have hP := hb.1
  have h0 := hC.1
  intro j
  induction j with
  | zero =>
    intro p γ t hp hγ ht hQ
    have hp : p = P := by omega
    subst hp
    rw [W104_3]
    simp (disch := omega) only [W104, s_0, ci_0, r_5, r_2, r_Li, r_4, r_La, h60_3_4, r_49, h79_306, ci_m1, r_46, h60_1_0, ci_1000000, r_10, s_84, s_8, r_In, ci_1, r_52, r_93, h64_cs, h65_cs, enR, LG, LSt, LC, nlR, psR, TK, up_s, up_n, up_u, lt_nI, le_nI, eq_nI, true_and, and_true, if_true, if_false, Nat.zero_add, Nat.add_zero, nI_add, ↓reduceIte, Nat.reduceAdd, Nat.reduceMul, Nat.reduceSub, Nat.reduceLT, Nat.reduceLeDiff, Nat.reduceEqDiff, Nat.not_lt_zero, Nat.lt_irrefl, decide_true, BEq.rfl, nm1, nm2, nm3, nm4, nm9, ngc, eq_self, List.length_cons, List.length_nil, hl, h0]
    exact hQ γ hγ
  | succ j ih =>
    intro p γ t hp hγ ht hQ
    have h1 : p < P := by omega
    have h7 : p < 7 := by omega
    rw [W104_3]
    cases hd : ldm K O T i p with
    | none =>
      simp (disch := omega) only [W104, s_0, ci_0, r_5, r_2, r_Li, r_4, r_La, h60_3_4, r_49, h79_306, ci_m1, r_46, h60_1_0, ci_1000000, r_10, s_84, s_8, r_In, ci_1, r_52, r_93, h64_cs, h65_cs, enR, LG, LSt, LC, nlR, psR, TK, up_s, up_n, up_u, lt_nI, le_nI, eq_nI, true_and, and_true, if_true, if_false, Nat.zero_add, Nat.add_zero, nI_add, ↓reduceIte, Nat.reduceAdd, Nat.reduceMul, Nat.reduceSub, Nat.reduceLT, Nat.reduceLeDiff, Nat.reduceEqDiff, Nat.not_lt_zero, Nat.lt_irrefl, decide_true, BEq.rfl, nm1, nm2, nm3, nm4, nm9, ngc, eq_self, List.length_cons, List.length_nil, hl, h0, h1, c_lead hl hC hb hi (show p < 65536 by omega), hd, o2i]
      refine ih (p + 1) γ t (by omega) hγ ht (fun γ' h => hQ γ' ?_)
      simp only [foldu, lsF, hd]; exact h
    | some t0 =>
      have ht0 := ldm_lt hb hi hd
      have ht7 : t0 < 7 := by omega
      have hup := hU p h7
      cases hu : U p with
      | none =>
        rw [hu] at hup
        have hup' : g x p = nI 1000000 := hup
        simp (disch := omega) only [W104, s_0, ci_0, r_5, r_2, r_Li, r_4, r_La, h60_3_4, r_49, h79_306, ci_m1, r_46, h60_1_0, ci_1000000, r_10, s_84, s_8, r_In, ci_1, r_52, r_93, h64_cs, h65_cs, enR, LG, LSt, LC, nlR, psR, TK, up_s, up_n, up_u, lt_nI, le_nI, eq_nI, true_and, and_true, if_true, if_false, Nat.zero_add, Nat.add_zero, nI_add, ↓reduceIte, Nat.reduceAdd, Nat.reduceMul, Nat.reduceSub, Nat.reduceLT, Nat.reduceLeDiff, Nat.reduceEqDiff, Nat.not_lt_zero, Nat.lt_irrefl, decide_true, BEq.rfl, nm1, nm2, nm3, nm4, nm9, ngc, eq_self, List.length_cons, List.length_nil, hl, h0, h1, h7, c_lead hl hC hb hi (show p < 65536 by omega), hd, o2i, h5, hup']
        refine ih (p + 1) γ t (by omega) hγ ht (fun γ' h => hQ γ' ?_)
        simp only [foldu, lsF, hd, hu]; exact h
      | some c =>
        rw [hu] at hup
        have hup' : g x p = nI c := hup
        have hc := hUb p c hu
        have hne : ¬ c = 1000000 := by omega
        have hm := ec_mn (o := t t0) (x := c + c0) (by omega) (fun a ha => by have := ht t0 a ha; omega)
        simp (disch := omega) only [W104, s_0, ci_0, r_5, r_2, r_Li, r_4, r_La, h60_3_4, r_49, h79_306, ci_m1, r_46, h60_1_0, ci_1000000, r_10, s_84, s_8, r_In, ci_1, r_52, r_93, h64_cs, h65_cs, enR, LG, LSt, LC, nlR, psR, TK, up_s, up_n, up_u, lt_nI, le_nI, eq_nI, true_and, and_true, if_true, if_false, Nat.zero_add, Nat.add_zero, nI_add, ↓reduceIte, Nat.reduceAdd, Nat.reduceMul, Nat.reduceSub, Nat.reduceLT, Nat.reduceLeDiff, Nat.reduceEqDiff, Nat.not_lt_zero, Nat.lt_irrefl, decide_true, BEq.rfl, nm1, nm2, nm3, nm4, nm9, ngc, eq_self, List.length_cons, List.length_nil, hl, h0, h1, h7, ht7, c_lead hl hC hb hi (show p < 65536 by omega), hd, o2i, h5, hup', hne, hγ t0 ht7, hm]
        refine ih (p + 1) _ (va_up t t0 (omn (t t0) (c + c0))) (by omega) (fun r hr => ?_) (bdd_up ht (by omega)) (fun γ' h => hQ γ' ?_)
        · by_cases h2 : r = t0
          · subst h2; rw [ud_s, up_s]
          · rw [ud_n _ _ h2, up_n _ _ h2]; exact hγ r hr
        · simp only [foldu, lsF, hd, hu]; exact h
theorem lp_sadv {r B : Nat} {U : Nat → Option Nat} {F : Nat → Nat} (hl : l < 2) (hC : CLn (li l) (la l) P N K O T J) (hb : LB P N W K O T J) (hx : x < 2) (hy : y < 2) (hxy : x ≠ y) (h5 : q 5 = x) (h6 : q 6 = y) (hB : B < 900000) (hU : agC (g x) U) (hUb : bdd B U) (hF : ∀ i, i < N → sf 0 i = nI (F i) ∧ F i < 10) (hr : r < 10) : ∀ (j i : Nat) (γ : Nat → Int32) (t : Nat → Option Nat), i + j = N → agC γ t → bdd (B + 1) t → (∀ γ', agC γ' (foldu (sadI F K O T P r U) i j t) → Q none z (Hp X (s, v, va_up g y γ', w, va_up (va_up q 5 y) 6 x, ct, cn, cc, di, dr, df, li, la, sf, sl) M)) → Wp (d + 3) 102 12 [some (.ref 22), some (.ref (lo l)), some (.ref (so 0)), some (.int (nI r)), some (.int (nI i))] [] z (Hp X (s, v, va_up g y γ, w, q, ct, cn, cc, di, dr, df, li, la, sf, sl) M) Q := by
  have hN := hb.2.1
  have h9 := hC.2.1
  intro j
  induction j with
  | zero =>
    intro i γ t hi hγ ht hQ
    have hi : i = N := by omega
    subst hi
    rw [W102_12]
    simp (disch := omega) only [W102, r_4, r_La, h60_1_1, s_0, ci_1000000, h80_1300, ci_0, r_5, r_2, r_Li, h60_3_5, r_49, h60_6_0, r_47, r_52, ci_1, h79_104, s_8, r_In, h60_1_0, r_7, h61_1_0, h61_1_1, r_93, h64_cs, h64_sf, enR, LG, LSt, LC, nlR, psR, TK, up_s, up_n, up_u, lt_nI, le_nI, eq_nI, true_and, and_true, if_true, if_false, Nat.zero_add, Nat.add_zero, nI_add, ↓reduceIte, Nat.reduceAdd, Nat.reduceMul, Nat.reduceSub, Nat.reduceLT, Nat.reduceLeDiff, Nat.reduceEqDiff, Nat.not_lt_zero, Nat.lt_irrefl, decide_true, BEq.rfl, nm1, nm2, nm3, nm4, nm9, ngc, eq_self, List.length_cons, List.length_nil, hl, h9, h5, h6]
    exact hQ γ hγ
  | succ j ih =>
    intro i γ t hi hγ ht hQ
    have h1 : i < N := by omega
    have h10 : i < 10 := by omega
    obtain ⟨e1, e2⟩ := hF i h1
    have hgo : Cw (d + 3) 104 [.ref 22, .ref (lo l), .int (nI i), .int (nI (slw F r i)), .ref (cst y)] z (Hp X (s, v, va_up g y γ, w, q, ct, cn, cc, di, dr, df, li, la, sf, sl) M) (fun v z f => Wp (d + 3) 102 12 [some (.ref 22), some (.ref (lo l)), some (.ref (so 0)), some (.int (nI r)), some (.int (nI (i + 1)))] (ps v []) z f Q) := by
      rw [cw_wp]
      simp (disch := omega) only [W104, s_0, ci_0, r_5, r_2, r_Li, r_4, r_La, h60_3_4, r_49, h79_306, ci_m1, r_46, h60_1_0, ci_1000000, r_10, s_84, s_8, r_In, ci_1, r_52, r_93, h64_cs, h65_cs, enR, LG, LSt, LC, nlR, psR, TK, up_s, up_n, up_u, lt_nI, le_nI, eq_nI, true_and, and_true, if_true, if_false, Nat.zero_add, Nat.add_zero, nI_add, ↓reduceIte, Nat.reduceAdd, Nat.reduceMul, Nat.reduceSub, Nat.reduceLT, Nat.reduceLeDiff, Nat.reduceEqDiff, Nat.not_lt_zero, Nat.lt_irrefl, decide_true, BEq.rfl, nm1, nm2, nm3, nm4, nm9, ngc, eq_self, List.length_cons, List.length_nil]
      refine lp_less2 hl hC hb h1 hx hy hxy h5 hB (slw_le F r i) hU hUb P 0 γ t (by omega) hγ ht (fun γ' h => ?_)
      refine ih (i + 1) γ' _ (by omega) h ?_ hQ
      exact foldu_inv (F := lsF K O T U i (slw F r i)) (fun _ t => bdd (B + 1) t) P 0 _ ht (fun p t _ _ h => bdd_lsF hUb h (slw_le F r i))
    rw [W102_12]
    by_cases h2 : F i = r
    · rw [show slw F r i = 0 from if_pos h2] at hgo
      simp (disch := omega) only [W102, r_4, r_La, h60_1_1, s_0, ci_1000000, h80_1300, ci_0, r_5, r_2, r_Li, h60_3_5, r_49, h60_6_0, r_47, r_52, ci_1, h79_104, s_8, r_In, h60_1_0, r_7, h61_1_0, h61_1_1, r_93, h64_cs, h64_sf, enR, LG, LSt, LC, nlR, psR, TK, up_s, up_n, up_u, lt_nI, le_nI, eq_nI, true_and, and_true, if_true, if_false, Nat.zero_add, Nat.add_zero, nI_add, ↓reduceIte, Nat.reduceAdd, Nat.reduceMul, Nat.reduceSub, Nat.reduceLT, Nat.reduceLeDiff, Nat.reduceEqDiff, Nat.not_lt_zero, Nat.lt_irrefl, decide_true, BEq.rfl, nm1, nm2, nm3, nm4, nm9, ngc, eq_self, List.length_cons, List.length_nil, hl, h9, h1, h10, e1, h2, h6]
      exact hgo
    · rw [show slw F r i = 1 from if_neg h2] at hgo
      simp (disch := omega) only [W102, r_4, r_La, h60_1_1, s_0, ci_1000000, h80_1300, ci_0, r_5, r_2, r_Li, h60_3_5, r_49, h60_6_0, r_47, r_52, ci_1, h79_104, s_8, r_In, h60_1_0, r_7, h61_1_0, h61_1_1, r_93, h64_cs, h64_sf, enR, LG, LSt, LC, nlR, psR, TK, up_s, up_n, up_u, lt_nI, le_nI, eq_nI, true_and, and_true, if_true, if_false, Nat.zero_add, Nat.add_zero, nI_add, ↓reduceIte, Nat.reduceAdd, Nat.reduceMul, Nat.reduceSub, Nat.reduceLT, Nat.reduceLeDiff, Nat.reduceEqDiff, Nat.not_lt_zero, Nat.lt_irrefl, decide_true, BEq.rfl, nm1, nm2, nm3, nm4, nm9, ngc, eq_self, List.length_cons, List.length_nil, hl, h9, h1, h10, e1, h2, h6]
      exact hgo
theorem c_sadv {r B : Nat} {U : Nat → Option Nat} {F : Nat → Nat} (hl : l < 2) (hC : CLn (li l) (la l) P N K O T J) (hb : LB P N W K O T J) (hx : x < 2) (hy : y < 2) (hxy : x ≠ y) (h5 : q 5 = x) (h6 : q 6 = y) (hB : B < 900000) (hU : agC (g x) U) (hUb : bdd B U) (hF : ∀ i, i < N → sf 0 i = nI (F i) ∧ F i < 10) (hr : r < 10) (hQ : ∀ γ', agC γ' (sad F K O T P N r U) → Q none z (Hp X (s, v, va_up g y γ', w, va_up (va_up q 5 y) 6 x, ct, cn, cc, di, dr, df, li, la, sf, sl) M)) : Cw (d + 4) 102 [.ref 22, .ref (lo l), .ref (so 0), .int (nI r)] z (Hp X (s, v, g, w, q, ct, cn, cc, di, dr, df, li, la, sf, sl) M) Q := by
  rw [cw_wp]
  simp (disch := omega) only [W102, r_4, r_La, h60_1_1, s_0, ci_1000000, h80_1300, ci_0, r_5, r_2, r_Li, h60_3_5, r_49, h60_6_0, r_47, r_52, ci_1, h79_104, s_8, r_In, h60_1_0, r_7, h61_1_0, h61_1_1, r_93, h64_cs, h64_sf, enR, LG, LSt, LC, nlR, psR, TK, up_s, up_n, up_u, lt_nI, le_nI, eq_nI, true_and, and_true, if_true, if_false, Nat.zero_add, Nat.add_zero, nI_add, ↓reduceIte, Nat.reduceAdd, Nat.reduceMul, Nat.reduceSub, Nat.reduceLT, Nat.reduceLeDiff, Nat.reduceEqDiff, Nat.not_lt_zero, Nat.lt_irrefl, decide_true, BEq.rfl, nm1, nm2, nm3, nm4, nm9, ngc, eq_self, List.length_cons, List.length_nil, h6, f_cs hy]
  exact lp_sadv hl hC hb hx hy hxy h5 h6 hB hU hUb hF hr N 0 _ (fun _ => none) (by omega) (fun p hp => if_pos (by omega)) (fun p c h => by cases h) hQ
def pl1 : Option (Nat × Nat) → Option Nat
  | none => none
  | some q => some q.1
def pl2 : Option (Nat × Nat) → Option Nat
  | none => none
  | some q => some q.2
theorem lp_cheap {B : Nat} {U : Nat → Option Nat} (hx : x < 2) (h5 : q 5 = x) (hB : B < 900000) (hU : agC (g x) U) (hUb : bdd B U) : ∀ (j p : Nat) (st : Option (Nat × Nat)), p + j = 7 → (∀ q, st = some q → q.2 ≤ B) → (Wp d 105 7 [some (.ref 22), some (.int (o2i (-1) (pl1 st))), some (.int (ecC (pl2 st))), some (.int (nI p))] [] z (Hp X (s, v, g, w, q, ct, cn, cc, di, dr, df, li, la, sf, sl) M) Q ↔ Q (some (.int (o2i (-1) (pl1 (foldu (chF U) p j st))))) z (Hp X (s, v, g, w, q, ct, cn, cc, di, dr, df, li, la, sf, sl) M)) := by
  intro j
  induction j with
  | zero =>
    intro p st hp _
    have hp : p = 7 := by omega
    subst hp
    rw [W105_7]
    simp (disch := omega) only [W105, s_0, ci_m1, r_5, ci_1000000, ci_0, r_2, r_Li, ci_7, r_49, r_4, r_La, h60_1_0, s_8, r_In, ci_1, r_52, r_90, h64_cs, enR, LG, LSt, LC, nlR, psR, TK, up_s, up_n, up_u, lt_nI, le_nI, eq_nI, true_and, and_true, if_true, if_false, Nat.zero_add, Nat.add_zero, nI_add, ↓reduceIte, Nat.reduceAdd, Nat.reduceMul, Nat.reduceSub, Nat.reduceLT, Nat.reduceLeDiff, Nat.reduceEqDiff, Nat.not_lt_zero, Nat.lt_irrefl, decide_true, BEq.rfl, nm1, nm2, nm3, nm4, nm9, ngc, eq_self, List.length_cons, List.length_nil, foldu]
  | succ j ih =>
    intro p st hp hst
    have h1 : p < 7 := by omega
    have hup := hU p h1
    rw [W105_7]
    cases hu : U p with
    | none =>
      rw [hu] at hup
      have hup' : g x p = nI 1000000 := hup
      have hn : ¬ nI 1000000 < ecC (pl2 st) := by
        cases st with
        | none => exact Int32.lt_irrefl
        | some q =>
          have := hst q rfl
          show ¬ nI 1000000 < nI q.2
          rw [nI_ltI (by decide) (by omega)]; omega
      simp (disch := omega) only [W105, s_0, ci_m1, r_5, ci_1000000, ci_0, r_2, r_Li, ci_7, r_49, r_4, r_La, h60_1_0, s_8, r_In, ci_1, r_52, r_90, h64_cs, enR, LG, LSt, LC, nlR, psR, TK, up_s, up_n, up_u, lt_nI, le_nI, eq_nI, true_and, and_true, if_true, if_false, Nat.zero_add, Nat.add_zero, nI_add, ↓reduceIte, Nat.reduceAdd, Nat.reduceMul, Nat.reduceSub, Nat.reduceLT, Nat.reduceLeDiff, Nat.reduceEqDiff, Nat.not_lt_zero, Nat.lt_irrefl, decide_true, BEq.rfl, nm1, nm2, nm3, nm4, nm9, ngc, eq_self, List.length_cons, List.length_nil, h1, h5, hup', hn]
      rw [ih (p + 1) st (by omega) hst]
      simp only [foldu, chF, hu]
    | some c =>
      rw [hu] at hup
      have hup' : g x p = nI c := hup
      have hc := hUb p c hu
      cases st with
      | none =>
        have hn : nI c < ecC (pl2 none) := (nI_ltI (by omega) (by decide)).mpr (by omega)
        simp (disch := omega) only [W105, s_0, ci_m1, r_5, ci_1000000, ci_0, r_2, r_Li, ci_7, r_49, r_4, r_La, h60_1_0, s_8, r_In, ci_1, r_52, r_90, h64_cs, enR, LG, LSt, LC, nlR, psR, TK, up_s, up_n, up_u, lt_nI, le_nI, eq_nI, true_and, and_true, if_true, if_false, Nat.zero_add, Nat.add_zero, nI_add, ↓reduceIte, Nat.reduceAdd, Nat.reduceMul, Nat.reduceSub, Nat.reduceLT, Nat.reduceLeDiff, Nat.reduceEqDiff, Nat.not_lt_zero, Nat.lt_irrefl, decide_true, BEq.rfl, nm1, nm2, nm3, nm4, nm9, ngc, eq_self, List.length_cons, List.length_nil, h1, h5, hup', hn]
        have := ih (p + 1) (some (p, c)) (by omega) (fun q hq => by cases hq; exact hc)
        simp only [foldu, chF, hu]
        exact this
      | some q0 =>
        have hq0 := hst q0 rfl
        by_cases h2 : c < q0.2
        · have hn : nI c < ecC (pl2 (some q0)) := (nI_ltI (by omega) (by omega)).mpr h2
          simp (disch := omega) only [W105, s_0, ci_m1, r_5, ci_1000000, ci_0, r_2, r_Li, ci_7, r_49, r_4, r_La, h60_1_0, s_8, r_In, ci_1, r_52, r_90, h64_cs, enR, LG, LSt, LC, nlR, psR, TK, up_s, up_n, up_u, lt_nI, le_nI, eq_nI, true_and, and_true, if_true, if_false, Nat.zero_add, Nat.add_zero, nI_add, ↓reduceIte, Nat.reduceAdd, Nat.reduceMul, Nat.reduceSub, Nat.reduceLT, Nat.reduceLeDiff, Nat.reduceEqDiff, Nat.not_lt_zero, Nat.lt_irrefl, decide_true, BEq.rfl, nm1, nm2, nm3, nm4, nm9, ngc, eq_self, List.length_cons, List.length_nil, h1, h5, hup', hn]
          have := ih (p + 1) (some (p, c)) (by omega) (fun q hq => by cases hq; exact hc)
          simp only [foldu, chF, hu, if_pos h2]
          exact this
        · have hn : ¬ nI c < ecC (pl2 (some q0)) := fun h => h2 ((nI_ltI (by omega) (by omega)).mp h)
          simp (disch := omega) only [W105, s_0, ci_m1, r_5, ci_1000000, ci_0, r_2, r_Li, ci_7, r_49, r_4, r_La, h60_1_0, s_8, r_In, ci_1, r_52, r_90, h64_cs, enR, LG, LSt, LC, nlR, psR, TK, up_s, up_n, up_u, lt_nI, le_nI, eq_nI, true_and, and_true, if_true, if_false, Nat.zero_add, Nat.add_zero, nI_add, ↓reduceIte, Nat.reduceAdd, Nat.reduceMul, Nat.reduceSub, Nat.reduceLT, Nat.reduceLeDiff, Nat.reduceEqDiff, Nat.not_lt_zero, Nat.lt_irrefl, decide_true, BEq.rfl, nm1, nm2, nm3, nm4, nm9, ngc, eq_self, List.length_cons, List.length_nil, h1, h5, hup', hn]
          have := ih (p + 1) (some q0) (by omega) hst
          simp only [foldu, chF, hu, if_neg h2]
          exact this
theorem c_cheap {B : Nat} {U : Nat → Option Nat} (hx : x < 2) (h5 : q 5 = x) (hB : B < 900000) (hU : agC (g x) U) (hUb : bdd B U) : Cw (d + 1) 105 [.ref 22] z (Hp X (s, v, g, w, q, ct, cn, cc, di, dr, df, li, la, sf, sl) M) Q ↔ Q (some (.int (o2i (-1) (pl1 (foldu (chF U) 0 7 none))))) z (Hp X (s, v, g, w, q, ct, cn, cc, di, dr, df, li, la, sf, sl) M) := by
  rw [cw_wp]
  simp (disch := omega) only [W105, s_0, ci_m1, r_5, ci_1000000, ci_0, r_2, r_Li, ci_7, r_49, r_4, r_La, h60_1_0, s_8, r_In, ci_1, r_52, r_90, h64_cs, enR, LG, LSt, LC, nlR, psR, TK, up_s, up_n, up_u, lt_nI, le_nI, eq_nI, true_and, and_true, if_true, if_false, Nat.zero_add, Nat.add_zero, nI_add, ↓reduceIte, Nat.reduceAdd, Nat.reduceMul, Nat.reduceSub, Nat.reduceLT, Nat.reduceLeDiff, Nat.reduceEqDiff, Nat.not_lt_zero, Nat.lt_irrefl, decide_true, BEq.rfl, nm1, nm2, nm3, nm4, nm9, ngc, eq_self, List.length_cons, List.length_nil]
  exact lp_cheap hx h5 hB hU hUb 7 0 none (by omega) (fun q hq => by cases hq)
end
theorem ch_ok {U : Nat → Option Nat} {n : Nat} {q : Nat × Nat} (h : foldu (chF U) 0 n none = some q) : q.1 < n ∧ U q.1 = some q.2 := by
  have := foldu_inv (F := chF U) (fun k st => ∀ q, st = some q → q.1 < k ∧ U q.1 = some q.2) n 0 none (fun q hq => by cases hq) (fun k st _ _ ih q hq => by
    have hq : chF U k st = some q := hq
    unfold chF at hq
    cases hu : U k with
    | none =>
      rw [hu] at hq
      have := ih q hq
      exact ⟨by omega, this.2⟩
    | some c =>
      rw [hu] at hq
      cases st with
      | none => cases hq; exact ⟨by omega, hu⟩
      | some q0 =>
        simp only at hq
        split at hq
        · cases hq; exact ⟨by omega, hu⟩
        · have e1 := Option.some.inj hq
          subst e1
          have := ih q0 rfl
          exact ⟨by omega, this.2⟩)
  have h2 := this q h
  rw [Nat.zero_add] at h2
  exact h2
section
variable {d : Nat} {z : AZ} {f : AH} {Q : Option Value → AZ → AH → Prop} {X : Nat × (Nat → Int32)} {C : CT} {a : Nat → Int32} {b : Nat → Int64} {e : Nat → Nat → Int32} {o : Nat → Nat → Int64} {P N W : Nat} {K O T J : Nat → Nat}
theorem lp_msl7 {r p : Nat} {x3 : Int32} {B : Nat} {U : Nat → Option Nat} (hP : P ≤ 7) (hP0 : 0 < P) (h : MLn a (e 74) P N W K O T J) (hB : B < 900000) (hU : agM P (e 81) U) (hUb : bdd B U) : ∀ (j k : Nat), k + j = P → 0 < k → (Wp (d + 5) 1062 265 [some (.ref 67), some (.int (nI r)), some (.int (nI p)), some (.int x3), some (.int (nI ((pl1 (foldu (chF U) 0 k none)).getD 0))), some (.int (nI k))] [] z (Hp X C (a, b, e, o)) Q ↔ match foldu (chF U) 0 P none with
    | none => Q (some (.int (-9))) z (Hp X C (a, b, e, o))
    | some y => Q (some (.int (nI y.2))) z (Hp X C (va_up a 2 (nI y.1), b, e, o))) := by
  have h10 := h.1
  intro j
  induction j with
  | zero =>
    intro k hk _
    have hk : k = P := by omega
    subst hk
    rw [W1062_265]
    cases hst : foldu (chF U) 0 k none with
    | none =>
      have hU0 : U 0 = none := by
        cases hu : U 0 with
        | none => rfl
        | some c =>
          have := foldu_inv (F := chF U) (fun _ st => st ≠ none) (k - 1) 1 (chF U 0 none) (by unfold chF; rw [hu]; simp) (fun j st _ _ h => by
            show chF U j st ≠ none
            unfold chF
            cases U j with
            | none => exact h
            | some c =>
              cases st with
              | none => simp
              | some q => simp only; split <;> simp)
          exact absurd hst (by rw [show k = (k - 1) + 1 by omega]; exact this)
      have e0 : e 81 0 = nI 1048576 := by rw [hU 0 hP0, hU0]; rfl
      simp (disch := omega) only [W1062, r_4, r_La, r_2, r_Li, h79_1053, r_5, s_43, r_90, s_0, ci_0, h60_10_10, r_49, h60_10_25, r_47, r_52, ci_1048576, s_8, r_In, ci_1, h60_10_5, h60_10_26, h60_10_11, h79_1032, h79_1011, h79_1038, ci_m9, r_46, r_10, r_51, r_48, h79_1003, h64_69, h65_69, h64_81, h65_81, h64_82, h65_82, enR, LG, LSt, LC, nlR, psR, TK, up_s, up_n, up_u, lt_nI, le_nI, eq_nI, true_and, and_true, if_true, if_false, Nat.zero_add, Nat.add_zero, nI_add, ↓reduceIte, Nat.reduceAdd, Nat.reduceMul, Nat.reduceSub, Nat.reduceLT, Nat.reduceLeDiff, Nat.reduceEqDiff, Nat.not_lt_zero, Nat.lt_irrefl, decide_true, BEq.rfl, nm1, nm2, nm3, nm4, nm9, ngc, eq_self, List.length_cons, List.length_nil, h10, pl1, Option.getD_none, e0]
    | some y =>
      obtain ⟨g1, g2⟩ := ch_ok hst
      have e0 : e 81 y.1 = nI y.2 := by rw [hU y.1 g1, g2]; rfl
      have hy := hUb _ _ g2
      have h7 : y.1 < 7 := by omega
      have h8 : y.2 < 1048576 := by omega
      simp (disch := omega) only [W1062, r_4, r_La, r_2, r_Li, h79_1053, r_5, s_43, r_90, s_0, ci_0, h60_10_10, r_49, h60_10_25, r_47, r_52, ci_1048576, s_8, r_In, ci_1, h60_10_5, h60_10_26, h60_10_11, h79_1032, h79_1011, h79_1038, ci_m9, r_46, r_10, r_51, r_48, h79_1003, h64_69, h65_69, h64_81, h65_81, h64_82, h65_82, enR, LG, LSt, LC, nlR, psR, TK, up_s, up_n, up_u, lt_nI, le_nI, eq_nI, true_and, and_true, if_true, if_false, Nat.zero_add, Nat.add_zero, nI_add, ↓reduceIte, Nat.reduceAdd, Nat.reduceMul, Nat.reduceSub, Nat.reduceLT, Nat.reduceLeDiff, Nat.reduceEqDiff, Nat.not_lt_zero, Nat.lt_irrefl, decide_true, BEq.rfl, nm1, nm2, nm3, nm4, nm9, ngc, eq_self, List.length_cons, List.length_nil, h10, pl1, Option.getD_some, e0, h7, h8, m_ask]
  | succ j ih =>
    intro k hk hk0
    have h1 : k < P := by omega
    have h7 : k < 7 := by omega
    have e1 := hU k h1
    have ih' := ih (k + 1) (by omega) (by omega)
    rw [foldu_last, Nat.zero_add] at ih'
    rw [W1062_265, ← ih']
    cases hst : foldu (chF U) 0 k none with
    | none =>
      have hU0 : U 0 = none := by
        cases hu : U 0 with
        | none => rfl
        | some c =>
          have := foldu_inv (F := chF U) (fun _ st => st ≠ none) (k - 1) 1 (chF U 0 none) (by unfold chF; rw [hu]; simp) (fun j st _ _ h => by
            show chF U j st ≠ none
            unfold chF
            cases U j with
            | none => exact h
            | some c =>
              cases st with
              | none => simp
              | some q => simp only; split <;> simp)
          exact absurd hst (by rw [show k = (k - 1) + 1 by omega]; exact this)
      have e0 : e 81 0 = nI 1048576 := by rw [hU 0 hP0, hU0]; rfl
      cases hu : U k with
      | none =>
        rw [hu] at e1
        have e1' : e 81 k = nI 1048576 := e1
        simp (disch := omega) only [W1062, r_4, r_La, r_2, r_Li, h79_1053, r_5, s_43, r_90, s_0, ci_0, h60_10_10, r_49, h60_10_25, r_47, r_52, ci_1048576, s_8, r_In, ci_1, h60_10_5, h60_10_26, h60_10_11, h79_1032, h79_1011, h79_1038, ci_m9, r_46, r_10, r_51, r_48, h79_1003, h64_69, h65_69, h64_81, h65_81, h64_82, h65_82, enR, LG, LSt, LC, nlR, psR, TK, up_s, up_n, up_u, lt_nI, le_nI, eq_nI, true_and, and_true, if_true, if_false, Nat.zero_add, Nat.add_zero, nI_add, ↓reduceIte, Nat.reduceAdd, Nat.reduceMul, Nat.reduceSub, Nat.reduceLT, Nat.reduceLeDiff, Nat.reduceEqDiff, Nat.not_lt_zero, Nat.lt_irrefl, decide_true, BEq.rfl, nm1, nm2, nm3, nm4, nm9, ngc, eq_self, List.length_cons, List.length_nil, h10, h1, h7, pl1, Option.getD_none, e0, e1', chF, hu]
      | some c =>
        rw [hu] at e1
        have e1' : e 81 k = nI c := e1
        have hc := hUb k c hu
        have h8 : c < 1048576 := by omega
        simp (disch := omega) only [W1062, r_4, r_La, r_2, r_Li, h79_1053, r_5, s_43, r_90, s_0, ci_0, h60_10_10, r_49, h60_10_25, r_47, r_52, ci_1048576, s_8, r_In, ci_1, h60_10_5, h60_10_26, h60_10_11, h79_1032, h79_1011, h79_1038, ci_m9, r_46, r_10, r_51, r_48, h79_1003, h64_69, h65_69, h64_81, h65_81, h64_82, h65_82, enR, LG, LSt, LC, nlR, psR, TK, up_s, up_n, up_u, lt_nI, le_nI, eq_nI, true_and, and_true, if_true, if_false, Nat.zero_add, Nat.add_zero, nI_add, ↓reduceIte, Nat.reduceAdd, Nat.reduceMul, Nat.reduceSub, Nat.reduceLT, Nat.reduceLeDiff, Nat.reduceEqDiff, Nat.not_lt_zero, Nat.lt_irrefl, decide_true, BEq.rfl, nm1, nm2, nm3, nm4, nm9, ngc, eq_self, List.length_cons, List.length_nil, h10, h1, h7, pl1, Option.getD_none, Option.getD_some, e0, e1', h8, chF, hu]
    | some y =>
      obtain ⟨g1, g2⟩ := ch_ok hst
      have e0 : e 81 y.1 = nI y.2 := by rw [hU y.1 (by omega), g2]; rfl
      have hy := hUb _ _ g2
      have hy7 : y.1 < 7 := by omega
      cases hu : U k with
      | none =>
        rw [hu] at e1
        have e1' : e 81 k = nI 1048576 := e1
        have h8 : ¬ 1048576 < y.2 := by omega
        simp (disch := omega) only [W1062, r_4, r_La, r_2, r_Li, h79_1053, r_5, s_43, r_90, s_0, ci_0, h60_10_10, r_49, h60_10_25, r_47, r_52, ci_1048576, s_8, r_In, ci_1, h60_10_5, h60_10_26, h60_10_11, h79_1032, h79_1011, h79_1038, ci_m9, r_46, r_10, r_51, r_48, h79_1003, h64_69, h65_69, h64_81, h65_81, h64_82, h65_82, enR, LG, LSt, LC, nlR, psR, TK, up_s, up_n, up_u, lt_nI, le_nI, eq_nI, true_and, and_true, if_true, if_false, Nat.zero_add, Nat.add_zero, nI_add, ↓reduceIte, Nat.reduceAdd, Nat.reduceMul, Nat.reduceSub, Nat.reduceLT, Nat.reduceLeDiff, Nat.reduceEqDiff, Nat.not_lt_zero, Nat.lt_irrefl, decide_true, BEq.rfl, nm1, nm2, nm3, nm4, nm9, ngc, eq_self, List.length_cons, List.length_nil, h10, h1, h7, hy7, pl1, Option.getD_some, e0, e1', h8, chF, hu]
      | some c =>
        rw [hu] at e1
        have e1' : e 81 k = nI c := e1
        have hc := hUb k c hu
        by_cases h8 : c < y.2
        · simp (disch := omega) only [W1062, r_4, r_La, r_2, r_Li, h79_1053, r_5, s_43, r_90, s_0, ci_0, h60_10_10, r_49, h60_10_25, r_47, r_52, ci_1048576, s_8, r_In, ci_1, h60_10_5, h60_10_26, h60_10_11, h79_1032, h79_1011, h79_1038, ci_m9, r_46, r_10, r_51, r_48, h79_1003, h64_69, h65_69, h64_81, h65_81, h64_82, h65_82, enR, LG, LSt, LC, nlR, psR, TK, up_s, up_n, up_u, lt_nI, le_nI, eq_nI, true_and, and_true, if_true, if_false, Nat.zero_add, Nat.add_zero, nI_add, ↓reduceIte, Nat.reduceAdd, Nat.reduceMul, Nat.reduceSub, Nat.reduceLT, Nat.reduceLeDiff, Nat.reduceEqDiff, Nat.not_lt_zero, Nat.lt_irrefl, decide_true, BEq.rfl, nm1, nm2, nm3, nm4, nm9, ngc, eq_self, List.length_cons, List.length_nil, h10, h1, h7, hy7, pl1, Option.getD_some, e0, e1', h8, chF, hu]
        · simp (disch := omega) only [W1062, r_4, r_La, r_2, r_Li, h79_1053, r_5, s_43, r_90, s_0, ci_0, h60_10_10, r_49, h60_10_25, r_47, r_52, ci_1048576, s_8, r_In, ci_1, h60_10_5, h60_10_26, h60_10_11, h79_1032, h79_1011, h79_1038, ci_m9, r_46, r_10, r_51, r_48, h79_1003, h64_69, h65_69, h64_81, h65_81, h64_82, h65_82, enR, LG, LSt, LC, nlR, psR, TK, up_s, up_n, up_u, lt_nI, le_nI, eq_nI, true_and, and_true, if_true, if_false, Nat.zero_add, Nat.add_zero, nI_add, ↓reduceIte, Nat.reduceAdd, Nat.reduceMul, Nat.reduceSub, Nat.reduceLT, Nat.reduceLeDiff, Nat.reduceEqDiff, Nat.not_lt_zero, Nat.lt_irrefl, decide_true, BEq.rfl, nm1, nm2, nm3, nm4, nm9, ngc, eq_self, List.length_cons, List.length_nil, h10, h1, h7, hy7, pl1, Option.getD_some, e0, e1', h8, chF, hu]
theorem lp_msl6 {r p k : Nat} {x3 x6 x7 x8 : Option Value} {y3 : Int32} {t : Nat → Option Nat} {B : Nat} (h : MLn a (e 74) P N W K O T J) (hP : P ≤ 7) (hB : B < 900000) (ht : agM P (e 82) t) (htb : bdd B t) (hQ : ∀ γ, agM P γ t → Wp (d + 5) 1062 53 [some (.ref 67), some (.int (nI r)), some (.int (nI p)), some (.int y3), some (.int (nI (k + 1)))] [] z (Hp X C (a, b, va_up e 81 γ, o)) Q) : ∀ (j q : Nat) (γ : Nat → Int32), q + j = P → (∀ i, i < q → γ i = ecM (t i)) → Wp (d + 5) 1062 207 [some (.ref 67), some (.int (nI r)), some (.int (nI p)), some (.int y3), some (.int (nI k)), some (.int (nI q))] [] z (Hp X C (a, b, va_up e 81 γ, o)) Q := by
  have h10 := h.1
  intro j
  induction j with
  | zero =>
    intro q γ hq hγ
    have hq : q = P := by omega
    subst hq
    rw [W1062_207]
    simp (disch := omega) only [W1062, r_4, r_La, r_2, r_Li, h79_1053, r_5, s_43, r_90, s_0, ci_0, h60_10_10, r_49, h60_10_25, r_47, r_52, ci_1048576, s_8, r_In, ci_1, h60_10_5, h60_10_26, h60_10_11, h79_1032, h79_1011, h79_1038, ci_m9, r_46, r_10, r_51, r_48, h79_1003, h64_69, h65_69, h64_81, h65_81, h64_82, h65_82, enR, LG, LSt, LC, nlR, psR, TK, up_s, up_n, up_u, lt_nI, le_nI, eq_nI, true_and, and_true, if_true, if_false, Nat.zero_add, Nat.add_zero, nI_add, ↓reduceIte, Nat.reduceAdd, Nat.reduceMul, Nat.reduceSub, Nat.reduceLT, Nat.reduceLeDiff, Nat.reduceEqDiff, Nat.not_lt_zero, Nat.lt_irrefl, decide_true, BEq.rfl, nm1, nm2, nm3, nm4, nm9, ngc, eq_self, List.length_cons, List.length_nil, h10]
    exact hQ γ hγ
  | succ j ih =>
    intro q γ hq hγ
    have h1 : q < P := by omega
    have h7 : q < 7 := by omega
    have e1 := ht q h1
    have hle : ¬ nI 1048576 < ecM (t q) := by
      cases hu : t q with
      | none => exact Int32.lt_irrefl
      | some c =>
        have := htb q c hu
        show ¬ nI 1048576 < nI c
        rw [nI_ltI (by decide) (by omega)]; omega
    rw [W1062_207]
    simp (disch := omega) only [W1062, r_4, r_La, r_2, r_Li, h79_1053, r_5, s_43, r_90, s_0, ci_0, h60_10_10, r_49, h60_10_25, r_47, r_52, ci_1048576, s_8, r_In, ci_1, h60_10_5, h60_10_26, h60_10_11, h79_1032, h79_1011, h79_1038, ci_m9, r_46, r_10, r_51, r_48, h79_1003, h64_69, h65_69, h64_81, h65_81, h64_82, h65_82, enR, LG, LSt, LC, nlR, psR, TK, up_s, up_n, up_u, lt_nI, le_nI, eq_nI, true_and, and_true, if_true, if_false, Nat.zero_add, Nat.add_zero, nI_add, ↓reduceIte, Nat.reduceAdd, Nat.reduceMul, Nat.reduceSub, Nat.reduceLT, Nat.reduceLeDiff, Nat.reduceEqDiff, Nat.not_lt_zero, Nat.lt_irrefl, decide_true, BEq.rfl, nm1, nm2, nm3, nm4, nm9, ngc, eq_self, List.length_cons, List.length_nil, h10, h1, h7, e1, hle]
    refine ih (q + 1) _ (by omega) (fun i hi => ?_)
    by_cases h2 : i = q
    · subst h2; rw [ud_s]
    · rw [ud_n _ _ h2]; exact hγ i (by omega)
theorem lp_msl5 {r p k i c0 B : Nat} {y3 : Int32} {U : Nat → Option Nat} (h : MLn a (e 74) P N W K O T J) (hb : LB P N W K O T J) (hi : i < N) (hB : B < 900000) (hc0 : c0 ≤ 1) (hU : agM P (e 81) U) (hUb : bdd B U) : ∀ (j q : Nat) (γ : Nat → Int32) (t : Nat → Option Nat), q + j = P → agM P γ t → bdd (B + 1) t → (∀ γ', agM P γ' (foldu (lsF K O T U i c0) q j t) → Wp (d + 5) 1062 94 [some (.ref 67), some (.int (nI r)), some (.int (nI p)), some (.int y3), some (.int (nI k)), some (.int (nI (i + 1)))] [] z (Hp X C (a, b, va_up e 82 γ', o)) Q) → Wp (d + 5) 1062 129 [some (.ref 67), some (.int (nI r)), some (.int (nI p)), some (.int y3), some (.int (nI k)), some (.int (nI i)), some (.int (nI c0)), some (.int (nI q))] [] z (Hp X C (a, b, va_up e 82 γ, o)) Q := by
  have hP := hb.1
  have h10 := h.1
  intro j
  induction j with
  | zero =>
    intro q γ t hq hγ ht hQ
    have hq : q = P := by omega
    subst hq
    rw [W1062_129]
    simp (disch := omega) only [W1062, r_4, r_La, r_2, r_Li, h79_1053, r_5, s_43, r_90, s_0, ci_0, h60_10_10, r_49, h60_10_25, r_47, r_52, ci_1048576, s_8, r_In, ci_1, h60_10_5, h60_10_26, h60_10_11, h79_1032, h79_1011, h79_1038, ci_m9, r_46, r_10, r_51, r_48, h79_1003, h64_69, h65_69, h64_81, h65_81, h64_82, h65_82, enR, LG, LSt, LC, nlR, psR, TK, up_s, up_n, up_u, lt_nI, le_nI, eq_nI, true_and, and_true, if_true, if_false, Nat.zero_add, Nat.add_zero, nI_add, ↓reduceIte, Nat.reduceAdd, Nat.reduceMul, Nat.reduceSub, Nat.reduceLT, Nat.reduceLeDiff, Nat.reduceEqDiff, Nat.not_lt_zero, Nat.lt_irrefl, decide_true, BEq.rfl, nm1, nm2, nm3, nm4, nm9, ngc, eq_self, List.length_cons, List.length_nil, h10]
    exact hQ γ hγ
  | succ j ih =>
    intro q γ t hq hγ ht hQ
    have h1 : q < P := by omega
    have h7 : q < 7 := by omega
    rw [W1062_129]
    cases hd : ldm K O T i q with
    | none =>
      simp (disch := omega) only [W1062, r_4, r_La, r_2, r_Li, h79_1053, r_5, s_43, r_90, s_0, ci_0, h60_10_10, r_49, h60_10_25, r_47, r_52, ci_1048576, s_8, r_In, ci_1, h60_10_5, h60_10_26, h60_10_11, h79_1032, h79_1011, h79_1038, ci_m9, r_46, r_10, r_51, r_48, h79_1003, h64_69, h65_69, h64_81, h65_81, h64_82, h65_82, enR, LG, LSt, LC, nlR, psR, TK, up_s, up_n, up_u, lt_nI, le_nI, eq_nI, true_and, and_true, if_true, if_false, Nat.zero_add, Nat.add_zero, nI_add, ↓reduceIte, Nat.reduceAdd, Nat.reduceMul, Nat.reduceSub, Nat.reduceLT, Nat.reduceLeDiff, Nat.reduceEqDiff, Nat.not_lt_zero, Nat.lt_irrefl, decide_true, BEq.rfl, nm1, nm2, nm3, nm4, nm9, ngc, eq_self, List.length_cons, List.length_nil, h10, h1, m_leads (e := va_up e 82 γ) h hb hi (show q < 65536 by omega), hd, o2i]
      refine ih (q + 1) γ t (by omega) hγ ht (fun γ' h => hQ γ' ?_)
      simp only [foldu, lsF, hd]; exact h
    | some t0 =>
      have ht0 := ldm_lt hb hi hd
      have ht7 : t0 < 7 := by omega
      have hup := hU q h1
      have eT := hγ t0 ht0
      cases hu : U q with
      | none =>
        rw [hu] at hup
        have hup' : e 81 q = nI 1048576 := hup
        have hn : ¬ nI (1048576 + c0) < ecM (t t0) := by
          cases htt : t t0 with
          | none => show ¬ nI (1048576 + c0) < nI 1048576; rw [nI_ltI (by omega) (by decide)]; omega
          | some c =>
            have := ht t0 c htt
            show ¬ nI (1048576 + c0) < nI c
            rw [nI_ltI (by omega) (by omega)]; omega
        simp (disch := omega) only [W1062, r_4, r_La, r_2, r_Li, h79_1053, r_5, s_43, r_90, s_0, ci_0, h60_10_10, r_49, h60_10_25, r_47, r_52, ci_1048576, s_8, r_In, ci_1, h60_10_5, h60_10_26, h60_10_11, h79_1032, h79_1011, h79_1038, ci_m9, r_46, r_10, r_51, r_48, h79_1003, h64_69, h65_69, h64_81, h65_81, h64_82, h65_82, enR, LG, LSt, LC, nlR, psR, TK, up_s, up_n, up_u, lt_nI, le_nI, eq_nI, true_and, and_true, if_true, if_false, Nat.zero_add, Nat.add_zero, nI_add, ↓reduceIte, Nat.reduceAdd, Nat.reduceMul, Nat.reduceSub, Nat.reduceLT, Nat.reduceLeDiff, Nat.reduceEqDiff, Nat.not_lt_zero, Nat.lt_irrefl, decide_true, BEq.rfl, nm1, nm2, nm3, nm4, nm9, ngc, eq_self, List.length_cons, List.length_nil, h10, h1, h7, ht7, m_leads (e := va_up e 82 γ) h hb hi (show q < 65536 by omega), hd, o2i, hup', eT, hn]
        refine ih (q + 1) γ t (by omega) hγ ht (fun γ' h => hQ γ' ?_)
        simp only [foldu, lsF, hd, hu]; exact h
      | some c =>
        rw [hu] at hup
        have hup' : e 81 q = nI c := hup
        have hc := hUb q c hu
        have hfin : ∀ γ1, agM P γ1 (va_up t t0 (omn (t t0) (c + c0))) → Wp (d + 5) 1062 129 [some (.ref 67), some (.int (nI r)), some (.int (nI p)), some (.int y3), some (.int (nI k)), some (.int (nI i)), some (.int (nI c0)), some (.int (nI (q + 1)))] [] z (Hp X C (a, b, va_up e 82 γ1, o)) Q := fun γ1 hγ1 => by
          refine ih (q + 1) γ1 (va_up t t0 (omn (t t0) (c + c0))) (by omega) hγ1 (bdd_up ht (by omega)) (fun γ' h => hQ γ' ?_)
          simp only [foldu, lsF, hd, hu]; exact h
        by_cases hn : nI (c + c0) < ecM (t t0)
        · have ho : omn (t t0) (c + c0) = some (c + c0) := by
            cases htt : t t0 with
            | none => rfl
            | some a =>
              rw [htt] at hn
              have := ht t0 a htt
              have hn' : nI (c + c0) < nI a := hn
              rw [nI_ltI (by omega) (by omega)] at hn'
              show (if c + c0 < a then some (c + c0) else some a) = _
              rw [if_pos hn']
          simp (disch := omega) only [W1062, r_4, r_La, r_2, r_Li, h79_1053, r_5, s_43, r_90, s_0, ci_0, h60_10_10, r_49, h60_10_25, r_47, r_52, ci_1048576, s_8, r_In, ci_1, h60_10_5, h60_10_26, h60_10_11, h79_1032, h79_1011, h79_1038, ci_m9, r_46, r_10, r_51, r_48, h79_1003, h64_69, h65_69, h64_81, h65_81, h64_82, h65_82, enR, LG, LSt, LC, nlR, psR, TK, up_s, up_n, up_u, lt_nI, le_nI, eq_nI, true_and, and_true, if_true, if_false, Nat.zero_add, Nat.add_zero, nI_add, ↓reduceIte, Nat.reduceAdd, Nat.reduceMul, Nat.reduceSub, Nat.reduceLT, Nat.reduceLeDiff, Nat.reduceEqDiff, Nat.not_lt_zero, Nat.lt_irrefl, decide_true, BEq.rfl, nm1, nm2, nm3, nm4, nm9, ngc, eq_self, List.length_cons, List.length_nil, h10, h1, h7, ht7, m_leads (e := va_up e 82 γ) h hb hi (show q < 65536 by omega), hd, o2i, hup', eT, hn]
          refine hfin _ (fun x hx => ?_)
          rw [ho]
          by_cases h2 : x = t0
          · subst h2; rw [ud_s, up_s]; rfl
          · rw [ud_n _ _ h2, up_n _ _ h2]; exact hγ x hx
        · have ho : omn (t t0) (c + c0) = t t0 := by
            cases htt : t t0 with
            | none =>
              rw [htt] at hn
              exact absurd ((nI_ltI (a := c + c0) (b := 1048576) (by omega) (by decide)).mpr (by omega)) hn
            | some a =>
              rw [htt] at hn
              have := ht t0 a htt
              have hn' : ¬ nI (c + c0) < nI a := hn
              rw [nI_ltI (by omega) (by omega)] at hn'
              show (if c + c0 < a then some (c + c0) else some a) = _
              rw [if_neg hn']
          simp (disch := omega) only [W1062, r_4, r_La, r_2, r_Li, h79_1053, r_5, s_43, r_90, s_0, ci_0, h60_10_10, r_49, h60_10_25, r_47, r_52, ci_1048576, s_8, r_In, ci_1, h60_10_5, h60_10_26, h60_10_11, h79_1032, h79_1011, h79_1038, ci_m9, r_46, r_10, r_51, r_48, h79_1003, h64_69, h65_69, h64_81, h65_81, h64_82, h65_82, enR, LG, LSt, LC, nlR, psR, TK, up_s, up_n, up_u, lt_nI, le_nI, eq_nI, true_and, and_true, if_true, if_false, Nat.zero_add, Nat.add_zero, nI_add, ↓reduceIte, Nat.reduceAdd, Nat.reduceMul, Nat.reduceSub, Nat.reduceLT, Nat.reduceLeDiff, Nat.reduceEqDiff, Nat.not_lt_zero, Nat.lt_irrefl, decide_true, BEq.rfl, nm1, nm2, nm3, nm4, nm9, ngc, eq_self, List.length_cons, List.length_nil, h10, h1, h7, ht7, m_leads (e := va_up e 82 γ) h hb hi (show q < 65536 by omega), hd, o2i, hup', eT, hn]
          refine hfin γ (fun x hx => ?_)
          rw [ho, up_id rfl]
          exact hγ x hx
theorem lp_msl4 {r p k B m : Nat} {R : Nat → Nat} {y3 : Int32} {U : Nat → Option Nat} (h : MLn a (e 74) P N W K O T J) (hb : LB P N W K O T J) (hr : r < 6) (hm : m ≤ 40) (hk : k < m) (hR : ∀ k, k < m → e 70 (40 * r + k) = nI (R k) ∧ R k < 10) (hB : B < 900000) (hU : agM P (e 81) U) (hUb : bdd B U) : ∀ (j i : Nat) (γ : Nat → Int32) (t : Nat → Option Nat), i + j = N → agM P γ t → bdd (B + 1) t → (∀ γ', agM P γ' (foldu (sadI (fe W K J) K O T P (R k) U) i j t) → Wp (d + 5) 1062 207 [some (.ref 67), some (.int (nI r)), some (.int (nI p)), some (.int y3), some (.int (nI k)), some (.int (nI 0))] [] z (Hp X C (a, b, va_up e 82 γ', o)) Q) → Wp (d + 5) 1062 94 [some (.ref 67), some (.int (nI r)), some (.int (nI p)), some (.int y3), some (.int (nI k)), some (.int (nI i))] [] z (Hp X C (a, b, va_up e 82 γ, o)) Q := by
  have hN := hb.2.1
  have h11 := h.2.1
  obtain ⟨r1, r2⟩ := hR k hk
  intro j
  induction j with
  | zero =>
    intro i γ t hi hγ ht hQ
    have hi : i = N := by omega
    subst hi
    rw [W1062_94]
    simp (disch := omega) only [W1062, r_4, r_La, r_2, r_Li, h79_1053, r_5, s_43, r_90, s_0, ci_0, h60_10_10, r_49, h60_10_25, r_47, r_52, ci_1048576, s_8, r_In, ci_1, h60_10_5, h60_10_26, h60_10_11, h79_1032, h79_1011, h79_1038, ci_m9, r_46, r_10, r_51, r_48, h79_1003, h64_69, h65_69, h64_81, h65_81, h64_82, h65_82, enR, LG, LSt, LC, nlR, psR, TK, up_s, up_n, up_u, lt_nI, le_nI, eq_nI, true_and, and_true, if_true, if_false, Nat.zero_add, Nat.add_zero, nI_add, ↓reduceIte, Nat.reduceAdd, Nat.reduceMul, Nat.reduceSub, Nat.reduceLT, Nat.reduceLeDiff, Nat.reduceEqDiff, Nat.not_lt_zero, Nat.lt_irrefl, decide_true, BEq.rfl, nm1, nm2, nm3, nm4, nm9, ngc, eq_self, List.length_cons, List.length_nil, h11]
    exact hQ γ hγ
  | succ j ih =>
    intro i γ t hi hγ ht hQ
    have h1 : i < N := by omega
    have hf := fe_lt hb h1
    have hgo := lp_msl5 (d := d) (z := z) (X := X) (C := C) (b := b) (o := o) (Q := Q) (r := r) (p := p) (k := k) (y3 := y3) h hb h1 hB (slw_le (fe W K J) (R k) i) hU hUb P 0 γ t (by omega) hγ ht (fun γ' h => ih (i + 1) γ' _ (by omega) h (foldu_inv (F := lsF K O T U i (slw (fe W K J) (R k) i)) (fun _ t => bdd (B + 1) t) P 0 _ ht (fun p t _ _ h => bdd_lsF hUb h (slw_le _ (R k) i))) hQ)
    rw [W1062_94]
    by_cases h2 : fe W K J i = R k
    · rw [show slw (fe W K J) (R k) i = 0 from if_pos h2] at hgo
      simp (disch := omega) only [W1062, r_4, r_La, r_2, r_Li, h79_1053, r_5, s_43, r_90, s_0, ci_0, h60_10_10, r_49, h60_10_25, r_47, r_52, ci_1048576, s_8, r_In, ci_1, h60_10_5, h60_10_26, h60_10_11, h79_1032, h79_1011, h79_1038, ci_m9, r_46, r_10, r_51, r_48, h79_1003, h64_69, h65_69, h64_81, h65_81, h64_82, h65_82, enR, LG, LSt, LC, nlR, psR, TK, up_s, up_n, up_u, lt_nI, le_nI, eq_nI, true_and, and_true, if_true, if_false, Nat.zero_add, Nat.add_zero, nI_add, ↓reduceIte, Nat.reduceAdd, Nat.reduceMul, Nat.reduceSub, Nat.reduceLT, Nat.reduceLeDiff, Nat.reduceEqDiff, Nat.not_lt_zero, Nat.lt_irrefl, decide_true, BEq.rfl, nm1, nm2, nm3, nm4, nm9, ngc, eq_self, List.length_cons, List.length_nil, h11, h1, m_feelOf (e := va_up e 82 γ) h hb h1, m_rowAt, r1, h2]
      exact hgo
    · rw [show slw (fe W K J) (R k) i = 1 from if_neg h2] at hgo
      simp (disch := omega) only [W1062, r_4, r_La, r_2, r_Li, h79_1053, r_5, s_43, r_90, s_0, ci_0, h60_10_10, r_49, h60_10_25, r_47, r_52, ci_1048576, s_8, r_In, ci_1, h60_10_5, h60_10_26, h60_10_11, h79_1032, h79_1011, h79_1038, ci_m9, r_46, r_10, r_51, r_48, h79_1003, h64_69, h65_69, h64_81, h65_81, h64_82, h65_82, enR, LG, LSt, LC, nlR, psR, TK, up_s, up_n, up_u, lt_nI, le_nI, eq_nI, true_and, and_true, if_true, if_false, Nat.zero_add, Nat.add_zero, nI_add, ↓reduceIte, Nat.reduceAdd, Nat.reduceMul, Nat.reduceSub, Nat.reduceLT, Nat.reduceLeDiff, Nat.reduceEqDiff, Nat.not_lt_zero, Nat.lt_irrefl, decide_true, BEq.rfl, nm1, nm2, nm3, nm4, nm9, ngc, eq_self, List.length_cons, List.length_nil, h11, h1, m_feelOf (e := va_up e 82 γ) h hb h1, m_rowAt, r1, h2]
      exact hgo
theorem lp_msl3 {r p k : Nat} {y3 : Int32} (h : MLn a (e 74) P N W K O T J) (hP : P ≤ 7) (hQ : ∀ γ, agM P γ (fun _ => none) → Wp (d + 5) 1062 94 [some (.ref 67), some (.int (nI r)), some (.int (nI p)), some (.int y3), some (.int (nI k)), some (.int (nI 0))] [] z (Hp X C (a, b, va_up e 82 γ, o)) Q) : ∀ (j q : Nat) (γ : Nat → Int32), q + j = P → (∀ i, i < q → γ i = nI 1048576) → Wp (d + 5) 1062 67 [some (.ref 67), some (.int (nI r)), some (.int (nI p)), some (.int y3), some (.int (nI k)), some (.int (nI q))] [] z (Hp X C (a, b, va_up e 82 γ, o)) Q := by
  have h10 := h.1
  intro j
  induction j with
  | zero =>
    intro q γ hq hγ
    have hq : q = P := by omega
    subst hq
    rw [W1062_67]
    simp (disch := omega) only [W1062, r_4, r_La, r_2, r_Li, h79_1053, r_5, s_43, r_90, s_0, ci_0, h60_10_10, r_49, h60_10_25, r_47, r_52, ci_1048576, s_8, r_In, ci_1, h60_10_5, h60_10_26, h60_10_11, h79_1032, h79_1011, h79_1038, ci_m9, r_46, r_10, r_51, r_48, h79_1003, h64_69, h65_69, h64_81, h65_81, h64_82, h65_82, enR, LG, LSt, LC, nlR, psR, TK, up_s, up_n, up_u, lt_nI, le_nI, eq_nI, true_and, and_true, if_true, if_false, Nat.zero_add, Nat.add_zero, nI_add, ↓reduceIte, Nat.reduceAdd, Nat.reduceMul, Nat.reduceSub, Nat.reduceLT, Nat.reduceLeDiff, Nat.reduceEqDiff, Nat.not_lt_zero, Nat.lt_irrefl, decide_true, BEq.rfl, nm1, nm2, nm3, nm4, nm9, ngc, eq_self, List.length_cons, List.length_nil, h10]
    exact hQ γ hγ
  | succ j ih =>
    intro q γ hq hγ
    have h1 : q < P := by omega
    have h7 : q < 7 := by omega
    rw [W1062_67]
    simp (disch := omega) only [W1062, r_4, r_La, r_2, r_Li, h79_1053, r_5, s_43, r_90, s_0, ci_0, h60_10_10, r_49, h60_10_25, r_47, r_52, ci_1048576, s_8, r_In, ci_1, h60_10_5, h60_10_26, h60_10_11, h79_1032, h79_1011, h79_1038, ci_m9, r_46, r_10, r_51, r_48, h79_1003, h64_69, h65_69, h64_81, h65_81, h64_82, h65_82, enR, LG, LSt, LC, nlR, psR, TK, up_s, up_n, up_u, lt_nI, le_nI, eq_nI, true_and, and_true, if_true, if_false, Nat.zero_add, Nat.add_zero, nI_add, ↓reduceIte, Nat.reduceAdd, Nat.reduceMul, Nat.reduceSub, Nat.reduceLT, Nat.reduceLeDiff, Nat.reduceEqDiff, Nat.not_lt_zero, Nat.lt_irrefl, decide_true, BEq.rfl, nm1, nm2, nm3, nm4, nm9, ngc, eq_self, List.length_cons, List.length_nil, h10, h1, h7]
    refine ih (q + 1) _ (by omega) (fun i hi => ?_)
    by_cases h2 : i = q
    · subst h2; rw [ud_s]
    · rw [ud_n _ _ h2]; exact hγ i (by omega)
theorem lp_msl2 {r p m : Nat} {R : Nat → Nat} {y3 : Int32} (h : MLn a (e 74) P N W K O T J) (hb : LB P N W K O T J) (hr : r < 6) (hm : m ≤ 40) (hP0 : 0 < P) (h69 : e 69 r = nI m) (hR : ∀ k, k < m → e 70 (40 * r + k) = nI (R k) ∧ R k < 10)
    (hQ : ∀ γ81 γ82, match foldu (chF (slU (fe W K J) K O T R P N p m)) 0 P none with
      | none => Q (some (.int (-9))) z (Hp X C (a, b, va_up (va_up e 81 γ81) 82 γ82, o))
      | some y => Q (some (.int (nI y.2))) z (Hp X C (va_up a 2 (nI y.1), b, va_up (va_up e 81 γ81) 82 γ82, o))) : ∀ (j k : Nat) (γ81 γ82 : Nat → Int32), k + j = m → agM P γ81 (slU (fe W K J) K O T R P N p k) → Wp (d + 5) 1062 53 [some (.ref 67), some (.int (nI r)), some (.int (nI p)), some (.int y3), some (.int (nI k))] [] z (Hp X C (a, b, va_up (va_up e 81 γ81) 82 γ82, o)) Q := by
  have hP := hb.1
  intro j
  induction j with
  | zero =>
    intro k γ81 γ82 hk hu
    have hk : k = m := by omega
    subst hk
    have hU : agM P (va_up (va_up e 81 γ81) 82 γ82 81) (slU (fe W K J) K O T R P N p k) := hu
    have hUb := bdd_slU (fe W K J) K O T R P N p k
    have h0 : foldu (chF (slU (fe W K J) K O T R P N p k)) 0 1 none = chF (slU (fe W K J) K O T R P N p k) 0 none := rfl
    have hpl : (pl1 (chF (slU (fe W K J) K O T R P N p k) 0 none)).getD 0 = 0 := by
      unfold chF
      cases slU (fe W K J) K O T R P N p k 0 <;> rfl
    have := lp_msl7 (d := d) (z := z) (Q := Q) (X := X) (C := C) (b := b) (o := o) (r := r) (p := p) (x3 := y3) (e := va_up (va_up e 81 γ81) 82 γ82) hP hP0 h (show k < 900000 by omega) hU hUb (P - 1) 1 (by omega) (by omega)
    rw [h0, hpl] at this
    rw [W1062_53]
    simp (disch := omega) only [W1062, r_4, r_La, r_2, r_Li, h79_1053, r_5, s_43, r_90, s_0, ci_0, h60_10_10, r_49, h60_10_25, r_47, r_52, ci_1048576, s_8, r_In, ci_1, h60_10_5, h60_10_26, h60_10_11, h79_1032, h79_1011, h79_1038, ci_m9, r_46, r_10, r_51, r_48, h79_1003, h64_69, h65_69, h64_81, h65_81, h64_82, h65_82, enR, LG, LSt, LC, nlR, psR, TK, up_s, up_n, up_u, lt_nI, le_nI, eq_nI, true_and, and_true, if_true, if_false, Nat.zero_add, Nat.add_zero, nI_add, ↓reduceIte, Nat.reduceAdd, Nat.reduceMul, Nat.reduceSub, Nat.reduceLT, Nat.reduceLeDiff, Nat.reduceEqDiff, Nat.not_lt_zero, Nat.lt_irrefl, decide_true, BEq.rfl, nm1, nm2, nm3, nm4, nm9, ngc, eq_self, List.length_cons, List.length_nil, hr, h69]
    exact this.mpr (hQ γ81 γ82)
  | succ j ih =>
    intro k γ81 γ82 hk hu
    have h1 : k < m := by omega
    have hUb := bdd_slU (fe W K J) K O T R P N p k
    rw [W1062_53]
    simp (disch := omega) only [W1062, r_4, r_La, r_2, r_Li, h79_1053, r_5, s_43, r_90, s_0, ci_0, h60_10_10, r_49, h60_10_25, r_47, r_52, ci_1048576, s_8, r_In, ci_1, h60_10_5, h60_10_26, h60_10_11, h79_1032, h79_1011, h79_1038, ci_m9, r_46, r_10, r_51, r_48, h79_1003, h64_69, h65_69, h64_81, h65_81, h64_82, h65_82, enR, LG, LSt, LC, nlR, psR, TK, up_s, up_n, up_u, lt_nI, le_nI, eq_nI, true_and, and_true, if_true, if_false, Nat.zero_add, Nat.add_zero, nI_add, ↓reduceIte, Nat.reduceAdd, Nat.reduceMul, Nat.reduceSub, Nat.reduceLT, Nat.reduceLeDiff, Nat.reduceEqDiff, Nat.not_lt_zero, Nat.lt_irrefl, decide_true, BEq.rfl, nm1, nm2, nm3, nm4, nm9, ngc, eq_self, List.length_cons, List.length_nil, hr, h69, h1]
    refine lp_msl3 (e := va_up e 81 γ81) h hP (fun γ hγ => ?_) P 0 γ82 (by omega) (fun i hi => absurd hi (by omega))
    refine lp_msl4 (e := va_up e 81 γ81) (R := R) (B := k) h hb hr hm h1 hR (by omega) hu hUb N 0 γ (fun _ => none) (by omega) hγ (fun p c h => by cases h) (fun γ' h' => ?_)
    have ht : agM P γ' (slU (fe W K J) K O T R P N p (k + 1)) := h'
    have := lp_msl6 (d := d) (z := z) (Q := Q) (X := X) (C := C) (b := b) (o := o) (r := r) (p := p) (k := k) (x3 := none) (x6 := none) (x7 := none) (x8 := none) (y3 := y3) (e := va_up (va_up e 81 γ81) 82 γ') (B := k + 1) h hP (by omega) ht (bdd_slU _ _ _ _ _ _ _ _ (k + 1)) (fun γ2 hγ2 => ?_) P 0 γ81 (by omega) (fun i hi => absurd hi (by omega))
    · rw [up_x (va_up e 81 γ81) _ _ (show (82 : Nat) ≠ 81 by decide), up_u] at this
      exact this
    · rw [up_x (va_up e 81 γ81) _ _ (show (82 : Nat) ≠ 81 by decide), up_u]
      exact ih (k + 1) γ2 γ' (by omega) hγ2
theorem lp_msl1 {r p : Nat} {y3 : Int32} (h : MLn a (e 74) P N W K O T J) (hP : P ≤ 7) (hQ : ∀ γ, agM P γ (fun q => if q = p then some 0 else none) → Wp (d + 5) 1062 53 [some (.ref 67), some (.int (nI r)), some (.int (nI p)), some (.int y3), some (.int (nI 0))] [] z (Hp X C (a, b, va_up e 81 γ, o)) Q) (hp : p < 7) : ∀ (j q : Nat) (γ : Nat → Int32), q + j = P → (∀ i, i < q → γ i = ecM (if i = p then some 0 else none)) → Wp (d + 5) 1062 16 [some (.ref 67), some (.int (nI r)), some (.int (nI p)), some (.int y3), some (.int (nI q))] [] z (Hp X C (a, b, va_up e 81 γ, o)) Q := by
  have h10 := h.1
  intro j
  induction j with
  | zero =>
    intro q γ hq hγ
    have hq : q = P := by omega
    subst hq
    rw [W1062_16]
    simp (disch := omega) only [W1062, r_4, r_La, r_2, r_Li, h79_1053, r_5, s_43, r_90, s_0, ci_0, h60_10_10, r_49, h60_10_25, r_47, r_52, ci_1048576, s_8, r_In, ci_1, h60_10_5, h60_10_26, h60_10_11, h79_1032, h79_1011, h79_1038, ci_m9, r_46, r_10, r_51, r_48, h79_1003, h64_69, h65_69, h64_81, h65_81, h64_82, h65_82, enR, LG, LSt, LC, nlR, psR, TK, up_s, up_n, up_u, lt_nI, le_nI, eq_nI, true_and, and_true, if_true, if_false, Nat.zero_add, Nat.add_zero, nI_add, ↓reduceIte, Nat.reduceAdd, Nat.reduceMul, Nat.reduceSub, Nat.reduceLT, Nat.reduceLeDiff, Nat.reduceEqDiff, Nat.not_lt_zero, Nat.lt_irrefl, decide_true, BEq.rfl, nm1, nm2, nm3, nm4, nm9, ngc, eq_self, List.length_cons, List.length_nil, h10]
    exact hQ γ hγ
  | succ j ih =>
    intro q γ hq hγ
    have h1 : q < P := by omega
    have h7 : q < 7 := by omega
    have hgo : ∀ x, x = ecM (if q = p then some 0 else none) → ∀ i, i < q + 1 → upd γ q x i = ecM (if i = p then some 0 else none) := fun x hx i hi => by
      by_cases h2 : i = q
      · subst h2; rw [ud_s]; exact hx
      · rw [ud_n _ _ h2]; exact hγ i (by omega)
    rw [W1062_16]
    by_cases h2 : q = p
    · subst h2
      simp (disch := omega) only [W1062, r_4, r_La, r_2, r_Li, h79_1053, r_5, s_43, r_90, s_0, ci_0, h60_10_10, r_49, h60_10_25, r_47, r_52, ci_1048576, s_8, r_In, ci_1, h60_10_5, h60_10_26, h60_10_11, h79_1032, h79_1011, h79_1038, ci_m9, r_46, r_10, r_51, r_48, h79_1003, h64_69, h65_69, h64_81, h65_81, h64_82, h65_82, enR, LG, LSt, LC, nlR, psR, TK, up_s, up_n, up_u, lt_nI, le_nI, eq_nI, true_and, and_true, if_true, if_false, Nat.zero_add, Nat.add_zero, nI_add, ↓reduceIte, Nat.reduceAdd, Nat.reduceMul, Nat.reduceSub, Nat.reduceLT, Nat.reduceLeDiff, Nat.reduceEqDiff, Nat.not_lt_zero, Nat.lt_irrefl, decide_true, BEq.rfl, nm1, nm2, nm3, nm4, nm9, ngc, eq_self, List.length_cons, List.length_nil, h10, h1, h7]
      exact ih (q + 1) _ (by omega) (hgo _ (by rw [if_pos rfl]; rfl))
    · simp (disch := omega) only [W1062, r_4, r_La, r_2, r_Li, h79_1053, r_5, s_43, r_90, s_0, ci_0, h60_10_10, r_49, h60_10_25, r_47, r_52, ci_1048576, s_8, r_In, ci_1, h60_10_5, h60_10_26, h60_10_11, h79_1032, h79_1011, h79_1038, ci_m9, r_46, r_10, r_51, r_48, h79_1003, h64_69, h65_69, h64_81, h65_81, h64_82, h65_82, enR, LG, LSt, LC, nlR, psR, TK, up_s, up_n, up_u, lt_nI, le_nI, eq_nI, true_and, and_true, if_true, if_false, Nat.zero_add, Nat.add_zero, nI_add, ↓reduceIte, Nat.reduceAdd, Nat.reduceMul, Nat.reduceSub, Nat.reduceLT, Nat.reduceLeDiff, Nat.reduceEqDiff, Nat.not_lt_zero, Nat.lt_irrefl, decide_true, BEq.rfl, nm1, nm2, nm3, nm4, nm9, ngc, eq_self, List.length_cons, List.length_nil, h10, h1, h7, h2]
      exact ih (q + 1) _ (by omega) (hgo _ (by rw [if_neg h2]; rfl))
end
section
variable {t d : Nat} {z : AZ} {X : Nat × (Nat → Int32)} {C : CT} {M : MT} {s : Nat → Int32} {v : Nat → Int64} {g : Nat → Nat → Int32} {w : Nat → Nat → Int64} {q : Nat → Nat} {ct : Nat → Int32} {cn : Nat → Int32} {cc : Nat → Nat → Int32} {di : Nat → Nat → Int32} {dr : Nat → Nat → Int32} {df : Nat → Nat → Int32} {li : Nat → Nat → Int32} {la : Nat → Nat → Nat → Int32} {sf : Nat → Nat → Int32} {sl : Nat → Nat → Int32} {a : Nat → Int32} {b : Nat → Int64} {e : Nat → Nat → Int32} {o : Nat → Nat → Int64} {B : Nat → Bool} {n : Nat → Nat} {P N W : Nat} {K O T J : Nat → Nat} {l : Nat} {Ds : Nat → Nat} {Dr Df Dp : Nat → Nat → Nat} {KB : Nat → Bool}
variable {Q : Option Value → AZ → AH → Prop}
theorem iq56 (H : RL t z s v g w q ct cn cc di dr df li la sf sl a b e o B n P N W K O T J l Ds Dr Df Dp KB) : ∃ x y, q 5 = x ∧ q 6 = y ∧ x < 2 ∧ y < 2 ∧ x ≠ y := by
  rcases H.2.2.2.2.2.1.2 with ⟨h1, h2⟩ | ⟨h1, h2⟩
  · exact ⟨0, 1, h1, h2, by decide, by decide, by decide⟩
  · exact ⟨1, 0, h1, h2, by decide, by decide, by decide⟩
theorem lp_csl {r m p : Nat} {R : Nat → Nat} {x3 : Int32} (hl : l < 2) (hq : q 0 = l) (hC : CLn (li l) (la l) P N K O T J) (hb : LB P N W K O T J) (hS : SEn (sf 0) (sl 0) N (fe W K J) K O T) (hr : r < 6) (hp : p < P) (hn : cn r = nI m) (hm : m ≤ 16) (hR : ∀ k, k < m → cc r k = nI (R k) ∧ R k < 10)
    (hQ : ∀ (g' : Nat → Nat → Int32) (x y : Nat), x < 2 → y < 2 → x ≠ y → g' 32 = g 32 → match foldu (chF (slU (fe W K J) K O T R P N p m)) 0 P none with
      | none => Q (some (.int (-9))) z (Hp X (s, v, g', w, va_up (va_up q 5 x) 6 y, ct, cn, cc, di, dr, df, li, la, sf, sl) M)
      | some y3 => Q (some (.int (nI y3.2))) z (Hp X (va_up s 15 (nI y3.1), v, g', w, va_up (va_up q 5 x) 6 y, ct, cn, cc, di, dr, df, li, la, sf, sl) M)) :
    ∀ (j k : Nat) (g' : Nat → Nat → Int32) (x y : Nat), k + j = m → x < 2 → y < 2 → x ≠ y → g' 32 = g 32 → agC (g' x) (slU (fe W K J) K O T R P N p k) → Wp (d + 4) 928 50 [some (.ref 0), some (.int (nI r)), some (.int (nI p)), some (.int x3), some (.int (nI k))] [] z (Hp X (s, v, g', w, va_up (va_up q 5 x) 6 y, ct, cn, cc, di, dr, df, li, la, sf, sl) M) Q := by
  have hN := hb.2.1
  have hP := hb.1
  have hcap : cap r = 40 := if_pos hr
  intro j
  induction j with
  | zero =>
    intro k g' x y hk hx hy hxy h32 hu
    have hk : k = m := by omega
    subst hk
    have hUb := bdd_slU (fe W K J) K O T R P N p k
    have h5 : va_up (va_up q 5 x) 6 y 5 = x := by rw [up_n _ _ (by decide), up_s]
    have hext : foldu (chF (slU (fe W K J) K O T R P N p k)) 0 7 none = foldu (chF (slU (fe W K J) K O T R P N p k)) 0 P none := by
      have := ch_ext (U := slU (fe W K J) K O T R P N p k) (P := P) (fun q hq => slU_none hb hp hq k) (7 - P)
      rw [show P + (7 - P) = 7 by omega] at this
      exact this
    have hq' := hQ g' x y hx hy hxy h32
    rw [W928_50]
    simp (disch := omega) only [W928, r_2, r_Li, h80_948, s_40, r_4, r_La, h60_9_12, h79_303, s_41, s_0, ci_m1, r_90, h60_9_0, ci_16, h79_955, r_5, h60_9_8, h79_101, ci_0, h60_0_2, r_49, h60_9_5, h79_5, h79_102, s_8, r_In, ci_1, r_52, h79_105, r_47, ci_m9, h61_9_15, h60_1_0, h68_1, h64_cs, enR, LG, LSt, LC, nlR, psR, TK, up_s, up_n, up_u, lt_nI, le_nI, eq_nI, true_and, and_true, if_true, if_false, Nat.zero_add, Nat.add_zero, nI_add, ↓reduceIte, Nat.reduceAdd, Nat.reduceMul, Nat.reduceSub, Nat.reduceLT, Nat.reduceLeDiff, Nat.reduceEqDiff, Nat.not_lt_zero, Nat.lt_irrefl, decide_true, BEq.rfl, nm1, nm2, nm3, nm4, nm9, ngc, eq_self, List.length_cons, List.length_nil, hr, hn]
    rw [c_cheap (q := va_up (va_up q 5 x) 6 y) hx h5 (show k < 900000 by omega) hu hUb, hext]
    cases hst : foldu (chF (slU (fe W K J) K O T R P N p k)) 0 P none with
    | none =>
      rw [hst] at hq'
      simp (disch := omega) only [W928, r_2, r_Li, h80_948, s_40, r_4, r_La, h60_9_12, h79_303, s_41, s_0, ci_m1, r_90, h60_9_0, ci_16, h79_955, r_5, h60_9_8, h79_101, ci_0, h60_0_2, r_49, h60_9_5, h79_5, h79_102, s_8, r_In, ci_1, r_52, h79_105, r_47, ci_m9, h61_9_15, h60_1_0, h68_1, h64_cs, enR, LG, LSt, LC, nlR, psR, TK, up_s, up_n, up_u, lt_nI, le_nI, eq_nI, true_and, and_true, if_true, if_false, Nat.zero_add, Nat.add_zero, nI_add, ↓reduceIte, Nat.reduceAdd, Nat.reduceMul, Nat.reduceSub, Nat.reduceLT, Nat.reduceLeDiff, Nat.reduceEqDiff, Nat.not_lt_zero, Nat.lt_irrefl, decide_true, BEq.rfl, nm1, nm2, nm3, nm4, nm9, ngc, eq_self, List.length_cons, List.length_nil, pl1, o2i]
      exact hq'
    | some y3 =>
      rw [hst] at hq'
      obtain ⟨g1, g2⟩ := ch_ok hst
      have h7 : y3.1 < 7 := by omega
      have e1 : g' x y3.1 = nI y3.2 := by rw [hu _ h7, g2]; rfl
      simp (disch := omega) only [W928, r_2, r_Li, h80_948, s_40, r_4, r_La, h60_9_12, h79_303, s_41, s_0, ci_m1, r_90, h60_9_0, ci_16, h79_955, r_5, h60_9_8, h79_101, ci_0, h60_0_2, r_49, h60_9_5, h79_5, h79_102, s_8, r_In, ci_1, r_52, h79_105, r_47, ci_m9, h61_9_15, h60_1_0, h68_1, h64_cs, enR, LG, LSt, LC, nlR, psR, TK, up_s, up_n, up_u, lt_nI, le_nI, eq_nI, true_and, and_true, if_true, if_false, Nat.zero_add, Nat.add_zero, nI_add, ↓reduceIte, Nat.reduceAdd, Nat.reduceMul, Nat.reduceSub, Nat.reduceLT, Nat.reduceLeDiff, Nat.reduceEqDiff, Nat.not_lt_zero, Nat.lt_irrefl, decide_true, BEq.rfl, nm1, nm2, nm3, nm4, nm9, ngc, eq_self, List.length_cons, List.length_nil, pl1, o2i, h7, e1]
      exact hq'
  | succ j ih =>
    intro k g' x y hk hx hy hxy h32 hu
    have h1 : k < m := by omega
    obtain ⟨r1, r2⟩ := hR k h1
    have hUb := bdd_slU (fe W K J) K O T R P N p k
    rw [W928_50]
    simp (disch := omega) only [W928, r_2, r_Li, h80_948, s_40, r_4, r_La, h60_9_12, h79_303, s_41, s_0, ci_m1, r_90, h60_9_0, ci_16, h79_955, r_5, h60_9_8, h79_101, ci_0, h60_0_2, r_49, h60_9_5, h79_5, h79_102, s_8, r_In, ci_1, r_52, h79_105, r_47, ci_m9, h61_9_15, h60_1_0, h68_1, h64_cs, enR, LG, LSt, LC, nlR, psR, TK, up_s, up_n, up_u, lt_nI, le_nI, eq_nI, true_and, and_true, if_true, if_false, Nat.zero_add, Nat.add_zero, nI_add, ↓reduceIte, Nat.reduceAdd, Nat.reduceMul, Nat.reduceSub, Nat.reduceLT, Nat.reduceLeDiff, Nat.reduceEqDiff, Nat.not_lt_zero, Nat.lt_irrefl, decide_true, BEq.rfl, nm1, nm2, nm3, nm4, nm9, ngc, eq_self, List.length_cons, List.length_nil, hr, hn, h1, c_valueAt (show r < 10 by omega) hn h1 (by omega), r1, hq]
    refine c_sadv (g := g') (q := va_up (va_up q 5 x) 6 y) (F := fe W K J) (B := k) hl hC hb hx hy hxy (by rw [up_n _ _ (by decide), up_s]) (by rw [up_s]) (by omega) hu hUb (fun i hi => ⟨by rw [hS.1 i (by omega), if_pos hi], fe_lt hb hi⟩) r2 (fun γ' h' => ?_)
    rw [up_56]
    simp (disch := omega) only [W928, r_2, r_Li, h80_948, s_40, r_4, r_La, h60_9_12, h79_303, s_41, s_0, ci_m1, r_90, h60_9_0, ci_16, h79_955, r_5, h60_9_8, h79_101, ci_0, h60_0_2, r_49, h60_9_5, h79_5, h79_102, s_8, r_In, ci_1, r_52, h79_105, r_47, ci_m9, h61_9_15, h60_1_0, h68_1, h64_cs, enR, LG, LSt, LC, nlR, psR, TK, up_s, up_n, up_u, lt_nI, le_nI, eq_nI, true_and, and_true, if_true, if_false, Nat.zero_add, Nat.add_zero, nI_add, ↓reduceIte, Nat.reduceAdd, Nat.reduceMul, Nat.reduceSub, Nat.reduceLT, Nat.reduceLeDiff, Nat.reduceEqDiff, Nat.not_lt_zero, Nat.lt_irrefl, decide_true, BEq.rfl, nm1, nm2, nm3, nm4, nm9, ngc, eq_self, List.length_cons, List.length_nil]
    refine ih (k + 1) _ y x (by omega) hy hx (Ne.symm hxy) ?_ ?_
    · rw [up_n g' _ (show 32 ≠ y by omega)]; exact h32
    · rw [up_s]; exact h'
theorem rl_costs {x y : Nat} {g' : Nat → Nat → Int32} {γ81 γ82 : Nat → Int32} (H : RL t z s v g w q ct cn cc di dr df li la sf sl a b e o B n P N W K O T J l Ds Dr Df Dp KB) (hx : x < 2) (hy : y < 2) (hxy : x ≠ y) (h32 : g' 32 = g 32) : RL t z s v (g') w (va_up (va_up q 5 x) 6 y) ct cn cc di dr df li la sf sl a b (va_up (va_up e 81 γ81) 82 γ82) o B n P N W K O T J l Ds Dr Df Dp KB := by
  obtain ⟨⟨g1, g2, g3, g4, g5⟩, h2, h3, h4, h5, h6, h7⟩ := H
  refine ⟨⟨g1, g2, g3, g4, by rw [h32]; exact g5⟩, h2, h3, h4, h5, ⟨h6.1, ?_⟩, h7⟩
  rw [up_n _ _ (by decide), up_s, up_s]
  omega
theorem op_slips {x y : Int32} (H : RL t z s v g w q ct cn cc di dr df li la sf sl a b e o B n P N W K O T J l Ds Dr Df Dp KB) : OPI (d + 20) 928 1062 [.int x, .int y] t z X (s, v, g, w, q, ct, cn, cc, di, dr, df, li, la, sf, sl) (a, b, e, o) := by
  obtain ⟨hb, hl, hq, hC, hs, hM, hS⟩ := rl_land H
  have hP := hb.1
  have hN := hb.2.1
  unfold OPI
  rcases ix x (n := 5) (by decide) with h | ⟨h1, h2, h3⟩ | ⟨r, hr, rfl⟩
  · rw [cw_wp]
    simp (disch := omega) only [W928, r_2, r_Li, h80_948, s_40, r_4, r_La, h60_9_12, h79_303, s_41, s_0, ci_m1, r_90, h60_9_0, ci_16, h79_955, r_5, h60_9_8, h79_101, ci_0, h60_0_2, r_49, h60_9_5, h79_5, h79_102, s_8, r_In, ci_1, r_52, h79_105, r_47, ci_m9, h61_9_15, h60_1_0, h68_1, h64_cs, enR, LG, LSt, LC, nlR, psR, TK, up_s, up_n, up_u, lt_nI, le_nI, eq_nI, true_and, and_true, if_true, if_false, Nat.zero_add, Nat.add_zero, nI_add, ↓reduceIte, Nat.reduceAdd, Nat.reduceMul, Nat.reduceSub, Nat.reduceLT, Nat.reduceLeDiff, Nat.reduceEqDiff, Nat.not_lt_zero, Nat.lt_irrefl, decide_true, BEq.rfl, nm1, nm2, nm3, nm4, nm9, ngc, eq_self, List.length_cons, List.length_nil, c_isRow, h]
    refine okc ?_
    rw [cw_wp]
    simp (disch := omega) only [W1062, r_4, r_La, r_2, r_Li, h79_1053, r_5, s_43, r_90, s_0, ci_0, h60_10_10, r_49, h60_10_25, r_47, r_52, ci_1048576, s_8, r_In, ci_1, h60_10_5, h60_10_26, h60_10_11, h79_1032, h79_1011, h79_1038, ci_m9, r_46, r_10, r_51, r_48, h79_1003, h64_69, h65_69, h64_81, h65_81, h64_82, h65_82, W1053, h80_1007, s_40, h79_1029, s_41, ci_m1, ci_16, h79_1052, (fun d => cw_wp d 1053), enR, LG, LSt, LC, nlR, psR, TK, up_s, up_n, up_u, lt_nI, le_nI, eq_nI, true_and, and_true, if_true, if_false, Nat.zero_add, Nat.add_zero, nI_add, ↓reduceIte, Nat.reduceAdd, Nat.reduceMul, Nat.reduceSub, Nat.reduceLT, Nat.reduceLeDiff, Nat.reduceEqDiff, Nat.not_lt_zero, Nat.lt_irrefl, decide_true, BEq.rfl, nm1, nm2, nm3, nm4, nm9, ngc, eq_self, List.length_cons, List.length_nil, m_isRow, h]
    exact okm (rl_inv (rl_t H))
  · rw [cw_wp]
    simp (disch := omega) only [W928, r_2, r_Li, h80_948, s_40, r_4, r_La, h60_9_12, h79_303, s_41, s_0, ci_m1, r_90, h60_9_0, ci_16, h79_955, r_5, h60_9_8, h79_101, ci_0, h60_0_2, r_49, h60_9_5, h79_5, h79_102, s_8, r_In, ci_1, r_52, h79_105, r_47, ci_m9, h61_9_15, h60_1_0, h68_1, h64_cs, enR, LG, LSt, LC, nlR, psR, TK, up_s, up_n, up_u, lt_nI, le_nI, eq_nI, true_and, and_true, if_true, if_false, Nat.zero_add, Nat.add_zero, nI_add, ↓reduceIte, Nat.reduceAdd, Nat.reduceMul, Nat.reduceSub, Nat.reduceLT, Nat.reduceLeDiff, Nat.reduceEqDiff, Nat.not_lt_zero, Nat.lt_irrefl, decide_true, BEq.rfl, nm1, nm2, nm3, nm4, nm9, ngc, eq_self, List.length_cons, List.length_nil, c_isRow, h1, h2]
    refine okc ?_
    rw [cw_wp]
    simp (disch := omega) only [W1062, r_4, r_La, r_2, r_Li, h79_1053, r_5, s_43, r_90, s_0, ci_0, h60_10_10, r_49, h60_10_25, r_47, r_52, ci_1048576, s_8, r_In, ci_1, h60_10_5, h60_10_26, h60_10_11, h79_1032, h79_1011, h79_1038, ci_m9, r_46, r_10, r_51, r_48, h79_1003, h64_69, h65_69, h64_81, h65_81, h64_82, h65_82, W1053, h80_1007, s_40, h79_1029, s_41, ci_m1, ci_16, h79_1052, (fun d => cw_wp d 1053), enR, LG, LSt, LC, nlR, psR, TK, up_s, up_n, up_u, lt_nI, le_nI, eq_nI, true_and, and_true, if_true, if_false, Nat.zero_add, Nat.add_zero, nI_add, ↓reduceIte, Nat.reduceAdd, Nat.reduceMul, Nat.reduceSub, Nat.reduceLT, Nat.reduceLeDiff, Nat.reduceEqDiff, Nat.not_lt_zero, Nat.lt_irrefl, decide_true, BEq.rfl, nm1, nm2, nm3, nm4, nm9, ngc, eq_self, List.length_cons, List.length_nil, m_isRow, h1, h3]
    exact okm (rl_inv (rl_t H))
  have hr6 : r < 6 := by omega
  have hr5 : ¬ 5 < r := by omega
  rcases ixN y (show P ≤ 80 by omega) with h | ⟨h1, h2, h3⟩ | ⟨p, hp, rfl⟩
  · rw [cw_wp]
    simp (disch := omega) only [W928, r_2, r_Li, h80_948, s_40, r_4, r_La, h60_9_12, h79_303, s_41, s_0, ci_m1, r_90, h60_9_0, ci_16, h79_955, r_5, h60_9_8, h79_101, ci_0, h60_0_2, r_49, h60_9_5, h79_5, h79_102, s_8, r_In, ci_1, r_52, h79_105, r_47, ci_m9, h61_9_15, h60_1_0, h68_1, h64_cs, enR, LG, LSt, LC, nlR, psR, TK, up_s, up_n, up_u, lt_nI, le_nI, eq_nI, true_and, and_true, if_true, if_false, Nat.zero_add, Nat.add_zero, nI_add, ↓reduceIte, Nat.reduceAdd, Nat.reduceMul, Nat.reduceSub, Nat.reduceLT, Nat.reduceLeDiff, Nat.reduceEqDiff, Nat.not_lt_zero, Nat.lt_irrefl, decide_true, BEq.rfl, nm1, nm2, nm3, nm4, nm9, ngc, eq_self, List.length_cons, List.length_nil, c_isRow, hr6, hq, c_hasPlace hl hC, h]
    refine okc ?_
    rw [cw_wp]
    simp (disch := omega) only [W1062, r_4, r_La, r_2, r_Li, h79_1053, r_5, s_43, r_90, s_0, ci_0, h60_10_10, r_49, h60_10_25, r_47, r_52, ci_1048576, s_8, r_In, ci_1, h60_10_5, h60_10_26, h60_10_11, h79_1032, h79_1011, h79_1038, ci_m9, r_46, r_10, r_51, r_48, h79_1003, h64_69, h65_69, h64_81, h65_81, h64_82, h65_82, W1053, h80_1007, s_40, h79_1029, s_41, ci_m1, ci_16, h79_1052, (fun d => cw_wp d 1053), enR, LG, LSt, LC, nlR, psR, TK, up_s, up_n, up_u, lt_nI, le_nI, eq_nI, true_and, and_true, if_true, if_false, Nat.zero_add, Nat.add_zero, nI_add, ↓reduceIte, Nat.reduceAdd, Nat.reduceMul, Nat.reduceSub, Nat.reduceLT, Nat.reduceLeDiff, Nat.reduceEqDiff, Nat.not_lt_zero, Nat.lt_irrefl, decide_true, BEq.rfl, nm1, nm2, nm3, nm4, nm9, ngc, eq_self, List.length_cons, List.length_nil, m_isRow, hr5, m_isPlace hM, h]
    exact okm (rl_inv (rl_t H))
  · rw [cw_wp]
    simp (disch := omega) only [W928, r_2, r_Li, h80_948, s_40, r_4, r_La, h60_9_12, h79_303, s_41, s_0, ci_m1, r_90, h60_9_0, ci_16, h79_955, r_5, h60_9_8, h79_101, ci_0, h60_0_2, r_49, h60_9_5, h79_5, h79_102, s_8, r_In, ci_1, r_52, h79_105, r_47, ci_m9, h61_9_15, h60_1_0, h68_1, h64_cs, enR, LG, LSt, LC, nlR, psR, TK, up_s, up_n, up_u, lt_nI, le_nI, eq_nI, true_and, and_true, if_true, if_false, Nat.zero_add, Nat.add_zero, nI_add, ↓reduceIte, Nat.reduceAdd, Nat.reduceMul, Nat.reduceSub, Nat.reduceLT, Nat.reduceLeDiff, Nat.reduceEqDiff, Nat.not_lt_zero, Nat.lt_irrefl, decide_true, BEq.rfl, nm1, nm2, nm3, nm4, nm9, ngc, eq_self, List.length_cons, List.length_nil, c_isRow, hr6, hq, c_hasPlace hl hC, h1, h2]
    refine okc ?_
    rw [cw_wp]
    simp (disch := omega) only [W1062, r_4, r_La, r_2, r_Li, h79_1053, r_5, s_43, r_90, s_0, ci_0, h60_10_10, r_49, h60_10_25, r_47, r_52, ci_1048576, s_8, r_In, ci_1, h60_10_5, h60_10_26, h60_10_11, h79_1032, h79_1011, h79_1038, ci_m9, r_46, r_10, r_51, r_48, h79_1003, h64_69, h65_69, h64_81, h65_81, h64_82, h65_82, W1053, h80_1007, s_40, h79_1029, s_41, ci_m1, ci_16, h79_1052, (fun d => cw_wp d 1053), enR, LG, LSt, LC, nlR, psR, TK, up_s, up_n, up_u, lt_nI, le_nI, eq_nI, true_and, and_true, if_true, if_false, Nat.zero_add, Nat.add_zero, nI_add, ↓reduceIte, Nat.reduceAdd, Nat.reduceMul, Nat.reduceSub, Nat.reduceLT, Nat.reduceLeDiff, Nat.reduceEqDiff, Nat.not_lt_zero, Nat.lt_irrefl, decide_true, BEq.rfl, nm1, nm2, nm3, nm4, nm9, ngc, eq_self, List.length_cons, List.length_nil, m_isRow, hr5, m_isPlace hM, h1, h3]
    exact okm (rl_inv (rl_t H))
  have hp2 := nsub (show P < 65536 by omega) hp
  rcases rl_r H hr6 with ⟨q1, q2, q3, q4, q5⟩ | ⟨q1, q2, q3, q4, q5, q6⟩
  · rw [cw_wp]
    simp (disch := omega) only [W928, r_2, r_Li, h80_948, s_40, r_4, r_La, h60_9_12, h79_303, s_41, s_0, ci_m1, r_90, h60_9_0, ci_16, h79_955, r_5, h60_9_8, h79_101, ci_0, h60_0_2, r_49, h60_9_5, h79_5, h79_102, s_8, r_In, ci_1, r_52, h79_105, r_47, ci_m9, h61_9_15, h60_1_0, h68_1, h64_cs, enR, LG, LSt, LC, nlR, psR, TK, up_s, up_n, up_u, lt_nI, le_nI, eq_nI, true_and, and_true, if_true, if_false, Nat.zero_add, Nat.add_zero, nI_add, ↓reduceIte, Nat.reduceAdd, Nat.reduceMul, Nat.reduceSub, Nat.reduceLT, Nat.reduceLeDiff, Nat.reduceEqDiff, Nat.not_lt_zero, Nat.lt_irrefl, decide_true, BEq.rfl, nm1, nm2, nm3, nm4, nm9, ngc, eq_self, List.length_cons, List.length_nil, c_isRow, hr6, hq, c_hasPlace hl hC, hp, c_felt_no (show r < 10 by omega) q2]
    refine okc ?_
    rw [cw_wp]
    simp (disch := omega) only [W1062, r_4, r_La, r_2, r_Li, h79_1053, r_5, s_43, r_90, s_0, ci_0, h60_10_10, r_49, h60_10_25, r_47, r_52, ci_1048576, s_8, r_In, ci_1, h60_10_5, h60_10_26, h60_10_11, h79_1032, h79_1011, h79_1038, ci_m9, r_46, r_10, r_51, r_48, h79_1003, h64_69, h65_69, h64_81, h65_81, h64_82, h65_82, W1053, h80_1007, s_40, h79_1029, s_41, ci_m1, ci_16, h79_1052, (fun d => cw_wp d 1053), enR, LG, LSt, LC, nlR, psR, TK, up_s, up_n, up_u, lt_nI, le_nI, eq_nI, true_and, and_true, if_true, if_false, Nat.zero_add, Nat.add_zero, nI_add, ↓reduceIte, Nat.reduceAdd, Nat.reduceMul, Nat.reduceSub, Nat.reduceLT, Nat.reduceLeDiff, Nat.reduceEqDiff, Nat.not_lt_zero, Nat.lt_irrefl, decide_true, BEq.rfl, nm1, nm2, nm3, nm4, nm9, ngc, eq_self, List.length_cons, List.length_nil, m_isRow, hr5, m_isPlace hM, hp2, m_felt_no hr6 q5]
    exact okm (rl_inv (rl_found (k := 1) (by decide) H))
  by_cases hw : 16 < n r
  · rw [cw_wp]
    simp (disch := omega) only [W928, r_2, r_Li, h80_948, s_40, r_4, r_La, h60_9_12, h79_303, s_41, s_0, ci_m1, r_90, h60_9_0, ci_16, h79_955, r_5, h60_9_8, h79_101, ci_0, h60_0_2, r_49, h60_9_5, h79_5, h79_102, s_8, r_In, ci_1, r_52, h79_105, r_47, ci_m9, h61_9_15, h60_1_0, h68_1, h64_cs, enR, LG, LSt, LC, nlR, psR, TK, up_s, up_n, up_u, lt_nI, le_nI, eq_nI, true_and, and_true, if_true, if_false, Nat.zero_add, Nat.add_zero, nI_add, ↓reduceIte, Nat.reduceAdd, Nat.reduceMul, Nat.reduceSub, Nat.reduceLT, Nat.reduceLeDiff, Nat.reduceEqDiff, Nat.not_lt_zero, Nat.lt_irrefl, decide_true, BEq.rfl, nm1, nm2, nm3, nm4, nm9, ngc, eq_self, List.length_cons, List.length_nil, c_isRow, hr6, hq, c_hasPlace hl hC, hp, c_felt_size (show r < 10 by omega) q2 q3 (show n r ≤ 80 by omega) hw]
    refine okc ?_
    rw [cw_wp]
    simp (disch := omega) only [W1062, r_4, r_La, r_2, r_Li, h79_1053, r_5, s_43, r_90, s_0, ci_0, h60_10_10, r_49, h60_10_25, r_47, r_52, ci_1048576, s_8, r_In, ci_1, h60_10_5, h60_10_26, h60_10_11, h79_1032, h79_1011, h79_1038, ci_m9, r_46, r_10, r_51, r_48, h79_1003, h64_69, h65_69, h64_81, h65_81, h64_82, h65_82, W1053, h80_1007, s_40, h79_1029, s_41, ci_m1, ci_16, h79_1052, (fun d => cw_wp d 1053), enR, LG, LSt, LC, nlR, psR, TK, up_s, up_n, up_u, lt_nI, le_nI, eq_nI, true_and, and_true, if_true, if_false, Nat.zero_add, Nat.add_zero, nI_add, ↓reduceIte, Nat.reduceAdd, Nat.reduceMul, Nat.reduceSub, Nat.reduceLT, Nat.reduceLeDiff, Nat.reduceEqDiff, Nat.not_lt_zero, Nat.lt_irrefl, decide_true, BEq.rfl, nm1, nm2, nm3, nm4, nm9, ngc, eq_self, List.length_cons, List.length_nil, m_isRow, hr5, m_isPlace hM, hp2, m_felt_size hr6 q5 q4 hw]
    exact okm (rl_inv (rl_found (k := 5) (by decide) H))
  have hw2 : n r ≤ 16 := by omega
  have hcap : n r ≤ cap r := by rw [show cap r = 40 from if_pos hr6]; exact q4
  cases hf : felt (cc r) (n r) with
  | false =>
    rw [cw_wp]
    simp (disch := omega) only [W928, r_2, r_Li, h80_948, s_40, r_4, r_La, h60_9_12, h79_303, s_41, s_0, ci_m1, r_90, h60_9_0, ci_16, h79_955, r_5, h60_9_8, h79_101, ci_0, h60_0_2, r_49, h60_9_5, h79_5, h79_102, s_8, r_In, ci_1, r_52, h79_105, r_47, ci_m9, h61_9_15, h60_1_0, h68_1, h64_cs, enR, LG, LSt, LC, nlR, psR, TK, up_s, up_n, up_u, lt_nI, le_nI, eq_nI, true_and, and_true, if_true, if_false, Nat.zero_add, Nat.add_zero, nI_add, ↓reduceIte, Nat.reduceAdd, Nat.reduceMul, Nat.reduceSub, Nat.reduceLT, Nat.reduceLeDiff, Nat.reduceEqDiff, Nat.not_lt_zero, Nat.lt_irrefl, decide_true, BEq.rfl, nm1, nm2, nm3, nm4, nm9, ngc, eq_self, List.length_cons, List.length_nil, c_isRow, hr6, hq, c_hasPlace hl hC, hp, c_felt_unlike (show r < 10 by omega) q2 q3 hcap hw2 (by omega) hf]
    refine okc ?_
    rw [cw_wp]
    simp (disch := omega) only [W1062, r_4, r_La, r_2, r_Li, h79_1053, r_5, s_43, r_90, s_0, ci_0, h60_10_10, r_49, h60_10_25, r_47, r_52, ci_1048576, s_8, r_In, ci_1, h60_10_5, h60_10_26, h60_10_11, h79_1032, h79_1011, h79_1038, ci_m9, r_46, r_10, r_51, r_48, h79_1003, h64_69, h65_69, h64_81, h65_81, h64_82, h65_82, W1053, h80_1007, s_40, h79_1029, s_41, ci_m1, ci_16, h79_1052, (fun d => cw_wp d 1053), enR, LG, LSt, LC, nlR, psR, TK, up_s, up_n, up_u, lt_nI, le_nI, eq_nI, true_and, and_true, if_true, if_false, Nat.zero_add, Nat.add_zero, nI_add, ↓reduceIte, Nat.reduceAdd, Nat.reduceMul, Nat.reduceSub, Nat.reduceLT, Nat.reduceLeDiff, Nat.reduceEqDiff, Nat.not_lt_zero, Nat.lt_irrefl, decide_true, BEq.rfl, nm1, nm2, nm3, nm4, nm9, ngc, eq_self, List.length_cons, List.length_nil, m_isRow, hr5, m_isPlace hM, hp2, m_felt_unlike hr6 q5 q4 hw2 (by omega) q6 hf]
    exact okm (rl_inv (rl_found (k := 3) (by decide) H))
  | true =>
    obtain ⟨R, hR⟩ := felt_ok hf
    have hR7 : ∀ k, k < n r → e 70 (40 * r + k) = nI (R k) ∧ R k < 10 := fun k hk => ⟨by rw [q6 k hk]; exact (hR k hk).1, (hR k hk).2⟩
    have hr10 : r < 10 := by omega
    have hSL := sen_SL hb hS
    have hp7 : p < 7 := by omega
    obtain ⟨x, y, h5, h6, hx, hy, hxy⟩ := iq56 H
    rw [cw_wp]
    simp (disch := omega) only [W928, r_2, r_Li, h80_948, s_40, r_4, r_La, h60_9_12, h79_303, s_41, s_0, ci_m1, r_90, h60_9_0, ci_16, h79_955, r_5, h60_9_8, h79_101, ci_0, h60_0_2, r_49, h60_9_5, h79_5, h79_102, s_8, r_In, ci_1, r_52, h79_105, r_47, ci_m9, h61_9_15, h60_1_0, h68_1, h64_cs, enR, LG, LSt, LC, nlR, psR, TK, up_s, up_n, up_u, lt_nI, le_nI, eq_nI, true_and, and_true, if_true, if_false, Nat.zero_add, Nat.add_zero, nI_add, ↓reduceIte, Nat.reduceAdd, Nat.reduceMul, Nat.reduceSub, Nat.reduceLT, Nat.reduceLeDiff, Nat.reduceEqDiff, Nat.not_lt_zero, Nat.lt_irrefl, decide_true, BEq.rfl, nm1, nm2, nm3, nm4, nm9, ngc, eq_self, List.length_cons, List.length_nil, c_isRow, hr6, hq, c_hasPlace hl hC, hp, c_felt_ok (show r < 10 by omega) q2 q3 hcap hw2 (by omega) hf, c_cstart hx h5 hp7]
    have eq56 : va_up (va_up q 5 x) 6 y = q := by rw [up_id h5, up_id h6]
    have := lp_csl (d := d + 15) (z := z) (X := X) (M := (a, b, e, o)) (s := s) (v := v) (g := g) (w := w) (ct := ct) (cn := cn) (cc := cc) (di := di) (dr := dr) (df := df) (sf := sf) (sl := sl) (Q := OKc (d + 20) 1062 [.int (nI r), .int (nI p)] t X (a, b, e, o)) (r := r) (m := n r) (p := p) (x3 := nI 0) hl hq hC hb hS hr6 hp q3 hw2 hR (fun g' x' y' hx' hy' hxy' h32 => ?_) (n r) 0 (va_up g x (upd (fil (g x) 0 7 (nI 1000000)) p (nI 0))) x y (by omega) hx hy hxy (by rw [up_n _ _ (by omega)]) (fun q hq => by
      rw [up_s]
      show _ = ecC (if q = p then some 0 else none)
      by_cases h : q = p
      · subst h; rw [ud_s, if_pos rfl]; rfl
      · rw [ud_n _ _ h, if_neg h]; exact if_pos (by omega))
    · rw [eq56] at this
      exact this
    · have hmod : ∀ (Q' : Option Value → AZ → AH → Prop) (C' : CT), (∀ γ81 γ82, match foldu (chF (slU (fe W K J) K O T R P N p (n r))) 0 P none with | none => Q' (some (.int (-9))) z (Hp X C' (a, b, va_up (va_up e 81 γ81) 82 γ82, o)) | some y3 => Q' (some (.int (nI y3.2))) z (Hp X C' (va_up a 2 (nI y3.1), b, va_up (va_up e 81 γ81) 82 γ82, o))) → Cw (d + 20) 1062 [.ref 67, .int (nI r), .int (nI p)] z (Hp X C' (a, b, e, o)) Q' := fun Q' C' hQ => by
        rw [cw_wp]
        simp (disch := omega) only [W1062, r_4, r_La, r_2, r_Li, h79_1053, r_5, s_43, r_90, s_0, ci_0, h60_10_10, r_49, h60_10_25, r_47, r_52, ci_1048576, s_8, r_In, ci_1, h60_10_5, h60_10_26, h60_10_11, h79_1032, h79_1011, h79_1038, ci_m9, r_46, r_10, r_51, r_48, h79_1003, h64_69, h65_69, h64_81, h65_81, h64_82, h65_82, W1053, h80_1007, s_40, h79_1029, s_41, ci_m1, ci_16, h79_1052, (fun d => cw_wp d 1053), enR, LG, LSt, LC, nlR, psR, TK, up_s, up_n, up_u, lt_nI, le_nI, eq_nI, true_and, and_true, if_true, if_false, Nat.zero_add, Nat.add_zero, nI_add, ↓reduceIte, Nat.reduceAdd, Nat.reduceMul, Nat.reduceSub, Nat.reduceLT, Nat.reduceLeDiff, Nat.reduceEqDiff, Nat.not_lt_zero, Nat.lt_irrefl, decide_true, BEq.rfl, nm1, nm2, nm3, nm4, nm9, ngc, eq_self, List.length_cons, List.length_nil, m_isRow, hr5, m_isPlace hM, hp2, m_felt_ok hr6 q5 q4 hw2 (by omega) q6 hf]
        have h1 := lp_msl1 (d := d + 14) (z := z) (Q := Q') (X := X) (C := C') (b := b) (o := o) (r := r) (y3 := nI 0) (e := e) hM hP (fun γ hγ => ?_) hp7 P 0 (e 81) (by omega) (fun i hi => absurd hi (by omega))
        · rw [up_id (rfl : e 81 = e 81)] at h1
          exact h1
        · have h2 := lp_msl2 (d := d + 14) (z := z) (Q := Q') (X := X) (C := C') (b := b) (o := o) (r := r) (p := p) (m := n r) (R := R) (y3 := nI 0) (e := e) hM hb hr6 q4 (by omega) q5 hR7 hQ (n r) 0 γ (e 82) (by omega) hγ
          rw [up_id (show va_up e 81 γ 82 = e 82 from rfl)] at h2
          exact h2
      have H0 := fun γ81 γ82 => rl_costs (γ81 := γ81) (γ82 := γ82) H hx' hy' hxy' h32
      cases hst : foldu (chF (slU (fe W K J) K O T R P N p (n r))) 0 P none with
      | none =>
        refine okc (hmod _ _ (fun γ81 γ82 => ?_))
        rw [hst]
        exact okm (rl_inv (rl_t (H0 γ81 γ82)))
      | some y3 =>
        refine okc (hmod _ _ (fun γ81 γ82 => ?_))
        rw [hst]
        exact okm (rl_inv (rl_ask (H0 γ81 γ82)))
end

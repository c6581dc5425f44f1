/-! feels -/
/-- how far the roads of a row go from a place, and where -/
def wlk (K O T R : Nat → Nat) : Nat → Nat → Nat → Nat × Nat
  | 0, k, p => (k, p)
  | j + 1, k, p => match ldm K O T (R k) p with
    | none => (k, p)
    | some q => wlk K O T R j (k + 1) q
theorem wlk_le {P N W m : Nat} {K O T J R : Nat → Nat} (hb : LB P N W K O T J) (hR : ∀ k, k < m → R k < N) : ∀ (j k p : Nat), k + j = m → p < P → (wlk K O T R j k p).1 ≤ m ∧ k ≤ (wlk K O T R j k p).1 ∧ (wlk K O T R j k p).2 < P := by
  intro j
  induction j with
  | zero => intro k p hk hp; exact ⟨by show k ≤ m; omega, Nat.le_refl _, hp⟩
  | succ j ih =>
    intro k p hk hp
    unfold wlk
    cases hd : ldm K O T (R k) p with
    | none => exact ⟨by show k ≤ m; omega, Nat.le_refl _, hp⟩
    | some q =>
      have := ih (k + 1) q (by omega) (ldm_lt hb (hR k (by omega)) hd)
      exact ⟨this.1, by show k ≤ (wlk K O T R j (k + 1) q).1; omega, this.2.2⟩
def roadsIn (g : Nat → Int32) (N n : Nat) : Bool := allb (wth g (nI 0) (nI N - nI 1)) 0 n
theorem roads_ok {g : Nat → Int32} {N n : Nat} (hN : N ≤ 10) (h : roadsIn g N n = true) : ∃ R : Nat → Nat, ∀ k, k < n → g k = nI (R k) ∧ R k < N := by
  have h1 := (allb_iff _ n 0).mp h
  refine ⟨fun k => (g k).toNatClampNeg, fun k hk => ?_⟩
  have h2 := h1 k (by omega) (by omega)
  simp only [wth, decide_eq_true_eq] at h2
  obtain ⟨j, hj, e⟩ := nI_of' h2.1
  show g k = nI (g k).toNatClampNeg ∧ (g k).toNatClampNeg < N
  rw [e] at h2 ⊢
  rw [nI_clamp hj]
  refine ⟨rfl, ?_⟩
  exact Nat.lt_of_not_le (fun h3 => h2.2 ((sub1 (by omega) hj).mpr (by omega)))
section
variable {t d : Nat} {z : AZ} {X : Nat × (Nat → Int32)} {C : CT} {M : MT} {s : Nat → Int32} {v : Nat → Int64} {g : Nat → Nat → Int32} {w : Nat → Nat → Int64} {q : Nat → Nat} {ct : Nat → Int32} {cn : Nat → Int32} {cc : Nat → Nat → Int32} {di : Nat → Nat → Int32} {dr : Nat → Nat → Int32} {df : Nat → Nat → Int32} {li : Nat → Nat → Int32} {la : Nat → Nat → Nat → Int32} {sf : Nat → Nat → Int32} {sl : Nat → Nat → Int32} {a : Nat → Int32} {b : Nat → Int64} {e : Nat → Nat → Int32} {o : Nat → Nat → Int64} {B : Nat → Bool} {n : Nat → Nat} {P N W : Nat} {K O T J : Nat → Nat} {l : Nat} {Ds : Nat → Nat} {Dr Df Dp : Nat → Nat → Nat} {KB : Nat → Bool}
variable {Q : Option Value → AZ → AH → Prop}
theorem lp_cfeels {r u m p0 w0 pe : Nat} {R : Nat → Nat} (hl : l < 2) (hq : q 0 = l) (hC : CLn (li l) (la l) P N K O T J) (hb : LB P N W K O T J) (hS : SEn (sf 0) (sl 0) N (fe W K J) K O T) (hr : r < 6) (hu : u < 6) (hn : cn r = nI m) (hm : m ≤ 40) (hR : ∀ k, k < m → cc r k = nI (R k) ∧ R k < N) (hw0 : w0 ≤ m)
    (hQ : ∀ τ : Nat → Int32, (∀ j, j < w0 → τ j = nI (fe W K J (R j))) → Q (some (.int (nI w0))) z (Hp X (va_up s 15 (nI pe), v, va_up g 31 τ, w, q, va_up ct u (nI 1), va_up cn u (nI w0), va_up cc u (va_cpy τ (fil (cc u) 0 40 (nI 0)) 0 0 w0), di, dr, df, li, la, sf, sl) M)) :
    ∀ (j k p : Nat) (τ : Nat → Int32), k + j = m → (∀ i, i < k → τ i = nI (fe W K J (R i))) → p < P → wlk K O T R j k p = (w0, pe) → Wp (d + 3) 923 82 [some (.ref 0), some (.int (nI r)), some (.int (nI p0)), some (.int (nI u)), some (.int (nI p)), some (.int (nI k)), some (.int (nI k))] [] z (Hp X (s, v, va_up g 31 τ, w, q, ct, cn, cc, di, dr, df, li, la, sf, sl) M) Q := by
  have hP := hb.1
  have hN := hb.2.1
  have hcap : cap r = 40 := if_pos hr
  intro j
  induction j with
  | zero =>
    intro k p τ hk hτ hp hw
    have hk : k = m := by omega
    subst hk
    cases hw
    rw [W923_82]
    simp (disch := omega) only [W923, r_2, r_Li, h80_948, s_40, r_4, r_La, h60_9_12, h79_303, s_41, s_0, ci_m1, r_90, h60_9_0, h60_0_1, ci_1, h79_951, ci_0, h60_3_5, r_11, h79_8, ci_3, r_5, h60_0_2, r_49, h79_5, h79_306, r_47, r_52, h60_9_10, h60_9_5, h60_6_0, s_8, r_In, h79_2, h61_9_15, h68_1, h64_31, h65_31, h64_sf, h65_sf, enR, LG, LSt, LC, nlR, psR, TK, up_s, up_n, up_u, lt_nI, le_nI, eq_nI, true_and, and_true, if_true, if_false, Nat.zero_add, Nat.add_zero, nI_add, ↓reduceIte, Nat.reduceAdd, Nat.reduceMul, Nat.reduceSub, Nat.reduceLT, Nat.reduceLeDiff, Nat.reduceEqDiff, Nat.not_lt_zero, Nat.lt_irrefl, decide_true, BEq.rfl, nm1, nm2, nm3, nm4, nm9, ngc, eq_self, List.length_cons, List.length_nil, hr, hn, hu, c_takeT hu hm]
    exact hQ τ hτ
  | succ j ih =>
    intro k p τ hk hτ hp hw
    have h1 : k < m := by omega
    have h40 : k < 40 := by omega
    obtain ⟨r1, r2⟩ := hR k h1
    have hRk10 : R k < 10 := by omega
    have e5 : sf 0 (R k) = nI (fe W K J (R k)) := by rw [hS.1 _ hRk10, if_pos r2]
    unfold wlk at hw
    rw [W923_82]
    cases hd : ldm K O T (R k) p with
    | none =>
      rw [hd] at hw
      have hw' : (k, p) = (w0, pe) := hw
      obtain ⟨g1, g2⟩ := Prod.mk.inj hw'
      subst g1
      subst g2
      simp (disch := omega) only [W923, r_2, r_Li, h80_948, s_40, r_4, r_La, h60_9_12, h79_303, s_41, s_0, ci_m1, r_90, h60_9_0, h60_0_1, ci_1, h79_951, ci_0, h60_3_5, r_11, h79_8, ci_3, r_5, h60_0_2, r_49, h79_5, h79_306, r_47, r_52, h60_9_10, h60_9_5, h60_6_0, s_8, r_In, h79_2, h61_9_15, h68_1, h64_31, h65_31, h64_sf, h65_sf, enR, LG, LSt, LC, nlR, psR, TK, up_s, up_n, up_u, lt_nI, le_nI, eq_nI, true_and, and_true, if_true, if_false, Nat.zero_add, Nat.add_zero, nI_add, ↓reduceIte, Nat.reduceAdd, Nat.reduceMul, Nat.reduceSub, Nat.reduceLT, Nat.reduceLeDiff, Nat.reduceEqDiff, Nat.not_lt_zero, Nat.lt_irrefl, decide_true, BEq.rfl, nm1, nm2, nm3, nm4, nm9, ngc, eq_self, List.length_cons, List.length_nil, hr, hn, h1, c_valueAt (show r < 10 by omega) hn h1 (by omega), r1, hq, c_lead (g := va_up g 31 τ) hl hC hb r2 (show p < 65536 by omega), hd, o2i, hu, c_takeT hu (show k ≤ 40 by omega)]
      exact hQ τ hτ
    | some t0 =>
      rw [hd] at hw
      have ht := ldm_lt hb r2 hd
      simp (disch := omega) only [W923, r_2, r_Li, h80_948, s_40, r_4, r_La, h60_9_12, h79_303, s_41, s_0, ci_m1, r_90, h60_9_0, h60_0_1, ci_1, h79_951, ci_0, h60_3_5, r_11, h79_8, ci_3, r_5, h60_0_2, r_49, h79_5, h79_306, r_47, r_52, h60_9_10, h60_9_5, h60_6_0, s_8, r_In, h79_2, h61_9_15, h68_1, h64_31, h65_31, h64_sf, h65_sf, enR, LG, LSt, LC, nlR, psR, TK, up_s, up_n, up_u, lt_nI, le_nI, eq_nI, true_and, and_true, if_true, if_false, Nat.zero_add, Nat.add_zero, nI_add, ↓reduceIte, Nat.reduceAdd, Nat.reduceMul, Nat.reduceSub, Nat.reduceLT, Nat.reduceLeDiff, Nat.reduceEqDiff, Nat.not_lt_zero, Nat.lt_irrefl, decide_true, BEq.rfl, nm1, nm2, nm3, nm4, nm9, ngc, eq_self, List.length_cons, List.length_nil, hr, hn, h1, h40, hRk10, c_valueAt (show r < 10 by omega) hn h1 (by omega), r1, hq, c_lead (g := va_up g 31 τ) hl hC hb r2 (show p < 65536 by omega), hd, o2i, e5]
      refine ih (k + 1) t0 _ (by omega) (fun i hi => ?_) ht hw
      by_cases h2 : i = k
      · subst h2; rw [ud_s]
      · rw [ud_n _ _ h2]; exact hτ i (by omega)
end
section
variable {d : Nat} {z : AZ} {f : AH} {Q : Option Value → AZ → AH → Prop} {X : Nat × (Nat → Int32)} {C : CT} {a : Nat → Int32} {b : Nat → Int64} {e : Nat → Nat → Int32} {o : Nat → Nat → Int64} {P N W : Nat} {K O T J : Nat → Nat}
theorem lp_mfeels1 {r p u n : Nat} {g : Nat → Int32} {x4 : Int32} (h : MLn a (e 74) P N W K O T J) (hr : r < 6) (hn : n ≤ 40) (h69 : e 69 r = nI n) (hg : ∀ k, k < n → e 70 (40 * r + k) = g k) : ∀ (j k : Nat), k + j = n → (Wp (d + 3) 1051 42 [some (.ref 67), some (.int (nI r)), some (.int (nI p)), some (.int (nI u)), some (.int x4), some (.int (nI k))] [] z (Hp X C (a, b, e, o)) Q ↔ if allb (wth g (nI 0) (nI N - nI 1)) k j = true then Wp (d + 3) 1051 85 [some (.ref 67), some (.int (nI r)), some (.int (nI p)), some (.int (nI u)), some (.int x4), some (.int (nI p)), some (.int (nI 0))] [] z (Hp X C (a, b, e, o)) Q else Q (some (.int (-3))) z (Hp X C (va_up a 0 (nI 3), b, va_up e 68 (upd (e 68) 3 (e 68 3 + nI 1)), o))) := by
  intro j
  induction j with
  | zero =>
    intro k hk
    have hk : k = n := by omega
    subst hk
    rw [W1051_42]
    simp (disch := omega) only [W1051, r_2, r_Li, h80_1007, s_40, r_4, r_La, h79_1029, s_41, s_0, ci_m1, r_90, h79_1009, r_5, s_43, ci_0, h60_10_5, r_49, h79_1011, h79_1030, ci_3, h79_1002, s_8, r_In, ci_1, r_52, h79_1038, ci_m9, r_46, h60_10_7, h79_1032, h79_1013, r_32, h79_1012, h79_1003, h64_69, h65_69, h64_71, h65_71, enR, LG, LSt, LC, nlR, psR, TK, up_s, up_n, up_u, lt_nI, le_nI, eq_nI, true_and, and_true, if_true, if_false, Nat.zero_add, Nat.add_zero, nI_add, ↓reduceIte, Nat.reduceAdd, Nat.reduceMul, Nat.reduceSub, Nat.reduceLT, Nat.reduceLeDiff, Nat.reduceEqDiff, Nat.not_lt_zero, Nat.lt_irrefl, decide_true, BEq.rfl, nm1, nm2, nm3, nm4, nm9, ngc, eq_self, List.length_cons, List.length_nil, hr, h69, allb]
  | succ j ih =>
    intro k hk
    have h1 : k < n := by omega
    have h2 := hg k h1
    rw [W1051_42]
    by_cases h3 : g k < nI 0
    · simp (disch := omega) only [W1051, r_2, r_Li, h80_1007, s_40, r_4, r_La, h79_1029, s_41, s_0, ci_m1, r_90, h79_1009, r_5, s_43, ci_0, h60_10_5, r_49, h79_1011, h79_1030, ci_3, h79_1002, s_8, r_In, ci_1, r_52, h79_1038, ci_m9, r_46, h60_10_7, h79_1032, h79_1013, r_32, h79_1012, h79_1003, h64_69, h65_69, h64_71, h65_71, enR, LG, LSt, LC, nlR, psR, TK, up_s, up_n, up_u, lt_nI, le_nI, eq_nI, true_and, and_true, if_true, if_false, Nat.zero_add, Nat.add_zero, nI_add, ↓reduceIte, Nat.reduceAdd, Nat.reduceMul, Nat.reduceSub, Nat.reduceLT, Nat.reduceLeDiff, Nat.reduceEqDiff, Nat.not_lt_zero, Nat.lt_irrefl, decide_true, BEq.rfl, nm1, nm2, nm3, nm4, nm9, ngc, eq_self, List.length_cons, List.length_nil, hr, h69, h1, m_rowAt, h2, m_isRoad h, h3, m_meet, allb, wth, not_true, false_and, decide_false, Bool.false_and, Bool.false_eq_true]
    · by_cases h4 : nI N - nI 1 < g k
      · simp (disch := omega) only [W1051, r_2, r_Li, h80_1007, s_40, r_4, r_La, h79_1029, s_41, s_0, ci_m1, r_90, h79_1009, r_5, s_43, ci_0, h60_10_5, r_49, h79_1011, h79_1030, ci_3, h79_1002, s_8, r_In, ci_1, r_52, h79_1038, ci_m9, r_46, h60_10_7, h79_1032, h79_1013, r_32, h79_1012, h79_1003, h64_69, h65_69, h64_71, h65_71, enR, LG, LSt, LC, nlR, psR, TK, up_s, up_n, up_u, lt_nI, le_nI, eq_nI, true_and, and_true, if_true, if_false, Nat.zero_add, Nat.add_zero, nI_add, ↓reduceIte, Nat.reduceAdd, Nat.reduceMul, Nat.reduceSub, Nat.reduceLT, Nat.reduceLeDiff, Nat.reduceEqDiff, Nat.not_lt_zero, Nat.lt_irrefl, decide_true, BEq.rfl, nm1, nm2, nm3, nm4, nm9, ngc, eq_self, List.length_cons, List.length_nil, hr, h69, h1, m_rowAt, h2, m_isRoad h, h3, h4, m_meet, allb, wth, not_true, and_false, decide_false, Bool.false_and, Bool.false_eq_true]
      · simp (disch := omega) only [W1051, r_2, r_Li, h80_1007, s_40, r_4, r_La, h79_1029, s_41, s_0, ci_m1, r_90, h79_1009, r_5, s_43, ci_0, h60_10_5, r_49, h79_1011, h79_1030, ci_3, h79_1002, s_8, r_In, ci_1, r_52, h79_1038, ci_m9, r_46, h60_10_7, h79_1032, h79_1013, r_32, h79_1012, h79_1003, h64_69, h65_69, h64_71, h65_71, enR, LG, LSt, LC, nlR, psR, TK, up_s, up_n, up_u, lt_nI, le_nI, eq_nI, true_and, and_true, if_true, if_false, Nat.zero_add, Nat.add_zero, nI_add, ↓reduceIte, Nat.reduceAdd, Nat.reduceMul, Nat.reduceSub, Nat.reduceLT, Nat.reduceLeDiff, Nat.reduceEqDiff, Nat.not_lt_zero, Nat.lt_irrefl, decide_true, BEq.rfl, nm1, nm2, nm3, nm4, nm9, ngc, eq_self, List.length_cons, List.length_nil, hr, h69, h1, m_rowAt, h2, m_isRoad h, h3, h4, m_meet, allb, wth, not_false_iff, and_self, Bool.true_and]
        exact ih (k + 1) (by omega)
theorem lp_mfeels3 {r p u m : Nat} {x4 x5 : Int32} (hu : u < 6) (hm : m ≤ 40) : ∀ (j k : Nat) (e : Nat → Nat → Int32) (y : Nat → Int32), k + j = m → (∀ q, y q = if 40 * u + k ≤ q ∧ q < 40 * u + m then e 71 (q - 40 * u) else e 70 q) → (Wp (d + 3) 1051 163 [some (.ref 67), some (.int (nI r)), some (.int (nI p)), some (.int (nI u)), some (.int x4), some (.int x5), some (.int (nI m)), some (.int (nI k))] [] z (Hp X C (a, b, e, o)) Q ↔ Q (some (.int (nI m))) z (Hp X C (va_up a 2 x5, b, va_up e 70 y, o))) := by
  intro j
  induction j with
  | zero =>
    intro k e y hk hy
    have hk : k = m := by omega
    subst hk
    have e1 : e 70 = y := by
      funext q
      rw [hy q, if_neg (by omega)]
    rw [W1051_163, up_id e1]
    simp (disch := omega) only [W1051, r_2, r_Li, h80_1007, s_40, r_4, r_La, h79_1029, s_41, s_0, ci_m1, r_90, h79_1009, r_5, s_43, ci_0, h60_10_5, r_49, h79_1011, h79_1030, ci_3, h79_1002, s_8, r_In, ci_1, r_52, h79_1038, ci_m9, r_46, h60_10_7, h79_1032, h79_1013, r_32, h79_1012, h79_1003, h64_69, h65_69, h64_71, h65_71, enR, LG, LSt, LC, nlR, psR, TK, up_s, up_n, up_u, lt_nI, le_nI, eq_nI, true_and, and_true, if_true, if_false, Nat.zero_add, Nat.add_zero, nI_add, ↓reduceIte, Nat.reduceAdd, Nat.reduceMul, Nat.reduceSub, Nat.reduceLT, Nat.reduceLeDiff, Nat.reduceEqDiff, Nat.not_lt_zero, Nat.lt_irrefl, decide_true, BEq.rfl, nm1, nm2, nm3, nm4, nm9, ngc, eq_self, List.length_cons, List.length_nil, m_ask]
  | succ j ih =>
    intro k e y hk hy
    have h1 : k < m := by omega
    have h40 : k < 40 := by omega
    rw [W1051_163]
    simp (disch := omega) only [W1051, r_2, r_Li, h80_1007, s_40, r_4, r_La, h79_1029, s_41, s_0, ci_m1, r_90, h79_1009, r_5, s_43, ci_0, h60_10_5, r_49, h79_1011, h79_1030, ci_3, h79_1002, s_8, r_In, ci_1, r_52, h79_1038, ci_m9, r_46, h60_10_7, h79_1032, h79_1013, r_32, h79_1012, h79_1003, h64_69, h65_69, h64_71, h65_71, enR, LG, LSt, LC, nlR, psR, TK, up_s, up_n, up_u, lt_nI, le_nI, eq_nI, true_and, and_true, if_true, if_false, Nat.zero_add, Nat.add_zero, nI_add, ↓reduceIte, Nat.reduceAdd, Nat.reduceMul, Nat.reduceSub, Nat.reduceLT, Nat.reduceLeDiff, Nat.reduceEqDiff, Nat.not_lt_zero, Nat.lt_irrefl, decide_true, BEq.rfl, nm1, nm2, nm3, nm4, nm9, ngc, eq_self, List.length_cons, List.length_nil, h1, h40, m_setRow]
    rw [ih (k + 1) _ y (by omega) (fun q => ?_), up_u]
    rw [hy q, up_s, up_n e _ (show 71 ≠ 70 by decide)]
    by_cases h2 : q = 40 * u + k
    · subst h2
      rw [if_pos (by omega), if_neg (by omega), ud_s]
      congr 1
      omega
    · rw [ud_n _ _ h2]
      by_cases h3 : 40 * u + (k + 1) ≤ q ∧ q < 40 * u + m
      · rw [if_pos h3, if_pos (by omega)]
      · rw [if_neg h3, if_neg (by omega)]
theorem lp_mfeels2 {r u m p0 w0 pe : Nat} {R : Nat → Nat} {x4 : Int32} (h : MLn a (e 74) P N W K O T J) (hb : LB P N W K O T J) (hr : r < 6) (hu : u < 6) (hm : m ≤ 40) (h69 : e 69 r = nI m) (hR : ∀ k, k < m → e 70 (40 * r + k) = nI (R k) ∧ R k < N) (hw0 : w0 ≤ m)
    (hQ : ∀ (μ y : Nat → Int32), (∀ j, j < w0 → y (40 * u + j) = nI (fe W K J (R j))) → (∀ j, (j < 40 * u ∨ 40 * u + 40 ≤ j) → y j = e 70 j) → Q (some (.int (nI w0))) z (Hp X C (va_up a 2 (nI pe), b, va_up (va_up (va_up e 71 μ) 69 (upd (e 69) u (nI w0))) 70 y, o))) :
    ∀ (j k p : Nat) (μ : Nat → Int32), k + j = m → (∀ i, i < k → μ i = nI (fe W K J (R i))) → p < P → wlk K O T R j k p = (w0, pe) → Wp (d + 3) 1051 85 [some (.ref 67), some (.int (nI r)), some (.int (nI p0)), some (.int (nI u)), some (.int x4), some (.int (nI p)), some (.int (nI k))] [] z (Hp X C (a, b, va_up e 71 μ, o)) Q := by
  have hP := hb.1
  have hN := hb.2.1
  have hend : ∀ (k p : Nat) (μ : Nat → Int32), k = w0 → p = pe → (∀ i, i < k → μ i = nI (fe W K J (R i))) → Wp (d + 3) 1051 163 [some (.ref 67), some (.int (nI r)), some (.int (nI p0)), some (.int (nI u)), some (.int x4), some (.int (nI p)), some (.int (nI k)), some (.int (nI 0))] [] z (Hp X C (a, b, va_up (va_up (va_up e 71 μ) 69 (upd (e 69) u (nI k))) 70 (fil (e 70) (40 * u) (40 * u + 40) (nI 0)), o)) Q := by
    intro k p μ hk hp hμ
    subst hk; subst hp
    rw [lp_mfeels3 hu (show k ≤ 40 by omega) k 0 _ (fun q => if 40 * u ≤ q ∧ q < 40 * u + k then μ (q - 40 * u) else fil (e 70) (40 * u) (40 * u + 40) (nI 0) q) (by omega) (fun q => rfl), up_u]
    refine hQ _ _ (fun j hj => ?_) (fun j hj => ?_)
    · rw [if_pos (by omega), show 40 * u + j - 40 * u = j by omega]; exact hμ j hj
    · rw [if_neg (by omega)]; exact if_neg (by omega)
  intro j
  induction j with
  | zero =>
    intro k p μ hk hμ hp hw
    have hk : k = m := by omega
    subst hk
    have hw' : (k, p) = (w0, pe) := hw
    have g1 := (Prod.mk.inj hw').1
    have g2 := (Prod.mk.inj hw').2
    rw [W1051_85]
    simp (disch := omega) only [W1051, r_2, r_Li, h80_1007, s_40, r_4, r_La, h79_1029, s_41, s_0, ci_m1, r_90, h79_1009, r_5, s_43, ci_0, h60_10_5, r_49, h79_1011, h79_1030, ci_3, h79_1002, s_8, r_In, ci_1, r_52, h79_1038, ci_m9, r_46, h60_10_7, h79_1032, h79_1013, r_32, h79_1012, h79_1003, h64_69, h65_69, h64_71, h65_71, enR, LG, LSt, LC, nlR, psR, TK, up_s, up_n, up_u, lt_nI, le_nI, eq_nI, true_and, and_true, if_true, if_false, Nat.zero_add, Nat.add_zero, nI_add, ↓reduceIte, Nat.reduceAdd, Nat.reduceMul, Nat.reduceSub, Nat.reduceLT, Nat.reduceLeDiff, Nat.reduceEqDiff, Nat.not_lt_zero, Nat.lt_irrefl, decide_true, BEq.rfl, nm1, nm2, nm3, nm4, nm9, ngc, eq_self, List.length_cons, List.length_nil, hr, h69, m_row (e := va_up e 71 μ) hu (show k ≤ 40 by omega)]
    exact hend k p μ g1 g2 hμ
  | succ j ih =>
    intro k p μ hk hμ hp hw
    have h1 : k < m := by omega
    have h40 : k < 40 := by omega
    obtain ⟨r1, r2⟩ := hR k h1
    unfold wlk at hw
    rw [W1051_85]
    cases hd : ldm K O T (R k) p with
    | none =>
      rw [hd] at hw
      have hw' : (k, p) = (w0, pe) := hw
      have g1 := (Prod.mk.inj hw').1
      have g2 := (Prod.mk.inj hw').2
      simp (disch := omega) only [W1051, r_2, r_Li, h80_1007, s_40, r_4, r_La, h79_1029, s_41, s_0, ci_m1, r_90, h79_1009, r_5, s_43, ci_0, h60_10_5, r_49, h79_1011, h79_1030, ci_3, h79_1002, s_8, r_In, ci_1, r_52, h79_1038, ci_m9, r_46, h60_10_7, h79_1032, h79_1013, r_32, h79_1012, h79_1003, h64_69, h65_69, h64_71, h65_71, enR, LG, LSt, LC, nlR, psR, TK, up_s, up_n, up_u, lt_nI, le_nI, eq_nI, true_and, and_true, if_true, if_false, Nat.zero_add, Nat.add_zero, nI_add, ↓reduceIte, Nat.reduceAdd, Nat.reduceMul, Nat.reduceSub, Nat.reduceLT, Nat.reduceLeDiff, Nat.reduceEqDiff, Nat.not_lt_zero, Nat.lt_irrefl, decide_true, BEq.rfl, nm1, nm2, nm3, nm4, nm9, ngc, eq_self, List.length_cons, List.length_nil, hr, h69, h1, m_rowAt, r1, m_leads (e := va_up e 71 μ) h hb r2 (show p < 65536 by omega), hd, o2i, m_row (e := va_up e 71 μ) hu (show k ≤ 40 by omega)]
      exact hend k p μ g1 g2 hμ
    | some t0 =>
      rw [hd] at hw
      have ht := ldm_lt hb r2 hd
      simp (disch := omega) only [W1051, r_2, r_Li, h80_1007, s_40, r_4, r_La, h79_1029, s_41, s_0, ci_m1, r_90, h79_1009, r_5, s_43, ci_0, h60_10_5, r_49, h79_1011, h79_1030, ci_3, h79_1002, s_8, r_In, ci_1, r_52, h79_1038, ci_m9, r_46, h60_10_7, h79_1032, h79_1013, r_32, h79_1012, h79_1003, h64_69, h65_69, h64_71, h65_71, enR, LG, LSt, LC, nlR, psR, TK, up_s, up_n, up_u, lt_nI, le_nI, eq_nI, true_and, and_true, if_true, if_false, Nat.zero_add, Nat.add_zero, nI_add, ↓reduceIte, Nat.reduceAdd, Nat.reduceMul, Nat.reduceSub, Nat.reduceLT, Nat.reduceLeDiff, Nat.reduceEqDiff, Nat.not_lt_zero, Nat.lt_irrefl, decide_true, BEq.rfl, nm1, nm2, nm3, nm4, nm9, ngc, eq_self, List.length_cons, List.length_nil, hr, h69, h1, h40, m_rowAt, r1, m_leads (e := va_up e 71 μ) h hb r2 (show p < 65536 by omega), m_feelOf (e := va_up e 71 μ) h hb r2, hd, o2i]
      rw [m_leads (e := va_up e 71 (upd μ k (nI (fe W K J (R k))))) h hb r2 (show p < 65536 by omega), hd]
      simp (disch := omega) only [W1051, r_2, r_Li, h80_1007, s_40, r_4, r_La, h79_1029, s_41, s_0, ci_m1, r_90, h79_1009, r_5, s_43, ci_0, h60_10_5, r_49, h79_1011, h79_1030, ci_3, h79_1002, s_8, r_In, ci_1, r_52, h79_1038, ci_m9, r_46, h60_10_7, h79_1032, h79_1013, r_32, h79_1012, h79_1003, h64_69, h65_69, h64_71, h65_71, enR, LG, LSt, LC, nlR, psR, TK, up_s, up_n, up_u, lt_nI, le_nI, eq_nI, true_and, and_true, if_true, if_false, Nat.zero_add, Nat.add_zero, nI_add, ↓reduceIte, Nat.reduceAdd, Nat.reduceMul, Nat.reduceSub, Nat.reduceLT, Nat.reduceLeDiff, Nat.reduceEqDiff, Nat.not_lt_zero, Nat.lt_irrefl, decide_true, BEq.rfl, nm1, nm2, nm3, nm4, nm9, ngc, eq_self, List.length_cons, List.length_nil, o2i]
      refine ih (k + 1) t0 _ (by omega) (fun i hi => ?_) ht hw
      by_cases h2 : i = k
      · subst h2; rw [ud_s]
      · rw [ud_n _ _ h2]; exact hμ i (by omega)
end
section
variable {t d : Nat} {z : AZ} {X : Nat × (Nat → Int32)} {C : CT} {M : MT} {s : Nat → Int32} {v : Nat → Int64} {g : Nat → Nat → Int32} {w : Nat → Nat → Int64} {q : Nat → Nat} {ct : Nat → Int32} {cn : Nat → Int32} {cc : Nat → Nat → Int32} {di : Nat → Nat → Int32} {dr : Nat → Nat → Int32} {df : Nat → Nat → Int32} {li : Nat → Nat → Int32} {la : Nat → Nat → Nat → Int32} {sf : Nat → Nat → Int32} {sl : Nat → Nat → Int32} {a : Nat → Int32} {b : Nat → Int64} {e : Nat → Nat → Int32} {o : Nat → Nat → Int64} {B : Nat → Bool} {n : Nat → Nat} {P N W : Nat} {K O T J : Nat → Nat} {l : Nat} {Ds : Nat → Nat} {Dr Df Dp : Nat → Nat → Nat} {KB : Nat → Bool}
theorem op_feels {x y u : Int32} (H : RL t z s v g w q ct cn cc di dr df li la sf sl a b e o B n P N W K O T J l Ds Dr Df Dp KB) : OPI (d + 20) 923 1051 [.int x, .int y, .int u] t z X (s, v, g, w, q, ct, cn, cc, di, dr, df, li, la, sf, sl) (a, b, e, o) := by
  obtain ⟨hb, hl, hq, hC, hs, hM, hS⟩ := rl_land H
  have hP := hb.1
  have hN := hb.2.1
  have h9 := hC.2.1
  unfold OPI
  rw [cw_wp]
  rcases ix x (n := 5) (by decide) with h | ⟨h1, h2, h3⟩ | ⟨r, hr, rfl⟩
  · simp (disch := omega) only [W923, r_2, r_Li, h80_948, s_40, r_4, r_La, h60_9_12, h79_303, s_41, s_0, ci_m1, r_90, h60_9_0, h60_0_1, ci_1, h79_951, ci_0, h60_3_5, r_11, h79_8, ci_3, r_5, h60_0_2, r_49, h79_5, h79_306, r_47, r_52, h60_9_10, h60_9_5, h60_6_0, s_8, r_In, h79_2, h61_9_15, h68_1, h64_31, h65_31, h64_sf, h65_sf, enR, LG, LSt, LC, nlR, psR, TK, up_s, up_n, up_u, lt_nI, le_nI, eq_nI, true_and, and_true, if_true, if_false, Nat.zero_add, Nat.add_zero, nI_add, ↓reduceIte, Nat.reduceAdd, Nat.reduceMul, Nat.reduceSub, Nat.reduceLT, Nat.reduceLeDiff, Nat.reduceEqDiff, Nat.not_lt_zero, Nat.lt_irrefl, decide_true, BEq.rfl, nm1, nm2, nm3, nm4, nm9, ngc, eq_self, List.length_cons, List.length_nil, c_isRow, h]
    refine okc ?_
    rw [cw_wp]
    simp (disch := omega) only [W1051, r_2, r_Li, h80_1007, s_40, r_4, r_La, h79_1029, s_41, s_0, ci_m1, r_90, h79_1009, r_5, s_43, ci_0, h60_10_5, r_49, h79_1011, h79_1030, ci_3, h79_1002, s_8, r_In, ci_1, r_52, h79_1038, ci_m9, r_46, h60_10_7, h79_1032, h79_1013, r_32, h79_1012, h79_1003, h64_69, h65_69, h64_71, h65_71, enR, LG, LSt, LC, nlR, psR, TK, up_s, up_n, up_u, lt_nI, le_nI, eq_nI, true_and, and_true, if_true, if_false, Nat.zero_add, Nat.add_zero, nI_add, ↓reduceIte, Nat.reduceAdd, Nat.reduceMul, Nat.reduceSub, Nat.reduceLT, Nat.reduceLeDiff, Nat.reduceEqDiff, Nat.not_lt_zero, Nat.lt_irrefl, decide_true, BEq.rfl, nm1, nm2, nm3, nm4, nm9, ngc, eq_self, List.length_cons, List.length_nil, m_isRow, h]
    exact okm (rl_inv (rl_t H))
  · simp (disch := omega) only [W923, r_2, r_Li, h80_948, s_40, r_4, r_La, h60_9_12, h79_303, s_41, s_0, ci_m1, r_90, h60_9_0, h60_0_1, ci_1, h79_951, ci_0, h60_3_5, r_11, h79_8, ci_3, r_5, h60_0_2, r_49, h79_5, h79_306, r_47, r_52, h60_9_10, h60_9_5, h60_6_0, s_8, r_In, h79_2, h61_9_15, h68_1, h64_31, h65_31, h64_sf, h65_sf, enR, LG, LSt, LC, nlR, psR, TK, up_s, up_n, up_u, lt_nI, le_nI, eq_nI, true_and, and_true, if_true, if_false, Nat.zero_add, Nat.add_zero, nI_add, ↓reduceIte, Nat.reduceAdd, Nat.reduceMul, Nat.reduceSub, Nat.reduceLT, Nat.reduceLeDiff, Nat.reduceEqDiff, Nat.not_lt_zero, Nat.lt_irrefl, decide_true, BEq.rfl, nm1, nm2, nm3, nm4, nm9, ngc, eq_self, List.length_cons, List.length_nil, c_isRow, h1, h2]
    refine okc ?_
    rw [cw_wp]
    simp (disch := omega) only [W1051, r_2, r_Li, h80_1007, s_40, r_4, r_La, h79_1029, s_41, s_0, ci_m1, r_90, h79_1009, r_5, s_43, ci_0, h60_10_5, r_49, h79_1011, h79_1030, ci_3, h79_1002, s_8, r_In, ci_1, r_52, h79_1038, ci_m9, r_46, h60_10_7, h79_1032, h79_1013, r_32, h79_1012, h79_1003, h64_69, h65_69, h64_71, h65_71, enR, LG, LSt, LC, nlR, psR, TK, up_s, up_n, up_u, lt_nI, le_nI, eq_nI, true_and, and_true, if_true, if_false, Nat.zero_add, Nat.add_zero, nI_add, ↓reduceIte, Nat.reduceAdd, Nat.reduceMul, Nat.reduceSub, Nat.reduceLT, Nat.reduceLeDiff, Nat.reduceEqDiff, Nat.not_lt_zero, Nat.lt_irrefl, decide_true, BEq.rfl, nm1, nm2, nm3, nm4, nm9, ngc, eq_self, List.length_cons, List.length_nil, m_isRow, h1, h3]
    exact okm (rl_inv (rl_t H))
  have hr6 : r < 6 := by omega
  have hr5 : ¬ 5 < r := by omega
  rcases ixN y (show P ≤ 80 by omega) with h | ⟨h1, h2, h3⟩ | ⟨p, hp, rfl⟩
  · simp (disch := omega) only [W923, r_2, r_Li, h80_948, s_40, r_4, r_La, h60_9_12, h79_303, s_41, s_0, ci_m1, r_90, h60_9_0, h60_0_1, ci_1, h79_951, ci_0, h60_3_5, r_11, h79_8, ci_3, r_5, h60_0_2, r_49, h79_5, h79_306, r_47, r_52, h60_9_10, h60_9_5, h60_6_0, s_8, r_In, h79_2, h61_9_15, h68_1, h64_31, h65_31, h64_sf, h65_sf, enR, LG, LSt, LC, nlR, psR, TK, up_s, up_n, up_u, lt_nI, le_nI, eq_nI, true_and, and_true, if_true, if_false, Nat.zero_add, Nat.add_zero, nI_add, ↓reduceIte, Nat.reduceAdd, Nat.reduceMul, Nat.reduceSub, Nat.reduceLT, Nat.reduceLeDiff, Nat.reduceEqDiff, Nat.not_lt_zero, Nat.lt_irrefl, decide_true, BEq.rfl, nm1, nm2, nm3, nm4, nm9, ngc, eq_self, List.length_cons, List.length_nil, c_isRow, hr6, hq, c_hasPlace hl hC, h]
    refine okc ?_
    rw [cw_wp]
    simp (disch := omega) only [W1051, r_2, r_Li, h80_1007, s_40, r_4, r_La, h79_1029, s_41, s_0, ci_m1, r_90, h79_1009, r_5, s_43, ci_0, h60_10_5, r_49, h79_1011, h79_1030, ci_3, h79_1002, s_8, r_In, ci_1, r_52, h79_1038, ci_m9, r_46, h60_10_7, h79_1032, h79_1013, r_32, h79_1012, h79_1003, h64_69, h65_69, h64_71, h65_71, enR, LG, LSt, LC, nlR, psR, TK, up_s, up_n, up_u, lt_nI, le_nI, eq_nI, true_and, and_true, if_true, if_false, Nat.zero_add, Nat.add_zero, nI_add, ↓reduceIte, Nat.reduceAdd, Nat.reduceMul, Nat.reduceSub, Nat.reduceLT, Nat.reduceLeDiff, Nat.reduceEqDiff, Nat.not_lt_zero, Nat.lt_irrefl, decide_true, BEq.rfl, nm1, nm2, nm3, nm4, nm9, ngc, eq_self, List.length_cons, List.length_nil, m_isRow, hr5, m_isPlace hM, h]
    exact okm (rl_inv (rl_t H))
  · simp (disch := omega) only [W923, r_2, r_Li, h80_948, s_40, r_4, r_La, h60_9_12, h79_303, s_41, s_0, ci_m1, r_90, h60_9_0, h60_0_1, ci_1, h79_951, ci_0, h60_3_5, r_11, h79_8, ci_3, r_5, h60_0_2, r_49, h79_5, h79_306, r_47, r_52, h60_9_10, h60_9_5, h60_6_0, s_8, r_In, h79_2, h61_9_15, h68_1, h64_31, h65_31, h64_sf, h65_sf, enR, LG, LSt, LC, nlR, psR, TK, up_s, up_n, up_u, lt_nI, le_nI, eq_nI, true_and, and_true, if_true, if_false, Nat.zero_add, Nat.add_zero, nI_add, ↓reduceIte, Nat.reduceAdd, Nat.reduceMul, Nat.reduceSub, Nat.reduceLT, Nat.reduceLeDiff, Nat.reduceEqDiff, Nat.not_lt_zero, Nat.lt_irrefl, decide_true, BEq.rfl, nm1, nm2, nm3, nm4, nm9, ngc, eq_self, List.length_cons, List.length_nil, c_isRow, hr6, hq, c_hasPlace hl hC, h1, h2]
    refine okc ?_
    rw [cw_wp]
    simp (disch := omega) only [W1051, r_2, r_Li, h80_1007, s_40, r_4, r_La, h79_1029, s_41, s_0, ci_m1, r_90, h79_1009, r_5, s_43, ci_0, h60_10_5, r_49, h79_1011, h79_1030, ci_3, h79_1002, s_8, r_In, ci_1, r_52, h79_1038, ci_m9, r_46, h60_10_7, h79_1032, h79_1013, r_32, h79_1012, h79_1003, h64_69, h65_69, h64_71, h65_71, enR, LG, LSt, LC, nlR, psR, TK, up_s, up_n, up_u, lt_nI, le_nI, eq_nI, true_and, and_true, if_true, if_false, Nat.zero_add, Nat.add_zero, nI_add, ↓reduceIte, Nat.reduceAdd, Nat.reduceMul, Nat.reduceSub, Nat.reduceLT, Nat.reduceLeDiff, Nat.reduceEqDiff, Nat.not_lt_zero, Nat.lt_irrefl, decide_true, BEq.rfl, nm1, nm2, nm3, nm4, nm9, ngc, eq_self, List.length_cons, List.length_nil, m_isRow, hr5, m_isPlace hM, h1, h3]
    exact okm (rl_inv (rl_t H))
  have hp2 := nsub (show P < 65536 by omega) hp
  rcases ix u (n := 5) (by decide) with h | ⟨h1, h2, h3⟩ | ⟨to, hto, rfl⟩
  · simp (disch := omega) only [W923, r_2, r_Li, h80_948, s_40, r_4, r_La, h60_9_12, h79_303, s_41, s_0, ci_m1, r_90, h60_9_0, h60_0_1, ci_1, h79_951, ci_0, h60_3_5, r_11, h79_8, ci_3, r_5, h60_0_2, r_49, h79_5, h79_306, r_47, r_52, h60_9_10, h60_9_5, h60_6_0, s_8, r_In, h79_2, h61_9_15, h68_1, h64_31, h65_31, h64_sf, h65_sf, enR, LG, LSt, LC, nlR, psR, TK, up_s, up_n, up_u, lt_nI, le_nI, eq_nI, true_and, and_true, if_true, if_false, Nat.zero_add, Nat.add_zero, nI_add, ↓reduceIte, Nat.reduceAdd, Nat.reduceMul, Nat.reduceSub, Nat.reduceLT, Nat.reduceLeDiff, Nat.reduceEqDiff, Nat.not_lt_zero, Nat.lt_irrefl, decide_true, BEq.rfl, nm1, nm2, nm3, nm4, nm9, ngc, eq_self, List.length_cons, List.length_nil, c_isRow, hr6, hq, c_hasPlace hl hC, hp, h]
    refine okc ?_
    rw [cw_wp]
    simp (disch := omega) only [W1051, r_2, r_Li, h80_1007, s_40, r_4, r_La, h79_1029, s_41, s_0, ci_m1, r_90, h79_1009, r_5, s_43, ci_0, h60_10_5, r_49, h79_1011, h79_1030, ci_3, h79_1002, s_8, r_In, ci_1, r_52, h79_1038, ci_m9, r_46, h60_10_7, h79_1032, h79_1013, r_32, h79_1012, h79_1003, h64_69, h65_69, h64_71, h65_71, enR, LG, LSt, LC, nlR, psR, TK, up_s, up_n, up_u, lt_nI, le_nI, eq_nI, true_and, and_true, if_true, if_false, Nat.zero_add, Nat.add_zero, nI_add, ↓reduceIte, Nat.reduceAdd, Nat.reduceMul, Nat.reduceSub, Nat.reduceLT, Nat.reduceLeDiff, Nat.reduceEqDiff, Nat.not_lt_zero, Nat.lt_irrefl, decide_true, BEq.rfl, nm1, nm2, nm3, nm4, nm9, ngc, eq_self, List.length_cons, List.length_nil, m_isRow, hr5, m_isPlace hM, hp2, h]
    exact okm (rl_inv (rl_t H))
  · simp (disch := omega) only [W923, r_2, r_Li, h80_948, s_40, r_4, r_La, h60_9_12, h79_303, s_41, s_0, ci_m1, r_90, h60_9_0, h60_0_1, ci_1, h79_951, ci_0, h60_3_5, r_11, h79_8, ci_3, r_5, h60_0_2, r_49, h79_5, h79_306, r_47, r_52, h60_9_10, h60_9_5, h60_6_0, s_8, r_In, h79_2, h61_9_15, h68_1, h64_31, h65_31, h64_sf, h65_sf, enR, LG, LSt, LC, nlR, psR, TK, up_s, up_n, up_u, lt_nI, le_nI, eq_nI, true_and, and_true, if_true, if_false, Nat.zero_add, Nat.add_zero, nI_add, ↓reduceIte, Nat.reduceAdd, Nat.reduceMul, Nat.reduceSub, Nat.reduceLT, Nat.reduceLeDiff, Nat.reduceEqDiff, Nat.not_lt_zero, Nat.lt_irrefl, decide_true, BEq.rfl, nm1, nm2, nm3, nm4, nm9, ngc, eq_self, List.length_cons, List.length_nil, c_isRow, hr6, hq, c_hasPlace hl hC, hp, h1, h2]
    refine okc ?_
    rw [cw_wp]
    simp (disch := omega) only [W1051, r_2, r_Li, h80_1007, s_40, r_4, r_La, h79_1029, s_41, s_0, ci_m1, r_90, h79_1009, r_5, s_43, ci_0, h60_10_5, r_49, h79_1011, h79_1030, ci_3, h79_1002, s_8, r_In, ci_1, r_52, h79_1038, ci_m9, r_46, h60_10_7, h79_1032, h79_1013, r_32, h79_1012, h79_1003, h64_69, h65_69, h64_71, h65_71, enR, LG, LSt, LC, nlR, psR, TK, up_s, up_n, up_u, lt_nI, le_nI, eq_nI, true_and, and_true, if_true, if_false, Nat.zero_add, Nat.add_zero, nI_add, ↓reduceIte, Nat.reduceAdd, Nat.reduceMul, Nat.reduceSub, Nat.reduceLT, Nat.reduceLeDiff, Nat.reduceEqDiff, Nat.not_lt_zero, Nat.lt_irrefl, decide_true, BEq.rfl, nm1, nm2, nm3, nm4, nm9, ngc, eq_self, List.length_cons, List.length_nil, m_isRow, hr5, m_isPlace hM, hp2, h1, h3]
    exact okm (rl_inv (rl_t H))
  have hto6 : to < 6 := by omega
  have hto5 : ¬ 5 < to := by omega
  rcases rl_r H hr6 with ⟨q1, q2, q3, q4, q5⟩ | ⟨q1, q2, q3, q4, q5, q6⟩
  · simp (disch := omega) only [W923, r_2, r_Li, h80_948, s_40, r_4, r_La, h60_9_12, h79_303, s_41, s_0, ci_m1, r_90, h60_9_0, h60_0_1, ci_1, h79_951, ci_0, h60_3_5, r_11, h79_8, ci_3, r_5, h60_0_2, r_49, h79_5, h79_306, r_47, r_52, h60_9_10, h60_9_5, h60_6_0, s_8, r_In, h79_2, h61_9_15, h68_1, h64_31, h65_31, h64_sf, h65_sf, enR, LG, LSt, LC, nlR, psR, TK, up_s, up_n, up_u, lt_nI, le_nI, eq_nI, true_and, and_true, if_true, if_false, Nat.zero_add, Nat.add_zero, nI_add, ↓reduceIte, Nat.reduceAdd, Nat.reduceMul, Nat.reduceSub, Nat.reduceLT, Nat.reduceLeDiff, Nat.reduceEqDiff, Nat.not_lt_zero, Nat.lt_irrefl, decide_true, BEq.rfl, nm1, nm2, nm3, nm4, nm9, ngc, eq_self, List.length_cons, List.length_nil, c_isRow, hr6, hq, c_hasPlace hl hC, hp, hto6, q2, c_found]
    refine okc ?_
    rw [cw_wp]
    simp (disch := omega) only [W1051, r_2, r_Li, h80_1007, s_40, r_4, r_La, h79_1029, s_41, s_0, ci_m1, r_90, h79_1009, r_5, s_43, ci_0, h60_10_5, r_49, h79_1011, h79_1030, ci_3, h79_1002, s_8, r_In, ci_1, r_52, h79_1038, ci_m9, r_46, h60_10_7, h79_1032, h79_1013, r_32, h79_1012, h79_1003, h64_69, h65_69, h64_71, h65_71, enR, LG, LSt, LC, nlR, psR, TK, up_s, up_n, up_u, lt_nI, le_nI, eq_nI, true_and, and_true, if_true, if_false, Nat.zero_add, Nat.add_zero, nI_add, ↓reduceIte, Nat.reduceAdd, Nat.reduceMul, Nat.reduceSub, Nat.reduceLT, Nat.reduceLeDiff, Nat.reduceEqDiff, Nat.not_lt_zero, Nat.lt_irrefl, decide_true, BEq.rfl, nm1, nm2, nm3, nm4, nm9, ngc, eq_self, List.length_cons, List.length_nil, m_isRow, hr5, m_isPlace hM, hp2, hto5, m_asked_no hr6 q5]
    exact okm (rl_inv (rl_found (k := 1) (by decide) H))
  have hcap : n r ≤ cap r := by rw [show cap r = 40 from if_pos hr6]; exact q4
  have hloop := fun (Q : Option Value → AZ → AH → Prop) (C : CT) => lp_mfeels1 (d := d + 16) (z := z) (Q := Q) (X := X) (C := C) (b := b) (o := o) (p := p) (u := to) (x4 := nI 0) hM hr6 q4 q5 q6 (n r) 0 (by omega)
  cases hf : roadsIn (cc r) N (n r) with
  | false =>
    have hf' : (allb (wth (cc r) (nI 0) (nI N - nI 1)) 0 (n r) = true) = False := eq_false (by rw [show allb (wth (cc r) (nI 0) (nI N - nI 1)) 0 (n r) = false from hf]; decide)
    simp (disch := omega) only [W923, r_2, r_Li, h80_948, s_40, r_4, r_La, h60_9_12, h79_303, s_41, s_0, ci_m1, r_90, h60_9_0, h60_0_1, ci_1, h79_951, ci_0, h60_3_5, r_11, h79_8, ci_3, r_5, h60_0_2, r_49, h79_5, h79_306, r_47, r_52, h60_9_10, h60_9_5, h60_6_0, s_8, r_In, h79_2, h61_9_15, h68_1, h64_31, h65_31, h64_sf, h65_sf, enR, LG, LSt, LC, nlR, psR, TK, up_s, up_n, up_u, lt_nI, le_nI, eq_nI, true_and, and_true, if_true, if_false, Nat.zero_add, Nat.add_zero, nI_add, ↓reduceIte, Nat.reduceAdd, Nat.reduceMul, Nat.reduceSub, Nat.reduceLT, Nat.reduceLeDiff, Nat.reduceEqDiff, Nat.not_lt_zero, Nat.lt_irrefl, decide_true, BEq.rfl, nm1, nm2, nm3, nm4, nm9, ngc, eq_self, List.length_cons, List.length_nil, c_isRow, hr6, hq, hl, h9, c_hasPlace hl hC, hp, hto6, q2, c_within (show r < 10 by omega) q3 hcap, hf', c_found]
    refine okc ?_
    rw [cw_wp]
    simp (disch := omega) only [W1051, r_2, r_Li, h80_1007, s_40, r_4, r_La, h79_1029, s_41, s_0, ci_m1, r_90, h79_1009, r_5, s_43, ci_0, h60_10_5, r_49, h79_1011, h79_1030, ci_3, h79_1002, s_8, r_In, ci_1, r_52, h79_1038, ci_m9, r_46, h60_10_7, h79_1032, h79_1013, r_32, h79_1012, h79_1003, h64_69, h65_69, h64_71, h65_71, enR, LG, LSt, LC, nlR, psR, TK, up_s, up_n, up_u, lt_nI, le_nI, eq_nI, true_and, and_true, if_true, if_false, Nat.zero_add, Nat.add_zero, nI_add, ↓reduceIte, Nat.reduceAdd, Nat.reduceMul, Nat.reduceSub, Nat.reduceLT, Nat.reduceLeDiff, Nat.reduceEqDiff, Nat.not_lt_zero, Nat.lt_irrefl, decide_true, BEq.rfl, nm1, nm2, nm3, nm4, nm9, ngc, eq_self, List.length_cons, List.length_nil, m_isRow, hr5, m_isPlace hM, hp2, hto5, m_asked_ok hr6 q5]
    refine (hloop _ _).mpr ?_
    rw [if_neg (by rw [show allb (wth (cc r) (nI 0) (nI N - nI 1)) 0 (n r) = false from hf]; decide)]
    exact okm (rl_inv (rl_found (k := 3) (by decide) H))
  | true =>
    have hf' : (allb (wth (cc r) (nI 0) (nI N - nI 1)) 0 (n r) = true) = True := eq_true hf
    obtain ⟨R, hR⟩ := roads_ok hN hf
    have hR7 : ∀ k, k < n r → e 70 (40 * r + k) = nI (R k) ∧ R k < N := fun k hk => ⟨by rw [q6 k hk]; exact (hR k hk).1, (hR k hk).2⟩
    have hwl := wlk_le (R := R) hb (fun k hk => (hR k hk).2) (n r) 0 p (by omega) hp
    cases hw : wlk K O T R (n r) 0 p with
    | mk w0 pe =>
    rw [hw] at hwl
    have hw0 : w0 ≤ n r := hwl.1
    simp (disch := omega) only [W923, r_2, r_Li, h80_948, s_40, r_4, r_La, h60_9_12, h79_303, s_41, s_0, ci_m1, r_90, h60_9_0, h60_0_1, ci_1, h79_951, ci_0, h60_3_5, r_11, h79_8, ci_3, r_5, h60_0_2, r_49, h79_5, h79_306, r_47, r_52, h60_9_10, h60_9_5, h60_6_0, s_8, r_In, h79_2, h61_9_15, h68_1, h64_31, h65_31, h64_sf, h65_sf, enR, LG, LSt, LC, nlR, psR, TK, up_s, up_n, up_u, lt_nI, le_nI, eq_nI, true_and, and_true, if_true, if_false, Nat.zero_add, Nat.add_zero, nI_add, ↓reduceIte, Nat.reduceAdd, Nat.reduceMul, Nat.reduceSub, Nat.reduceLT, Nat.reduceLeDiff, Nat.reduceEqDiff, Nat.not_lt_zero, Nat.lt_irrefl, decide_true, BEq.rfl, nm1, nm2, nm3, nm4, nm9, ngc, eq_self, List.length_cons, List.length_nil, c_isRow, hr6, hq, hl, h9, c_hasPlace hl hC, hp, hto6, q2, c_within (show r < 10 by omega) q3 hcap, hf']
    have := lp_cfeels (d := d + 16) (z := z) (X := X) (M := (a, b, e, o)) (s := s) (v := v) (g := g) (w := w) (ct := ct) (cn := cn) (cc := cc) (di := di) (dr := dr) (df := df) (sf := sf) (sl := sl) (Q := OKc (d + 20) 1051 [.int (nI r), .int (nI p), .int (nI to)] t X (a, b, e, o)) (r := r) (u := to) (m := n r) (p0 := p) (w0 := w0) (pe := pe) (R := R) hl hq hC hb hS hr6 hto6 q3 q4 hR hw0 (fun τ hτ => ?_) (n r) 0 p (g 31) (by omega) (fun i hi => absurd hi (by omega)) hp hw
    · rw [up_id (rfl : g 31 = g 31)] at this
      exact this
    · refine okc ?_
      rw [cw_wp]
      simp (disch := omega) only [W1051, r_2, r_Li, h80_1007, s_40, r_4, r_La, h79_1029, s_41, s_0, ci_m1, r_90, h79_1009, r_5, s_43, ci_0, h60_10_5, r_49, h79_1011, h79_1030, ci_3, h79_1002, s_8, r_In, ci_1, r_52, h79_1038, ci_m9, r_46, h60_10_7, h79_1032, h79_1013, r_32, h79_1012, h79_1003, h64_69, h65_69, h64_71, h65_71, enR, LG, LSt, LC, nlR, psR, TK, up_s, up_n, up_u, lt_nI, le_nI, eq_nI, true_and, and_true, if_true, if_false, Nat.zero_add, Nat.add_zero, nI_add, ↓reduceIte, Nat.reduceAdd, Nat.reduceMul, Nat.reduceSub, Nat.reduceLT, Nat.reduceLeDiff, Nat.reduceEqDiff, Nat.not_lt_zero, Nat.lt_irrefl, decide_true, BEq.rfl, nm1, nm2, nm3, nm4, nm9, ngc, eq_self, List.length_cons, List.length_nil, m_isRow, hr5, m_isPlace hM, hp2, hto5, m_asked_ok hr6 q5]
      refine (hloop _ _).mpr ?_
      rw [if_pos (show allb (wth (cc r) (nI 0) (nI N - nI 1)) 0 (n r) = true from hf)]
      have h2 := lp_mfeels2 (d := d + 16) (z := z) (X := X) (C := (va_up s 15 (nI pe), v, va_up g 31 τ, w, q, va_up ct to (nI 1), va_up cn to (nI w0), va_up cc to (va_cpy τ (fil (cc to) 0 40 (nI 0)) 0 0 w0), di, dr, df, li, la, sf, sl)) (a := a) (b := b) (e := e) (o := o) (Q := OKm (nI w0) t X (va_up s 15 (nI pe), v, va_up g 31 τ, w, q, va_up ct to (nI 1), va_up cn to (nI w0), va_up cc to (va_cpy τ (fil (cc to) 0 40 (nI 0)) 0 0 w0), di, dr, df, li, la, sf, sl)) (r := r) (u := to) (m := n r) (p0 := p) (w0 := w0) (pe := pe) (R := R) (x4 := nI 0) hM hb hr6 hto6 q4 q5 hR7 hw0 (fun μ y hy1 hy2 => ?_) (n r) 0 p (e 71) (by omega) (fun i hi => absurd hi (by omega)) hp hw
      · rw [up_id (rfl : e 71 = e 71)] at h2
        exact h2
      · have H0 : RL t z s v (va_up g 31 τ) w q ct cn cc di dr df li la sf sl a b (va_up e 71 μ) o B n P N W K O T J l Ds Dr Df Dp KB := H
        have H1 : RL t z s v (va_up g 31 τ) w q (va_up ct to (nI 1)) (va_up cn to (nI w0)) (va_up cc to (va_cpy τ (fil (cc to) 0 40 (nI 0)) 0 0 w0)) di dr df li la sf sl a b (va_up (va_up (va_up e 71 μ) 69 (upd (e 69) to (nI w0))) 70 y) o (va_up B to true) (va_up n to w0) P N W K O T J l Ds Dr Df Dp KB := by
          obtain ⟨h1, h2, h3, h4, h5, h6, h7⟩ := H0
          refine ⟨h1, ic_row h2 hto6 (show w0 ≤ 40 by omega) (fun j hj => ?_) (fun j hj => hy2 j hj), h3, h4, h5, h6, h7⟩
          rw [up_s, hy1 j hj]
          unfold va_cpy
          rw [if_pos (by omega), show 0 + (j - 0) = j by omega]
          exact (hτ j hj).symm
        exact okm (rl_inv (rl_ask H1))
end

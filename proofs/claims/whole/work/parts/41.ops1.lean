/-! rows and texts: the calls -/
theorem lN_lt63 {a b : Nat} (ha : a < 9223372036854775808) (hb : b < 9223372036854775808) : lN a < lN b ↔ a < b := by
  have h : ∀ m, m < 9223372036854775808 → (lN m).toInt = (m : Int) := fun m h => Int64.toInt_ofNat_of_lt (by omega)
  rw [Int64.lt_iff_toInt_lt, h a ha, h b hb]
  omega
theorem lN_z {n : Nat} (h0 : 0 < n) (h : n < 2147483648) : (lN n = 0) = False := eq_false (fun e => by
  have := (lN_eq h (by decide : 0 < 2 ^ 31)).mp e
  omega)
theorem nI_of' {x : Int32} (h : ¬ x < nI 0) : ∃ j, j < 2147483648 ∧ x = nI j := nI_of (by rw [← nI_0]; exact h)
theorem nI_nl {n : Nat} (h : n < 2147483648) : (nI n).toInt64 = lN n := nI_l h
theorem ic_row {B : Nat → Bool} {n : Nat → Nat} {ct cn : Nat → Int32} {cc : Nat → Nat → Int32} {e69 e70 e72 e73 y γ : Nat → Int32} {r k : Nat} (h : I_cells B n ct cn cc e69 e70 e72 e73) (hr : r < 6) (hk : k ≤ 40) (hγ : ∀ j, j < k → y (40 * r + j) = γ j) (hy : ∀ j, (j < 40 * r ∨ 40 * r + 40 ≤ j) → y j = e70 j) :
    I_cells (va_up B r true) (va_up n r k) (va_up ct r (nI 1)) (va_up cn r (nI k)) (va_up cc r γ) (upd e69 r (nI k)) y e72 e73 := by
  obtain ⟨h1, h2, h3⟩ := h
  have hcap : cap r = 40 := if_pos hr
  refine ⟨fun c hc => ?_, fun r' hr' => ?_, fun t ht => ?_⟩
  · by_cases e : c = r
    · subst e
      rw [up_s, up_s, up_s, up_s]
      exact ⟨rfl, rfl, by omega, fun h => by cases h⟩
    · simp only [up_n _ _ e]
      exact h1 c hc
  · by_cases e : r' = r
    · subst e
      simp only [up_s, ud_s]
      exact ⟨rfl, hγ⟩
    · simp only [up_n _ _ e, ud_n _ _ e]
      refine ⟨(h2 r' hr').1, fun j hj => ?_⟩
      have h4 := (h1 r' (by omega)).2.2.1
      have h5 : cap r' = 40 := if_pos hr'
      rw [hy _ (by omega)]
      exact (h2 r' hr').2 j hj
  · simp only [up_n B _ (show 6 + t ≠ r by omega), up_n n _ (show 6 + t ≠ r by omega), up_n cc _ (show 6 + t ≠ r by omega)]
    exact h3 t ht
theorem ic_text {B : Nat → Bool} {n : Nat → Nat} {ct cn : Nat → Int32} {cc : Nat → Nat → Int32} {e69 e70 e72 e73 y γ : Nat → Int32} {r k : Nat} (h : I_cells B n ct cn cc e69 e70 e72 e73) (hr : r < 4) (hk : k ≤ 80) (hγ : ∀ j, j < k → y (80 * r + j) = γ j) (hy : ∀ j, (j < 80 * r ∨ 80 * r + 80 ≤ j) → y j = e73 j) :
    I_cells (va_up B (6 + r) true) (va_up n (6 + r) k) (va_up ct (6 + r) (nI 1)) (va_up cn (6 + r) (nI k)) (va_up cc (6 + r) γ) e69 e70 (upd e72 r (nI k)) y := by
  obtain ⟨h1, h2, h3⟩ := h
  have hcap : cap (6 + r) = 80 := if_neg (by omega)
  refine ⟨fun c hc => ?_, fun r' hr' => ?_, fun t ht => ?_⟩
  · by_cases e : c = 6 + r
    · subst e
      rw [up_s, up_s, up_s, up_s]
      exact ⟨rfl, rfl, by omega, fun h => by cases h⟩
    · simp only [up_n _ _ e]
      exact h1 c hc
  · simp only [up_n B _ (show r' ≠ 6 + r by omega), up_n n _ (show r' ≠ 6 + r by omega), up_n cc _ (show r' ≠ 6 + r by omega)]
    exact h2 r' hr'
  · by_cases e : t = r
    · subst e
      simp only [up_s, ud_s]
      exact ⟨rfl, hγ⟩
    · simp only [up_n B _ (show 6 + t ≠ 6 + r by omega), up_n n _ (show 6 + t ≠ 6 + r by omega), up_n cc _ (show 6 + t ≠ 6 + r by omega), ud_n _ _ e]
      refine ⟨(h3 t ht).1, fun j hj => ?_⟩
      have h4 := (h1 (6 + t) (by omega)).2.2.1
      have h5 : cap (6 + t) = 80 := if_neg (by omega)
      rw [hy _ (by omega)]
      exact (h3 t ht).2 j hj
/-- the contents of a row anew, the row as it was -/
theorem ic_set {B : Nat → Bool} {n : Nat → Nat} {ct cn : Nat → Int32} {cc : Nat → Nat → Int32} {e69 e70 e72 e73 y γ : Nat → Int32} {r : Nat} (h : I_cells B n ct cn cc e69 e70 e72 e73) (hr : r < 6) (hγ : ∀ j, j < n r → y (40 * r + j) = γ j) (hy : ∀ j, (j < 40 * r ∨ 40 * r + 40 ≤ j) → y j = e70 j) :
    I_cells B n ct cn (va_up cc r γ) e69 y e72 e73 := by
  obtain ⟨h1, h2, h3⟩ := h
  refine ⟨h1, fun r' hr' => ?_, fun t ht => ?_⟩
  · by_cases e : r' = r
    · subst e
      simp only [up_s]
      exact ⟨(h2 r' hr').1, hγ⟩
    · simp only [up_n _ _ e]
      refine ⟨(h2 r' hr').1, fun j hj => ?_⟩
      have h4 := (h1 r' (by omega)).2.2.1
      have h5 : cap r' = 40 := if_pos hr'
      rw [hy _ (by omega)]
      exact (h2 r' hr').2 j hj
  · simp only [up_n cc _ (show 6 + t ≠ r by omega)]
    exact h3 t ht
theorem ic_setT {B : Nat → Bool} {n : Nat → Nat} {ct cn : Nat → Int32} {cc : Nat → Nat → Int32} {e69 e70 e72 e73 y γ : Nat → Int32} {r : Nat} (h : I_cells B n ct cn cc e69 e70 e72 e73) (hr : r < 4) (hγ : ∀ j, j < n (6 + r) → y (80 * r + j) = γ j) (hy : ∀ j, (j < 80 * r ∨ 80 * r + 80 ≤ j) → y j = e73 j) :
    I_cells B n ct cn (va_up cc (6 + r) γ) e69 e70 e72 y := by
  obtain ⟨h1, h2, h3⟩ := h
  refine ⟨h1, fun r' hr' => ?_, fun t ht => ?_⟩
  · simp only [up_n cc _ (show r' ≠ 6 + r by omega)]
    exact h2 r' hr'
  · by_cases e : t = r
    · subst e
      simp only [up_s]
      exact ⟨(h3 t ht).1, hγ⟩
    · simp only [up_n cc _ (show 6 + t ≠ 6 + r by omega)]
      refine ⟨(h3 t ht).1, fun j hj => ?_⟩
      have h4 := (h1 (6 + t) (by omega)).2.2.1
      have h5 : cap (6 + t) = 80 := if_neg (by omega)
      rw [hy _ (by omega)]
      exact (h3 t ht).2 j hj
theorem ic_drop {B : Nat → Bool} {n : Nat → Nat} {ct cn : Nat → Int32} {cc : Nat → Nat → Int32} {e69 e70 e72 e73 : Nat → Int32} {r : Nat} (h : I_cells B n ct cn cc e69 e70 e72 e73) (hr : r < 6) :
    I_cells (va_up B r false) (va_up n r 0) (va_up ct r (nI 0)) (va_up cn r (nI 0)) cc (upd e69 r (-9)) e70 e72 e73 := by
  obtain ⟨h1, h2, h3⟩ := h
  refine ⟨fun c hc => ?_, fun r' hr' => ?_, fun t ht => ?_⟩
  · by_cases e : c = r
    · subst e
      rw [up_s, up_s, up_s, up_s]
      exact ⟨rfl, rfl, by omega, fun _ => rfl⟩
    · simp only [up_n _ _ e]
      exact h1 c hc
  · by_cases e : r' = r
    · subst e
      simp only [up_s, ud_s]
      exact ⟨rfl, fun k hk => absurd hk (by omega)⟩
    · simp only [up_n _ _ e, ud_n _ _ e]
      exact h2 r' hr'
  · simp only [up_n B _ (show 6 + t ≠ r by omega), up_n n _ (show 6 + t ≠ r by omega)]
    exact h3 t ht
section
variable {t d : Nat} {z : AZ} {X : Nat × (Nat → Int32)} {C : CT} {M : MT} {s : Nat → Int32} {v : Nat → Int64} {g : Nat → Nat → Int32} {w : Nat → Nat → Int64} {q : Nat → Nat} {ct : Nat → Int32} {cn : Nat → Int32} {cc : Nat → Nat → Int32} {di : Nat → Nat → Int32} {dr : Nat → Nat → Int32} {df : Nat → Nat → Int32} {li : Nat → Nat → Int32} {la : Nat → Nat → Nat → Int32} {sf : Nat → Nat → Int32} {sl : Nat → Nat → Int32} {a : Nat → Int32} {b : Nat → Int64} {e : Nat → Nat → Int32} {o : Nat → Nat → Int64} {B : Nat → Bool} {n : Nat → Nat} {P N W : Nat} {K O T J : Nat → Nat} {l : Nat} {Ds : Nat → Nat} {Dr Df Dp : Nat → Nat → Nat} {KB : Nat → Bool}
theorem rl_rows {x y : Nat → Int32} {B' : Nat → Bool} {n' : Nat → Nat} {ct' cn' : Nat → Int32} {cc' : Nat → Nat → Int32} (H : RL t z s v g w q ct cn cc di dr df li la sf sl a b e o B n P N W K O T J l Ds Dr Df Dp KB) (h : I_cells B' n' ct' cn' cc' x y (e 72) (e 73)) : RL (t + 1) z s v g w q (ct') (cn') (cc') di dr df li la sf sl a b (va_up (va_up e 69 x) 70 y) o (B') (n') P N W K O T J l Ds Dr Df Dp KB := by
  obtain ⟨h1, h2, h3, h4, h5, h6, h7⟩ := H
  exact ⟨h1, h, h3, h4, h5, h6, seen_up h7⟩
theorem rl_row1 {y : Nat → Int32} {B' : Nat → Bool} {n' : Nat → Nat} {ct' cn' : Nat → Int32} {cc' : Nat → Nat → Int32} (H : RL t z s v g w q ct cn cc di dr df li la sf sl a b e o B n P N W K O T J l Ds Dr Df Dp KB) (h : I_cells B' n' ct' cn' cc' (e 69) y (e 72) (e 73)) : RL (t + 1) z s v g w q (ct') (cn') (cc') di dr df li la sf sl a b (va_up e 70 y) o (B') (n') P N W K O T J l Ds Dr Df Dp KB := by
  obtain ⟨h1, h2, h3, h4, h5, h6, h7⟩ := H
  exact ⟨h1, h, h3, h4, h5, h6, seen_up h7⟩
theorem rl_row0 {x : Nat → Int32} {B' : Nat → Bool} {n' : Nat → Nat} {ct' cn' : Nat → Int32} {cc' : Nat → Nat → Int32} (H : RL t z s v g w q ct cn cc di dr df li la sf sl a b e o B n P N W K O T J l Ds Dr Df Dp KB) (h : I_cells B' n' ct' cn' cc' x (e 70) (e 72) (e 73)) : RL (t + 1) z s v g w q (ct') (cn') (cc') di dr df li la sf sl a b (va_up e 69 x) o (B') (n') P N W K O T J l Ds Dr Df Dp KB := by
  obtain ⟨h1, h2, h3, h4, h5, h6, h7⟩ := H
  exact ⟨h1, h, h3, h4, h5, h6, seen_up h7⟩
theorem rl_texts {x y : Nat → Int32} {B' : Nat → Bool} {n' : Nat → Nat} {ct' cn' : Nat → Int32} {cc' : Nat → Nat → Int32} (H : RL t z s v g w q ct cn cc di dr df li la sf sl a b e o B n P N W K O T J l Ds Dr Df Dp KB) (h : I_cells B' n' ct' cn' cc' (e 69) (e 70) x y) : RL (t + 1) z s v g w q (ct') (cn') (cc') di dr df li la sf sl a b (va_up (va_up e 72 x) 73 y) o (B') (n') P N W K O T J l Ds Dr Df Dp KB := by
  obtain ⟨h1, h2, h3, h4, h5, h6, h7⟩ := H
  exact ⟨h1, h, h3, h4, h5, h6, seen_up h7⟩
theorem rl_text1 {y : Nat → Int32} {B' : Nat → Bool} {n' : Nat → Nat} {ct' cn' : Nat → Int32} {cc' : Nat → Nat → Int32} (H : RL t z s v g w q ct cn cc di dr df li la sf sl a b e o B n P N W K O T J l Ds Dr Df Dp KB) (h : I_cells B' n' ct' cn' cc' (e 69) (e 70) (e 72) y) : RL (t + 1) z s v g w q (ct') (cn') (cc') di dr df li la sf sl a b (va_up e 73 y) o (B') (n') P N W K O T J l Ds Dr Df Dp KB := by
  obtain ⟨h1, h2, h3, h4, h5, h6, h7⟩ := H
  exact ⟨h1, h, h3, h4, h5, h6, seen_up h7⟩
/-- what the invariant says of one row, one text -/
theorem rl_r {r : Nat} (H : RL t z s v g w q ct cn cc di dr df li la sf sl a b e o B n P N W K O T J l Ds Dr Df Dp KB) (hr : r < 6) : (B r = false ∧ ct r = nI 0 ∧ cn r = nI 0 ∧ n r = 0 ∧ e 69 r = -9) ∨ (B r = true ∧ ct r = nI 1 ∧ cn r = nI (n r) ∧ n r ≤ 40 ∧ e 69 r = nI (n r) ∧ ∀ k, k < n r → e 70 (40 * r + k) = cc r k) := by
  obtain ⟨h1, ⟨h2, h22, h23⟩, h3, h4, h5, h6, h7⟩ := H
  obtain ⟨q1, q2, q3, q4⟩ := h2 r (by omega)
  obtain ⟨q5, q6⟩ := h22 r hr
  have h8 : cap r = 40 := if_pos hr
  cases hB : B r with
  | false => rw [hB] at q1 q5; exact Or.inl ⟨rfl, q1, by rw [q2, q4 hB], q4 hB, q5⟩
  | true => rw [hB] at q1 q5; exact Or.inr ⟨rfl, q1, q2, by omega, q5, q6⟩
theorem rl_x {r : Nat} (H : RL t z s v g w q ct cn cc di dr df li la sf sl a b e o B n P N W K O T J l Ds Dr Df Dp KB) (hr : r < 4) : (B (6 + r) = false ∧ ct (6 + r) = nI 0 ∧ cn (6 + r) = nI 0 ∧ n (6 + r) = 0 ∧ e 72 r = -9) ∨ (B (6 + r) = true ∧ ct (6 + r) = nI 1 ∧ cn (6 + r) = nI (n (6 + r)) ∧ n (6 + r) ≤ 80 ∧ e 72 r = nI (n (6 + r)) ∧ ∀ k, k < n (6 + r) → e 73 (80 * r + k) = cc (6 + r) k) := by
  obtain ⟨h1, ⟨h2, h22, h23⟩, h3, h4, h5, h6, h7⟩ := H
  obtain ⟨q1, q2, q3, q4⟩ := h2 (6 + r) (by omega)
  obtain ⟨q5, q6⟩ := h23 r hr
  have h8 : cap (6 + r) = 80 := if_neg (by omega)
  cases hB : B (6 + r) with
  | false => rw [hB] at q1 q5; exact Or.inl ⟨rfl, q1, by rw [q2, q4 hB], q4 hB, q5⟩
  | true => rw [hB] at q1 q5; exact Or.inr ⟨rfl, q1, q2, by omega, q5, q6⟩
end
section
variable {d : Nat} {z : AZ} {f : AH} {Q : Option Value → AZ → AH → Prop} {X : Nat × (Nat → Int32)} {C : CT} {a : Nat → Int32} {b : Nat → Int64} {e : Nat → Nat → Int32} {o : Nat → Nat → Int64}
theorem lp_mrow {r y : Nat} (hr : r < 6) : ∀ (p k : Nat) (e : Nat → Nat → Int32), k + p = 40 → (Wp (d + 2) 1013 34 [some (.ref 67), some (.int (nI r)), some (.int (nI y)), some (.int (nI k))] [] z (Hp X C (a, b, e, o)) Q ↔ Q (some (.int (nI y))) z (Hp X C (a, b, va_up e 70 (fil (e 70) (40 * r + k) (40 * r + 40) (nI 0)), o))) := by
  intro p
  induction p with
  | zero =>
    intro k e hk
    have hk : k = 40 := by omega
    subst hk
    rw [W1013_34, fil_done, up_id rfl]
    simp (disch := omega) only [W1013, r_2, r_Li, h80_1007, s_40, s_0, ci_40, r_51, ci_m1, r_90, s_43, r_4, r_La, ci_5, h79_1002, h60_10_5, ci_0, r_5, r_49, h79_1012, s_8, r_In, ci_1, r_52, h65_69, enR, LG, LSt, LC, nlR, psR, TK, up_s, up_n, up_u, lt_nI, le_nI, eq_nI, true_and, and_true, if_true, if_false, Nat.zero_add, Nat.add_zero, nI_add, ↓reduceIte, Nat.reduceAdd, Nat.reduceMul, Nat.reduceSub, Nat.reduceLT, Nat.reduceLeDiff, Nat.reduceEqDiff, Nat.not_lt_zero, Nat.lt_irrefl, decide_true, BEq.rfl, nm1, nm2, nm3, nm4, nm9, ngc, eq_self, List.length_cons, List.length_nil]
  | succ p ih =>
    intro k e hk
    have h1 : k < 40 := by omega
    rw [W1013_34]
    simp (disch := omega) only [W1013, r_2, r_Li, h80_1007, s_40, s_0, ci_40, r_51, ci_m1, r_90, s_43, r_4, r_La, ci_5, h79_1002, h60_10_5, ci_0, r_5, r_49, h79_1012, s_8, r_In, ci_1, r_52, h65_69, enR, LG, LSt, LC, nlR, psR, TK, up_s, up_n, up_u, lt_nI, le_nI, eq_nI, true_and, and_true, if_true, if_false, Nat.zero_add, Nat.add_zero, nI_add, ↓reduceIte, Nat.reduceAdd, Nat.reduceMul, Nat.reduceSub, Nat.reduceLT, Nat.reduceLeDiff, Nat.reduceEqDiff, Nat.not_lt_zero, Nat.lt_irrefl, decide_true, BEq.rfl, nm1, nm2, nm3, nm4, nm9, ngc, eq_self, List.length_cons, List.length_nil, h1, m_setRow]
    rw [ih (k + 1) _ (by omega), up_u, up_s, ← Nat.add_assoc, fil_upd _ _ _ _ (by omega)]
theorem m_row {r y : Nat} (hr : r < 6) (hy : y ≤ 40) : Cw (d + 3) 1013 [.ref 67, .int (nI r), .int (nI y)] z (Hp X C (a, b, e, o)) Q ↔ Q (some (.int (nI y))) z (Hp X C (a, b, va_up (va_up e 69 (upd (e 69) r (nI y))) 70 (fil (e 70) (40 * r) (40 * r + 40) (nI 0)), o)) := by
  have h1 : ¬ 5 < r := by omega
  have h2 : ¬ 40 < y := by omega
  rw [cw_wp]
  simp (disch := omega) only [W1013, r_2, r_Li, h80_1007, s_40, s_0, ci_40, r_51, ci_m1, r_90, s_43, r_4, r_La, ci_5, h79_1002, h60_10_5, ci_0, r_5, r_49, h79_1012, s_8, r_In, ci_1, r_52, h65_69, enR, LG, LSt, LC, nlR, psR, TK, up_s, up_n, up_u, lt_nI, le_nI, eq_nI, true_and, and_true, if_true, if_false, Nat.zero_add, Nat.add_zero, nI_add, ↓reduceIte, Nat.reduceAdd, Nat.reduceMul, Nat.reduceSub, Nat.reduceLT, Nat.reduceLeDiff, Nat.reduceEqDiff, Nat.not_lt_zero, Nat.lt_irrefl, decide_true, BEq.rfl, nm1, nm2, nm3, nm4, nm9, ngc, eq_self, List.length_cons, List.length_nil, hr, h1, h2, m_isRow]
  rw [lp_mrow hr 40 0 _ (by omega), up_n e _ (show 70 ≠ 69 by decide), Nat.add_zero]
theorem lp_mtext {r y : Nat} (hr : r < 4) : ∀ (p k : Nat) (e : Nat → Nat → Int32), k + p = 80 → (Wp (d + 2) 1019 34 [some (.ref 67), some (.int (nI r)), some (.int (nI y)), some (.int (nI k))] [] z (Hp X C (a, b, e, o)) Q ↔ Q (some (.int (nI y))) z (Hp X C (a, b, va_up e 73 (fil (e 73) (80 * r + k) (80 * r + 80) (nI 32)), o))) := by
  intro p
  induction p with
  | zero =>
    intro k e hk
    have hk : k = 80 := by omega
    subst hk
    rw [W1019_34, fil_done, up_id rfl]
    simp (disch := omega) only [W1019, r_2, r_Li, h80_1008, s_40, s_0, ci_80, r_51, ci_m1, r_90, s_43, r_4, r_La, ci_5, h79_1002, h60_10_8, ci_0, r_5, r_49, h60_10_9, r_12, r_10, ci_32, s_8, r_In, ci_1, r_52, h65_72, h65_73, enR, LG, LSt, LC, nlR, psR, TK, up_s, up_n, up_u, lt_nI, le_nI, eq_nI, true_and, and_true, if_true, if_false, Nat.zero_add, Nat.add_zero, nI_add, ↓reduceIte, Nat.reduceAdd, Nat.reduceMul, Nat.reduceSub, Nat.reduceLT, Nat.reduceLeDiff, Nat.reduceEqDiff, Nat.not_lt_zero, Nat.lt_irrefl, decide_true, BEq.rfl, nm1, nm2, nm3, nm4, nm9, ngc, eq_self, List.length_cons, List.length_nil]
  | succ p ih =>
    intro k e hk
    have h1 : k < 80 := by omega
    rw [W1019_34]
    simp (disch := omega) only [W1019, r_2, r_Li, h80_1008, s_40, s_0, ci_80, r_51, ci_m1, r_90, s_43, r_4, r_La, ci_5, h79_1002, h60_10_8, ci_0, r_5, r_49, h60_10_9, r_12, r_10, ci_32, s_8, r_In, ci_1, r_52, h65_72, h65_73, enR, LG, LSt, LC, nlR, psR, TK, up_s, up_n, up_u, lt_nI, le_nI, eq_nI, true_and, and_true, if_true, if_false, Nat.zero_add, Nat.add_zero, nI_add, ↓reduceIte, Nat.reduceAdd, Nat.reduceMul, Nat.reduceSub, Nat.reduceLT, Nat.reduceLeDiff, Nat.reduceEqDiff, Nat.not_lt_zero, Nat.lt_irrefl, decide_true, BEq.rfl, nm1, nm2, nm3, nm4, nm9, ngc, eq_self, List.length_cons, List.length_nil, h1, nI_mul]
    rw [ih (k + 1) _ (by omega), up_u, up_s, ← Nat.add_assoc, fil_upd _ _ _ _ (by omega)]
theorem lp_mmean {r m : Nat} (hr : r < 6) (hm : m ≤ 40) (h0 : 0 < m) (h : e 69 r = nI m) {x0 : Int32} : ∀ (p k : Nat) (u : Int64), k + p = m → (Wp (d + 3) 1018 17 [some (.ref 67), some (.int (nI r)), some (.int x0), some (.long u), none, some (.int (nI k))] [] z (Hp X C (a, b, e, o)) Q ↔ Q (some (.int (nI 1))) z (Hp X C (va_up a 2 (foldu (smF (fun j => e 70 (40 * r + j))) k p u / lN m).toInt32, b, e, o))) := by
  have h1 : ¬ m = 0 := by omega
  intro p
  induction p with
  | zero =>
    intro k u hk
    have hk : k = m := by omega
    subst hk
    rw [W1018_17]
    simp (disch := omega) only [W1018, r_4, r_La, r_2, r_Li, h79_1009, r_5, s_43, r_90, s_1, cl_0, r_6, s_0, ci_0, h60_10_5, r_49, r_3, r_Ll, h79_1011, r_26, r_21, s_8, r_In, ci_1, r_52, s_41, ci_4, h79_1002, r_23, r_27, h79_1003, h64_69, enR, LG, LSt, LC, nlR, psR, TK, up_s, up_n, up_u, lt_nI, le_nI, eq_nI, true_and, and_true, if_true, if_false, Nat.zero_add, Nat.add_zero, nI_add, ↓reduceIte, Nat.reduceAdd, Nat.reduceMul, Nat.reduceSub, Nat.reduceLT, Nat.reduceLeDiff, Nat.reduceEqDiff, Nat.not_lt_zero, Nat.lt_irrefl, decide_true, BEq.rfl, nm1, nm2, nm3, nm4, nm9, ngc, eq_self, List.length_cons, List.length_nil, h, h1, foldu, nI_nl, lN_z, m_ask, not_false_eq_true]
  | succ p ih =>
    intro k u hk
    have h1 : k < m := by omega
    rw [W1018_17]
    simp (disch := omega) only [W1018, r_4, r_La, r_2, r_Li, h79_1009, r_5, s_43, r_90, s_1, cl_0, r_6, s_0, ci_0, h60_10_5, r_49, r_3, r_Ll, h79_1011, r_26, r_21, s_8, r_In, ci_1, r_52, s_41, ci_4, h79_1002, r_23, r_27, h79_1003, h64_69, enR, LG, LSt, LC, nlR, psR, TK, up_s, up_n, up_u, lt_nI, le_nI, eq_nI, true_and, and_true, if_true, if_false, Nat.zero_add, Nat.add_zero, nI_add, ↓reduceIte, Nat.reduceAdd, Nat.reduceMul, Nat.reduceSub, Nat.reduceLT, Nat.reduceLeDiff, Nat.reduceEqDiff, Nat.not_lt_zero, Nat.lt_irrefl, decide_true, BEq.rfl, nm1, nm2, nm3, nm4, nm9, ngc, eq_self, List.length_cons, List.length_nil, h, h1, m_rowAt]
    exact ih (k + 1) _ (by omega)
end
section
variable {t d : Nat} {z : AZ} {X : Nat × (Nat → Int32)} {C : CT} {M : MT} {s : Nat → Int32} {v : Nat → Int64} {g : Nat → Nat → Int32} {w : Nat → Nat → Int64} {q : Nat → Nat} {ct : Nat → Int32} {cn : Nat → Int32} {cc : Nat → Nat → Int32} {di : Nat → Nat → Int32} {dr : Nat → Nat → Int32} {df : Nat → Nat → Int32} {li : Nat → Nat → Int32} {la : Nat → Nat → Nat → Int32} {sf : Nat → Nat → Int32} {sl : Nat → Nat → Int32} {a : Nat → Int32} {b : Nat → Int64} {e : Nat → Nat → Int32} {o : Nat → Nat → Int64} {B : Nat → Bool} {n : Nat → Nat} {P N W : Nat} {K O T J : Nat → Nat} {l : Nat} {Ds : Nat → Nat} {Dr Df Dp : Nat → Nat → Nat} {KB : Nat → Bool}
theorem c_refCell_no {c : Nat} {x : Int32} (hc : c < 10) (h : ct c = nI 0) {Q : Option Value → AZ → AH → Prop} : Cw (d + 2) 954 [.ref 0, .ref (co c), .int x] z (Hp X (s, v, g, w, q, ct, cn, cc, di, dr, df, li, la, sf, sl) M) Q ↔ Q (some (.int (-3))) z (Hp X (va_up s 18 (nI 1), v, va_up g 32 (upd (g 32) 1 (g 32 1 + nI 1)), w, q, ct, cn, cc, di, dr, df, li, la, sf, sl) M) := by
  rw [cw_wp]
  simp (disch := omega) only [W954, r_4, r_La, h60_0_1, s_41, s_0, ci_1, h79_951, r_90, r_2, r_Li, h79_4, s_40, ci_0, r_52, ci_2, enR, LG, LSt, LC, nlR, psR, TK, up_s, up_n, up_u, lt_nI, le_nI, eq_nI, true_and, and_true, if_true, if_false, Nat.zero_add, Nat.add_zero, nI_add, ↓reduceIte, Nat.reduceAdd, Nat.reduceMul, Nat.reduceSub, Nat.reduceLT, Nat.reduceLeDiff, Nat.reduceEqDiff, Nat.not_lt_zero, Nat.lt_irrefl, decide_true, BEq.rfl, nm1, nm2, nm3, nm4, nm9, ngc, eq_self, List.length_cons, List.length_nil, hc, h, c_found]
theorem c_refCell_out {c m : Nat} {x : Int32} (hc : c < 10) (h : ct c = nI 1) (hn : cn c = nI m) (hx : x < nI 0 ∨ ¬ x < nI m) {Q : Option Value → AZ → AH → Prop} : Cw (d + 2) 954 [.ref 0, .ref (co c), .int x] z (Hp X (s, v, g, w, q, ct, cn, cc, di, dr, df, li, la, sf, sl) M) Q ↔ Q (some (.int (-3))) z (Hp X (va_up s 18 (nI 2), v, va_up g 32 (upd (g 32) 2 (g 32 2 + nI 1)), w, q, ct, cn, cc, di, dr, df, li, la, sf, sl) M) := by
  rw [cw_wp]
  by_cases h1 : x < nI 0
  · simp (disch := omega) only [W954, r_4, r_La, h60_0_1, s_41, s_0, ci_1, h79_951, r_90, r_2, r_Li, h79_4, s_40, ci_0, r_52, ci_2, enR, LG, LSt, LC, nlR, psR, TK, up_s, up_n, up_u, lt_nI, le_nI, eq_nI, true_and, and_true, if_true, if_false, Nat.zero_add, Nat.add_zero, nI_add, ↓reduceIte, Nat.reduceAdd, Nat.reduceMul, Nat.reduceSub, Nat.reduceLT, Nat.reduceLeDiff, Nat.reduceEqDiff, Nat.not_lt_zero, Nat.lt_irrefl, decide_true, BEq.rfl, nm1, nm2, nm3, nm4, nm9, ngc, eq_self, List.length_cons, List.length_nil, hc, h, c_hasx hc hn, h1, c_found]
  · have h2 := hx.resolve_left h1
    simp (disch := omega) only [W954, r_4, r_La, h60_0_1, s_41, s_0, ci_1, h79_951, r_90, r_2, r_Li, h79_4, s_40, ci_0, r_52, ci_2, enR, LG, LSt, LC, nlR, psR, TK, up_s, up_n, up_u, lt_nI, le_nI, eq_nI, true_and, and_true, if_true, if_false, Nat.zero_add, Nat.add_zero, nI_add, ↓reduceIte, Nat.reduceAdd, Nat.reduceMul, Nat.reduceSub, Nat.reduceLT, Nat.reduceLeDiff, Nat.reduceEqDiff, Nat.not_lt_zero, Nat.lt_irrefl, decide_true, BEq.rfl, nm1, nm2, nm3, nm4, nm9, ngc, eq_self, List.length_cons, List.length_nil, hc, h, c_hasx hc hn, h1, h2, c_found]
theorem c_refCell_ok {c m k : Nat} (hc : c < 10) (h : ct c = nI 1) (hn : cn c = nI m) (hk : k < m) (hm : m ≤ 80) {Q : Option Value → AZ → AH → Prop} : Cw (d + 2) 954 [.ref 0, .ref (co c), .int (nI k)] z (Hp X (s, v, g, w, q, ct, cn, cc, di, dr, df, li, la, sf, sl) M) Q ↔ Q (some (.int (nI 0))) z (Hp X (s, v, g, w, q, ct, cn, cc, di, dr, df, li, la, sf, sl) M) := by
  rw [cw_wp]
  simp (disch := omega) only [W954, r_4, r_La, h60_0_1, s_41, s_0, ci_1, h79_951, r_90, r_2, r_Li, h79_4, s_40, ci_0, r_52, ci_2, enR, LG, LSt, LC, nlR, psR, TK, up_s, up_n, up_u, lt_nI, le_nI, eq_nI, true_and, and_true, if_true, if_false, Nat.zero_add, Nat.add_zero, nI_add, ↓reduceIte, Nat.reduceAdd, Nat.reduceMul, Nat.reduceSub, Nat.reduceLT, Nat.reduceLeDiff, Nat.reduceEqDiff, Nat.not_lt_zero, Nat.lt_irrefl, decide_true, BEq.rfl, nm1, nm2, nm3, nm4, nm9, ngc, eq_self, List.length_cons, List.length_nil, hc, h, c_has hc hn, hk]
theorem op_row {x y : Int32} (H : RL t z s v g w q ct cn cc di dr df li la sf sl a b e o B n P N W K O T J l Ds Dr Df Dp KB) : OPI (d + 20) 901 1013 [.int x, .int y] t z X (s, v, g, w, q, ct, cn, cc, di, dr, df, li, la, sf, sl) (a, b, e, o) := by
  unfold OPI
  rw [cw_wp]
  rcases ix x (n := 5) (by decide) with h | ⟨h1, h2, h3⟩ | ⟨r, hr, rfl⟩
  · simp (disch := omega) only [W901, r_2, r_Li, h80_948, s_40, s_0, ci_40, r_51, ci_m1, r_90, s_43, r_4, r_La, ci_5, h79_951, h60_9_0, ci_0, h79_1, h68_1, enR, LG, LSt, LC, nlR, psR, TK, up_s, up_n, up_u, lt_nI, le_nI, eq_nI, true_and, and_true, if_true, if_false, Nat.zero_add, Nat.add_zero, nI_add, ↓reduceIte, Nat.reduceAdd, Nat.reduceMul, Nat.reduceSub, Nat.reduceLT, Nat.reduceLeDiff, Nat.reduceEqDiff, Nat.not_lt_zero, Nat.lt_irrefl, decide_true, BEq.rfl, nm1, nm2, nm3, nm4, nm9, ngc, eq_self, List.length_cons, List.length_nil, c_isRow, h]
    refine okc ?_
    rw [cw_wp]
    simp (disch := omega) only [W1013, r_2, r_Li, h80_1007, s_40, s_0, ci_40, r_51, ci_m1, r_90, s_43, r_4, r_La, ci_5, h79_1002, h60_10_5, ci_0, r_5, r_49, h79_1012, s_8, r_In, ci_1, r_52, h65_69, enR, LG, LSt, LC, nlR, psR, TK, up_s, up_n, up_u, lt_nI, le_nI, eq_nI, true_and, and_true, if_true, if_false, Nat.zero_add, Nat.add_zero, nI_add, ↓reduceIte, Nat.reduceAdd, Nat.reduceMul, Nat.reduceSub, Nat.reduceLT, Nat.reduceLeDiff, Nat.reduceEqDiff, Nat.not_lt_zero, Nat.lt_irrefl, decide_true, BEq.rfl, nm1, nm2, nm3, nm4, nm9, ngc, eq_self, List.length_cons, List.length_nil, m_isRow, h]
    exact okm (rl_inv (rl_t H))
  · simp (disch := omega) only [W901, r_2, r_Li, h80_948, s_40, s_0, ci_40, r_51, ci_m1, r_90, s_43, r_4, r_La, ci_5, h79_951, h60_9_0, ci_0, h79_1, h68_1, enR, LG, LSt, LC, nlR, psR, TK, up_s, up_n, up_u, lt_nI, le_nI, eq_nI, true_and, and_true, if_true, if_false, Nat.zero_add, Nat.add_zero, nI_add, ↓reduceIte, Nat.reduceAdd, Nat.reduceMul, Nat.reduceSub, Nat.reduceLT, Nat.reduceLeDiff, Nat.reduceEqDiff, Nat.not_lt_zero, Nat.lt_irrefl, decide_true, BEq.rfl, nm1, nm2, nm3, nm4, nm9, ngc, eq_self, List.length_cons, List.length_nil, c_isRow, h1, h2]
    refine okc ?_
    rw [cw_wp]
    simp (disch := omega) only [W1013, r_2, r_Li, h80_1007, s_40, s_0, ci_40, r_51, ci_m1, r_90, s_43, r_4, r_La, ci_5, h79_1002, h60_10_5, ci_0, r_5, r_49, h79_1012, s_8, r_In, ci_1, r_52, h65_69, enR, LG, LSt, LC, nlR, psR, TK, up_s, up_n, up_u, lt_nI, le_nI, eq_nI, true_and, and_true, if_true, if_false, Nat.zero_add, Nat.add_zero, nI_add, ↓reduceIte, Nat.reduceAdd, Nat.reduceMul, Nat.reduceSub, Nat.reduceLT, Nat.reduceLeDiff, Nat.reduceEqDiff, Nat.not_lt_zero, Nat.lt_irrefl, decide_true, BEq.rfl, nm1, nm2, nm3, nm4, nm9, ngc, eq_self, List.length_cons, List.length_nil, m_isRow, h1, h3]
    exact okm (rl_inv (rl_t H))
  · have hr6 : r < 6 := by omega
    have hr5 : ¬ 5 < r := by omega
    rcases ix y (n := 40) (by decide) with h | ⟨h1, h2, h3⟩ | ⟨k, hk, rfl⟩
    · have h40 : ¬ nI 40 < y := fun h' => by
        have e1 := Int32.lt_iff_toInt_lt.mp h
        have e2 := Int32.lt_iff_toInt_lt.mp h'
        rw [nI_toInt (by decide)] at e1 e2
        omega
      simp (disch := omega) only [W901, r_2, r_Li, h80_948, s_40, s_0, ci_40, r_51, ci_m1, r_90, s_43, r_4, r_La, ci_5, h79_951, h60_9_0, ci_0, h79_1, h68_1, enR, LG, LSt, LC, nlR, psR, TK, up_s, up_n, up_u, lt_nI, le_nI, eq_nI, true_and, and_true, if_true, if_false, Nat.zero_add, Nat.add_zero, nI_add, ↓reduceIte, Nat.reduceAdd, Nat.reduceMul, Nat.reduceSub, Nat.reduceLT, Nat.reduceLeDiff, Nat.reduceEqDiff, Nat.not_lt_zero, Nat.lt_irrefl, decide_true, BEq.rfl, nm1, nm2, nm3, nm4, nm9, ngc, eq_self, List.length_cons, List.length_nil, c_isRow, hr6, h, h40, c_found]
      refine okc ?_
      rw [cw_wp]
      simp (disch := omega) only [W1013, r_2, r_Li, h80_1007, s_40, s_0, ci_40, r_51, ci_m1, r_90, s_43, r_4, r_La, ci_5, h79_1002, h60_10_5, ci_0, r_5, r_49, h79_1012, s_8, r_In, ci_1, r_52, h65_69, enR, LG, LSt, LC, nlR, psR, TK, up_s, up_n, up_u, lt_nI, le_nI, eq_nI, true_and, and_true, if_true, if_false, Nat.zero_add, Nat.add_zero, nI_add, ↓reduceIte, Nat.reduceAdd, Nat.reduceMul, Nat.reduceSub, Nat.reduceLT, Nat.reduceLeDiff, Nat.reduceEqDiff, Nat.not_lt_zero, Nat.lt_irrefl, decide_true, BEq.rfl, nm1, nm2, nm3, nm4, nm9, ngc, eq_self, List.length_cons, List.length_nil, m_isRow, hr5, h, h40, m_meet]
      exact okm (rl_inv (rl_found (k := 5) (by decide) H))
    · simp (disch := omega) only [W901, r_2, r_Li, h80_948, s_40, s_0, ci_40, r_51, ci_m1, r_90, s_43, r_4, r_La, ci_5, h79_951, h60_9_0, ci_0, h79_1, h68_1, enR, LG, LSt, LC, nlR, psR, TK, up_s, up_n, up_u, lt_nI, le_nI, eq_nI, true_and, and_true, if_true, if_false, Nat.zero_add, Nat.add_zero, nI_add, ↓reduceIte, Nat.reduceAdd, Nat.reduceMul, Nat.reduceSub, Nat.reduceLT, Nat.reduceLeDiff, Nat.reduceEqDiff, Nat.not_lt_zero, Nat.lt_irrefl, decide_true, BEq.rfl, nm1, nm2, nm3, nm4, nm9, ngc, eq_self, List.length_cons, List.length_nil, c_isRow, hr6, h3]
      refine okc ?_
      rw [cw_wp]
      simp (disch := omega) only [W1013, r_2, r_Li, h80_1007, s_40, s_0, ci_40, r_51, ci_m1, r_90, s_43, r_4, r_La, ci_5, h79_1002, h60_10_5, ci_0, r_5, r_49, h79_1012, s_8, r_In, ci_1, r_52, h65_69, enR, LG, LSt, LC, nlR, psR, TK, up_s, up_n, up_u, lt_nI, le_nI, eq_nI, true_and, and_true, if_true, if_false, Nat.zero_add, Nat.add_zero, nI_add, ↓reduceIte, Nat.reduceAdd, Nat.reduceMul, Nat.reduceSub, Nat.reduceLT, Nat.reduceLeDiff, Nat.reduceEqDiff, Nat.not_lt_zero, Nat.lt_irrefl, decide_true, BEq.rfl, nm1, nm2, nm3, nm4, nm9, ngc, eq_self, List.length_cons, List.length_nil, m_isRow, hr5, h3]
      exact okm (rl_inv (rl_t H))
    · have h40 : ¬ 40 < k := by omega
      have hcap : cap r = 40 := if_pos hr6
      simp (disch := omega) only [W901, r_2, r_Li, h80_948, s_40, s_0, ci_40, r_51, ci_m1, r_90, s_43, r_4, r_La, ci_5, h79_951, h60_9_0, ci_0, h79_1, h68_1, enR, LG, LSt, LC, nlR, psR, TK, up_s, up_n, up_u, lt_nI, le_nI, eq_nI, true_and, and_true, if_true, if_false, Nat.zero_add, Nat.add_zero, nI_add, ↓reduceIte, Nat.reduceAdd, Nat.reduceMul, Nat.reduceSub, Nat.reduceLT, Nat.reduceLeDiff, Nat.reduceEqDiff, Nat.not_lt_zero, Nat.lt_irrefl, decide_true, BEq.rfl, nm1, nm2, nm3, nm4, nm9, ngc, eq_self, List.length_cons, List.length_nil, c_isRow, hr6, h40, hcap, c_renew]
      refine okc ?_
      rw [m_row hr6 hk]
      refine okm (rl_inv (rl_rows H (ic_row H.2.1 hr6 hk (fun j hj => ?_) (fun j hj => ?_))))
      · exact (if_pos (by omega)).trans (if_pos (by omega)).symm
      · exact if_neg (by omega)
theorem op_text {x y : Int32} (H : RL t z s v g w q ct cn cc di dr df li la sf sl a b e o B n P N W K O T J l Ds Dr Df Dp KB) : OPI (d + 20) 907 1019 [.int x, .int y] t z X (s, v, g, w, q, ct, cn, cc, di, dr, df, li, la, sf, sl) (a, b, e, o) := by
  unfold OPI
  rw [cw_wp]
  rcases ix x (n := 3) (by decide) with h | ⟨h1, h2, h3⟩ | ⟨r, hr, rfl⟩
  · simp (disch := omega) only [W907, r_2, r_Li, h80_949, s_40, s_0, ci_80, r_51, ci_m1, r_90, s_43, r_4, r_La, ci_5, h79_951, h60_9_1, ci_32, h79_1, h68_2, enR, LG, LSt, LC, nlR, psR, TK, up_s, up_n, up_u, lt_nI, le_nI, eq_nI, true_and, and_true, if_true, if_false, Nat.zero_add, Nat.add_zero, nI_add, ↓reduceIte, Nat.reduceAdd, Nat.reduceMul, Nat.reduceSub, Nat.reduceLT, Nat.reduceLeDiff, Nat.reduceEqDiff, Nat.not_lt_zero, Nat.lt_irrefl, decide_true, BEq.rfl, nm1, nm2, nm3, nm4, nm9, ngc, eq_self, List.length_cons, List.length_nil, c_isText, h]
    refine okc ?_
    rw [cw_wp]
    simp (disch := omega) only [W1019, r_2, r_Li, h80_1008, s_40, s_0, ci_80, r_51, ci_m1, r_90, s_43, r_4, r_La, ci_5, h79_1002, h60_10_8, ci_0, r_5, r_49, h60_10_9, r_12, r_10, ci_32, s_8, r_In, ci_1, r_52, h65_72, h65_73, enR, LG, LSt, LC, nlR, psR, TK, up_s, up_n, up_u, lt_nI, le_nI, eq_nI, true_and, and_true, if_true, if_false, Nat.zero_add, Nat.add_zero, nI_add, ↓reduceIte, Nat.reduceAdd, Nat.reduceMul, Nat.reduceSub, Nat.reduceLT, Nat.reduceLeDiff, Nat.reduceEqDiff, Nat.not_lt_zero, Nat.lt_irrefl, decide_true, BEq.rfl, nm1, nm2, nm3, nm4, nm9, ngc, eq_self, List.length_cons, List.length_nil, m_isText, h]
    exact okm (rl_inv (rl_t H))
  · simp (disch := omega) only [W907, r_2, r_Li, h80_949, s_40, s_0, ci_80, r_51, ci_m1, r_90, s_43, r_4, r_La, ci_5, h79_951, h60_9_1, ci_32, h79_1, h68_2, enR, LG, LSt, LC, nlR, psR, TK, up_s, up_n, up_u, lt_nI, le_nI, eq_nI, true_and, and_true, if_true, if_false, Nat.zero_add, Nat.add_zero, nI_add, ↓reduceIte, Nat.reduceAdd, Nat.reduceMul, Nat.reduceSub, Nat.reduceLT, Nat.reduceLeDiff, Nat.reduceEqDiff, Nat.not_lt_zero, Nat.lt_irrefl, decide_true, BEq.rfl, nm1, nm2, nm3, nm4, nm9, ngc, eq_self, List.length_cons, List.length_nil, c_isText, h1, h2]
    refine okc ?_
    rw [cw_wp]
    simp (disch := omega) only [W1019, r_2, r_Li, h80_1008, s_40, s_0, ci_80, r_51, ci_m1, r_90, s_43, r_4, r_La, ci_5, h79_1002, h60_10_8, ci_0, r_5, r_49, h60_10_9, r_12, r_10, ci_32, s_8, r_In, ci_1, r_52, h65_72, h65_73, enR, LG, LSt, LC, nlR, psR, TK, up_s, up_n, up_u, lt_nI, le_nI, eq_nI, true_and, and_true, if_true, if_false, Nat.zero_add, Nat.add_zero, nI_add, ↓reduceIte, Nat.reduceAdd, Nat.reduceMul, Nat.reduceSub, Nat.reduceLT, Nat.reduceLeDiff, Nat.reduceEqDiff, Nat.not_lt_zero, Nat.lt_irrefl, decide_true, BEq.rfl, nm1, nm2, nm3, nm4, nm9, ngc, eq_self, List.length_cons, List.length_nil, m_isText, h1, h3]
    exact okm (rl_inv (rl_t H))
  · have hr6 : r < 4 := by omega
    have hr5 : ¬ 3 < r := by omega
    rcases ix y (n := 80) (by decide) with h | ⟨h1, h2, h3⟩ | ⟨k, hk, rfl⟩
    · have h40 : ¬ nI 80 < y := fun h' => by
        have e1 := Int32.lt_iff_toInt_lt.mp h
        have e2 := Int32.lt_iff_toInt_lt.mp h'
        rw [nI_toInt (by decide)] at e1 e2
        omega
      simp (disch := omega) only [W907, r_2, r_Li, h80_949, s_40, s_0, ci_80, r_51, ci_m1, r_90, s_43, r_4, r_La, ci_5, h79_951, h60_9_1, ci_32, h79_1, h68_2, enR, LG, LSt, LC, nlR, psR, TK, up_s, up_n, up_u, lt_nI, le_nI, eq_nI, true_and, and_true, if_true, if_false, Nat.zero_add, Nat.add_zero, nI_add, ↓reduceIte, Nat.reduceAdd, Nat.reduceMul, Nat.reduceSub, Nat.reduceLT, Nat.reduceLeDiff, Nat.reduceEqDiff, Nat.not_lt_zero, Nat.lt_irrefl, decide_true, BEq.rfl, nm1, nm2, nm3, nm4, nm9, ngc, eq_self, List.length_cons, List.length_nil, c_isText, hr6, h, h40, c_found]
      refine okc ?_
      rw [cw_wp]
      simp (disch := omega) only [W1019, r_2, r_Li, h80_1008, s_40, s_0, ci_80, r_51, ci_m1, r_90, s_43, r_4, r_La, ci_5, h79_1002, h60_10_8, ci_0, r_5, r_49, h60_10_9, r_12, r_10, ci_32, s_8, r_In, ci_1, r_52, h65_72, h65_73, enR, LG, LSt, LC, nlR, psR, TK, up_s, up_n, up_u, lt_nI, le_nI, eq_nI, true_and, and_true, if_true, if_false, Nat.zero_add, Nat.add_zero, nI_add, ↓reduceIte, Nat.reduceAdd, Nat.reduceMul, Nat.reduceSub, Nat.reduceLT, Nat.reduceLeDiff, Nat.reduceEqDiff, Nat.not_lt_zero, Nat.lt_irrefl, decide_true, BEq.rfl, nm1, nm2, nm3, nm4, nm9, ngc, eq_self, List.length_cons, List.length_nil, m_isText, hr5, h, h40, m_meet]
      exact okm (rl_inv (rl_found (k := 5) (by decide) H))
    · simp (disch := omega) only [W907, r_2, r_Li, h80_949, s_40, s_0, ci_80, r_51, ci_m1, r_90, s_43, r_4, r_La, ci_5, h79_951, h60_9_1, ci_32, h79_1, h68_2, enR, LG, LSt, LC, nlR, psR, TK, up_s, up_n, up_u, lt_nI, le_nI, eq_nI, true_and, and_true, if_true, if_false, Nat.zero_add, Nat.add_zero, nI_add, ↓reduceIte, Nat.reduceAdd, Nat.reduceMul, Nat.reduceSub, Nat.reduceLT, Nat.reduceLeDiff, Nat.reduceEqDiff, Nat.not_lt_zero, Nat.lt_irrefl, decide_true, BEq.rfl, nm1, nm2, nm3, nm4, nm9, ngc, eq_self, List.length_cons, List.length_nil, c_isText, hr6, h3]
      refine okc ?_
      rw [cw_wp]
      simp (disch := omega) only [W1019, r_2, r_Li, h80_1008, s_40, s_0, ci_80, r_51, ci_m1, r_90, s_43, r_4, r_La, ci_5, h79_1002, h60_10_8, ci_0, r_5, r_49, h60_10_9, r_12, r_10, ci_32, s_8, r_In, ci_1, r_52, h65_72, h65_73, enR, LG, LSt, LC, nlR, psR, TK, up_s, up_n, up_u, lt_nI, le_nI, eq_nI, true_and, and_true, if_true, if_false, Nat.zero_add, Nat.add_zero, nI_add, ↓reduceIte, Nat.reduceAdd, Nat.reduceMul, Nat.reduceSub, Nat.reduceLT, Nat.reduceLeDiff, Nat.reduceEqDiff, Nat.not_lt_zero, Nat.lt_irrefl, decide_true, BEq.rfl, nm1, nm2, nm3, nm4, nm9, ngc, eq_self, List.length_cons, List.length_nil, m_isText, hr5, h3]
      exact okm (rl_inv (rl_t H))
    · have h40 : ¬ 80 < k := by omega
      have hcap : cap (6 + r) = 80 := if_neg (by omega)
      simp (disch := omega) only [W907, r_2, r_Li, h80_949, s_40, s_0, ci_80, r_51, ci_m1, r_90, s_43, r_4, r_La, ci_5, h79_951, h60_9_1, ci_32, h79_1, h68_2, enR, LG, LSt, LC, nlR, psR, TK, up_s, up_n, up_u, lt_nI, le_nI, eq_nI, true_and, and_true, if_true, if_false, Nat.zero_add, Nat.add_zero, nI_add, ↓reduceIte, Nat.reduceAdd, Nat.reduceMul, Nat.reduceSub, Nat.reduceLT, Nat.reduceLeDiff, Nat.reduceEqDiff, Nat.not_lt_zero, Nat.lt_irrefl, decide_true, BEq.rfl, nm1, nm2, nm3, nm4, nm9, ngc, eq_self, List.length_cons, List.length_nil, c_isText, hr6, h40, hcap, c_renew]
      refine okc ?_
      rw [cw_wp]
      simp (disch := omega) only [W1019, r_2, r_Li, h80_1008, s_40, s_0, ci_80, r_51, ci_m1, r_90, s_43, r_4, r_La, ci_5, h79_1002, h60_10_8, ci_0, r_5, r_49, h60_10_9, r_12, r_10, ci_32, s_8, r_In, ci_1, r_52, h65_72, h65_73, enR, LG, LSt, LC, nlR, psR, TK, up_s, up_n, up_u, lt_nI, le_nI, eq_nI, true_and, and_true, if_true, if_false, Nat.zero_add, Nat.add_zero, nI_add, ↓reduceIte, Nat.reduceAdd, Nat.reduceMul, Nat.reduceSub, Nat.reduceLT, Nat.reduceLeDiff, Nat.reduceEqDiff, Nat.not_lt_zero, Nat.lt_irrefl, decide_true, BEq.rfl, nm1, nm2, nm3, nm4, nm9, ngc, eq_self, List.length_cons, List.length_nil, m_isText, hr6, hr5, h40]
      rw [lp_mtext hr6 80 0 _ (by omega), up_n e _ (show 73 ≠ 72 by decide)]
      refine okm (rl_inv (rl_texts H (ic_text H.2.1 hr6 hk (fun j hj => ?_) (fun j hj => ?_))))
      · exact (if_pos (by omega)).trans (if_pos (by omega)).symm
      · exact if_neg (by omega)
theorem ixm (x : Int32) {m : Nat} (hm : m ≤ 80) : ((x < nI 0 ∨ ¬ x < nI m) ∧ (x < nI 0 ∨ (¬ x < nI 0 ∧ nI m - nI 1 < x))) ∨ ∃ k, k < m ∧ x = nI k := by
  by_cases h : x < nI 0
  · exact Or.inl ⟨Or.inl h, Or.inl h⟩
  · obtain ⟨j, hj, rfl⟩ := nI_of' h
    by_cases h1 : j < m
    · exact Or.inr ⟨j, h1, rfl⟩
    · exact Or.inl ⟨Or.inr (by rw [nI_ltI hj (by omega)]; exact h1), Or.inr ⟨h, (sub1 (by omega) hj).mpr (by omega)⟩⟩
end

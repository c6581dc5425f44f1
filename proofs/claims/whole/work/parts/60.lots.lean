/-! drives by lots -/
theorem lN_toInt63 {n : Nat} (h : n < 9223372036854775808) : (lN n).toInt = (n : Int) := Int64.toInt_ofNat_of_lt (by omega)
theorem lN_divN {a b : Nat} (ha : a < 9223372036854775808) (hb : b < 9223372036854775808) : lN a / lN b = lN (a / b) := (Int64.ofNat_div ha hb).symm
theorem lN_remN {a b : Nat} (ha : a < 9223372036854775808) (hb : b < 9223372036854775808) : lN a - lN a / lN b * lN b = lN (a % b) := by
  rw [lN_divN ha hb, lN_mul, lN_sub (Nat.div_mul_le_self a b)]
  exact congrArg lN (by have := Nat.div_add_mod' a b; omega)
theorem lcn {x y : Nat} (hx : x < 9223372036854775808) (hy : y < 9223372036854775808) : ((if lN x < lN y then (-1 : Int32) else if lN x = lN y then 0 else 1) < nI 0) = (x < y) := by
  by_cases h1 : x < y
  · rw [if_pos ((lN_lt63 hx hy).mpr h1)]
    exact propext (iff_of_true (by decide +kernel) h1)
  · rw [if_neg (fun h => h1 ((lN_lt63 hx hy).mp h))]
    by_cases h2 : x = y
    · rw [if_pos ((lN_eq63 hx hy).mpr h2)]
      exact propext (iff_of_false (by decide +kernel) h1)
    · rw [if_neg (fun h => h2 ((lN_eq63 hx hy).mp h))]
      exact propext (iff_of_false (by decide +kernel) h1)
theorem cnb_add (c : Nat → Bool) : ∀ (j k a : Nat), foldu (cnb c) k j a = a + foldu (cnb c) k j 0 := by
  intro j
  induction j with
  | zero => intro k a; rfl
  | succ j ih =>
    intro k a
    show foldu (cnb c) (k + 1) j (cnb c k a) = a + foldu (cnb c) (k + 1) j (cnb c k 0)
    rw [ih (k + 1) (cnb c k a), ih (k + 1) (cnb c k 0)]
    unfold cnb
    split <;> omega
/-- number n of those that serve, from k on -/
def nth (c : Nat → Bool) : Nat → Nat → Nat → Nat
  | 0, k, _ => k
  | j + 1, k, n => if c k = true then (if n = 0 then k else nth c j (k + 1) (n - 1)) else nth c j (k + 1) n
theorem nth_ok (c : Nat → Bool) : ∀ (j k n : Nat), n < foldu (cnb c) k j 0 → nth c j k n < k + j ∧ c (nth c j k n) = true := by
  intro j
  induction j with
  | zero => intro k n h; exact absurd h (Nat.not_lt_zero _)
  | succ j ih =>
    intro k n h
    have h' : n < foldu (cnb c) (k + 1) j (cnb c k 0) := h
    rw [cnb_add] at h'
    unfold nth
    by_cases hc : c k = true
    · rw [if_pos hc]
      have hc1 : cnb c k 0 = 1 := by unfold cnb; rw [if_pos hc]
      by_cases hn : n = 0
      · rw [if_pos hn]; exact ⟨by omega, hc⟩
      · rw [if_neg hn]
        have := ih (k + 1) (n - 1) (by omega)
        exact ⟨by omega, this.2⟩
    · rw [if_neg hc]
      have hc0 : cnb c k 0 = 0 := by unfold cnb; rw [if_neg hc]
      have := ih (k + 1) n (by omega)
      exact ⟨by omega, this.2⟩
theorem bnu_nth {c : Nat → Bool} {N : Nat} (hN : N ≤ 10) : ∀ (p b n a : Nat), b + p = 10 → a ≤ n → n - a < foldu (cnb c) b (N - b) 0 → bnu p b (sto c N) n a = some (nth c (N - b) b (n - a)) := by
  intro p
  induction p with
  | zero =>
    intro b n a hb _ h
    rw [show N - b = 0 by omega] at h
    exact absurd h (Nat.not_lt_zero _)
  | succ p ih =>
    intro b n a hb ha h
    have hbN : b < N := Nat.lt_of_not_le (fun hle => by
      rw [show N - b = 0 by omega] at h
      exact absurd h (Nat.not_lt_zero _))
    have e1 : N - b = (N - (b + 1)) + 1 := by omega
    have h' : n - a < foldu (cnb c) (b + 1) (N - (b + 1)) (cnb c b 0) := by rw [e1] at h; exact h
    rw [cnb_add] at h'
    have hbit : (sto c N).testBit b = c b := by rw [sto_bit]; simp [hbN]
    unfold bnu
    rw [hbit, e1]
    unfold nth
    by_cases hc : c b = true
    · have hc1 : cnb c b 0 = 1 := by unfold cnb; rw [if_pos hc]
      rw [if_pos hc, if_pos hc]
      by_cases hn : a = n
      · rw [if_pos hn, if_pos (by omega)]
      · rw [if_neg hn, if_neg (by omega), ih (b + 1) n (a + 1) (by omega) (by omega) (by omega), show n - (a + 1) = n - a - 1 by omega]
    · have hc0 : cnb c b 0 = 0 := by unfold cnb; rw [if_neg hc]
      rw [if_neg hc, if_neg hc, ih (b + 1) n a (by omega) ha (by omega)]
def avl (K O T : Nat → Nat) (p i : Nat) : Bool := (ldm K O T i p).isSome
def lot1 (x : Nat) : Nat := x * 48271 % 2147483647
/-- the roads that the lots draw: how many more, the lot, the drive -/
def lts (N W : Nat) (K O T J : Nat → Nat) : Nat → Nat → Nat → (Nat → Nat) → (Nat → Nat) → (Nat → Nat) → Nat × (Nat → Nat) × (Nat → Nat) × (Nat → Nat)
  | 0, _, m, r, f, p => (m, r, f, p)
  | j + 1, x, m, r, f, p => if cnt (avl K O T (p m)) N = 0 ∨ 40 ≤ m then (m, r, f, p) else
      let i := nth (avl K O T (p m)) N 0 (lot1 x % cnt (avl K O T (p m)) N)
      lts N W K O T J j (lot1 x) (m + 1) (va_up r m i) (va_up f m (fe W K J i)) (va_up p (m + 1) ((ldm K O T i (p m)).getD 0))
theorem avl_nth {N : Nat} {K O T : Nat → Nat} {p n : Nat} (h : n < cnt (avl K O T p) N) : nth (avl K O T p) N 0 n < N ∧ ∃ q, ldm K O T (nth (avl K O T p) N 0 n) p = some q := by
  obtain ⟨h1, h2⟩ := nth_ok _ N 0 n h
  refine ⟨by omega, ?_⟩
  unfold avl at h2
  exact Option.isSome_iff_exists.mp h2
theorem dv_more {P N W m i q : Nat} {K O T J r f p : Nat → Nat} (hb : LB P N W K O T J) (h : DV P N K O T m r f p) (hm : m < 40) (hP : 0 < P) (hi : i < N) (hd : ldm K O T i (p m) = some q) : DV P N K O T (m + 1) (va_up r m i) (va_up f m (fe W K J i)) (va_up p (m + 1) q) := by
  obtain ⟨v1, v2, v3, v4⟩ := h
  refine ⟨by omega, fun h => by omega, fun _ => by rw [up_n _ _ (by omega)]; exact v3 hP, fun k hk => ?_⟩
  by_cases hk2 : k = m
  · subst hk2
    rw [up_s, up_s, up_s, up_n _ _ (by omega)]
    exact ⟨hi, fe_lt hb hi, hd⟩
  · rw [up_n _ _ hk2, up_n _ _ hk2, up_n _ _ (by omega), up_n _ _ (by omega)]
    exact v4 k (by omega)
theorem lts_dv {P N W : Nat} {K O T J : Nat → Nat} (hb : LB P N W K O T J) (hP : 0 < P) : ∀ (j x m : Nat) (r f p : Nat → Nat), DV P N K O T m r f p → DV P N K O T (lts N W K O T J j x m r f p).1 (lts N W K O T J j x m r f p).2.1 (lts N W K O T J j x m r f p).2.2.1 (lts N W K O T J j x m r f p).2.2.2 := by
  intro j
  induction j with
  | zero => intro x m r f p h; exact h
  | succ j ih =>
    intro x m r f p h
    unfold lts
    by_cases hc : cnt (avl K O T (p m)) N = 0 ∨ 40 ≤ m
    · rw [if_pos hc]; exact h
    · rw [if_neg hc]
      have hlt : lot1 x % cnt (avl K O T (p m)) N < cnt (avl K O T (p m)) N := Nat.mod_lt _ (by omega)
      obtain ⟨h1, q, h2⟩ := avl_nth hlt
      refine ih _ _ _ _ _ ?_
      rw [h2]
      exact dv_more hb h (by omega) hP h1 h2
theorem up_757 {α : Type} (f : Nat → α) (x y u x' y' u' : α) : va_up (va_up (va_up (va_up (va_up (va_up f 75 x) 76 y) 77 u) 75 x') 76 y') 77 u' = va_up (va_up (va_up f 75 x') 76 y') 77 u' := by
  funext q
  unfold va_up
  by_cases q1 : q = 77
  · simp [q1]
  · by_cases q2 : q = 76
    · simp [q2]
    · by_cases q3 : q = 75 <;> simp [q1, q2, q3]
section
variable {t d : Nat} {z : AZ} {X : Nat × (Nat → Int32)} {C : CT} {M : MT} {s : Nat → Int32} {v : Nat → Int64} {g : Nat → Nat → Int32} {w : Nat → Nat → Int64} {q : Nat → Nat} {ct : Nat → Int32} {cn : Nat → Int32} {cc : Nat → Nat → Int32} {di : Nat → Nat → Int32} {dr : Nat → Nat → Int32} {df : Nat → Nat → Int32} {li : Nat → Nat → Int32} {la : Nat → Nat → Nat → Int32} {sf : Nat → Nat → Int32} {sl : Nat → Nat → Int32} {a : Nat → Int32} {b : Nat → Int64} {e : Nat → Nat → Int32} {o : Nat → Nat → Int64} {B : Nat → Bool} {n : Nat → Nat} {P N W : Nat} {K O T J : Nat → Nat} {l : Nat} {Ds : Nat → Nat} {Dr Df Dp : Nat → Nat → Nat} {KB : Nat → Bool}
variable {Q : Option Value → AZ → AH → Prop}
theorem dc_more {x y u : Nat → Int32} {m i q0 f0 : Nat} {r f p : Nat → Nat} (h : DC x y u m r f p) : DC (va_up (va_up x 4 (nI q0)) 5 (nI (m + 1))) (upd y m (nI i)) (upd u m (nI f0)) (m + 1) (va_up r m i) (va_up f m f0) (va_up p (m + 1) q0) := by
  obtain ⟨c1, c2, c3, c4⟩ := h
  refine ⟨?_, ?_, ?_, fun k hk => ?_⟩
  · rw [up_n _ _ (by decide), up_n _ _ (by decide), up_n _ _ (by omega)]; exact c1
  · rw [up_n _ _ (by decide), up_s, up_s]
  · rw [up_s]
  · by_cases hk2 : k = m
    · subst hk2
      rw [ud_s, ud_s, up_s, up_s]
      exact ⟨rfl, rfl⟩
    · rw [ud_n _ _ hk2, ud_n _ _ hk2, up_n _ _ hk2, up_n _ _ hk2]
      exact c4 k (by omega)
theorem lp_clots {n0 : Nat} {x2 : Int32} {m' w0 : Nat} {r' f' p' : Nat → Nat} (hl : l < 2) (hq : q 0 = l) (hC : CLn (li l) (la l) P N K O T J) (hb : LB P N W K O T J) (hS : SEn (sf 0) (sl 0) N (fe W K J) K O T) (hP0 : 0 < P) (hn0 : n0 ≤ 40)
    (hQ : ∀ x y u, DC x y u m' r' f' p' → Q (some (.int (nI w0))) z (Hp X (s, v, g, w, q, ct, cn, cc, va_up di 0 x, va_up dr 0 y, va_up df 0 u, li, la, sf, sl) M)) :
    ∀ (j k x m : Nat) (r f p : Nat → Nat) (dx dy du : Nat → Int32), k + j = n0 → x < 2147483647 → DV P N K O T m r f p → DC dx dy du m r f p → lts N W K O T J j x m r f p = (m', r', f', p') → w0 = k + (m' - m) → m ≤ m' → Wp (d + 3) 940 49 [some (.ref 0), some (.int (nI n0)), some (.int x2), some (.long (lN x)), none, some (.int (nI k)), some (.int (nI k))] [] z (Hp X (s, v, g, w, q, ct, cn, cc, va_up di 0 dx, va_up dr 0 dy, va_up df 0 du, li, la, sf, sl) M) Q := by
  have hP := hb.1
  have hN := hb.2.1
  intro j
  induction j with
  | zero =>
    intro k x m r f p dx dy du hk hx hV hD hlt hw hm
    have hk : k = n0 := by omega
    subst hk
    have hlt' : (m, r, f, p) = (m', r', f', p') := hlt
    have e1 := (Prod.mk.inj hlt').1
    have e2 := (Prod.mk.inj (Prod.mk.inj hlt').2).1
    have e3 := (Prod.mk.inj (Prod.mk.inj (Prod.mk.inj hlt').2).2).1
    have e4 := (Prod.mk.inj (Prod.mk.inj (Prod.mk.inj hlt').2).2).2
    subst e1
    subst e2
    subst e3
    subst e4
    rw [W940_49]
    simp (disch := omega) only [W940, r_2, r_Li, s_0, ci_1, r_48, ci_40, r_50, r_26, s_1, cl_2147483647, r_25, s_42, ci_m1, r_90, r_4, r_La, h60_9_12, h60_3_4, s_41, ci_m4, r_6, ci_0, r_5, r_49, h60_9_3, h60_2_4, h79_308, h80_1200, s_40, h79_202, r_52, r_3, r_Ll, cl_48271, r_22, r_24, r_27, h80_964, h79_304, h60_9_5, h60_6_0, h79_306, h79_204, s_8, r_In, h64_sf, enR, LG, LSt, LC, nlR, psR, TK, up_s, up_n, up_u, lt_nI, le_nI, eq_nI, true_and, and_true, if_true, if_false, Nat.zero_add, Nat.add_zero, nI_add, ↓reduceIte, Nat.reduceAdd, Nat.reduceMul, Nat.reduceSub, Nat.reduceLT, Nat.reduceLeDiff, Nat.reduceEqDiff, Nat.not_lt_zero, Nat.lt_irrefl, decide_true, BEq.rfl, nm1, nm2, nm3, nm4, nm9, ngc, eq_self, List.length_cons, List.length_nil]
    have := hQ dx dy du hD
    rw [hw, Nat.sub_self, Nat.add_zero] at this
    exact this
  | succ j ih =>
    intro k x m r f p dx dy du hk hx hV hD hlt hw hm
    have h1 : k < n0 := by omega
    obtain ⟨c1, c2, c3, c4⟩ := id hD
    have hp7 := dv_place hb hV (Nat.le_refl m)
    have hr : foldu (rdsF K O T (p m)) 0 N 0 < 1024 := by rw [rds_sto]; exact sto_lt _ (m := 10) hN
    have hpc : foldu (pcF (foldu (rdsF K O T (p m)) 0 N 0)) 0 10 0 = cnt (avl K O T (p m)) N := by rw [rds_sto, pc_sto _ hN]; rfl
    have hcle := cnt_le (avl K O T (p m)) N
    have h40 := hV.1
    unfold lts at hlt
    rw [W940_49]
    by_cases hc0 : cnt (avl K O T (p m)) N = 0
    · rw [if_pos (Or.inl hc0)] at hlt
      have e1 := (Prod.mk.inj hlt).1
      have e2 := (Prod.mk.inj (Prod.mk.inj hlt).2).1
      have e3 := (Prod.mk.inj (Prod.mk.inj (Prod.mk.inj hlt).2).2).1
      have e4 := (Prod.mk.inj (Prod.mk.inj (Prod.mk.inj hlt).2).2).2
      subst e1
      subst e2
      subst e3
      subst e4
      simp (disch := omega) only [W940, r_2, r_Li, s_0, ci_1, r_48, ci_40, r_50, r_26, s_1, cl_2147483647, r_25, s_42, ci_m1, r_90, r_4, r_La, h60_9_12, h60_3_4, s_41, ci_m4, r_6, ci_0, r_5, r_49, h60_9_3, h60_2_4, h79_308, h80_1200, s_40, h79_202, r_52, r_3, r_Ll, cl_48271, r_22, r_24, r_27, h80_964, h79_304, h60_9_5, h60_6_0, h79_306, h79_204, s_8, r_In, h64_sf, enR, LG, LSt, LC, nlR, psR, TK, up_s, up_n, up_u, lt_nI, le_nI, eq_nI, true_and, and_true, if_true, if_false, Nat.zero_add, Nat.add_zero, nI_add, ↓reduceIte, Nat.reduceAdd, Nat.reduceMul, Nat.reduceSub, Nat.reduceLT, Nat.reduceLeDiff, Nat.reduceEqDiff, Nat.not_lt_zero, Nat.lt_irrefl, decide_true, BEq.rfl, nm1, nm2, nm3, nm4, nm9, ngc, eq_self, List.length_cons, List.length_nil, h1, hq, c2, c_roadsFrom (di := va_up di 0 dx) (dr := va_up dr 0 dy) (df := va_up df 0 du) hl hC hb (show p m < 65536 by omega), c_bitCount hr, hpc, hc0]
      have := hQ dx dy du hD
      rw [hw, Nat.sub_self, Nat.add_zero] at this
      exact this
    · by_cases hc1 : 40 ≤ m
      · rw [if_pos (Or.inr hc1)] at hlt
        have e1 := (Prod.mk.inj hlt).1
        have e2 := (Prod.mk.inj (Prod.mk.inj hlt).2).1
        have e3 := (Prod.mk.inj (Prod.mk.inj (Prod.mk.inj hlt).2).2).1
        have e4 := (Prod.mk.inj (Prod.mk.inj (Prod.mk.inj hlt).2).2).2
        subst e1
        subst e2
        subst e3
        subst e4
        have hm40 : ¬ m < 40 := by omega
        simp (disch := omega) only [W940, r_2, r_Li, s_0, ci_1, r_48, ci_40, r_50, r_26, s_1, cl_2147483647, r_25, s_42, ci_m1, r_90, r_4, r_La, h60_9_12, h60_3_4, s_41, ci_m4, r_6, ci_0, r_5, r_49, h60_9_3, h60_2_4, h79_308, h80_1200, s_40, h79_202, r_52, r_3, r_Ll, cl_48271, r_22, r_24, r_27, h80_964, h79_304, h60_9_5, h60_6_0, h79_306, h79_204, s_8, r_In, h64_sf, enR, LG, LSt, LC, nlR, psR, TK, up_s, up_n, up_u, lt_nI, le_nI, eq_nI, true_and, and_true, if_true, if_false, Nat.zero_add, Nat.add_zero, nI_add, ↓reduceIte, Nat.reduceAdd, Nat.reduceMul, Nat.reduceSub, Nat.reduceLT, Nat.reduceLeDiff, Nat.reduceEqDiff, Nat.not_lt_zero, Nat.lt_irrefl, decide_true, BEq.rfl, nm1, nm2, nm3, nm4, nm9, ngc, eq_self, List.length_cons, List.length_nil, h1, hq, c2, c_roadsFrom (di := va_up di 0 dx) (dr := va_up dr 0 dy) (df := va_up df 0 du) hl hC hb (show p m < 65536 by omega), c_bitCount hr, hpc, hc0, c_isFull (di := va_up di 0 dx) (show 0 < 4 by omega) (by rw [up_s]; exact c3) (show m < 65536 by omega), hm40]
        have := hQ dx dy du hD
        rw [hw, Nat.sub_self, Nat.add_zero] at this
        exact this
      · rw [if_neg (fun h => by rcases h with h | h; exact hc0 h; exact hc1 h)] at hlt
        have hm40 : m < 40 := by omega
        have hl1 : lot1 x < 2147483647 := Nat.mod_lt _ (by decide)
        have hmod : lot1 x % cnt (avl K O T (p m)) N < cnt (avl K O T (p m)) N := Nat.mod_lt _ (by omega)
        obtain ⟨g1, q0, g2⟩ := avl_nth hmod
        have g10 : nth (avl K O T (p m)) N 0 (lot1 x % cnt (avl K O T (p m)) N) < 10 := by omega
        have hq0 := ldm_lt hb g1 g2
        have hbn : bnu 10 0 (foldu (rdsF K O T (p m)) 0 N 0) (lot1 x % cnt (avl K O T (p m)) N) 0 = some (nth (avl K O T (p m)) N 0 (lot1 x % cnt (avl K O T (p m)) N)) := by
          rw [rds_sto]
          exact bnu_nth hN 10 0 _ 0 (by omega) (Nat.zero_le _) hmod
        have hf := fe_lt hb g1
        have e5 : sf 0 (nth (avl K O T (p m)) N 0 (lot1 x % cnt (avl K O T (p m)) N)) = nI (fe W K J (nth (avl K O T (p m)) N 0 (lot1 x % cnt (avl K O T (p m)) N))) := by rw [hS.1 _ g10, if_pos g1]
        have hlm : lN x * lN 48271 - lN x * lN 48271 / lN 2147483647 * lN 2147483647 = lN (lot1 x) := by
          rw [lN_mul, lN_remN (by omega) (by decide)]; rfl
        have hz1 : (lN 2147483647 = 0) = False := lN_z (by decide) (by decide)
        have hz2 : (lN (cnt (avl K O T (p m)) N) = 0) = False := lN_z (by omega) (by omega)
        have hmm : lN (lot1 x) - lN (lot1 x) / lN (cnt (avl K O T (p m)) N) * lN (cnt (avl K O T (p m)) N) = lN (lot1 x % cnt (avl K O T (p m)) N) := lN_remN (by omega) (by omega)
        have hml : lts N W K O T J j (lot1 x) (m + 1) (va_up r m (nth (avl K O T (p m)) N 0 (lot1 x % cnt (avl K O T (p m)) N))) (va_up f m (fe W K J (nth (avl K O T (p m)) N 0 (lot1 x % cnt (avl K O T (p m)) N)))) (va_up p (m + 1) q0) = (m', r', f', p') := by
          have : (ldm K O T (nth (avl K O T (p m)) N 0 (lot1 x % cnt (avl K O T (p m)) N)) (p m)).getD 0 = q0 := by rw [g2]; rfl
          rw [← this]; exact hlt
        have hmm' : m + 1 ≤ m' := by
          have hlm2 : ∀ (j x m : Nat) (r f p : Nat → Nat), m ≤ (lts N W K O T J j x m r f p).1 := by
            intro j
            induction j with
            | zero => intro x m r f p; exact Nat.le_refl _
            | succ j ih =>
              intro x m r f p
              unfold lts
              split
              · exact Nat.le_refl _
              · exact Nat.le_trans (Nat.le_succ m) (ih _ _ _ _ _)
          have := hlm2 j (lot1 x) (m + 1) (va_up r m (nth (avl K O T (p m)) N 0 (lot1 x % cnt (avl K O T (p m)) N))) (va_up f m (fe W K J (nth (avl K O T (p m)) N 0 (lot1 x % cnt (avl K O T (p m)) N)))) (va_up p (m + 1) q0)
          rw [hml] at this
          exact this
        simp (disch := omega) only [W940, r_2, r_Li, s_0, ci_1, r_48, ci_40, r_50, r_26, s_1, cl_2147483647, r_25, s_42, ci_m1, r_90, r_4, r_La, h60_9_12, h60_3_4, s_41, ci_m4, r_6, ci_0, r_5, r_49, h60_9_3, h60_2_4, h79_308, h80_1200, s_40, h79_202, r_52, r_3, r_Ll, cl_48271, r_22, r_24, r_27, h80_964, h79_304, h60_9_5, h60_6_0, h79_306, h79_204, s_8, r_In, h64_sf, enR, LG, LSt, LC, nlR, psR, TK, up_s, up_n, up_u, lt_nI, le_nI, eq_nI, true_and, and_true, if_true, if_false, Nat.zero_add, Nat.add_zero, nI_add, ↓reduceIte, Nat.reduceAdd, Nat.reduceMul, Nat.reduceSub, Nat.reduceLT, Nat.reduceLeDiff, Nat.reduceEqDiff, Nat.not_lt_zero, Nat.lt_irrefl, decide_true, BEq.rfl, nm1, nm2, nm3, nm4, nm9, ngc, eq_self, List.length_cons, List.length_nil, h1, hq, c2, c_roadsFrom (di := va_up di 0 dx) (dr := va_up dr 0 dy) (df := va_up df 0 du) hl hC hb (show p m < 65536 by omega), c_bitCount hr, hpc, hc0, c_isFull (di := va_up di 0 dx) (show 0 < 4 by omega) (by rw [up_s]; exact c3) (show m < 65536 by omega), hm40, hz1, not_false_eq_true, hlm, nI_nl, hz2, hmm, lN_i, c_bitN, hbn, o2i, c_hasRoadn (di := va_up di 0 dx) (dr := va_up dr 0 dy) (df := va_up df 0 du) hl hC g1 hN, g10, e5, c_lead (di := va_up di 0 dx) (dr := va_up dr 0 dy) (df := va_up df 0 du) hl hC hb g1 (show p m < 65536 by omega), g2, c_extend (di := va_up di 0 dx) (dr := va_up dr 0 dy) (df := va_up df 0 du) (show 0 < 4 by omega) (by rw [up_s]; exact c3) hm40]
        exact ih (k + 1) (lot1 x) (m + 1) _ _ _ _ _ _ (by omega) hl1 (dv_more hb hV hm40 hP0 g1 g2) (dc_more hD) hml (by omega) hmm'
end
section
variable {d : Nat} {z : AZ} {f : AH} {Q : Option Value → AZ → AH → Prop} {X : Nat × (Nat → Int32)} {C : CT} {a : Nat → Int32} {b : Nat → Int64} {e : Nat → Nat → Int32} {o : Nat → Nat → Int64} {P N W : Nat} {K O T J : Nat → Nat}
def kt147 (d n0 : Nat) (x2 x6 : Int32) (u : Int64) (went g : Nat) (Q : Option Value → AZ → AH → Prop) : Option Value → AZ → AH → Prop := fun v z f => Wp (d + 3) 1080 147 [some (.ref 67), some (.int (nI n0)), some (.int x2), some (.long u), none, some (.int (nI went)), some (.int x6), some (.int (nI 0)), some (.int (nI g))] (ps v []) z f Q
theorem lp_mlot2 {n0 went m : Nat} {p : Nat → Nat} {x2 x6 : Int32} {u : Int64} (h : MLn a (e 74) P N W K O T J) (hb : LB P N W K O T J) (h17 : a 17 = nI (p 0)) (h18 : a 18 = nI m) (hm : m ≤ 40) (h77 : ∀ k, k < m → e 77 (k + 1) = nI (p (k + 1))) (hp7 : p m < 7) : ∀ (j i n : Nat), i + j = N → n < foldu (cnb (avl K O T (p m))) i j 0 → (Wp (d + 3) 1080 90 [some (.ref 67), some (.int (nI n0)), some (.int x2), some (.long u), none, some (.int (nI went)), some (.int x6), some (.int (nI n)), some (.int (nI i))] [] z (Hp X C (a, b, e, o)) Q ↔ Cw (d + 3) 1043 [.ref 67, .int (nI (nth (avl K O T (p m)) j i n))] z (Hp X C (a, b, e, o)) (kt147 d n0 x2 x6 u went (nth (avl K O T (p m)) j i n) Q)) := by
  have hN := hb.2.1
  have hP := hb.1
  have hnow := fun (Q : Option Value → AZ → AH → Prop) => m_now (d := d + 2) (z := z) (Q := Q) (X := X) (C := C) (b := b) (o := o) h17 h18 hm h77
  intro j
  induction j with
  | zero => intro i n _ hn; exact absurd hn (Nat.not_lt_zero _)
  | succ j ih =>
    intro i n hi hn
    have h1 : i < N := by omega
    have hn' : n < foldu (cnb (avl K O T (p m))) (i + 1) j (cnb (avl K O T (p m)) i 0) := hn
    rw [cnb_add] at hn'
    have hle : foldu (cnb (avl K O T (p m))) (i + 1) j 0 ≤ j := by
      have := foldu_inv (F := cnb (avl K O T (p m))) (fun k c => c + (i + 1) ≤ k) j (i + 1) 0 (by omega) (fun q c _ _ h => by
        show cnb _ q c + (i + 1) ≤ q + 1
        unfold cnb; split <;> omega)
      omega
    rw [W1080_90]
    unfold nth
    cases hd : ldm K O T i (p m) with
    | none =>
      have hc : avl K O T (p m) i = false := by unfold avl; rw [hd]; rfl
      have hc0 : cnb (avl K O T (p m)) i 0 = 0 := by unfold cnb; rw [hc]; rfl
      simp (disch := omega) only [W1080, r_2, r_Li, s_0, ci_1, ci_40, h80_1001, s_40, ci_2147483646, s_41, ci_m1, r_90, r_4, r_La, h60_10_10, ci_m4, r_26, r_6, ci_0, r_5, h79_1040, h79_1041, r_49, h60_10_18, s_45, s_1, cl_48271, r_3, r_Ll, r_22, cl_2147483647, r_24, r_27, h79_1038, ci_m9, r_46, r_47, r_52, r_11, s_8, r_In, h79_1043, enR, LG, LSt, LC, nlR, psR, TK, up_s, up_n, up_u, lt_nI, le_nI, eq_nI, true_and, and_true, if_true, if_false, Nat.zero_add, Nat.add_zero, nI_add, ↓reduceIte, Nat.reduceAdd, Nat.reduceMul, Nat.reduceSub, Nat.reduceLT, Nat.reduceLeDiff, Nat.reduceEqDiff, Nat.not_lt_zero, Nat.lt_irrefl, decide_true, BEq.rfl, nm1, nm2, nm3, nm4, nm9, ngc, eq_self, List.length_cons, List.length_nil, hnow, m_leads h hb h1 (show p m < 65536 by omega), hd, o2i, nI_sub, Nat.sub_zero]
      rw [if_neg (fun hh => by rw [hc] at hh; exact absurd hh (by decide))]
      exact ih (i + 1) n (by omega) (by omega)
    | some t0 =>
      have ht := ldm_lt hb h1 hd
      have hc : avl K O T (p m) i = true := by unfold avl; rw [hd]; rfl
      have hc1 : cnb (avl K O T (p m)) i 0 = 1 := by unfold cnb; rw [hc]; rfl
      by_cases hn0 : n = 0
      · subst hn0
        simp (disch := omega) only [W1080, r_2, r_Li, s_0, ci_1, ci_40, h80_1001, s_40, ci_2147483646, s_41, ci_m1, r_90, r_4, r_La, h60_10_10, ci_m4, r_26, r_6, ci_0, r_5, h79_1040, h79_1041, r_49, h60_10_18, s_45, s_1, cl_48271, r_3, r_Ll, r_22, cl_2147483647, r_24, r_27, h79_1038, ci_m9, r_46, r_47, r_52, r_11, s_8, r_In, h79_1043, enR, LG, LSt, LC, nlR, psR, TK, up_s, up_n, up_u, lt_nI, le_nI, eq_nI, true_and, and_true, if_true, if_false, Nat.zero_add, Nat.add_zero, nI_add, ↓reduceIte, Nat.reduceAdd, Nat.reduceMul, Nat.reduceSub, Nat.reduceLT, Nat.reduceLeDiff, Nat.reduceEqDiff, Nat.not_lt_zero, Nat.lt_irrefl, decide_true, BEq.rfl, nm1, nm2, nm3, nm4, nm9, ngc, eq_self, List.length_cons, List.length_nil, hnow, m_leads h hb h1 (show p m < 65536 by omega), hd, o2i, hc]
        unfold kt147
        simp (disch := omega) only [W1080, r_2, r_Li, s_0, ci_1, ci_40, h80_1001, s_40, ci_2147483646, s_41, ci_m1, r_90, r_4, r_La, h60_10_10, ci_m4, r_26, r_6, ci_0, r_5, h79_1040, h79_1041, r_49, h60_10_18, s_45, s_1, cl_48271, r_3, r_Ll, r_22, cl_2147483647, r_24, r_27, h79_1038, ci_m9, r_46, r_47, r_52, r_11, s_8, r_In, h79_1043, enR, LG, LSt, LC, nlR, psR, TK, up_s, up_n, up_u, lt_nI, le_nI, eq_nI, true_and, and_true, if_true, if_false, Nat.zero_add, Nat.add_zero, nI_add, ↓reduceIte, Nat.reduceAdd, Nat.reduceMul, Nat.reduceSub, Nat.reduceLT, Nat.reduceLeDiff, Nat.reduceEqDiff, Nat.not_lt_zero, Nat.lt_irrefl, decide_true, BEq.rfl, nm1, nm2, nm3, nm4, nm9, ngc, eq_self, List.length_cons, List.length_nil]
      · have hpos : 0 < n := by omega
        simp (disch := omega) only [W1080, r_2, r_Li, s_0, ci_1, ci_40, h80_1001, s_40, ci_2147483646, s_41, ci_m1, r_90, r_4, r_La, h60_10_10, ci_m4, r_26, r_6, ci_0, r_5, h79_1040, h79_1041, r_49, h60_10_18, s_45, s_1, cl_48271, r_3, r_Ll, r_22, cl_2147483647, r_24, r_27, h79_1038, ci_m9, r_46, r_47, r_52, r_11, s_8, r_In, h79_1043, enR, LG, LSt, LC, nlR, psR, TK, up_s, up_n, up_u, lt_nI, le_nI, eq_nI, true_and, and_true, if_true, if_false, Nat.zero_add, Nat.add_zero, nI_add, ↓reduceIte, Nat.reduceAdd, Nat.reduceMul, Nat.reduceSub, Nat.reduceLT, Nat.reduceLeDiff, Nat.reduceEqDiff, Nat.not_lt_zero, Nat.lt_irrefl, decide_true, BEq.rfl, nm1, nm2, nm3, nm4, nm9, ngc, eq_self, List.length_cons, List.length_nil, hnow, m_leads h hb h1 (show p m < 65536 by omega), hd, o2i, hpos, nI_sub]
        rw [if_pos hc, if_neg hn0]
        exact ih (i + 1) (n - 1) (by omega) (by omega)
theorem dm_more {x y u : Nat → Int32} {a17 a18 : Int32} {m i q0 f0 : Nat} {r f p : Nat → Nat} (h : DM a17 a18 x y u m r f p) : DM a17 (nI (m + 1)) (upd x m (nI i)) (upd y m (nI f0)) (upd u (m + 1) (nI q0)) (m + 1) (va_up r m i) (va_up f m f0) (va_up p (m + 1) q0) := by
  obtain ⟨m1, m2, m3⟩ := h
  refine ⟨by rw [up_n _ _ (by omega)]; exact m1, rfl, fun k hk => ?_⟩
  by_cases hk2 : k = m
  · subst hk2
    rw [ud_s, ud_s, ud_s, up_s, up_s, up_s]
    exact ⟨rfl, rfl, rfl⟩
  · rw [ud_n _ _ hk2, ud_n _ _ hk2, ud_n _ _ (by omega), up_n _ _ hk2, up_n _ _ hk2, up_n _ _ (by omega)]
    exact m3 k (by omega)
theorem lp_mlots {n0 m' w0 : Nat} {x2 : Int32} {r' f' p' : Nat → Nat} (h : MLn a (e 74) P N W K O T J) (hb : LB P N W K O T J) (hP0 : 0 < P) (hn0 : n0 ≤ 40)
    (hQ : ∀ x y u, DM (a 17) (nI m') x y u m' r' f' p' → Q (some (.int (nI w0))) z (Hp X C (va_up a 18 (nI m'), b, va_up (va_up (va_up e 75 x) 76 y) 77 u, o))) :
    ∀ (j k x m : Nat) (r f p : Nat → Nat) (dx dy du : Nat → Int32), k + j = n0 → x < 2147483647 → DV P N K O T m r f p → DM (a 17) (nI m) dx dy du m r f p → lts N W K O T J j x m r f p = (m', r', f', p') → w0 = k + (m' - m) → m ≤ m' → Wp (d + 3) 1080 49 [some (.ref 67), some (.int (nI n0)), some (.int x2), some (.long (lN x)), none, some (.int (nI k)), some (.int (nI (cnt (avl K O T (p m)) N)))] [] z (Hp X C (va_up a 18 (nI m), b, va_up (va_up (va_up e 75 dx) 76 dy) 77 du, o)) Q := by
  have hP := hb.1
  have hN := hb.2.1
  intro j
  induction j with
  | zero =>
    intro k x m r f p dx dy du hk hx hV hD hlt hw hm
    have hk : k = n0 := by omega
    subst hk
    have hlt' : (m, r, f, p) = (m', r', f', p') := hlt
    have e1 := (Prod.mk.inj hlt').1
    have e2 := (Prod.mk.inj (Prod.mk.inj hlt').2).1
    have e3 := (Prod.mk.inj (Prod.mk.inj (Prod.mk.inj hlt').2).2).1
    have e4 := (Prod.mk.inj (Prod.mk.inj (Prod.mk.inj hlt').2).2).2
    subst e1
    subst e2
    subst e3
    subst e4
    rw [W1080_49]
    simp (disch := omega) only [W1080, r_2, r_Li, s_0, ci_1, ci_40, h80_1001, s_40, ci_2147483646, s_41, ci_m1, r_90, r_4, r_La, h60_10_10, ci_m4, r_26, r_6, ci_0, r_5, h79_1040, h79_1041, r_49, h60_10_18, s_45, s_1, cl_48271, r_3, r_Ll, r_22, cl_2147483647, r_24, r_27, h79_1038, ci_m9, r_46, r_47, r_52, r_11, s_8, r_In, h79_1043, enR, LG, LSt, LC, nlR, psR, TK, up_s, up_n, up_u, lt_nI, le_nI, eq_nI, true_and, and_true, if_true, if_false, Nat.zero_add, Nat.add_zero, nI_add, ↓reduceIte, Nat.reduceAdd, Nat.reduceMul, Nat.reduceSub, Nat.reduceLT, Nat.reduceLeDiff, Nat.reduceEqDiff, Nat.not_lt_zero, Nat.lt_irrefl, decide_true, BEq.rfl, nm1, nm2, nm3, nm4, nm9, ngc, eq_self, List.length_cons, List.length_nil]
    have := hQ dx dy du hD
    rw [hw, Nat.sub_self, Nat.add_zero] at this
    exact this
  | succ j ih =>
    intro k x m r f p dx dy du hk hx hV hD hlt hw hm
    have h1 : k < n0 := by omega
    obtain ⟨m1, m2, m3⟩ := id hD
    have hp7 := dv_place hb hV (Nat.le_refl m)
    have hcle := cnt_le (avl K O T (p m)) N
    have h40 := hV.1
    unfold lts at hlt
    rw [W1080_49]
    by_cases hc1 : 40 ≤ m
    · rw [if_pos (Or.inr hc1)] at hlt
      have e1 := (Prod.mk.inj hlt).1
      have e2 := (Prod.mk.inj (Prod.mk.inj hlt).2).1
      have e3 := (Prod.mk.inj (Prod.mk.inj (Prod.mk.inj hlt).2).2).1
      have e4 := (Prod.mk.inj (Prod.mk.inj (Prod.mk.inj hlt).2).2).2
      subst e1
      subst e2
      subst e3
      subst e4
      have hm40 : ¬ m < 40 := by omega
      simp (disch := omega) only [W1080, r_2, r_Li, s_0, ci_1, ci_40, h80_1001, s_40, ci_2147483646, s_41, ci_m1, r_90, r_4, r_La, h60_10_10, ci_m4, r_26, r_6, ci_0, r_5, h79_1040, h79_1041, r_49, h60_10_18, s_45, s_1, cl_48271, r_3, r_Ll, r_22, cl_2147483647, r_24, r_27, h79_1038, ci_m9, r_46, r_47, r_52, r_11, s_8, r_In, h79_1043, enR, LG, LSt, LC, nlR, psR, TK, up_s, up_n, up_u, lt_nI, le_nI, eq_nI, true_and, and_true, if_true, if_false, Nat.zero_add, Nat.add_zero, nI_add, ↓reduceIte, Nat.reduceAdd, Nat.reduceMul, Nat.reduceSub, Nat.reduceLT, Nat.reduceLeDiff, Nat.reduceEqDiff, Nat.not_lt_zero, Nat.lt_irrefl, decide_true, BEq.rfl, nm1, nm2, nm3, nm4, nm9, ngc, eq_self, List.length_cons, List.length_nil, h1, hm40]
      have := hQ dx dy du hD
      rw [hw, Nat.sub_self, Nat.add_zero] at this
      exact this
    · have hm40 : m < 40 := by omega
      by_cases hc0 : cnt (avl K O T (p m)) N = 0
      · rw [if_pos (Or.inl hc0)] at hlt
        have e1 := (Prod.mk.inj hlt).1
        have e2 := (Prod.mk.inj (Prod.mk.inj hlt).2).1
        have e3 := (Prod.mk.inj (Prod.mk.inj (Prod.mk.inj hlt).2).2).1
        have e4 := (Prod.mk.inj (Prod.mk.inj (Prod.mk.inj hlt).2).2).2
        subst e1
        subst e2
        subst e3
        subst e4
        simp (disch := omega) only [W1080, r_2, r_Li, s_0, ci_1, ci_40, h80_1001, s_40, ci_2147483646, s_41, ci_m1, r_90, r_4, r_La, h60_10_10, ci_m4, r_26, r_6, ci_0, r_5, h79_1040, h79_1041, r_49, h60_10_18, s_45, s_1, cl_48271, r_3, r_Ll, r_22, cl_2147483647, r_24, r_27, h79_1038, ci_m9, r_46, r_47, r_52, r_11, s_8, r_In, h79_1043, enR, LG, LSt, LC, nlR, psR, TK, up_s, up_n, up_u, lt_nI, le_nI, eq_nI, true_and, and_true, if_true, if_false, Nat.zero_add, Nat.add_zero, nI_add, ↓reduceIte, Nat.reduceAdd, Nat.reduceMul, Nat.reduceSub, Nat.reduceLT, Nat.reduceLeDiff, Nat.reduceEqDiff, Nat.not_lt_zero, Nat.lt_irrefl, decide_true, BEq.rfl, nm1, nm2, nm3, nm4, nm9, ngc, eq_self, List.length_cons, List.length_nil, h1, hm40, hc0]
        have := hQ dx dy du hD
        rw [hw, Nat.sub_self, Nat.add_zero] at this
        exact this
      · rw [if_neg (fun h => by rcases h with h | h; exact hc0 h; exact hc1 h)] at hlt
        have hl1 : lot1 x < 2147483647 := Nat.mod_lt _ (by decide)
        have hmod : lot1 x % cnt (avl K O T (p m)) N < cnt (avl K O T (p m)) N := Nat.mod_lt _ (by omega)
        obtain ⟨g1, q0, g2⟩ := avl_nth hmod
        have hpos : 0 < cnt (avl K O T (p m)) N := by omega
        have hlm : lN 48271 * lN x - lN 48271 * lN x / lN 2147483647 * lN 2147483647 = lN (lot1 x) := by
          rw [lN_mul, Nat.mul_comm 48271 x, lN_remN (by omega) (by decide)]; rfl
        have hz1 : (lN 2147483647 = 0) = False := lN_z (by decide) (by decide)
        have hz2 : (lN (cnt (avl K O T (p m)) N) = 0) = False := lN_z (by omega) (by omega)
        have hmm : lN (lot1 x) - lN (lot1 x) / lN (cnt (avl K O T (p m)) N) * lN (cnt (avl K O T (p m)) N) = lN (lot1 x % cnt (avl K O T (p m)) N) := lN_remN (by omega) (by omega)
        have hml : lts N W K O T J j (lot1 x) (m + 1) (va_up r m (nth (avl K O T (p m)) N 0 (lot1 x % cnt (avl K O T (p m)) N))) (va_up f m (fe W K J (nth (avl K O T (p m)) N 0 (lot1 x % cnt (avl K O T (p m)) N)))) (va_up p (m + 1) q0) = (m', r', f', p') := by
          have : (ldm K O T (nth (avl K O T (p m)) N 0 (lot1 x % cnt (avl K O T (p m)) N)) (p m)).getD 0 = q0 := by rw [g2]; rfl
          rw [← this]; exact hlt
        have hmm' : m + 1 ≤ m' := by
          have hlm2 : ∀ (j x m : Nat) (r f p : Nat → Nat), m ≤ (lts N W K O T J j x m r f p).1 := by
            intro j
            induction j with
            | zero => intro x m r f p; exact Nat.le_refl _
            | succ j ih =>
              intro x m r f p
              unfold lts
              split
              · exact Nat.le_refl _
              · exact Nat.le_trans (Nat.le_succ m) (ih _ _ _ _ _)
          have := hlm2 j (lot1 x) (m + 1) (va_up r m (nth (avl K O T (p m)) N 0 (lot1 x % cnt (avl K O T (p m)) N))) (va_up f m (fe W K J (nth (avl K O T (p m)) N 0 (lot1 x % cnt (avl K O T (p m)) N)))) (va_up p (m + 1) q0)
          rw [hml] at this
          exact this
        have m77 : ∀ k, k < m → va_up (va_up (va_up e 75 dx) 76 dy) 77 du 77 (k + 1) = nI (p (k + 1)) := fun k hk => by rw [up_s]; exact (m3 k hk).2.2
        have hD' := dm_more (i := nth (avl K O T (p m)) N 0 (lot1 x % cnt (avl K O T (p m)) N)) (q0 := q0) (f0 := fe W K J (nth (avl K O T (p m)) N 0 (lot1 x % cnt (avl K O T (p m)) N))) hD
        have hV' := dv_more hb hV hm40 hP0 g1 g2
        have hp7' := dv_place hb hV' (Nat.le_refl (m + 1))
        rw [up_s p] at hp7'
        have h' : MLn (va_up a 18 (nI m)) (va_up (va_up (va_up e 75 dx) 76 dy) 77 du 74) P N W K O T J := h
        simp (disch := omega) only [W1080, r_2, r_Li, s_0, ci_1, ci_40, h80_1001, s_40, ci_2147483646, s_41, ci_m1, r_90, r_4, r_La, h60_10_10, ci_m4, r_26, r_6, ci_0, r_5, h79_1040, h79_1041, r_49, h60_10_18, s_45, s_1, cl_48271, r_3, r_Ll, r_22, cl_2147483647, r_24, r_27, h79_1038, ci_m9, r_46, r_47, r_52, r_11, s_8, r_In, h79_1043, enR, LG, LSt, LC, nlR, psR, TK, up_s, up_n, up_u, lt_nI, le_nI, eq_nI, true_and, and_true, if_true, if_false, Nat.zero_add, Nat.add_zero, nI_add, ↓reduceIte, Nat.reduceAdd, Nat.reduceMul, Nat.reduceSub, Nat.reduceLT, Nat.reduceLeDiff, Nat.reduceEqDiff, Nat.not_lt_zero, Nat.lt_irrefl, decide_true, BEq.rfl, nm1, nm2, nm3, nm4, nm9, ngc, eq_self, List.length_cons, List.length_nil, h1, hm40, hpos, hz1, not_false_eq_true, hlm, nI_nl, hz2, hmm, lN_i]
        rw [lp_mlot2 (a := va_up a 18 (nI m)) (e := va_up (va_up (va_up e 75 dx) 76 dy) 77 du) (p := p) (m := m) h' hb (by rw [up_n _ _ (by decide)]; exact m1) (up_s _ _ _) (by omega) m77 hp7 N 0 _ (by omega) hmod]
        rw [m_drive (a := va_up a 18 (nI m)) (e := va_up (va_up (va_up e 75 dx) 76 dy) 77 du) (p := p) (m := m) h' hb g1 (by rw [up_n _ _ (by decide)]; exact m1) (up_s _ _ _) hm40 m77 (by omega) g2]
        rw [up_u, up_757, up_s, up_n _ _ (show (75 : Nat) ≠ 77 by decide), up_n _ _ (show (75 : Nat) ≠ 76 by decide), up_s, up_n _ _ (show (76 : Nat) ≠ 77 by decide), up_s]
        have m77' : ∀ k, k < m + 1 → upd du (m + 1) (nI q0) (k + 1) = nI (va_up p (m + 1) q0 (k + 1)) := fun k hk => (hD'.2.2 k hk).2.2
        unfold kt147
        simp (disch := omega) only [W1080, r_2, r_Li, s_0, ci_1, ci_40, h80_1001, s_40, ci_2147483646, s_41, ci_m1, r_90, r_4, r_La, h60_10_10, ci_m4, r_26, r_6, ci_0, r_5, h79_1040, h79_1041, r_49, h60_10_18, s_45, s_1, cl_48271, r_3, r_Ll, r_22, cl_2147483647, r_24, r_27, h79_1038, ci_m9, r_46, r_47, r_52, r_11, s_8, r_In, h79_1043, enR, LG, LSt, LC, nlR, psR, TK, up_s, up_n, up_u, lt_nI, le_nI, eq_nI, true_and, and_true, if_true, if_false, Nat.zero_add, Nat.add_zero, nI_add, ↓reduceIte, Nat.reduceAdd, Nat.reduceMul, Nat.reduceSub, Nat.reduceLT, Nat.reduceLeDiff, Nat.reduceEqDiff, Nat.not_lt_zero, Nat.lt_irrefl, decide_true, BEq.rfl, nm1, nm2, nm3, nm4, nm9, ngc, eq_self, List.length_cons, List.length_nil]
        rw [m_now (p := va_up p (m + 1) q0) (m := m + 1) (a := va_up a 18 (nI (m + 1))) (by rw [up_n _ _ (by decide)]; exact hD'.1) (up_s _ _ _) (by omega) (by rw [up_s]; exact m77')]
        rw [up_s p]
        simp (disch := omega) only [W1080, r_2, r_Li, s_0, ci_1, ci_40, h80_1001, s_40, ci_2147483646, s_41, ci_m1, r_90, r_4, r_La, h60_10_10, ci_m4, r_26, r_6, ci_0, r_5, h79_1040, h79_1041, r_49, h60_10_18, s_45, s_1, cl_48271, r_3, r_Ll, r_22, cl_2147483647, r_24, r_27, h79_1038, ci_m9, r_46, r_47, r_52, r_11, s_8, r_In, h79_1043, enR, LG, LSt, LC, nlR, psR, TK, up_s, up_n, up_u, lt_nI, le_nI, eq_nI, true_and, and_true, if_true, if_false, Nat.zero_add, Nat.add_zero, nI_add, ↓reduceIte, Nat.reduceAdd, Nat.reduceMul, Nat.reduceSub, Nat.reduceLT, Nat.reduceLeDiff, Nat.reduceEqDiff, Nat.not_lt_zero, Nat.lt_irrefl, decide_true, BEq.rfl, nm1, nm2, nm3, nm4, nm9, ngc, eq_self, List.length_cons, List.length_nil]
        have hM2 : MLn (va_up a 18 (nI (m + 1))) (va_up (va_up (va_up e 75 (upd dx m (nI (nth (avl K O T (p m)) N 0 (lot1 x % cnt (avl K O T (p m)) N))))) 76 (upd dy m (nI (fe W K J (nth (avl K O T (p m)) N 0 (lot1 x % cnt (avl K O T (p m)) N)))))) 77 (upd du (m + 1) (nI q0)) 74) P N W K O T J := h
        rw [m_openFrom hM2 hb (show q0 < 65536 by omega), cntF_cnt]
        simp (disch := omega) only [W1080, r_2, r_Li, s_0, ci_1, ci_40, h80_1001, s_40, ci_2147483646, s_41, ci_m1, r_90, r_4, r_La, h60_10_10, ci_m4, r_26, r_6, ci_0, r_5, h79_1040, h79_1041, r_49, h60_10_18, s_45, s_1, cl_48271, r_3, r_Ll, r_22, cl_2147483647, r_24, r_27, h79_1038, ci_m9, r_46, r_47, r_52, r_11, s_8, r_In, h79_1043, enR, LG, LSt, LC, nlR, psR, TK, up_s, up_n, up_u, lt_nI, le_nI, eq_nI, true_and, and_true, if_true, if_false, Nat.zero_add, Nat.add_zero, nI_add, ↓reduceIte, Nat.reduceAdd, Nat.reduceMul, Nat.reduceSub, Nat.reduceLT, Nat.reduceLeDiff, Nat.reduceEqDiff, Nat.not_lt_zero, Nat.lt_irrefl, decide_true, BEq.rfl, nm1, nm2, nm3, nm4, nm9, ngc, eq_self, List.length_cons, List.length_nil]
        have hh := ih (k + 1) (lot1 x) (m + 1) _ _ _ _ _ _ (by omega) hl1 hV' hD' hml (by omega) hmm'
        rw [up_s p] at hh
        exact hh
end
section
variable {t d : Nat} {z : AZ} {X : Nat × (Nat → Int32)} {C : CT} {M : MT} {s : Nat → Int32} {v : Nat → Int64} {g : Nat → Nat → Int32} {w : Nat → Nat → Int64} {q : Nat → Nat} {ct : Nat → Int32} {cn : Nat → Int32} {cc : Nat → Nat → Int32} {di : Nat → Nat → Int32} {dr : Nat → Nat → Int32} {df : Nat → Nat → Int32} {li : Nat → Nat → Int32} {la : Nat → Nat → Nat → Int32} {sf : Nat → Nat → Int32} {sl : Nat → Nat → Int32} {a : Nat → Int32} {b : Nat → Int64} {e : Nat → Nat → Int32} {o : Nat → Nat → Int64} {B : Nat → Bool} {n : Nat → Nat} {P N W : Nat} {K O T J : Nat → Nat} {l : Nat} {Ds : Nat → Nat} {Dr Df Dp : Nat → Nat → Nat} {KB : Nat → Bool}
theorem op_lots {x y : Int32} (H : RL t z s v g w q ct cn cc di dr df li la sf sl a b e o B n P N W K O T J l Ds Dr Df Dp KB) : OPI (d + 20) 940 1080 [.int x, .int y] t z X (s, v, g, w, q, ct, cn, cc, di, dr, df, li, la, sf, sl) (a, b, e, o) := by
  obtain ⟨hb, hl, hq, hC, hs, hM, hS⟩ := rl_land H
  obtain ⟨hV, hDC, hDM⟩ := rl_drv H
  have hP := hb.1
  have hN := hb.2.1
  have h0 := hC.1
  have h9 := hM.1
  have h40 := hV.1
  unfold OPI
  rw [cw_wp]
  rcases ix x (n := 40) (by decide) with h | ⟨h1, h2, h3⟩ | ⟨n0, hn0, rfl⟩
  · have q1 : x < nI 1 := Int32.lt_trans h (by decide +kernel)
    simp (disch := omega) only [W940, r_2, r_Li, s_0, ci_1, r_48, ci_40, r_50, r_26, s_1, cl_2147483647, r_25, s_42, ci_m1, r_90, r_4, r_La, h60_9_12, h60_3_4, s_41, ci_m4, r_6, ci_0, r_5, r_49, h60_9_3, h60_2_4, h79_308, h80_1200, s_40, h79_202, r_52, r_3, r_Ll, cl_48271, r_22, r_24, r_27, h80_964, h79_304, h60_9_5, h60_6_0, h79_306, h79_204, s_8, r_In, h64_sf, enR, LG, LSt, LC, nlR, psR, TK, up_s, up_n, up_u, lt_nI, le_nI, eq_nI, true_and, and_true, if_true, if_false, Nat.zero_add, Nat.add_zero, nI_add, ↓reduceIte, Nat.reduceAdd, Nat.reduceMul, Nat.reduceSub, Nat.reduceLT, Nat.reduceLeDiff, Nat.reduceEqDiff, Nat.not_lt_zero, Nat.lt_irrefl, decide_true, BEq.rfl, nm1, nm2, nm3, nm4, nm9, ngc, eq_self, List.length_cons, List.length_nil, q1]
    refine okc ?_
    rw [cw_wp]
    simp (disch := omega) only [W1080, r_2, r_Li, s_0, ci_1, ci_40, h80_1001, s_40, ci_2147483646, s_41, ci_m1, r_90, r_4, r_La, h60_10_10, ci_m4, r_26, r_6, ci_0, r_5, h79_1040, h79_1041, r_49, h60_10_18, s_45, s_1, cl_48271, r_3, r_Ll, r_22, cl_2147483647, r_24, r_27, h79_1038, ci_m9, r_46, r_47, r_52, r_11, s_8, r_In, h79_1043, enR, LG, LSt, LC, nlR, psR, TK, up_s, up_n, up_u, lt_nI, le_nI, eq_nI, true_and, and_true, if_true, if_false, Nat.zero_add, Nat.add_zero, nI_add, ↓reduceIte, Nat.reduceAdd, Nat.reduceMul, Nat.reduceSub, Nat.reduceLT, Nat.reduceLeDiff, Nat.reduceEqDiff, Nat.not_lt_zero, Nat.lt_irrefl, decide_true, BEq.rfl, nm1, nm2, nm3, nm4, nm9, ngc, eq_self, List.length_cons, List.length_nil, m_in, q1]
    exact okm (rl_inv (rl_t H))
  · have q4 : ¬ x < nI 1 := fun h => h2 (Int32.lt_trans h (by decide +kernel))
    simp (disch := omega) only [W940, r_2, r_Li, s_0, ci_1, r_48, ci_40, r_50, r_26, s_1, cl_2147483647, r_25, s_42, ci_m1, r_90, r_4, r_La, h60_9_12, h60_3_4, s_41, ci_m4, r_6, ci_0, r_5, r_49, h60_9_3, h60_2_4, h79_308, h80_1200, s_40, h79_202, r_52, r_3, r_Ll, cl_48271, r_22, r_24, r_27, h80_964, h79_304, h60_9_5, h60_6_0, h79_306, h79_204, s_8, r_In, h64_sf, enR, LG, LSt, LC, nlR, psR, TK, up_s, up_n, up_u, lt_nI, le_nI, eq_nI, true_and, and_true, if_true, if_false, Nat.zero_add, Nat.add_zero, nI_add, ↓reduceIte, Nat.reduceAdd, Nat.reduceMul, Nat.reduceSub, Nat.reduceLT, Nat.reduceLeDiff, Nat.reduceEqDiff, Nat.not_lt_zero, Nat.lt_irrefl, decide_true, BEq.rfl, nm1, nm2, nm3, nm4, nm9, ngc, eq_self, List.length_cons, List.length_nil, q4, h3]
    refine okc ?_
    rw [cw_wp]
    simp (disch := omega) only [W1080, r_2, r_Li, s_0, ci_1, ci_40, h80_1001, s_40, ci_2147483646, s_41, ci_m1, r_90, r_4, r_La, h60_10_10, ci_m4, r_26, r_6, ci_0, r_5, h79_1040, h79_1041, r_49, h60_10_18, s_45, s_1, cl_48271, r_3, r_Ll, r_22, cl_2147483647, r_24, r_27, h79_1038, ci_m9, r_46, r_47, r_52, r_11, s_8, r_In, h79_1043, enR, LG, LSt, LC, nlR, psR, TK, up_s, up_n, up_u, lt_nI, le_nI, eq_nI, true_and, and_true, if_true, if_false, Nat.zero_add, Nat.add_zero, nI_add, ↓reduceIte, Nat.reduceAdd, Nat.reduceMul, Nat.reduceSub, Nat.reduceLT, Nat.reduceLeDiff, Nat.reduceEqDiff, Nat.not_lt_zero, Nat.lt_irrefl, decide_true, BEq.rfl, nm1, nm2, nm3, nm4, nm9, ngc, eq_self, List.length_cons, List.length_nil, m_in, q4, h3]
    exact okm (rl_inv (rl_t H))
  have hn1 : ¬ 40 < n0 := by omega
  by_cases hn2 : n0 < 1
  · simp (disch := omega) only [W940, r_2, r_Li, s_0, ci_1, r_48, ci_40, r_50, r_26, s_1, cl_2147483647, r_25, s_42, ci_m1, r_90, r_4, r_La, h60_9_12, h60_3_4, s_41, ci_m4, r_6, ci_0, r_5, r_49, h60_9_3, h60_2_4, h79_308, h80_1200, s_40, h79_202, r_52, r_3, r_Ll, cl_48271, r_22, r_24, r_27, h80_964, h79_304, h60_9_5, h60_6_0, h79_306, h79_204, s_8, r_In, h64_sf, enR, LG, LSt, LC, nlR, psR, TK, up_s, up_n, up_u, lt_nI, le_nI, eq_nI, true_and, and_true, if_true, if_false, Nat.zero_add, Nat.add_zero, nI_add, ↓reduceIte, Nat.reduceAdd, Nat.reduceMul, Nat.reduceSub, Nat.reduceLT, Nat.reduceLeDiff, Nat.reduceEqDiff, Nat.not_lt_zero, Nat.lt_irrefl, decide_true, BEq.rfl, nm1, nm2, nm3, nm4, nm9, ngc, eq_self, List.length_cons, List.length_nil, hn2]
    refine okc ?_
    rw [cw_wp]
    simp (disch := omega) only [W1080, r_2, r_Li, s_0, ci_1, ci_40, h80_1001, s_40, ci_2147483646, s_41, ci_m1, r_90, r_4, r_La, h60_10_10, ci_m4, r_26, r_6, ci_0, r_5, h79_1040, h79_1041, r_49, h60_10_18, s_45, s_1, cl_48271, r_3, r_Ll, r_22, cl_2147483647, r_24, r_27, h79_1038, ci_m9, r_46, r_47, r_52, r_11, s_8, r_In, h79_1043, enR, LG, LSt, LC, nlR, psR, TK, up_s, up_n, up_u, lt_nI, le_nI, eq_nI, true_and, and_true, if_true, if_false, Nat.zero_add, Nat.add_zero, nI_add, ↓reduceIte, Nat.reduceAdd, Nat.reduceMul, Nat.reduceSub, Nat.reduceLT, Nat.reduceLeDiff, Nat.reduceEqDiff, Nat.not_lt_zero, Nat.lt_irrefl, decide_true, BEq.rfl, nm1, nm2, nm3, nm4, nm9, ngc, eq_self, List.length_cons, List.length_nil, m_in, hn2]
    exact okm (rl_inv (rl_t H))
  by_cases hy0 : y < nI 1
  · simp (disch := omega) only [W940, r_2, r_Li, s_0, ci_1, r_48, ci_40, r_50, r_26, s_1, cl_2147483647, r_25, s_42, ci_m1, r_90, r_4, r_La, h60_9_12, h60_3_4, s_41, ci_m4, r_6, ci_0, r_5, r_49, h60_9_3, h60_2_4, h79_308, h80_1200, s_40, h79_202, r_52, r_3, r_Ll, cl_48271, r_22, r_24, r_27, h80_964, h79_304, h60_9_5, h60_6_0, h79_306, h79_204, s_8, r_In, h64_sf, enR, LG, LSt, LC, nlR, psR, TK, up_s, up_n, up_u, lt_nI, le_nI, eq_nI, true_and, and_true, if_true, if_false, Nat.zero_add, Nat.add_zero, nI_add, ↓reduceIte, Nat.reduceAdd, Nat.reduceMul, Nat.reduceSub, Nat.reduceLT, Nat.reduceLeDiff, Nat.reduceEqDiff, Nat.not_lt_zero, Nat.lt_irrefl, decide_true, BEq.rfl, nm1, nm2, nm3, nm4, nm9, ngc, eq_self, List.length_cons, List.length_nil, hn1, hn2, hy0]
    refine okc ?_
    rw [cw_wp]
    simp (disch := omega) only [W1080, r_2, r_Li, s_0, ci_1, ci_40, h80_1001, s_40, ci_2147483646, s_41, ci_m1, r_90, r_4, r_La, h60_10_10, ci_m4, r_26, r_6, ci_0, r_5, h79_1040, h79_1041, r_49, h60_10_18, s_45, s_1, cl_48271, r_3, r_Ll, r_22, cl_2147483647, r_24, r_27, h79_1038, ci_m9, r_46, r_47, r_52, r_11, s_8, r_In, h79_1043, enR, LG, LSt, LC, nlR, psR, TK, up_s, up_n, up_u, lt_nI, le_nI, eq_nI, true_and, and_true, if_true, if_false, Nat.zero_add, Nat.add_zero, nI_add, ↓reduceIte, Nat.reduceAdd, Nat.reduceMul, Nat.reduceSub, Nat.reduceLT, Nat.reduceLeDiff, Nat.reduceEqDiff, Nat.not_lt_zero, Nat.lt_irrefl, decide_true, BEq.rfl, nm1, nm2, nm3, nm4, nm9, ngc, eq_self, List.length_cons, List.length_nil, m_in, hn1, hn2, hy0]
    exact okm (rl_inv (rl_t H))
  obtain ⟨sd, hsd, rfl⟩ := nI_of' (x := y) (fun h => hy0 (Int32.lt_trans h (by decide +kernel)))
  rw [nI_ltI hsd (by decide)] at hy0
  by_cases hbig : sd < 2147483647
  · have hbig2 : ¬ 2147483646 < sd := by omega
    by_cases hP0 : P = 0
    · simp (disch := omega) only [W940, r_2, r_Li, s_0, ci_1, r_48, ci_40, r_50, r_26, s_1, cl_2147483647, r_25, s_42, ci_m1, r_90, r_4, r_La, h60_9_12, h60_3_4, s_41, ci_m4, r_6, ci_0, r_5, r_49, h60_9_3, h60_2_4, h79_308, h80_1200, s_40, h79_202, r_52, r_3, r_Ll, cl_48271, r_22, r_24, r_27, h80_964, h79_304, h60_9_5, h60_6_0, h79_306, h79_204, s_8, r_In, h64_sf, enR, LG, LSt, LC, nlR, psR, TK, up_s, up_n, up_u, lt_nI, le_nI, eq_nI, true_and, and_true, if_true, if_false, Nat.zero_add, Nat.add_zero, nI_add, ↓reduceIte, Nat.reduceAdd, Nat.reduceMul, Nat.reduceSub, Nat.reduceLT, Nat.reduceLeDiff, Nat.reduceEqDiff, Nat.not_lt_zero, Nat.lt_irrefl, decide_true, BEq.rfl, nm1, nm2, nm3, nm4, nm9, ngc, eq_self, List.length_cons, List.length_nil, hn1, hn2, hy0, nI_nl, lcn, hbig, hq, hl, h0, hP0]
      refine okc ?_
      rw [cw_wp]
      simp (disch := omega) only [W1080, r_2, r_Li, s_0, ci_1, ci_40, h80_1001, s_40, ci_2147483646, s_41, ci_m1, r_90, r_4, r_La, h60_10_10, ci_m4, r_26, r_6, ci_0, r_5, h79_1040, h79_1041, r_49, h60_10_18, s_45, s_1, cl_48271, r_3, r_Ll, r_22, cl_2147483647, r_24, r_27, h79_1038, ci_m9, r_46, r_47, r_52, r_11, s_8, r_In, h79_1043, enR, LG, LSt, LC, nlR, psR, TK, up_s, up_n, up_u, lt_nI, le_nI, eq_nI, true_and, and_true, if_true, if_false, Nat.zero_add, Nat.add_zero, nI_add, ↓reduceIte, Nat.reduceAdd, Nat.reduceMul, Nat.reduceSub, Nat.reduceLT, Nat.reduceLeDiff, Nat.reduceEqDiff, Nat.not_lt_zero, Nat.lt_irrefl, decide_true, BEq.rfl, nm1, nm2, nm3, nm4, nm9, ngc, eq_self, List.length_cons, List.length_nil, m_in, hn1, hn2, hy0, hbig2, h9, hP0]
      exact okm (rl_inv (rl_t H))
    · have hPp : 0 < P := by omega
      cases hlt : lts N W K O T J n0 sd (Ds 0) (Dr 0) (Df 0) (Dp 0) with
      | mk m' rest =>
      obtain ⟨r', f', p'⟩ := rest
      have hV' := lts_dv hb hPp n0 sd (Ds 0) (Dr 0) (Df 0) (Dp 0) hV
      rw [hlt] at hV'
      have hmm : Ds 0 ≤ m' := by
        have hlm2 : ∀ (j x m : Nat) (r f p : Nat → Nat), m ≤ (lts N W K O T J j x m r f p).1 := by
          intro j
          induction j with
          | zero => intro x m r f p; exact Nat.le_refl _
          | succ j ih =>
            intro x m r f p
            unfold lts
            split
            · exact Nat.le_refl _
            · exact Nat.le_trans (Nat.le_succ m) (ih _ _ _ _ _)
        have := hlm2 n0 sd (Ds 0) (Dr 0) (Df 0) (Dp 0)
        rw [hlt] at this
        exact this
      simp (disch := omega) only [W940, r_2, r_Li, s_0, ci_1, r_48, ci_40, r_50, r_26, s_1, cl_2147483647, r_25, s_42, ci_m1, r_90, r_4, r_La, h60_9_12, h60_3_4, s_41, ci_m4, r_6, ci_0, r_5, r_49, h60_9_3, h60_2_4, h79_308, h80_1200, s_40, h79_202, r_52, r_3, r_Ll, cl_48271, r_22, r_24, r_27, h80_964, h79_304, h60_9_5, h60_6_0, h79_306, h79_204, s_8, r_In, h64_sf, enR, LG, LSt, LC, nlR, psR, TK, up_s, up_n, up_u, lt_nI, le_nI, eq_nI, true_and, and_true, if_true, if_false, Nat.zero_add, Nat.add_zero, nI_add, ↓reduceIte, Nat.reduceAdd, Nat.reduceMul, Nat.reduceSub, Nat.reduceLT, Nat.reduceLeDiff, Nat.reduceEqDiff, Nat.not_lt_zero, Nat.lt_irrefl, decide_true, BEq.rfl, nm1, nm2, nm3, nm4, nm9, ngc, eq_self, List.length_cons, List.length_nil, hn1, hn2, hy0, nI_nl, lcn, hbig, hq, hl, h0, hP0]
      have := lp_clots (d := d + 16) (z := z) (X := X) (M := (a, b, e, o)) (s := s) (v := v) (g := g) (w := w) (ct := ct) (cn := cn) (cc := cc) (di := di) (dr := dr) (df := df) (sf := sf) (sl := sl) (Q := OKc (d + 20) 1080 [.int (nI n0), .int (nI sd)] t X (a, b, e, o)) (n0 := n0) (x2 := nI sd) (m' := m') (w0 := m' - Ds 0) (r' := r') (f' := f') (p' := p') hl hq hC hb hS hPp (by omega) (fun x y u hD => ?_) n0 0 sd (Ds 0) (Dr 0) (Df 0) (Dp 0) (di 0) (dr 0) (df 0) (by omega) hbig hV hDC hlt (by omega) hmm
      · rw [up_id (rfl : di 0 = di 0), up_id (rfl : dr 0 = dr 0), up_id (rfl : df 0 = df 0)] at this
        exact this
      · refine okc ?_
        have h7 := dv_place hb hV (Nat.le_refl _)
        have hM2 := hDM.2.1
        rw [cw_wp]
        simp (disch := omega) only [W1080, r_2, r_Li, s_0, ci_1, ci_40, h80_1001, s_40, ci_2147483646, s_41, ci_m1, r_90, r_4, r_La, h60_10_10, ci_m4, r_26, r_6, ci_0, r_5, h79_1040, h79_1041, r_49, h60_10_18, s_45, s_1, cl_48271, r_3, r_Ll, r_22, cl_2147483647, r_24, r_27, h79_1038, ci_m9, r_46, r_47, r_52, r_11, s_8, r_In, h79_1043, enR, LG, LSt, LC, nlR, psR, TK, up_s, up_n, up_u, lt_nI, le_nI, eq_nI, true_and, and_true, if_true, if_false, Nat.zero_add, Nat.add_zero, nI_add, ↓reduceIte, Nat.reduceAdd, Nat.reduceMul, Nat.reduceSub, Nat.reduceLT, Nat.reduceLeDiff, Nat.reduceEqDiff, Nat.not_lt_zero, Nat.lt_irrefl, decide_true, BEq.rfl, nm1, nm2, nm3, nm4, nm9, ngc, eq_self, List.length_cons, List.length_nil, m_in, hn1, hn2, hy0, hbig2, h9, hP0, nI_nl, m_now hDM.1 hDM.2.1 h40 (fun k hk => (hDM.2.2 k hk).2.2), m_openFrom hM hb (show Dp 0 (Ds 0) < 65536 by omega), cntF_cnt]
        have hh := lp_mlots (d := d + 16) (z := z) (X := X) (C := (s, v, g, w, q, ct, cn, cc, va_up di 0 x, va_up dr 0 y, va_up df 0 u, li, la, sf, sl)) (a := a) (b := b) (e := e) (o := o) (Q := OKm (nI (m' - Ds 0)) t X (s, v, g, w, q, ct, cn, cc, va_up di 0 x, va_up dr 0 y, va_up df 0 u, li, la, sf, sl)) (n0 := n0) (x2 := nI sd) (m' := m') (w0 := m' - Ds 0) (r' := r') (f' := f') (p' := p') hM hb hPp (by omega) (fun x7 y7 u7 hD7 => ?_) n0 0 sd (Ds 0) (Dr 0) (Df 0) (Dp 0) (e 75) (e 76) (e 77) (by omega) hbig hV ⟨hDM.1, rfl, hDM.2.2⟩ hlt (by omega) hmm
        · rw [up_id hM2, up_id (rfl : e 75 = e 75), up_id (rfl : e 76 = e 76), up_id (rfl : e 77 = e 77)] at hh
          exact hh
        · have H1 : RL (t + 1) z s v g w q ct cn cc (va_up di 0 x) (va_up dr 0 y) (va_up df 0 u) li la sf sl (va_up a 18 (nI m')) b (va_up (va_up (va_up e 75 x7) 76 y7) 77 u7) o B n P N W K O T J l (va_up Ds 0 m') (va_up Dr 0 r') (va_up Df 0 f') (va_up Dp 0 p') KB := by
            obtain ⟨h1, h2, h3, ⟨d1, d2, d3, d4⟩, h5, h6, h7⟩ := H
            refine ⟨h1, h2, h3, ⟨?_, ?_, ?_, fun k hk => ?_⟩, h5, h6, seen_up h7⟩
            · rw [up_s, up_s, up_s, up_s]; exact hV'
            · rw [up_s, up_s, up_s, up_s, up_s, up_s, up_s]; exact hD
            · rw [up_s Ds, up_s Dr, up_s Df, up_s Dp]; exact hD7
            · rw [up_n di _ (show 1 + k ≠ 0 by omega), up_n dr _ (show 1 + k ≠ 0 by omega), up_n df _ (show 1 + k ≠ 0 by omega), up_n Ds _ (show 1 + k ≠ 0 by omega), up_n Dr _ (show 1 + k ≠ 0 by omega), up_n Df _ (show 1 + k ≠ 0 by omega), up_n Dp _ (show 1 + k ≠ 0 by omega)]
              exact d4 k hk
          exact okm (rl_inv H1)
  · have hbig2 : 2147483646 < sd := by omega
    simp (disch := omega) only [W940, r_2, r_Li, s_0, ci_1, r_48, ci_40, r_50, r_26, s_1, cl_2147483647, r_25, s_42, ci_m1, r_90, r_4, r_La, h60_9_12, h60_3_4, s_41, ci_m4, r_6, ci_0, r_5, r_49, h60_9_3, h60_2_4, h79_308, h80_1200, s_40, h79_202, r_52, r_3, r_Ll, cl_48271, r_22, r_24, r_27, h80_964, h79_304, h60_9_5, h60_6_0, h79_306, h79_204, s_8, r_In, h64_sf, enR, LG, LSt, LC, nlR, psR, TK, up_s, up_n, up_u, lt_nI, le_nI, eq_nI, true_and, and_true, if_true, if_false, Nat.zero_add, Nat.add_zero, nI_add, ↓reduceIte, Nat.reduceAdd, Nat.reduceMul, Nat.reduceSub, Nat.reduceLT, Nat.reduceLeDiff, Nat.reduceEqDiff, Nat.not_lt_zero, Nat.lt_irrefl, decide_true, BEq.rfl, nm1, nm2, nm3, nm4, nm9, ngc, eq_self, List.length_cons, List.length_nil, hn1, hn2, hy0, nI_nl, lcn, hbig]
    refine okc ?_
    rw [cw_wp]
    simp (disch := omega) only [W1080, r_2, r_Li, s_0, ci_1, ci_40, h80_1001, s_40, ci_2147483646, s_41, ci_m1, r_90, r_4, r_La, h60_10_10, ci_m4, r_26, r_6, ci_0, r_5, h79_1040, h79_1041, r_49, h60_10_18, s_45, s_1, cl_48271, r_3, r_Ll, r_22, cl_2147483647, r_24, r_27, h79_1038, ci_m9, r_46, r_47, r_52, r_11, s_8, r_In, h79_1043, enR, LG, LSt, LC, nlR, psR, TK, up_s, up_n, up_u, lt_nI, le_nI, eq_nI, true_and, and_true, if_true, if_false, Nat.zero_add, Nat.add_zero, nI_add, ↓reduceIte, Nat.reduceAdd, Nat.reduceMul, Nat.reduceSub, Nat.reduceLT, Nat.reduceLeDiff, Nat.reduceEqDiff, Nat.not_lt_zero, Nat.lt_irrefl, decide_true, BEq.rfl, nm1, nm2, nm3, nm4, nm9, ngc, eq_self, List.length_cons, List.length_nil, m_in, hn1, hn2, hy0, hbig2]
    exact okm (rl_inv (rl_t H))
end

/-! look -/
def feF (W : Nat) (K O T J : Nat → Nat) (p i r : Nat) : Nat := match ldm K O T i p with
  | none => r
  | some _ => r ||| 2 ^ fe W K J i
theorem fe_lks {P N W : Nat} {K O T J : Nat → Nat} (hb : LB P N W K O T J) (p : Nat) : foldu (feF W K O T J p) 0 N 0 = lks (lds N (fe W K J) K O T) p := by
  apply eq_bits
  intro j
  rw [foldu_or (c := fun i => (ldm K O T i p).isSome = true ∧ fe W K J i = j) N 0 0 (fun i x _ _ => ?_)]
  · unfold lks
    rw [foldu_or (c := fun v => lds N (fe W K J) K O T p v ≠ 0 ∧ v = j) 10 0 0 (fun i x _ _ => ?_)]
    · constructor
      · rintro (h | ⟨i, _, h1, h2, h3⟩)
        · exact absurd h (by simp)
        · have hf := fe_lt hb (show i < N by omega)
          obtain ⟨q, hq⟩ := Option.isSome_iff_exists.mp h2
          refine Or.inr ⟨j, Nat.zero_le _, by omega, fun h0 => ?_, rfl⟩
          have := (lds_bit N (fe W K J) K O T p j q).mpr ⟨i, by omega, h3, hq⟩
          rw [h0] at this
          exact absurd this (by simp)
      · rintro (h | ⟨v, _, h1, h2, h3⟩)
        · exact absurd h (by simp)
        · subst h3
          obtain ⟨q, hq⟩ := Nat.exists_testBit_of_ne_zero h2
          obtain ⟨i, g1, g2, g3⟩ := (lds_bit N (fe W K J) K O T p v q).mp hq
          exact Or.inr ⟨i, Nat.zero_le _, by omega, by rw [g3]; rfl, g2⟩
    · show (lkF _ p i x).testBit j = true ↔ _
      unfold lkF
      by_cases h : lds N (fe W K J) K O T p i = 0
      · rw [if_pos h]; simp [h]
      · rw [if_neg h, or_pow]; simp [h]
  · show (feF W K O T J p i x).testBit j = true ↔ _
    unfold feF
    cases hd : ldm K O T i p with
    | none => simp
    | some q => simp only [or_pow, Option.isSome_some, true_and]
theorem nI_andn {a b : Nat} (ha : a < 2147483648) : nI a &&& (nI b ^^^ (-1)) = nI (sto (fun j => a.testBit j && !b.testBit j) 31) := by
  apply Int32.toBitVec_inj.1
  show BitVec.ofNat 32 a &&& (BitVec.ofNat 32 b ^^^ (-1 : Int32).toBitVec) = BitVec.ofNat 32 _
  have e1 : (-1 : Int32).toBitVec = BitVec.allOnes 32 := by decide
  rw [e1]
  apply BitVec.eq_of_getLsbD_eq
  intro i hi
  rw [BitVec.getLsbD_and, BitVec.getLsbD_xor, BitVec.getLsbD_ofNat, BitVec.getLsbD_ofNat, BitVec.getLsbD_ofNat, BitVec.getLsbD_allOnes, sto_bit]
  by_cases h : i < 31
  · simp [h, hi]
  · have h2 : a.testBit i = false := Nat.testBit_lt_two_pow (Nat.lt_of_lt_of_le ha (by
      have : (2:Nat) ^ 31 ≤ 2 ^ i := Nat.pow_le_pow_right (by decide) (by omega)
      omega))
    simp [h, h2]
theorem nI_any (x : Int32) : ∃ k, k < 4294967296 ∧ x = nI k := ⟨x.toBitVec.toNat, x.toBitVec.isLt, by
  apply Int32.toBitVec_inj.1
  show x.toBitVec = BitVec.ofNat 32 _
  rw [BitVec.ofNat_toNat, BitVec.setWidth_eq]⟩
theorem andn0 {x : Int32} {m : Nat} (h : x &&& (nI m ^^^ (-1)) = nI 0) : ∃ k, k ≤ m ∧ x = nI k := by
  obtain ⟨k, hk, rfl⟩ := nI_any x
  refine ⟨k &&& m, Nat.and_le_right, ?_⟩
  rw [← nI_and]
  have h1 := Int32.toBitVec_inj.2 h
  have h1' : BitVec.ofNat 32 k &&& (BitVec.ofNat 32 m ^^^ (-1 : Int32).toBitVec) = BitVec.ofNat 32 0 := h1
  have e1 : (-1 : Int32).toBitVec = BitVec.allOnes 32 := by decide
  rw [e1] at h1'
  apply Int32.toBitVec_inj.1
  show BitVec.ofNat 32 k = BitVec.ofNat 32 k &&& BitVec.ofNat 32 m
  apply BitVec.eq_of_getLsbD_eq
  intro i hi
  have h2 : (BitVec.ofNat 32 k &&& (BitVec.ofNat 32 m ^^^ BitVec.allOnes 32)).getLsbD i = (BitVec.ofNat 32 0).getLsbD i := by rw [h1']
  rw [BitVec.getLsbD_and, BitVec.getLsbD_xor, BitVec.getLsbD_allOnes] at h2
  rw [BitVec.getLsbD_and]
  cases h3 : (BitVec.ofNat 32 k).getLsbD i <;> cases h4 : (BitVec.ofNat 32 m).getLsbD i <;> rw [h3, h4] at h2 <;> simp [hi] at h2 ⊢
theorem and_all {k P : Nat} (hP : P ≤ 7) (hk : k < 2 ^ P) : nI k &&& (nI (2 ^ P - 1) ^^^ (-1)) = nI 0 := by
  have := pow_le7 hP
  rw [nI_andn (by omega)]
  congr 1
  apply eq_bits
  intro j
  rw [sto_bit, Nat.testBit_two_pow_sub_one]
  by_cases h : j < P
  · simp [h]
  · have h2 : k.testBit j = false := Nat.testBit_lt_two_pow (Nat.lt_of_lt_of_le hk (Nat.pow_le_pow_right (by decide) (by omega)))
    simp [h2]
/-- of the PLACES S: those that look as p does -/
def smL (S : Nat) (G : Nat → Nat) (p j : Nat) : Bool := S.testBit j && decide (G j = G p)
def lfL (S : Nat) (G : Nat → Nat) (p j : Nat) : Bool := S.testBit j && allb (fun k => !smL S G j k) 0 p
def pcN (x : Nat) : Nat := foldu (pcF x) 0 10 0
def lkn (S P : Nat) (G : Nat → Nat) : Nat → Nat → Nat → Nat → Nat × Nat
  | 0, _, n, x => (n, x)
  | j + 1, p, n, x => if lfL S G p p = true then lkn S P G j (p + 1) (n + 1) (if pcN x < pcN (sto (smL S G p) P) then sto (smL S G p) P else x) else lkn S P G j (p + 1) n x
theorem lfL_iff {S p j : Nat} {G : Nat → Nat} : lfL S G p j = true ↔ S.testBit j = true ∧ ∀ k, k < p → ¬ (S.testBit k = true ∧ G k = G j) := by
  unfold lfL
  rw [Bool.and_eq_true, allb_iff]
  refine and_congr Iff.rfl ⟨fun h k hk hh => ?_, fun h k _ hk => ?_⟩
  · have := h k (Nat.zero_le _) (by omega)
    simp [smL, hh.1, hh.2] at this
  · have := h k (by omega)
    simp only [smL, Bool.not_eq_true', Bool.and_eq_false_iff, decide_eq_false_iff_not]
    by_cases h1 : S.testBit k = true
    · exact Or.inr (fun h2 => this ⟨h1, h2⟩)
    · exact Or.inl (by simpa using h1)
theorem smL_iff {S p j : Nat} {G : Nat → Nat} : smL S G p j = true ↔ S.testBit j = true ∧ G j = G p := by
  unfold smL
  rw [Bool.and_eq_true, decide_eq_true_eq]
theorem lf_grp {S P p : Nat} {L : Nat → Nat → Nat} (hP : P ≤ 7) (hp : p < P) (h : lfL S (lks L) p p = true) : sto (lfL S (lks L) p) P &&& foldu (plF L (lks L p)) 0 7 0 = sto (smL S (lks L) p) P := by
  obtain ⟨h1, h2⟩ := lfL_iff.mp h
  apply eq_bits
  intro j
  rw [Nat.testBit_and, Bool.and_eq_true, sto_bit, sto_bit, Bool.and_eq_true, Bool.and_eq_true, decide_eq_true_eq, lfL_iff, smL_iff]
  rw [foldu_or (c := fun v => lks L v = lks L p ∧ v = j) 7 0 0 (fun i x _ _ => ?_)]
  · constructor
    · rintro ⟨⟨g1, g2, g3⟩, (g4 | ⟨v, _, _, g5, rfl⟩)⟩
      · exact absurd g4 (by simp)
      · exact ⟨g1, g2, g5⟩
    · rintro ⟨g1, g2, g3⟩
      exact ⟨⟨g1, g2, fun k hk hh => h2 k hk ⟨hh.1, hh.2.trans g3⟩⟩, Or.inr ⟨j, Nat.zero_le _, by omega, g3, rfl⟩⟩
  · show (plF L (lks L p) i x).testBit j = true ↔ _
    unfold plF
    by_cases h : lks L i = lks L p
    · rw [if_pos h, or_pow]; simp [h]
    · rw [if_neg h]; simp [h]
theorem lf_next {S P p : Nat} {G : Nat → Nat} (hP : P ≤ 7) (h : lfL S G p p = true) : sto (fun j => (sto (lfL S G p) P).testBit j && !(sto (smL S G p) P).testBit j) 31 = sto (lfL S G (p + 1)) P := by
  obtain ⟨h1, h2⟩ := lfL_iff.mp h
  apply eq_bits
  intro j
  rw [sto_bit, sto_bit, sto_bit, sto_bit]
  by_cases hj : j < P
  · have hj2 : j < 31 := by omega
    simp only [hj, hj2, decide_true, Bool.true_and, Bool.and_eq_true, Bool.not_eq_true']
    rw [lfL_iff, lfL_iff, ← Bool.not_eq_true, smL_iff]
    constructor
    · rintro ⟨⟨g1, g2⟩, g3⟩
      refine ⟨g1, fun k hk hh => ?_⟩
      by_cases hkp : k = p
      · subst hkp
        exact g3 ⟨g1, hh.2.symm⟩
      · exact g2 k (by omega) hh
    · rintro ⟨g1, g2⟩
      exact ⟨⟨g1, fun k hk => g2 k (by omega)⟩, fun hh => g2 p (by omega) ⟨h1, hh.2.symm⟩⟩
  · simp [hj]
theorem lf_same {S P p : Nat} {G : Nat → Nat} (h : ¬ lfL S G p p = true) : sto (lfL S G p) P = sto (lfL S G (p + 1)) P := by
  apply eq_bits
  intro j
  rw [sto_bit, sto_bit]
  by_cases hj : j < P
  · simp only [hj, decide_true, Bool.true_and]
    rw [lfL_iff, lfL_iff]
    refine and_congr Iff.rfl ⟨fun g k hk hh => ?_, fun g k hk => g k (by omega)⟩
    by_cases hkp : k = p
    · subst hkp
      refine h (lfL_iff.mpr ⟨hh.1, fun k2 hk2 hh2 => ?_⟩)
      exact g k2 hk2 ⟨hh2.1, hh2.2.trans hh.2⟩
    · exact g k (by omega) hh
  · simp [hj]
def fsL (S : Nat) (G : Nat → Nat) (p k : Nat) (b : Bool) : Bool := b && (!smL S G p k || decide (p ≤ k))
theorem fs_iff {S p : Nat} {G : Nat → Nat} : ∀ (j k : Nat) (b : Bool), foldu (fsL S G p) k j b = true ↔ b = true ∧ ∀ i, k ≤ i → i < k + j → smL S G p i = true → p ≤ i := by
  intro j
  induction j with
  | zero => intro k b; exact ⟨fun h => ⟨h, fun i h1 h2 => absurd h2 (by omega)⟩, fun h => h.1⟩
  | succ j ih =>
    intro k b
    show foldu (fsL S G p) (k + 1) j (fsL S G p k b) = true ↔ _
    rw [ih]
    unfold fsL
    rw [Bool.and_eq_true, Bool.or_eq_true, decide_eq_true_eq, Bool.not_eq_true']
    constructor
    · rintro ⟨⟨h1, h2⟩, h3⟩
      refine ⟨h1, fun i g1 g2 g3 => ?_⟩
      by_cases hi : i = k
      · subst hi
        rcases h2 with h2 | h2
        · rw [g3] at h2; exact absurd h2 (by decide)
        · exact h2
      · exact h3 i (by omega) (by omega) g3
    · rintro ⟨h1, h2⟩
      refine ⟨⟨h1, ?_⟩, fun i g1 g2 => h2 i (by omega) (by omega)⟩
      cases h : smL S G p k
      · exact Or.inl rfl
      · exact Or.inr (h2 k (Nat.le_refl _) (by omega) h)
theorem fs_lf {S P p : Nat} {G : Nat → Nat} (hp : p < P) : (foldu (fsL S G p) 0 P (S.testBit p)) = lfL S G p p := by
  apply Bool.eq_iff_iff.mpr
  rw [fs_iff, lfL_iff]
  refine and_congr Iff.rfl ⟨fun h k hk hh => ?_, fun h i _ _ hs => ?_⟩
  · have := h k (Nat.zero_le _) (by omega) (smL_iff.mpr hh); omega
  · exact Nat.le_of_not_lt (fun hlt => h i hlt (smL_iff.mp hs))
theorem pcN_le (x : Nat) : pcN x ≤ 10 := by
  unfold pcN
  rw [pc_cnt]
  exact cnt_le _ _
theorem pcN_lt (x y : Nat) : (nI (pcN x) < nI (pcN y)) = (pcN x < pcN y) := by
  have := pcN_le x
  have := pcN_le y
  exact propext (nI_ltI (by omega) (by omega))
section
variable {d : Nat} {z : AZ} {f : AH} {Q : Option Value → AZ → AH → Prop}
theorem c_bc {n : Nat} (hn : n < 1024) : Cw (d + 1) 1200 [.int (nI n)] z f Q ↔ Q (some (.int (nI (pcN n)))) z f := c_bitCount hn
theorem m_sz {n : Nat} (hn : n < 2147483648) : Cw (d + 1) 1006 [.int (nI n)] z f Q ↔ Q (some (.int (nI (pcN n)))) z f := m_sizeOf hn
end
section
variable {t d : Nat} {z : AZ} {X : Nat × (Nat → Int32)} {C : CT} {M : MT} {s : Nat → Int32} {v : Nat → Int64} {g : Nat → Nat → Int32} {w : Nat → Nat → Int64} {q : Nat → Nat} {ct : Nat → Int32} {cn : Nat → Int32} {cc : Nat → Nat → Int32} {di : Nat → Nat → Int32} {dr : Nat → Nat → Int32} {df : Nat → Nat → Int32} {li : Nat → Nat → Int32} {la : Nat → Nat → Nat → Int32} {sf : Nat → Nat → Int32} {sl : Nat → Nat → Int32} {a : Nat → Int32} {b : Nat → Int64} {e : Nat → Nat → Int32} {o : Nat → Nat → Int64} {B : Nat → Bool} {n : Nat → Nat} {P N W : Nat} {K O T J : Nat → Nat} {l : Nat} {Ds : Nat → Nat} {Dr Df Dp : Nat → Nat → Nat} {KB : Nat → Bool}
variable {Q : Option Value → AZ → AH → Prop}
theorem lp_clook {S x n' : Nat} {L : Nat → Nat → Nat} (hl : l < 2) (hq : q 0 = l) (hC : CLn (li l) (la l) P N K O T J) (hP : P ≤ 7) (hSL : SL (sl 0) L) (hS : S < 128) (hx : x < 1024)
    (hQ : Q (some (.int (nI n'))) z (Hp X (va_up s 15 (nI x), v, g, w, q, ct, cn, cc, di, dr, df, li, la, sf, sl) M)) : ∀ (j p n y : Nat), p + j = P → n ≤ p → y < 1024 → lkn S P (lks L) j p n y = (n', x) → Wp (d + 3) 932 26 [some (.ref 0), some (.int (nI S)), some (.int (nI (sto (lfL S (lks L) p) P))), some (.int (nI n)), some (.int (nI y)), some (.int (nI p))] [] z (Hp X (s, v, g, w, q, ct, cn, cc, di, dr, df, li, la, sf, sl) M) Q := by
  have h0 := hC.1
  intro j
  induction j with
  | zero =>
    intro p n y hp hn hy hlk
    have hp : p = P := by omega
    subst hp
    have e1 := (Prod.mk.inj hlk).1
    have e2 := (Prod.mk.inj hlk).2
    rw [W932_26]
    simp (disch := omega) only [W932, r_2, r_Li, r_4, r_La, h60_9_12, h79_305, s_0, ci_m1, r_17, r_15, s_40, r_90, r_5, ci_0, h60_3_4, r_49, ci_1, r_18, h60_9_5, h79_607, h79_608, s_8, r_In, h80_1200, r_51, r_52, h61_9_15, enR, LG, LSt, LC, nlR, psR, TK, up_s, up_n, up_u, lt_nI, le_nI, eq_nI, true_and, and_true, if_true, if_false, Nat.zero_add, Nat.add_zero, nI_add, ↓reduceIte, Nat.reduceAdd, Nat.reduceMul, Nat.reduceSub, Nat.reduceLT, Nat.reduceLeDiff, Nat.reduceEqDiff, Nat.not_lt_zero, Nat.lt_irrefl, decide_true, BEq.rfl, nm1, nm2, nm3, nm4, nm9, ngc, eq_self, List.length_cons, List.length_nil, hq, hl, h0]
    rw [e1, e2]
    exact hQ
  | succ j ih =>
    intro p n y hp hn hy hlk
    have h1 : p < P := by omega
    have h7 : p < 7 := by omega
    have hlt : sto (lfL S (lks L) p) P < 128 := sto_lt _ (m := 7) hP
    have hlt2 : sto (smL S (lks L) p) P < 128 := sto_lt _ (m := 7) hP
    have hb1 : (sto (lfL S (lks L) p) P).testBit p = lfL S (lks L) p p := by rw [sto_bit]; simp [h1]
    have h3 := lks_lt L p
    unfold lkn at hlk
    rw [W932_26]
    by_cases hc : lfL S (lks L) p p = true
    · rw [if_pos hc] at hlk
      by_cases hpc : pcN y < pcN (sto (smL S (lks L) p) P)
      · rw [if_pos hpc] at hlk
        simp (disch := omega) only [W932, r_2, r_Li, r_4, r_La, h60_9_12, h79_305, s_0, ci_m1, r_17, r_15, s_40, r_90, r_5, ci_0, h60_3_4, r_49, ci_1, r_18, h60_9_5, h79_607, h79_608, s_8, r_In, h80_1200, r_51, r_52, h61_9_15, enR, LG, LSt, LC, nlR, psR, TK, up_s, up_n, up_u, lt_nI, le_nI, eq_nI, true_and, and_true, if_true, if_false, Nat.zero_add, Nat.add_zero, nI_add, ↓reduceIte, Nat.reduceAdd, Nat.reduceMul, Nat.reduceSub, Nat.reduceLT, Nat.reduceLeDiff, Nat.reduceEqDiff, Nat.not_lt_zero, Nat.lt_irrefl, decide_true, BEq.rfl, nm1, nm2, nm3, nm4, nm9, ngc, eq_self, List.length_cons, List.length_nil, hq, hl, h0, h1, nI_bit, nI_and, bitz, hb1, hc, Bool.true_eq_false, c_looks (show 0 < 2 by omega) hSL h7, c_placesL (show 0 < 2 by omega) hSL (show lks L p < 65536 by omega), lf_grp hP h1 hc, nI_andn, lf_next hP hc, c_bc, pcN_lt, hpc]
        exact ih (p + 1) (n + 1) _ (by omega) (by omega) (by omega) hlk
      · rw [if_neg hpc] at hlk
        simp (disch := omega) only [W932, r_2, r_Li, r_4, r_La, h60_9_12, h79_305, s_0, ci_m1, r_17, r_15, s_40, r_90, r_5, ci_0, h60_3_4, r_49, ci_1, r_18, h60_9_5, h79_607, h79_608, s_8, r_In, h80_1200, r_51, r_52, h61_9_15, enR, LG, LSt, LC, nlR, psR, TK, up_s, up_n, up_u, lt_nI, le_nI, eq_nI, true_and, and_true, if_true, if_false, Nat.zero_add, Nat.add_zero, nI_add, ↓reduceIte, Nat.reduceAdd, Nat.reduceMul, Nat.reduceSub, Nat.reduceLT, Nat.reduceLeDiff, Nat.reduceEqDiff, Nat.not_lt_zero, Nat.lt_irrefl, decide_true, BEq.rfl, nm1, nm2, nm3, nm4, nm9, ngc, eq_self, List.length_cons, List.length_nil, hq, hl, h0, h1, nI_bit, nI_and, bitz, hb1, hc, Bool.true_eq_false, c_looks (show 0 < 2 by omega) hSL h7, c_placesL (show 0 < 2 by omega) hSL (show lks L p < 65536 by omega), lf_grp hP h1 hc, nI_andn, lf_next hP hc, c_bc, pcN_lt, hpc]
        exact ih (p + 1) (n + 1) _ (by omega) (by omega) hy hlk
    · rw [if_neg hc] at hlk
      have hc' : lfL S (lks L) p p = false := by simpa using hc
      simp (disch := omega) only [W932, r_2, r_Li, r_4, r_La, h60_9_12, h79_305, s_0, ci_m1, r_17, r_15, s_40, r_90, r_5, ci_0, h60_3_4, r_49, ci_1, r_18, h60_9_5, h79_607, h79_608, s_8, r_In, h80_1200, r_51, r_52, h61_9_15, enR, LG, LSt, LC, nlR, psR, TK, up_s, up_n, up_u, lt_nI, le_nI, eq_nI, true_and, and_true, if_true, if_false, Nat.zero_add, Nat.add_zero, nI_add, ↓reduceIte, Nat.reduceAdd, Nat.reduceMul, Nat.reduceSub, Nat.reduceLT, Nat.reduceLeDiff, Nat.reduceEqDiff, Nat.not_lt_zero, Nat.lt_irrefl, decide_true, BEq.rfl, nm1, nm2, nm3, nm4, nm9, ngc, eq_self, List.length_cons, List.length_nil, hq, hl, h0, h1, nI_bit, nI_and, bitz, hb1, hc', Bool.true_eq_false]
      rw [lf_same hc]
      exact ih (p + 1) n y (by omega) (by omega) hy hlk
end
section
variable {d : Nat} {z : AZ} {f : AH} {Q : Option Value → AZ → AH → Prop} {X : Nat × (Nat → Int32)} {C : CT} {a : Nat → Int32} {b : Nat → Int64} {e : Nat → Nat → Int32} {o : Nat → Nat → Int64} {P N W : Nat} {K O T J : Nat → Nat}
theorem lp_mfe {p : Nat} (h : MLn a (e 74) P N W K O T J) (hb : LB P N W K O T J) (hp : p < 65536) : ∀ (j i r : Nat), i + j = N → (Wp (d + 2) 1068 4 [some (.ref 67), some (.int (nI p)), some (.int (nI r)), some (.int (nI i))] [] z (Hp X C (a, b, e, o)) Q ↔ Q (some (.int (nI (foldu (feF W K O T J p) i j r)))) z (Hp X C (a, b, e, o))) := by
  have hN := hb.2.1
  have h1 := h.2.1
  intro j
  induction j with
  | zero =>
    intro i r hi
    have hi : i = N := by omega
    subst hi
    rw [W1068_4]
    simp (disch := omega) only [W1068, s_0, ci_0, r_5, r_2, r_Li, r_4, r_La, h60_10_11, r_49, h79_1038, ci_m9, r_47, r_52, ci_1, h79_1032, r_18, r_16, s_8, r_In, r_90, enR, LG, LSt, LC, nlR, psR, TK, up_s, up_n, up_u, lt_nI, le_nI, eq_nI, true_and, and_true, if_true, if_false, Nat.zero_add, Nat.add_zero, nI_add, ↓reduceIte, Nat.reduceAdd, Nat.reduceMul, Nat.reduceSub, Nat.reduceLT, Nat.reduceLeDiff, Nat.reduceEqDiff, Nat.not_lt_zero, Nat.lt_irrefl, decide_true, BEq.rfl, nm1, nm2, nm3, nm4, nm9, ngc, eq_self, List.length_cons, List.length_nil, h1, foldu]
  | succ j ih =>
    intro i r hi
    have h2 : i < N := by omega
    have hf := fe_lt hb h2
    have hP := hb.1
    rw [W1068_4]
    cases hd : ldm K O T i p with
    | none =>
      simp (disch := omega) only [W1068, s_0, ci_0, r_5, r_2, r_Li, r_4, r_La, h60_10_11, r_49, h79_1038, ci_m9, r_47, r_52, ci_1, h79_1032, r_18, r_16, s_8, r_In, r_90, enR, LG, LSt, LC, nlR, psR, TK, up_s, up_n, up_u, lt_nI, le_nI, eq_nI, true_and, and_true, if_true, if_false, Nat.zero_add, Nat.add_zero, nI_add, ↓reduceIte, Nat.reduceAdd, Nat.reduceMul, Nat.reduceSub, Nat.reduceLT, Nat.reduceLeDiff, Nat.reduceEqDiff, Nat.not_lt_zero, Nat.lt_irrefl, decide_true, BEq.rfl, nm1, nm2, nm3, nm4, nm9, ngc, eq_self, List.length_cons, List.length_nil, h1, h2, m_leads h hb h2 hp, hd, o2i, foldu, feF, nI_or, Nat.or_zero]
      exact ih (i + 1) _ (by omega)
    | some t0 =>
      have ht := ldm_lt hb h2 hd
      simp (disch := omega) only [W1068, s_0, ci_0, r_5, r_2, r_Li, r_4, r_La, h60_10_11, r_49, h79_1038, ci_m9, r_47, r_52, ci_1, h79_1032, r_18, r_16, s_8, r_In, r_90, enR, LG, LSt, LC, nlR, psR, TK, up_s, up_n, up_u, lt_nI, le_nI, eq_nI, true_and, and_true, if_true, if_false, Nat.zero_add, Nat.add_zero, nI_add, ↓reduceIte, Nat.reduceAdd, Nat.reduceMul, Nat.reduceSub, Nat.reduceLT, Nat.reduceLeDiff, Nat.reduceEqDiff, Nat.not_lt_zero, Nat.lt_irrefl, decide_true, BEq.rfl, nm1, nm2, nm3, nm4, nm9, ngc, eq_self, List.length_cons, List.length_nil, h1, h2, m_leads h hb h2 hp, hd, o2i, foldu, feF, m_feelOf h hb h2, nI_bit, nI_or]
      exact ih (i + 1) _ (by omega)
theorem m_feelsFrom {p : Nat} (h : MLn a (e 74) P N W K O T J) (hb : LB P N W K O T J) (hp : p < 65536) : Cw (d + 3) 1068 [.ref 67, .int (nI p)] z (Hp X C (a, b, e, o)) Q ↔ Q (some (.int (nI (lks (lds N (fe W K J) K O T) p)))) z (Hp X C (a, b, e, o)) := by
  rw [cw_wp]
  simp (disch := omega) only [W1068, s_0, ci_0, r_5, r_2, r_Li, r_4, r_La, h60_10_11, r_49, h79_1038, ci_m9, r_47, r_52, ci_1, h79_1032, r_18, r_16, s_8, r_In, r_90, enR, LG, LSt, LC, nlR, psR, TK, up_s, up_n, up_u, lt_nI, le_nI, eq_nI, true_and, and_true, if_true, if_false, Nat.zero_add, Nat.add_zero, nI_add, ↓reduceIte, Nat.reduceAdd, Nat.reduceMul, Nat.reduceSub, Nat.reduceLT, Nat.reduceLeDiff, Nat.reduceEqDiff, Nat.not_lt_zero, Nat.lt_irrefl, decide_true, BEq.rfl, nm1, nm2, nm3, nm4, nm9, ngc, eq_self, List.length_cons, List.length_nil]
  rw [lp_mfe h hb hp N 0 0 (by omega), fe_lks hb p]
end
section
variable {d : Nat} {z : AZ} {f : AH} {Q : Option Value → AZ → AH → Prop} {X : Nat × (Nat → Int32)} {C : CT} {a : Nat → Int32} {b : Nat → Int64} {e : Nat → Nat → Int32} {o : Nat → Nat → Int64} {P N W : Nat} {K O T J : Nat → Nat}
def kt132 (d S n y p P μ : Nat) (b0 : Bool) (z : AZ) (f : AH) (Q : Option Value → AZ → AH → Prop) : Prop := Wp (d + 3) 1069 132 [some (.ref 67), some (.int (nI S)), some (.int (nI n)), some (.int (nI y)), some (.int (nI p)), some (.int (nI μ)), some (.int (if b0 = true then nI 1 else nI 0)), some (.int (nI P))] [] z f Q
theorem lp_mlook2 {S n y p : Nat} (h : MLn a (e 74) P N W K O T J) (hb : LB P N W K O T J) (hS : S < 128) (hp : p < P) : ∀ (j k : Nat) (b0 : Bool), k + j = P → (Wp (d + 3) 1069 44 [some (.ref 67), some (.int (nI S)), some (.int (nI n)), some (.int (nI y)), some (.int (nI p)), some (.int (nI (sto (smL S (lks (lds N (fe W K J) K O T)) p) k))), some (.int (if b0 = true then nI 1 else nI 0)), some (.int (nI k))] [] z (Hp X C (a, b, e, o)) Q ↔ kt132 d S n y p P (sto (smL S (lks (lds N (fe W K J) K O T)) p) P) (foldu (fsL S (lks (lds N (fe W K J) K O T)) p) k j b0) z (Hp X C (a, b, e, o)) Q) := by
  have hP := hb.1
  have h0 := h.1
  intro j
  induction j with
  | zero =>
    intro k b0 hk
    have hk : k = P := by omega
    subst hk
    unfold kt132
    rw [W1069_44]
    cases b0 <;> simp (disch := omega) only [W1069, r_2, r_Li, s_0, ci_0, r_4, r_La, h79_1060, h80_1001, s_41, ci_m1, r_90, r_5, h60_10_10, r_49, h80_1005, s_40, h79_1068, r_47, ci_1, r_52, r_18, r_16, r_48, s_8, r_In, r_10, h80_1006, r_51, h79_1003, enR, LG, LSt, LC, nlR, psR, TK, up_s, up_n, up_u, lt_nI, le_nI, eq_nI, true_and, and_true, if_true, if_false, Nat.zero_add, Nat.add_zero, nI_add, ↓reduceIte, Nat.reduceAdd, Nat.reduceMul, Nat.reduceSub, Nat.reduceLT, Nat.reduceLeDiff, Nat.reduceEqDiff, Nat.not_lt_zero, Nat.lt_irrefl, decide_true, BEq.rfl, nm1, nm2, nm3, nm4, nm9, ngc, eq_self, List.length_cons, List.length_nil, h0, foldu, Bool.false_eq_true]
  | succ j ih =>
    intro k b0 hk
    have h1 : k < P := by omega
    have g1 := lks_lt (lds N (fe W K J) K O T) p
    have g2 := lks_lt (lds N (fe W K J) K O T) k
    show _ ↔ kt132 d S n y p P _ (foldu (fsL S (lks (lds N (fe W K J) K O T)) p) (k + 1) j (fsL S (lks (lds N (fe W K J) K O T)) p k b0)) z (Hp X C (a, b, e, o)) Q
    rw [← ih (k + 1) _ (by omega), W1069_44, sto_succ]
    by_cases h2 : S.testBit k = true
    · by_cases h3 : lks (lds N (fe W K J) K O T) k = lks (lds N (fe W K J) K O T) p
      · by_cases h4 : k < p
        · have h5 : ¬ p ≤ k := by omega
          cases b0 <;> simp (disch := omega) only [W1069, r_2, r_Li, s_0, ci_0, r_4, r_La, h79_1060, h80_1001, s_41, ci_m1, r_90, r_5, h60_10_10, r_49, h80_1005, s_40, h79_1068, r_47, ci_1, r_52, r_18, r_16, r_48, s_8, r_In, r_10, h80_1006, r_51, h79_1003, enR, LG, LSt, LC, nlR, psR, TK, up_s, up_n, up_u, lt_nI, le_nI, eq_nI, true_and, and_true, if_true, if_false, Nat.zero_add, Nat.add_zero, nI_add, ↓reduceIte, Nat.reduceAdd, Nat.reduceMul, Nat.reduceSub, Nat.reduceLT, Nat.reduceLeDiff, Nat.reduceEqDiff, Nat.not_lt_zero, Nat.lt_irrefl, decide_true, BEq.rfl, nm1, nm2, nm3, nm4, nm9, ngc, eq_self, List.length_cons, List.length_nil, h0, h1, h2, h3, h4, h5, m_has, m_feelsFrom h hb (show k < 65536 by omega), m_feelsFrom h hb (show p < 65536 by omega), nI_bit, nI_or, fsL, smL, Bool.false_eq_true, Bool.true_and, Bool.false_and, Bool.not_true, Bool.not_false, Bool.true_or, Bool.false_or, decide_false]
        · have h5 : p ≤ k := by omega
          cases b0 <;> simp (disch := omega) only [W1069, r_2, r_Li, s_0, ci_0, r_4, r_La, h79_1060, h80_1001, s_41, ci_m1, r_90, r_5, h60_10_10, r_49, h80_1005, s_40, h79_1068, r_47, ci_1, r_52, r_18, r_16, r_48, s_8, r_In, r_10, h80_1006, r_51, h79_1003, enR, LG, LSt, LC, nlR, psR, TK, up_s, up_n, up_u, lt_nI, le_nI, eq_nI, true_and, and_true, if_true, if_false, Nat.zero_add, Nat.add_zero, nI_add, ↓reduceIte, Nat.reduceAdd, Nat.reduceMul, Nat.reduceSub, Nat.reduceLT, Nat.reduceLeDiff, Nat.reduceEqDiff, Nat.not_lt_zero, Nat.lt_irrefl, decide_true, BEq.rfl, nm1, nm2, nm3, nm4, nm9, ngc, eq_self, List.length_cons, List.length_nil, h0, h1, h2, h3, h4, h5, m_has, m_feelsFrom h hb (show k < 65536 by omega), m_feelsFrom h hb (show p < 65536 by omega), nI_bit, nI_or, fsL, smL, Bool.false_eq_true, Bool.true_and, Bool.false_and, Bool.not_true, Bool.not_false, Bool.true_or, Bool.false_or, decide_false]
      · cases b0 <;> simp (disch := omega) only [W1069, r_2, r_Li, s_0, ci_0, r_4, r_La, h79_1060, h80_1001, s_41, ci_m1, r_90, r_5, h60_10_10, r_49, h80_1005, s_40, h79_1068, r_47, ci_1, r_52, r_18, r_16, r_48, s_8, r_In, r_10, h80_1006, r_51, h79_1003, enR, LG, LSt, LC, nlR, psR, TK, up_s, up_n, up_u, lt_nI, le_nI, eq_nI, true_and, and_true, if_true, if_false, Nat.zero_add, Nat.add_zero, nI_add, ↓reduceIte, Nat.reduceAdd, Nat.reduceMul, Nat.reduceSub, Nat.reduceLT, Nat.reduceLeDiff, Nat.reduceEqDiff, Nat.not_lt_zero, Nat.lt_irrefl, decide_true, BEq.rfl, nm1, nm2, nm3, nm4, nm9, ngc, eq_self, List.length_cons, List.length_nil, h0, h1, h2, h3, m_has, m_feelsFrom h hb (show k < 65536 by omega), m_feelsFrom h hb (show p < 65536 by omega), nI_bit, nI_or, Nat.or_zero, fsL, smL, Bool.false_eq_true, Bool.true_and, Bool.false_and, Bool.not_true, Bool.not_false, Bool.true_or, Bool.false_or, decide_false]
    · have h2' : S.testBit k = false := by simpa using h2
      cases b0 <;> simp (disch := omega) only [W1069, r_2, r_Li, s_0, ci_0, r_4, r_La, h79_1060, h80_1001, s_41, ci_m1, r_90, r_5, h60_10_10, r_49, h80_1005, s_40, h79_1068, r_47, ci_1, r_52, r_18, r_16, r_48, s_8, r_In, r_10, h80_1006, r_51, h79_1003, enR, LG, LSt, LC, nlR, psR, TK, up_s, up_n, up_u, lt_nI, le_nI, eq_nI, true_and, and_true, if_true, if_false, Nat.zero_add, Nat.add_zero, nI_add, ↓reduceIte, Nat.reduceAdd, Nat.reduceMul, Nat.reduceSub, Nat.reduceLT, Nat.reduceLeDiff, Nat.reduceEqDiff, Nat.not_lt_zero, Nat.lt_irrefl, decide_true, BEq.rfl, nm1, nm2, nm3, nm4, nm9, ngc, eq_self, List.length_cons, List.length_nil, h0, h1, h2', m_has, nI_bit, nI_or, Nat.or_zero, fsL, smL, Bool.false_eq_true, Bool.true_and, Bool.false_and, Bool.not_true, Bool.not_false, Bool.true_or, Bool.false_or, decide_false]
theorem lp_mlook {S x n' : Nat} (h : MLn a (e 74) P N W K O T J) (hb : LB P N W K O T J) (hS : S < 128) (hx : x < 1024)
    (hQ : Q (some (.int (nI n'))) z (Hp X C (va_up a 2 (nI x), b, e, o))) : ∀ (j p n y : Nat), p + j = P → n ≤ p → y < 1024 → lkn S P (lks (lds N (fe W K J) K O T)) j p n y = (n', x) → Wp (d + 3) 1069 21 [some (.ref 67), some (.int (nI S)), some (.int (nI n)), some (.int (nI y)), some (.int (nI p))] [] z (Hp X C (a, b, e, o)) Q := by
  have hP := hb.1
  have h0 := h.1
  intro j
  induction j with
  | zero =>
    intro p n y hp hn hy hlk
    have hp : p = P := by omega
    subst hp
    have e1 := (Prod.mk.inj hlk).1
    have e2 := (Prod.mk.inj hlk).2
    rw [W1069_21]
    simp (disch := omega) only [W1069, r_2, r_Li, s_0, ci_0, r_4, r_La, h79_1060, h80_1001, s_41, ci_m1, r_90, r_5, h60_10_10, r_49, h80_1005, s_40, h79_1068, r_47, ci_1, r_52, r_18, r_16, r_48, s_8, r_In, r_10, h80_1006, r_51, h79_1003, enR, LG, LSt, LC, nlR, psR, TK, up_s, up_n, up_u, lt_nI, le_nI, eq_nI, true_and, and_true, if_true, if_false, Nat.zero_add, Nat.add_zero, nI_add, ↓reduceIte, Nat.reduceAdd, Nat.reduceMul, Nat.reduceSub, Nat.reduceLT, Nat.reduceLeDiff, Nat.reduceEqDiff, Nat.not_lt_zero, Nat.lt_irrefl, decide_true, BEq.rfl, nm1, nm2, nm3, nm4, nm9, ngc, eq_self, List.length_cons, List.length_nil, h0, m_ask]
    rw [e1, e2]
    exact hQ
  | succ j ih =>
    intro p n y hp hn hy hlk
    have h1 : p < P := by omega
    have hlt2 : sto (smL S (lks (lds N (fe W K J) K O T)) p) P < 128 := sto_lt _ (m := 7) hP
    unfold lkn at hlk
    rw [W1069_21]
    simp (disch := omega) only [W1069, r_2, r_Li, s_0, ci_0, r_4, r_La, h79_1060, h80_1001, s_41, ci_m1, r_90, r_5, h60_10_10, r_49, h80_1005, s_40, h79_1068, r_47, ci_1, r_52, r_18, r_16, r_48, s_8, r_In, r_10, h80_1006, r_51, h79_1003, enR, LG, LSt, LC, nlR, psR, TK, up_s, up_n, up_u, lt_nI, le_nI, eq_nI, true_and, and_true, if_true, if_false, Nat.zero_add, Nat.add_zero, nI_add, ↓reduceIte, Nat.reduceAdd, Nat.reduceMul, Nat.reduceSub, Nat.reduceLT, Nat.reduceLeDiff, Nat.reduceEqDiff, Nat.not_lt_zero, Nat.lt_irrefl, decide_true, BEq.rfl, nm1, nm2, nm3, nm4, nm9, ngc, eq_self, List.length_cons, List.length_nil, h0, h1, m_has]
    have h2 := lp_mlook2 (d := d) (z := z) (Q := Q) (X := X) (C := C) (b := b) (o := o) (n := n) (y := y) h hb hS h1 P 0 (S.testBit p) (by omega)
    rw [fs_lf h1] at h2
    refine h2.mpr ?_
    unfold kt132
    by_cases hc : lfL S (lks (lds N (fe W K J) K O T)) p p = true
    · rw [if_pos hc] at hlk
      by_cases hpc : pcN y < pcN (sto (smL S (lks (lds N (fe W K J) K O T)) p) P)
      · rw [if_pos hpc] at hlk
        simp (disch := omega) only [W1069, r_2, r_Li, s_0, ci_0, r_4, r_La, h79_1060, h80_1001, s_41, ci_m1, r_90, r_5, h60_10_10, r_49, h80_1005, s_40, h79_1068, r_47, ci_1, r_52, r_18, r_16, r_48, s_8, r_In, r_10, h80_1006, r_51, h79_1003, enR, LG, LSt, LC, nlR, psR, TK, up_s, up_n, up_u, lt_nI, le_nI, eq_nI, true_and, and_true, if_true, if_false, Nat.zero_add, Nat.add_zero, nI_add, ↓reduceIte, Nat.reduceAdd, Nat.reduceMul, Nat.reduceSub, Nat.reduceLT, Nat.reduceLeDiff, Nat.reduceEqDiff, Nat.not_lt_zero, Nat.lt_irrefl, decide_true, BEq.rfl, nm1, nm2, nm3, nm4, nm9, ngc, eq_self, List.length_cons, List.length_nil, hc, m_sz, pcN_lt, hpc]
        exact ih (p + 1) (n + 1) _ (by omega) (by omega) (by omega) hlk
      · rw [if_neg hpc] at hlk
        simp (disch := omega) only [W1069, r_2, r_Li, s_0, ci_0, r_4, r_La, h79_1060, h80_1001, s_41, ci_m1, r_90, r_5, h60_10_10, r_49, h80_1005, s_40, h79_1068, r_47, ci_1, r_52, r_18, r_16, r_48, s_8, r_In, r_10, h80_1006, r_51, h79_1003, enR, LG, LSt, LC, nlR, psR, TK, up_s, up_n, up_u, lt_nI, le_nI, eq_nI, true_and, and_true, if_true, if_false, Nat.zero_add, Nat.add_zero, nI_add, ↓reduceIte, Nat.reduceAdd, Nat.reduceMul, Nat.reduceSub, Nat.reduceLT, Nat.reduceLeDiff, Nat.reduceEqDiff, Nat.not_lt_zero, Nat.lt_irrefl, decide_true, BEq.rfl, nm1, nm2, nm3, nm4, nm9, ngc, eq_self, List.length_cons, List.length_nil, hc, m_sz, pcN_lt, hpc]
        exact ih (p + 1) (n + 1) _ (by omega) (by omega) hy hlk
    · rw [if_neg hc] at hlk
      simp (disch := omega) only [W1069, r_2, r_Li, s_0, ci_0, r_4, r_La, h79_1060, h80_1001, s_41, ci_m1, r_90, r_5, h60_10_10, r_49, h80_1005, s_40, h79_1068, r_47, ci_1, r_52, r_18, r_16, r_48, s_8, r_In, r_10, h80_1006, r_51, h79_1003, enR, LG, LSt, LC, nlR, psR, TK, up_s, up_n, up_u, lt_nI, le_nI, eq_nI, true_and, and_true, if_true, if_false, Nat.zero_add, Nat.add_zero, nI_add, ↓reduceIte, Nat.reduceAdd, Nat.reduceMul, Nat.reduceSub, Nat.reduceLT, Nat.reduceLeDiff, Nat.reduceEqDiff, Nat.not_lt_zero, Nat.lt_irrefl, decide_true, BEq.rfl, nm1, nm2, nm3, nm4, nm9, ngc, eq_self, List.length_cons, List.length_nil, hc]
      exact ih (p + 1) n y (by omega) (by omega) hy hlk
end
section
variable {t d : Nat} {z : AZ} {X : Nat × (Nat → Int32)} {C : CT} {M : MT} {s : Nat → Int32} {v : Nat → Int64} {g : Nat → Nat → Int32} {w : Nat → Nat → Int64} {q : Nat → Nat} {ct : Nat → Int32} {cn : Nat → Int32} {cc : Nat → Nat → Int32} {di : Nat → Nat → Int32} {dr : Nat → Nat → Int32} {df : Nat → Nat → Int32} {li : Nat → Nat → Int32} {la : Nat → Nat → Nat → Int32} {sf : Nat → Nat → Int32} {sl : Nat → Nat → Int32} {a : Nat → Int32} {b : Nat → Int64} {e : Nat → Nat → Int32} {o : Nat → Nat → Int64} {B : Nat → Bool} {n : Nat → Nat} {P N W : Nat} {K O T J : Nat → Nat} {l : Nat} {Ds : Nat → Nat} {Dr Df Dp : Nat → Nat → Nat} {KB : Nat → Bool}
theorem op_look {x : Int32} (H : RL t z s v g w q ct cn cc di dr df li la sf sl a b e o B n P N W K O T J l Ds Dr Df Dp KB) : OPI (d + 20) 932 1069 [.int x] t z X (s, v, g, w, q, ct, cn, cc, di, dr, df, li, la, sf, sl) (a, b, e, o) := by
  obtain ⟨hb, hl, hq, hC, hs, hM, hS⟩ := rl_land H
  have hP := hb.1
  have h7 := pow_le7 hP
  have h2 := Nat.two_pow_pos P
  unfold OPI
  rw [cw_wp]
  by_cases hx : x &&& (nI (2 ^ P - 1) ^^^ (-1)) = nI 0
  · obtain ⟨S, hS1, rfl⟩ := andn0 hx
    have hS2 : ¬ 2 ^ P - 1 < S := by omega
    have hsb : sto (lfL S (lks (lds N (fe W K J) K O T)) 0) P = S := by
      apply eq_bits
      intro j
      rw [sto_bit, Bool.and_eq_true, decide_eq_true_eq, lfL_iff]
      constructor
      · rintro ⟨_, h, _⟩; exact h
      · intro h
        refine ⟨Nat.lt_of_not_le (fun hle => ?_), h, fun k hk => absurd hk (by omega)⟩
        rw [Nat.testBit_lt_two_pow (Nat.lt_of_lt_of_le (show S < 2 ^ P by omega) (Nat.pow_le_pow_right (by decide) hle))] at h
        exact absurd h (by decide)
    cases hlk : lkn S P (lks (lds N (fe W K J) K O T)) P 0 0 0 with
    | mk n' y' =>
    have hy : y' < 1024 := by
      have : ∀ (j p n y : Nat), y < 1024 → (lkn S P (lks (lds N (fe W K J) K O T)) j p n y).2 < 1024 := by
        intro j
        induction j with
        | zero => intro p n y h; exact h
        | succ j ih =>
          intro p n y h
          unfold lkn
          split
          · refine ih _ _ _ ?_
            split
            · exact sto_lt _ (m := 10) (by omega)
            · exact h
          · exact ih _ _ _ h
      have := this P 0 0 0 (by decide)
      rw [hlk] at this
      exact this
    simp (disch := omega) only [W932, r_2, r_Li, r_4, r_La, h60_9_12, h79_305, s_0, ci_m1, r_17, r_15, s_40, r_90, r_5, ci_0, h60_3_4, r_49, ci_1, r_18, h60_9_5, h79_607, h79_608, s_8, r_In, h80_1200, r_51, r_52, h61_9_15, enR, LG, LSt, LC, nlR, psR, TK, up_s, up_n, up_u, lt_nI, le_nI, eq_nI, true_and, and_true, if_true, if_false, Nat.zero_add, Nat.add_zero, nI_add, ↓reduceIte, Nat.reduceAdd, Nat.reduceMul, Nat.reduceSub, Nat.reduceLT, Nat.reduceLeDiff, Nat.reduceEqDiff, Nat.not_lt_zero, Nat.lt_irrefl, decide_true, BEq.rfl, nm1, nm2, nm3, nm4, nm9, ngc, eq_self, List.length_cons, List.length_nil, hq, hl, c_allPlaces hl hC hP, hx]
    have hh := lp_clook (d := d + 16) (z := z) (X := X) (M := (a, b, e, o)) (s := s) (v := v) (g := g) (w := w) (ct := ct) (cn := cn) (cc := cc) (di := di) (dr := dr) (df := df) (sf := sf) (Q := OKc (d + 20) 1069 [.int (nI S)] t X (a, b, e, o)) (S := S) (n' := n') (x := y') hl hq hC hP (sen_SL hb hS) (by omega) hy ?_ P 0 0 0 (by omega) (Nat.le_refl _) (by decide) hlk
    · rw [hsb] at hh
      exact hh
    · refine okc ?_
      rw [cw_wp]
      simp (disch := omega) only [W1069, r_2, r_Li, s_0, ci_0, r_4, r_La, h79_1060, h80_1001, s_41, ci_m1, r_90, r_5, h60_10_10, r_49, h80_1005, s_40, h79_1068, r_47, ci_1, r_52, r_18, r_16, r_48, s_8, r_In, r_10, h80_1006, r_51, h79_1003, enR, LG, LSt, LC, nlR, psR, TK, up_s, up_n, up_u, lt_nI, le_nI, eq_nI, true_and, and_true, if_true, if_false, Nat.zero_add, Nat.add_zero, nI_add, ↓reduceIte, Nat.reduceAdd, Nat.reduceMul, Nat.reduceSub, Nat.reduceLT, Nat.reduceLeDiff, Nat.reduceEqDiff, Nat.not_lt_zero, Nat.lt_irrefl, decide_true, BEq.rfl, nm1, nm2, nm3, nm4, nm9, ngc, eq_self, List.length_cons, List.length_nil, m_all hM hP, m_in, hS2]
      exact lp_mlook (d := d + 16) (Q := OKm (nI n') t X (va_up s 15 (nI y'), v, g, w, q, ct, cn, cc, di, dr, df, li, la, sf, sl)) (S := S) (n' := n') (x := y') hM hb (by omega) hy (okm (rl_inv (rl_ask H))) P 0 0 0 (by omega) (Nat.le_refl _) (by decide) hlk
  · have hx2 : x < nI 0 ∨ (¬ x < nI 0 ∧ nI (2 ^ P - 1) < x) := by
      by_cases h : x < nI 0
      · exact Or.inl h
      · obtain ⟨j, hj, rfl⟩ := nI_of' h
        refine Or.inr ⟨h, ?_⟩
        rw [nI_ltI (by omega) hj]
        exact Nat.lt_of_not_le (fun hle => hx (and_all hP (by omega)))
    simp (disch := omega) only [W932, r_2, r_Li, r_4, r_La, h60_9_12, h79_305, s_0, ci_m1, r_17, r_15, s_40, r_90, r_5, ci_0, h60_3_4, r_49, ci_1, r_18, h60_9_5, h79_607, h79_608, s_8, r_In, h80_1200, r_51, r_52, h61_9_15, enR, LG, LSt, LC, nlR, psR, TK, up_s, up_n, up_u, lt_nI, le_nI, eq_nI, true_and, and_true, if_true, if_false, Nat.zero_add, Nat.add_zero, nI_add, ↓reduceIte, Nat.reduceAdd, Nat.reduceMul, Nat.reduceSub, Nat.reduceLT, Nat.reduceLeDiff, Nat.reduceEqDiff, Nat.not_lt_zero, Nat.lt_irrefl, decide_true, BEq.rfl, nm1, nm2, nm3, nm4, nm9, ngc, eq_self, List.length_cons, List.length_nil, hq, hl, c_allPlaces hl hC hP, hx]
    refine okc ?_
    rw [cw_wp]
    rcases hx2 with h | ⟨h, h'⟩
    · simp (disch := omega) only [W1069, r_2, r_Li, s_0, ci_0, r_4, r_La, h79_1060, h80_1001, s_41, ci_m1, r_90, r_5, h60_10_10, r_49, h80_1005, s_40, h79_1068, r_47, ci_1, r_52, r_18, r_16, r_48, s_8, r_In, r_10, h80_1006, r_51, h79_1003, enR, LG, LSt, LC, nlR, psR, TK, up_s, up_n, up_u, lt_nI, le_nI, eq_nI, true_and, and_true, if_true, if_false, Nat.zero_add, Nat.add_zero, nI_add, ↓reduceIte, Nat.reduceAdd, Nat.reduceMul, Nat.reduceSub, Nat.reduceLT, Nat.reduceLeDiff, Nat.reduceEqDiff, Nat.not_lt_zero, Nat.lt_irrefl, decide_true, BEq.rfl, nm1, nm2, nm3, nm4, nm9, ngc, eq_self, List.length_cons, List.length_nil, m_all hM hP, m_in, h]
      exact okm (rl_inv (rl_t H))
    · simp (disch := omega) only [W1069, r_2, r_Li, s_0, ci_0, r_4, r_La, h79_1060, h80_1001, s_41, ci_m1, r_90, r_5, h60_10_10, r_49, h80_1005, s_40, h79_1068, r_47, ci_1, r_52, r_18, r_16, r_48, s_8, r_In, r_10, h80_1006, r_51, h79_1003, enR, LG, LSt, LC, nlR, psR, TK, up_s, up_n, up_u, lt_nI, le_nI, eq_nI, true_and, and_true, if_true, if_false, Nat.zero_add, Nat.add_zero, nI_add, ↓reduceIte, Nat.reduceAdd, Nat.reduceMul, Nat.reduceSub, Nat.reduceLT, Nat.reduceLeDiff, Nat.reduceEqDiff, Nat.not_lt_zero, Nat.lt_irrefl, decide_true, BEq.rfl, nm1, nm2, nm3, nm4, nm9, ngc, eq_self, List.length_cons, List.length_nil, m_all hM hP, m_in, h, h']
      exact okm (rl_inv (rl_t H))
end

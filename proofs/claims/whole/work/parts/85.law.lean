/-! the law: its loop and its start (printed by wip/gen85.py) -/
set_option maxRecDepth 100000 in
theorem LW_h (d : Nat) : WE d 1100 19 (4, 0, 0, 0, []) 20 ∧ WE d 1100 20 (63, 0, 0, 0, []) 21 ∧ WE d 1100 21 (0, 2, 0, 6, []) 23 ∧ WE d 1100 23 (11, 0, 0, 0, []) 24 ∧ WE d 1100 24 (50, 1486, 0, 0, []) 27 ∧ WE d 1100 27 (4, 0, 0, 0, []) 28 ∧ WE d 1100 28 (2, 3, 0, 0, []) 29 ∧ WE d 1100 29 (64, 0, 0, 0, []) 30 ∧ WE d 1100 30 (0, 2, 0, 63, []) 32 ∧ WE d 1100 32 (15, 0, 0, 0, []) 33 ∧ WE d 1100 33 (54, 1480, 0, 0, [236, 269, 312, 345, 368, 431, 454, 487, 530, 553, 576, 609, 642, 665, 688, 711, 734, 747, 770, 793, 816, 839, 862, 905, 938, 971, 1014, 1037, 1070, 1093, 1126, 1139, 1162, 1185, 1218, 1251, 1274, 1297, 1320, 1333, 1366, 1379, 1393, 1407, 1430, 1443, 1466]) 236 := (allW d 1100 (l1 := (cdn1100.drop 10).take 11) ct1100 cu1100 (fun _ h => List.mem_append_left _ (List.mem_of_mem_drop (List.mem_of_mem_take h))) : WE d 1100 19 (4, 0, 0, 0, []) 20 ∧ WE d 1100 20 (63, 0, 0, 0, []) 21 ∧ WE d 1100 21 (0, 2, 0, 6, []) 23 ∧ WE d 1100 23 (11, 0, 0, 0, []) 24 ∧ WE d 1100 24 (50, 1486, 0, 0, []) 27 ∧ WE d 1100 27 (4, 0, 0, 0, []) 28 ∧ WE d 1100 28 (2, 3, 0, 0, []) 29 ∧ WE d 1100 29 (64, 0, 0, 0, []) 30 ∧ WE d 1100 30 (0, 2, 0, 63, []) 32 ∧ WE d 1100 32 (15, 0, 0, 0, []) 33 ∧ WE d 1100 33 (54, 1480, 0, 0, [236, 269, 312, 345, 368, 431, 454, 487, 530, 553, 576, 609, 642, 665, 688, 711, 734, 747, 770, 793, 816, 839, 862, 905, 938, 971, 1014, 1037, 1070, 1093, 1126, 1139, 1162, 1185, 1218, 1251, 1274, 1297, 1320, 1333, 1366, 1379, 1393, 1407, 1430, 1443, 1466]) 236)
set_option maxRecDepth 100000 in
theorem LW_e (d : Nat) : WE d 1100 1486 (0, 1, 0, 1, []) 1487 ∧ WE d 1100 1487 (94, 0, 0, 0, []) 1488 := (allW d 1100 (l1 := (cdn1100.drop 985).take 2) ct1100 cu1100 (fun _ h => List.mem_append_left _ (List.mem_of_mem_drop (List.mem_of_mem_take h))) : WE d 1100 1486 (0, 1, 0, 1, []) 1487 ∧ WE d 1100 1487 (94, 0, 0, 0, []) 1488)
set_option maxRecDepth 100000 in
theorem LW_s (d : Nat) : WE d 1100 0 (74, 9, 0, 7, []) 3 ∧ WE d 1100 3 (30, 0, 0, 0, []) 4 ∧ WE d 1100 4 (79, 900, 1, 2, [9]) 7 ∧ WE d 1100 7 (7, 1, 0, 0, []) 8 ∧ WE d 1100 8 (74, 10, 0, 10, []) 11 ∧ WE d 1100 11 (30, 0, 0, 0, []) 12 ∧ WE d 1100 12 (79, 1000, 1, 2, [12]) 15 ∧ WE d 1100 15 (7, 2, 0, 0, []) 16 ∧ WE d 1100 16 (0, 1, 0, 0, []) 17 ∧ WE d 1100 17 (5, 3, 0, 0, []) 18 := (allW d 1100 (l1 := (cdn1100.drop 0).take 10) ct1100 cu1100 (fun _ h => List.mem_append_left _ (List.mem_of_mem_drop (List.mem_of_mem_take h))) : WE d 1100 0 (74, 9, 0, 7, []) 3 ∧ WE d 1100 3 (30, 0, 0, 0, []) 4 ∧ WE d 1100 4 (79, 900, 1, 2, [9]) 7 ∧ WE d 1100 7 (7, 1, 0, 0, []) 8 ∧ WE d 1100 8 (74, 10, 0, 10, []) 11 ∧ WE d 1100 11 (30, 0, 0, 0, []) 12 ∧ WE d 1100 12 (79, 1000, 1, 2, [12]) 15 ∧ WE d 1100 15 (7, 2, 0, 0, []) 16 ∧ WE d 1100 16 (0, 1, 0, 0, []) 17 ∧ WE d 1100 17 (5, 3, 0, 0, []) 18)
theorem and63 (x : Int32) : ∃ m, m < 64 ∧ x &&& nI 63 = nI m := ⟨x.toBitVec.toNat % 64, Nat.mod_lt _ (by decide), by
  apply Int32.toBitVec_inj.1
  show x.toBitVec &&& BitVec.ofNat 32 63 = BitVec.ofNat 32 _
  apply BitVec.eq_of_toNat_eq
  rw [BitVec.toNat_and, BitVec.toNat_ofNat, BitVec.toNat_ofNat, show 63 % 2 ^ 32 = 2 ^ 6 - 1 from rfl, Nat.and_two_pow_sub_one_eq_mod]
  show x.toBitVec.toNat % 64 = x.toBitVec.toNat % 64 % 2 ^ 32
  have := Nat.mod_lt x.toBitVec.toNat (show 64 > 0 by decide)
  exact (Nat.mod_eq_of_lt (by omega)).symm⟩
theorem ltm6 {L i : Nat} (hL : L ≤ 3072) (hi : i ≤ 100000) : (nI L - nI 6 < nI i) ↔ L < i + 6 := by
  by_cases h : 6 ≤ L
  · rw [nI_sub h, nI_ltI (by omega) (by omega)]
    omega
  · refine iff_of_true ?_ (by omega)
    have h1 : ∀ k, k < 6 → (nI k - nI 6).toInt < 0 := by decide
    have h2 := h1 L (by omega)
    rw [Int32.lt_iff_toInt_lt, nI_toInt (by omega)]
    omega
theorem sw47 : (∀ m, m < 47 → sw 0 [236, 269, 312, 345, 368, 431, 454, 487, 530, 553, 576, 609, 642, 665, 688, 711, 734, 747, 770, 793, 816, 839, 862, 905, 938, 971, 1014, 1037, 1070, 1093, 1126, 1139, 1162, 1185, 1218, 1251, 1274, 1297, 1320, 1333, 1366, 1379, 1393, 1407, 1430, 1443, 1466] 1480 (nI m) = [236, 269, 312, 345, 368, 431, 454, 487, 530, 553, 576, 609, 642, 665, 688, 711, 734, 747, 770, 793, 816, 839, 862, 905, 938, 971, 1014, 1037, 1070, 1093, 1126, 1139, 1162, 1185, 1218, 1251, 1274, 1297, 1320, 1333, 1366, 1379, 1393, 1407, 1430, 1443, 1466].getD m 0) ∧ (∀ m, 47 ≤ m → m < 64 → sw 0 [236, 269, 312, 345, 368, 431, 454, 487, 530, 553, 576, 609, 642, 665, 688, 711, 734, 747, 770, 793, 816, 839, 862, 905, 938, 971, 1014, 1037, 1070, 1093, 1126, 1139, 1162, 1185, 1218, 1251, 1274, 1297, 1320, 1333, 1366, 1379, 1393, 1407, 1430, 1443, 1466] 1480 (nI m) = 1480) := by
  refine ⟨fun m h => ?_, fun m h h2 => ?_⟩
  · rw [sw_n (by omega)]; exact if_pos h
  · rw [sw_n (by omega)]; exact if_neg (fun h3 => by have h3 : m < 47 := h3; omega)
section
variable {d : Nat} {X : Nat × (Nat → Int32)} {Q : Option Value → AZ → AH → Prop}
theorem inv_t {t : Nat} {z : AZ} {C : CT} {M : MT} (h : INV t z C M) : INV (t + 1) z C M := by
  obtain ⟨B, n, P, N, W, K, O, T, J, l, Ds, Dr, Df, Dp, KB, H⟩ := h
  exact ⟨B, n, P, N, W, K, O, T, J, l, Ds, Dr, Df, Dp, KB, rl_t H⟩
theorem inv_z {t : Nat} {z : AZ} {C : CT} {M : MT} (h : INV t z C M) : z.1 ≤ 600000 ∧ z.2 ≤ 7302250 := by
  obtain ⟨B, n, P, N, W, K, O, T, J, l, Ds, Dr, Df, Dp, KB, H⟩ := h
  rcases H.2.2.2.2.1 with ⟨h1, h2, -⟩ | ⟨h1, h2, -⟩ <;> omega
theorem law_loop (hX : X.1 ≤ 3072) (hQ : ∀ (z : AZ) (f : AH), z.1 ≤ 600000 → z.2 ≤ 7302250 → Q (some (.int (nI 1))) z f) : ∀ (j t : Nat) (z : AZ) (C : CT) (M : MT), t + j = 514 → INV t z C M → Wp (d + 20) 1100 18 [some (.ref 1000000), some (.ref 0), some (.ref 67), some (.int (nI (6 * t)))] [] z (Hp X C M) Q := by
  intro j
  induction j with
  | zero =>
    intro t z C M ht hI
    have hc : nI X.1 - nI 6 < nI (6 * t) := (ltm6 hX (by omega)).mpr (by omega)
    obtain ⟨z1, z2⟩ := inv_z hI
    rw [W1100_18]
    simp (disch := omega) only [LW_h, LW_e, r_4, r_La, h63_X, s_0, ci_6, r_11, r_50, r_2, r_Li, h64_X, ci_63, r_15, r_54, ci_1, r_94, s_Z0, s_Z1, enR, LG, LSt, LC, nlR, psR, TK, up_s, up_n, up_u, lt_nI, le_nI, eq_nI, true_and, and_true, if_true, if_false, Nat.zero_add, Nat.add_zero, nI_add, ↓reduceIte, Nat.reduceAdd, Nat.reduceMul, Nat.reduceSub, Nat.reduceLT, Nat.reduceLeDiff, Nat.reduceEqDiff, Nat.not_lt_zero, Nat.lt_irrefl, decide_true, BEq.rfl, nm1, nm2, nm3, nm4, nm9, ngc, eq_self, List.length_cons, List.length_nil, hc]
    exact hQ _ _ z1 z2
  | succ j ih =>
    intro t z C M ht hI
    by_cases hend : X.1 < 6 * t + 6
    · have hc : nI X.1 - nI 6 < nI (6 * t) := (ltm6 hX (by omega)).mpr hend
      obtain ⟨z1, z2⟩ := inv_z hI
      rw [W1100_18]
      simp (disch := omega) only [LW_h, LW_e, r_4, r_La, h63_X, s_0, ci_6, r_11, r_50, r_2, r_Li, h64_X, ci_63, r_15, r_54, ci_1, r_94, s_Z0, s_Z1, enR, LG, LSt, LC, nlR, psR, TK, up_s, up_n, up_u, lt_nI, le_nI, eq_nI, true_and, and_true, if_true, if_false, Nat.zero_add, Nat.add_zero, nI_add, ↓reduceIte, Nat.reduceAdd, Nat.reduceMul, Nat.reduceSub, Nat.reduceLT, Nat.reduceLeDiff, Nat.reduceEqDiff, Nat.not_lt_zero, Nat.lt_irrefl, decide_true, BEq.rfl, nm1, nm2, nm3, nm4, nm9, ngc, eq_self, List.length_cons, List.length_nil, hc]
      exact hQ _ _ z1 z2
    · have hc : ¬ nI X.1 - nI 6 < nI (6 * t) := fun h => hend ((ltm6 hX (by omega)).mp h)
      have hlt : 6 * t < X.1 := by omega
      have hX2 : X.1 ≤ 65536 := by omega
      obtain ⟨m, m1, m2⟩ := and63 (X.2 (6 * t))
      have ih2 : ∀ (z : AZ) (C : CT) (M : MT), INV (t + 1) z C M → Wp (d + 20) 1100 18 [some (.ref 1000000), some (.ref 0), some (.ref 67), some (.int (nI (6 * t + 6)))] [] z (Hp X C M) Q := fun z C M h => ih (t + 1) z C M (by omega) h
      rw [W1100_18]
      simp (disch := omega) only [LW_h, r_4, r_La, h63_X, s_0, ci_6, r_11, r_50, r_2, r_Li, h64_X, ci_63, r_15, r_54, enR, LG, LSt, LC, nlR, psR, TK, up_s, up_n, up_u, lt_nI, le_nI, eq_nI, true_and, and_true, if_true, if_false, Nat.zero_add, Nat.add_zero, nI_add, ↓reduceIte, Nat.reduceAdd, Nat.reduceMul, Nat.reduceSub, Nat.reduceLT, Nat.reduceLeDiff, Nat.reduceEqDiff, Nat.not_lt_zero, Nat.lt_irrefl, decide_true, BEq.rfl, nm1, nm2, nm3, nm4, nm9, ngc, eq_self, List.length_cons, List.length_nil, hc, m2, hlt, hX2]
      by_cases h47 : m < 47
      · rw [sw47.1 m h47]
        match m, h47 with
        | 0, _ => exact lb_0 ih2 (by omega) hX2 hI (by omega)
        | 1, _ => exact lb_1 ih2 (by omega) hX2 hI (by omega)
        | 2, _ => exact lb_2 ih2 (by omega) hX2 hI (by omega)
        | 3, _ => exact lb_3 ih2 (by omega) hX2 hI (by omega)
        | 4, _ => exact lb_4 ih2 (by omega) hX2 hI (by omega)
        | 5, _ => exact lb_5 ih2 (by omega) hX2 hI (by omega)
        | 6, _ => exact lb_6 ih2 (by omega) hX2 hI (by omega)
        | 7, _ => exact lb_7 ih2 (by omega) hX2 hI (by omega)
        | 8, _ => exact lb_8 ih2 (by omega) hX2 hI (by omega)
        | 9, _ => exact lb_9 ih2 (by omega) hX2 hI (by omega)
        | 10, _ => exact lb_10 ih2 (by omega) hX2 hI (by omega)
        | 11, _ => exact lb_11 ih2 (by omega) hX2 hI (by omega)
        | 12, _ => exact lb_12 ih2 (by omega) hX2 hI (by omega)
        | 13, _ => exact lb_13 ih2 (by omega) hX2 hI (by omega)
        | 14, _ => exact lb_14 ih2 (by omega) hX2 hI (by omega)
        | 15, _ => exact lb_15 ih2 (by omega) hX2 hI (by omega)
        | 16, _ => exact lb_16 ih2 (by omega) hX2 hI (by omega)
        | 17, _ => exact lb_17 ih2 (by omega) hX2 hI (by omega)
        | 18, _ => exact lb_18 ih2 (by omega) hX2 hI (by omega)
        | 19, _ => exact lb_19 ih2 (by omega) hX2 hI (by omega)
        | 20, _ => exact lb_20 ih2 (by omega) hX2 hI (by omega)
        | 21, _ => exact lb_21 ih2 (by omega) hX2 hI (by omega)
        | 22, _ => exact lb_22 ih2 (by omega) hX2 hI (by omega)
        | 23, _ => exact lb_23 ih2 (by omega) hX2 hI (by omega)
        | 24, _ => exact lb_24 ih2 (by omega) hX2 hI (by omega)
        | 25, _ => exact lb_25 ih2 (by omega) hX2 hI (by omega)
        | 26, _ => exact lb_26 ih2 (by omega) hX2 hI (by omega)
        | 27, _ => exact lb_27 ih2 (by omega) hX2 hI (by omega)
        | 28, _ => exact lb_28 ih2 (by omega) hX2 hI (by omega)
        | 29, _ => exact lb_29 ih2 (by omega) hX2 hI (by omega)
        | 30, _ => exact lb_30 ih2 (by omega) hX2 hI (by omega)
        | 31, _ => exact lb_31 ih2 (by omega) hX2 hI (by omega)
        | 32, _ => exact lb_32 ih2 (by omega) hX2 hI (by omega)
        | 33, _ => exact lb_33 ih2 (by omega) hX2 hI (by omega)
        | 34, _ => exact lb_34 ih2 (by omega) hX2 hI (by omega)
        | 35, _ => exact lb_35 ih2 (by omega) hX2 hI (by omega)
        | 36, _ => exact lb_36 ih2 (by omega) hX2 hI (by omega)
        | 37, _ => exact lb_37 ih2 (by omega) hX2 hI (by omega)
        | 38, _ => exact lb_38 ih2 (by omega) hX2 hI (by omega)
        | 39, _ => exact lb_39 ih2 (by omega) hX2 hI (by omega)
        | 40, _ => exact lb_40 ih2 (by omega) hX2 hI (by omega)
        | 41, _ => exact lb_41 ih2 (by omega) hX2 hI (by omega)
        | 42, _ => exact lb_42 ih2 (by omega) hX2 hI (by omega)
        | 43, _ => exact lb_43 ih2 (by omega) hX2 hI (by omega)
        | 44, _ => exact lb_44 ih2 (by omega) hX2 hI (by omega)
        | 45, _ => exact lb_45 ih2 (by omega) hX2 hI (by omega)
        | 46, _ => exact lb_46 ih2 (by omega) hX2 hI (by omega)
        | n + 47, h47 => exact absurd h47 (by omega)
      · rw [sw47.2 m (by omega) m1]
        simp (disch := omega) only [LW_t, s_8, r_In, ci_6, r_52, enR, LG, LSt, LC, nlR, psR, TK, up_s, up_n, up_u, lt_nI, le_nI, eq_nI, true_and, and_true, if_true, if_false, Nat.zero_add, Nat.add_zero, nI_add, ↓reduceIte, Nat.reduceAdd, Nat.reduceMul, Nat.reduceSub, Nat.reduceLT, Nat.reduceLeDiff, Nat.reduceEqDiff, Nat.not_lt_zero, Nat.lt_irrefl, decide_true, BEq.rfl, nm1, nm2, nm3, nm4, nm9, ngc, eq_self, List.length_cons, List.length_nil]
        exact ih2 z C M (inv_t hI)
end
theorem inv_i : INV 0 (89, 51270) C_i M_i := by
  have h0 : (0 : Int32) = nI 0 := by decide
  refine ⟨fun _ => false, fun _ => 0, 0, 0, 1, fun _ => 0, fun _ => 0, fun _ => 0, fun _ => 0, 1, fun _ => 0, fun _ _ => 0, fun _ _ => 0, fun _ _ => 0, fun _ => false, ⟨rfl, rfl, rfl, rfl, fun f hf => rfl⟩, ⟨fun c hc => ⟨h0, h0, Nat.zero_le _, fun _ => rfl⟩, fun r hr => ⟨?_, fun k hk => absurd hk (Nat.not_lt_zero k)⟩, fun r hr => ⟨?_, fun k hk => absurd hk (Nat.not_lt_zero k)⟩⟩, ⟨⟨by decide, by decide, by decide, by decide, fun i hi => absurd hi (Nat.not_lt_zero i)⟩, by decide, rfl, rfl, ⟨h0, h0, fun i hi => absurd hi (Nat.not_lt_zero i)⟩, rfl, ⟨h0, h0, rfl, fun i hi => absurd hi (Nat.not_lt_zero i)⟩, ⟨fun i hi => h0.trans (congrArg nI (if_neg (Nat.not_lt_zero i)).symm), fun p v hp hv => h0⟩⟩, ⟨⟨by decide, fun _ => ⟨rfl, rfl⟩, fun h => absurd h (by decide), fun k hk => absurd hk (Nat.not_lt_zero k)⟩, ⟨h0, h0, h0, fun k hk => absurd hk (Nat.not_lt_zero k)⟩, ⟨h0, h0, fun k hk => absurd hk (Nat.not_lt_zero k)⟩, fun k hk => ⟨h0, fun _ => ?_, fun h => absurd h Bool.false_ne_true⟩⟩, Or.inl ⟨rfl, by decide, rfl, rfl⟩, ⟨Or.inl ⟨rfl, rfl⟩, Or.inl ⟨rfl, rfl⟩⟩, ⟨0, h0, Nat.zero_le _, fun i hi => ⟨0, Nat.le_refl _, h0⟩⟩⟩
  · match r, hr with
    | 0, _ => rfl
    | 1, _ => rfl
    | 2, _ => rfl
    | 3, _ => rfl
    | 4, _ => rfl
    | 5, _ => rfl
    | n + 6, hr => exact absurd hr (by omega)
  · match r, hr with
    | 0, _ => rfl
    | 1, _ => rfl
    | 2, _ => rfl
    | 3, _ => rfl
    | n + 4, hr => exact absurd hr (by omega)
  · match k, hk with
    | 0, _ => rfl
    | 1, _ => rfl
    | 2, _ => rfl
    | n + 3, hk => exact absurd hk (by omega)
theorem law_run {L : Nat} {xs : Nat → Int32} (hL : L ≤ 3072) : Wp 20 1100 0 [some (.ref 1000000)] [] (0, 0) (f0 L xs) (fun r z _ => r = some (.int 1) ∧ z.1 ≤ 600000 ∧ z.2 ≤ 7302250) := by
  simp (disch := omega) only [LW_s, r_30, r_30r, r_7, s_0, ci_0, r_5, enR, LG, LSt, LC, nlR, psR, TK, up_s, up_n, up_u, lt_nI, le_nI, eq_nI, true_and, and_true, if_true, if_false, Nat.zero_add, Nat.add_zero, nI_add, ↓reduceIte, Nat.reduceAdd, Nat.reduceMul, Nat.reduceSub, Nat.reduceLT, Nat.reduceLeDiff, Nat.reduceEqDiff, Nat.not_lt_zero, Nat.lt_irrefl, decide_true, BEq.rfl, nm1, nm2, nm3, nm4, nm9, ngc, eq_self, List.length_cons, List.length_nil, r_74, r_79_1, Ca, CD, rce_o, enL, Int.reduceToNat, Nat.reduceDiv]
  refine i_900 (fun f1 g1 g2 => ?_)
  simp (disch := omega) only [LW_s, r_30, r_30r, r_7, s_0, ci_0, r_5, enR, LG, LSt, LC, nlR, psR, TK, up_s, up_n, up_u, lt_nI, le_nI, eq_nI, true_and, and_true, if_true, if_false, Nat.zero_add, Nat.add_zero, nI_add, ↓reduceIte, Nat.reduceAdd, Nat.reduceMul, Nat.reduceSub, Nat.reduceLT, Nat.reduceLeDiff, Nat.reduceEqDiff, Nat.not_lt_zero, Nat.lt_irrefl, decide_true, BEq.rfl, nm1, nm2, nm3, nm4, nm9, ngc, eq_self, List.length_cons, List.length_nil, r_74, r_79_1, Ca, CD, rce_o, enL, Int.reduceToNat, Nat.reduceDiv]
  refine i_1000 (fun f2 g3 g4 => ?_)
  simp (disch := omega) only [LW_s, r_30, r_30r, r_7, s_0, ci_0, r_5, enR, LG, LSt, LC, nlR, psR, TK, up_s, up_n, up_u, lt_nI, le_nI, eq_nI, true_and, and_true, if_true, if_false, Nat.zero_add, Nat.add_zero, nI_add, ↓reduceIte, Nat.reduceAdd, Nat.reduceMul, Nat.reduceSub, Nat.reduceLT, Nat.reduceLeDiff, Nat.reduceEqDiff, Nat.not_lt_zero, Nat.lt_irrefl, decide_true, BEq.rfl, nm1, nm2, nm3, nm4, nm9, ngc, eq_self, List.length_cons, List.length_nil, r_74, r_79_1, Ca, CD, rce_o, enL, Int.reduceToNat, Nat.reduceDiv]
  have e := hp_i L xs (f2 := f2) (fun k hk => (g4 k (Or.inl hk)).trans (g1 k hk)) g3 (fun k hk => (g4 k (Or.inr hk)).trans (g2 k (by omega)))
  subst e
  exact law_loop (d := 0) (X := (L, xs)) hL (fun z f h1 h2 => ⟨rfl, h1, h2⟩) 514 0 _ C_i M_i (by decide) inv_i

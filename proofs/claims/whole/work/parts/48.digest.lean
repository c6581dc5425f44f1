/-! digest -/
theorem l_m1 : ((-1 : Int32)).toInt64 = (-1 : Int64) := by decide +kernel
def dgF (w : Nat → Nat) (k : Nat) (h : Int64) : Int64 := mix64 h (lN (w k))
def dgR (W : Nat) (K O T J : Nat → Nat) (i : Nat) (h : Int64) : Int64 := foldu (dgF (fct W K O T J i)) 0 5 h
def dgD (r f : Nat → Nat) (k : Nat) (h : Int64) : Int64 := mix64 (mix64 h (lN (r k))) (lN (f k))
def dgK (KB : Nat → Bool) (m : Nat → Nat) (k : Nat) (h : Int64) : Int64 := mix64 h (if KB k = true then lN (m (1 + k)) else -1)
def dgC (B : Nat → Bool) (n : Nat → Nat) (cc : Nat → Nat → Int32) (c : Nat) (h : Int64) : Int64 := foldu (mxF (cc c)) 0 (n c) (mix64 h (if B c = true then lN (n c) else -1))
def dig (P N W : Nat) (K O T J : Nat → Nat) (Ds : Nat → Nat) (Dr Df Dp : Nat → Nat → Nat) (KB B : Nat → Bool) (n : Nat → Nat) (cc : Nat → Nat → Int32) : Int64 :=
  foldu (fun k => dgC B n cc (6 + k)) 0 4 (foldu (dgC B n cc) 0 6 (foldu (dgK KB Ds) 0 3 (foldu (dgD (Dr 0) (Df 0)) 0 (Ds 0) (mix64 (foldu (dgR W K O T J) 0 N (mix64 (foldu (dgF (tlsf P N K (Ds 0) KB B)) 0 8 (lN 17)) (lN W))) (lN (Dp 0 (Ds 0)))))))
theorem tls_lt {P N m : Nat} {K : Nat → Nat} {KB B : Nat → Bool} (hP : P ≤ 7) (hN : N ≤ 10) (hm : m ≤ 40) (k : Nat) : tlsf P N K m KB B k < 100 := by
  have h1 := cnt_le (fun i => isb (K i) 1) N
  have h2 := cnt_le (fun i => isb (K i) 2) N
  have h3 := cnt_le KB 3
  have h4 := cnt_le B 6
  have h5 := cnt_le (fun t => B (6 + t)) 4
  unfold tlsf
  repeat' split
  all_goals omega
theorem fct_lt {P N W i : Nat} {K O T J : Nat → Nat} (hb : LB P N W K O T J) (hi : i < N) (k : Nat) : fct W K O T J i k < 100 := by
  have hP := hb.1
  have hf := fe_lt hb hi
  obtain ⟨b1, b2, b3, b4⟩ := hb.2.2.2.2 i hi
  unfold fct
  repeat' split
  all_goals omega
section
variable {t d : Nat} {z : AZ} {X : Nat × (Nat → Int32)} {C : CT} {M : MT} {s : Nat → Int32} {v : Nat → Int64} {g : Nat → Nat → Int32} {w : Nat → Nat → Int64} {q : Nat → Nat} {ct : Nat → Int32} {cn : Nat → Int32} {cc : Nat → Nat → Int32} {di : Nat → Nat → Int32} {dr : Nat → Nat → Int32} {df : Nat → Nat → Int32} {li : Nat → Nat → Int32} {la : Nat → Nat → Nat → Int32} {sf : Nat → Nat → Int32} {sl : Nat → Nat → Int32} {a : Nat → Int32} {b : Nat → Int64} {e : Nat → Nat → Int32} {o : Nat → Nat → Int64} {B : Nat → Bool} {n : Nat → Nat} {P N W : Nat} {K O T J : Nat → Nat} {l : Nat} {Ds : Nat → Nat} {Dr Df Dp : Nat → Nat → Nat} {KB : Nat → Bool}
variable {Q : Option Value → AZ → AH → Prop}
theorem dg1 (H : RL t z s v g w q ct cn cc di dr df li la sf sl a b e o B n P N W K O T J l Ds Dr Df Dp KB) : ∀ (p k : Nat) (u : Int64), k + p = 8 → (Wp (d + 4) 947 6 [some (.ref 0), some (.long u), none, some (.int (nI k))] [] z (Hp X (s, v, g, w, q, ct, cn, cc, di, dr, df, li, la, sf, sl) M) Q ↔ Wp (d + 4) 947 41 [some (.ref 0), some (.long (mix64 (foldu (dgF (tlsf P N K (Ds 0) KB B)) k p u) (lN W))), none, some (.int (nI 0))] [] z (Hp X (s, v, g, w, q, ct, cn, cc, di, dr, df, li, la, sf, sl) M) Q) := by
  obtain ⟨hb, hl, hq, hC, hs, hM, hS⟩ := rl_land H
  have hP := hb.1
  have hN := hb.2.1
  have hW := hb.2.2.2.1
  have h40 := H.2.2.2.1.1.1
  intro p
  induction p with
  | zero =>
    intro k u hk
    have hk : k = 8 := by omega
    subst hk
    rw [W947_6]
    simp (disch := omega) only [W947, s_1, cl_17, r_6, s_0, ci_0, r_5, r_2, r_Li, ci_8, r_49, r_3, r_Ll, r_4, r_La, h79_944, r_26, h80_962, s_8, r_In, ci_1, r_52, h60_9_14, h60_9_12, h60_3_5, ci_5, h79_957, h60_9_3, h60_2_4, h79_207, ci_3, h60_9_4, h60_2_2, s_40, h60_2_5, cl_m1, ci_6, h60_9_0, h79_11, ci_4, h60_9_1, r_91, h68_1, h68_12, h68_2, enR, LG, LSt, LC, nlR, psR, TK, up_s, up_n, up_u, lt_nI, le_nI, eq_nI, true_and, and_true, if_true, if_false, Nat.zero_add, Nat.add_zero, nI_add, ↓reduceIte, Nat.reduceAdd, Nat.reduceMul, Nat.reduceSub, Nat.reduceLT, Nat.reduceLeDiff, Nat.reduceEqDiff, Nat.not_lt_zero, Nat.lt_irrefl, decide_true, BEq.rfl, nm1, nm2, nm3, nm4, nm9, ngc, eq_self, List.length_cons, List.length_nil, foldu, hs, nI_nl, c_mix]
  | succ p ih =>
    intro k u hk
    have h1 : k < 8 := by omega
    have h2 := tls_lt (K := K) (KB := KB) (B := B) hP hN h40 k
    rw [W947_6]
    simp (disch := omega) only [W947, s_1, cl_17, r_6, s_0, ci_0, r_5, r_2, r_Li, ci_8, r_49, r_3, r_Ll, r_4, r_La, h79_944, r_26, h80_962, s_8, r_In, ci_1, r_52, h60_9_14, h60_9_12, h60_3_5, ci_5, h79_957, h60_9_3, h60_2_4, h79_207, ci_3, h60_9_4, h60_2_2, s_40, h60_2_5, cl_m1, ci_6, h60_9_0, h79_11, ci_4, h60_9_1, r_91, h68_1, h68_12, h68_2, enR, LG, LSt, LC, nlR, psR, TK, up_s, up_n, up_u, lt_nI, le_nI, eq_nI, true_and, and_true, if_true, if_false, Nat.zero_add, Nat.add_zero, nI_add, ↓reduceIte, Nat.reduceAdd, Nat.reduceMul, Nat.reduceSub, Nat.reduceLT, Nat.reduceLeDiff, Nat.reduceEqDiff, Nat.not_lt_zero, Nat.lt_irrefl, decide_true, BEq.rfl, nm1, nm2, nm3, nm4, nm9, ngc, eq_self, List.length_cons, List.length_nil, h1, c_count H h1, nI_nl, c_mix]
    exact ih (k + 1) _ (by omega)
theorem dg2 {i : Nat} (H : RL t z s v g w q ct cn cc di dr df li la sf sl a b e o B n P N W K O T J l Ds Dr Df Dp KB) (hi : i < N) : ∀ (p k : Nat) (u : Int64), k + p = 5 → (Wp (d + 4) 947 55 [some (.ref 0), some (.long u), none, some (.int (nI i)), some (.int (nI k))] [] z (Hp X (s, v, g, w, q, ct, cn, cc, di, dr, df, li, la, sf, sl) M) Q ↔ Wp (d + 4) 947 41 [some (.ref 0), some (.long (foldu (dgF (fct W K O T J i)) k p u)), none, some (.int (nI (i + 1)))] [] z (Hp X (s, v, g, w, q, ct, cn, cc, di, dr, df, li, la, sf, sl) M) Q) := by
  obtain ⟨hb, hl, hq, hC, hs, hM, hS⟩ := rl_land H
  intro p
  induction p with
  | zero =>
    intro k u hk
    have hk : k = 5 := by omega
    subst hk
    rw [W947_55]
    simp (disch := omega) only [W947, s_1, cl_17, r_6, s_0, ci_0, r_5, r_2, r_Li, ci_8, r_49, r_3, r_Ll, r_4, r_La, h79_944, r_26, h80_962, s_8, r_In, ci_1, r_52, h60_9_14, h60_9_12, h60_3_5, ci_5, h79_957, h60_9_3, h60_2_4, h79_207, ci_3, h60_9_4, h60_2_2, s_40, h60_2_5, cl_m1, ci_6, h60_9_0, h79_11, ci_4, h60_9_1, r_91, h68_1, h68_12, h68_2, enR, LG, LSt, LC, nlR, psR, TK, up_s, up_n, up_u, lt_nI, le_nI, eq_nI, true_and, and_true, if_true, if_false, Nat.zero_add, Nat.add_zero, nI_add, ↓reduceIte, Nat.reduceAdd, Nat.reduceMul, Nat.reduceSub, Nat.reduceLT, Nat.reduceLeDiff, Nat.reduceEqDiff, Nat.not_lt_zero, Nat.lt_irrefl, decide_true, BEq.rfl, nm1, nm2, nm3, nm4, nm9, ngc, eq_self, List.length_cons, List.length_nil, foldu]
  | succ p ih =>
    intro k u hk
    have h1 : k < 5 := by omega
    have h2 := fct_lt hb hi k
    rw [W947_55]
    simp (disch := omega) only [W947, s_1, cl_17, r_6, s_0, ci_0, r_5, r_2, r_Li, ci_8, r_49, r_3, r_Ll, r_4, r_La, h79_944, r_26, h80_962, s_8, r_In, ci_1, r_52, h60_9_14, h60_9_12, h60_3_5, ci_5, h79_957, h60_9_3, h60_2_4, h79_207, ci_3, h60_9_4, h60_2_2, s_40, h60_2_5, cl_m1, ci_6, h60_9_0, h79_11, ci_4, h60_9_1, r_91, h68_1, h68_12, h68_2, enR, LG, LSt, LC, nlR, psR, TK, up_s, up_n, up_u, lt_nI, le_nI, eq_nI, true_and, and_true, if_true, if_false, Nat.zero_add, Nat.add_zero, nI_add, ↓reduceIte, Nat.reduceAdd, Nat.reduceMul, Nat.reduceSub, Nat.reduceLT, Nat.reduceLeDiff, Nat.reduceEqDiff, Nat.not_lt_zero, Nat.lt_irrefl, decide_true, BEq.rfl, nm1, nm2, nm3, nm4, nm9, ngc, eq_self, List.length_cons, List.length_nil, h1, c_roadFact hl hq hC hb hS hi h1, nI_nl, c_mix]
    exact ih (k + 1) _ (by omega)
theorem dg3 (H : RL t z s v g w q ct cn cc di dr df li la sf sl a b e o B n P N W K O T J l Ds Dr Df Dp KB) : ∀ (p i : Nat) (u : Int64), i + p = N → (Wp (d + 4) 947 41 [some (.ref 0), some (.long u), none, some (.int (nI i))] [] z (Hp X (s, v, g, w, q, ct, cn, cc, di, dr, df, li, la, sf, sl) M) Q ↔ Wp (d + 4) 947 108 [some (.ref 0), some (.long (foldu (dgD (Dr 0) (Df 0)) 0 (Ds 0) (mix64 (foldu (dgR W K O T J) i p u) (lN (Dp 0 (Ds 0)))))), none, some (.int (nI 0))] [] z (Hp X (s, v, g, w, q, ct, cn, cc, di, dr, df, li, la, sf, sl) M) Q) := by
  obtain ⟨hb, hl, hq, hC, hs, hM, hS⟩ := rl_land H
  obtain ⟨hV, ⟨c1, c2, c3, c4⟩, hDM⟩ := rl_drv H
  have hN := hb.2.1
  have h9 := hC.2.1
  have h7 := dv_place hb hV (Nat.le_refl _)
  have hD : ∀ u, foldu (DMx (dr 0) (df 0)) 0 (Ds 0) u = foldu (dgD (Dr 0) (Df 0)) 0 (Ds 0) u := fun u => foldu_congr _ _ _ (fun j x _ hj => by
    obtain ⟨e1, e2⟩ := c4 j (by omega)
    obtain ⟨v1, v2, -⟩ := hV.2.2.2 j (by omega)
    show mix64 (mix64 x (dr 0 j).toInt64) (df 0 j).toInt64 = mix64 (mix64 x (lN (Dr 0 j))) (lN (Df 0 j))
    rw [e1, e2, nI_nl (by omega), nI_nl (by omega)])
  intro p
  induction p with
  | zero =>
    intro i u hi
    have hi : i = N := by omega
    subst hi
    rw [W947_41]
    simp (disch := omega) only [W947, s_1, cl_17, r_6, s_0, ci_0, r_5, r_2, r_Li, ci_8, r_49, r_3, r_Ll, r_4, r_La, h79_944, r_26, h80_962, s_8, r_In, ci_1, r_52, h60_9_14, h60_9_12, h60_3_5, ci_5, h79_957, h60_9_3, h60_2_4, h79_207, ci_3, h60_9_4, h60_2_2, s_40, h60_2_5, cl_m1, ci_6, h60_9_0, h79_11, ci_4, h60_9_1, r_91, h68_1, h68_12, h68_2, enR, LG, LSt, LC, nlR, psR, TK, up_s, up_n, up_u, lt_nI, le_nI, eq_nI, true_and, and_true, if_true, if_false, Nat.zero_add, Nat.add_zero, nI_add, ↓reduceIte, Nat.reduceAdd, Nat.reduceMul, Nat.reduceSub, Nat.reduceLT, Nat.reduceLeDiff, Nat.reduceEqDiff, Nat.not_lt_zero, Nat.lt_irrefl, decide_true, BEq.rfl, nm1, nm2, nm3, nm4, nm9, ngc, eq_self, List.length_cons, List.length_nil, hq, hl, h9, foldu, c2, nI_nl, c_mix, c_dmix (show 0 < 4 by omega) c3 hV.1, hD]
  | succ p ih =>
    intro i u hi
    have h1 : i < N := by omega
    rw [W947_41]
    simp (disch := omega) only [W947, s_1, cl_17, r_6, s_0, ci_0, r_5, r_2, r_Li, ci_8, r_49, r_3, r_Ll, r_4, r_La, h79_944, r_26, h80_962, s_8, r_In, ci_1, r_52, h60_9_14, h60_9_12, h60_3_5, ci_5, h79_957, h60_9_3, h60_2_4, h79_207, ci_3, h60_9_4, h60_2_2, s_40, h60_2_5, cl_m1, ci_6, h60_9_0, h79_11, ci_4, h60_9_1, r_91, h68_1, h68_12, h68_2, enR, LG, LSt, LC, nlR, psR, TK, up_s, up_n, up_u, lt_nI, le_nI, eq_nI, true_and, and_true, if_true, if_false, Nat.zero_add, Nat.add_zero, nI_add, ↓reduceIte, Nat.reduceAdd, Nat.reduceMul, Nat.reduceSub, Nat.reduceLT, Nat.reduceLeDiff, Nat.reduceEqDiff, Nat.not_lt_zero, Nat.lt_irrefl, decide_true, BEq.rfl, nm1, nm2, nm3, nm4, nm9, ngc, eq_self, List.length_cons, List.length_nil, hq, hl, h9, h1]
    rw [dg2 H h1 5 0 u (by omega)]
    exact ih (i + 1) _ (by omega)
theorem dg4 (H : RL t z s v g w q ct cn cc di dr df li la sf sl a b e o B n P N W K O T J l Ds Dr Df Dp KB) : ∀ (p k : Nat) (u : Int64), k + p = 3 → (Wp (d + 4) 947 108 [some (.ref 0), some (.long u), none, some (.int (nI k))] [] z (Hp X (s, v, g, w, q, ct, cn, cc, di, dr, df, li, la, sf, sl) M) Q ↔ Wp (d + 4) 947 154 [some (.ref 0), some (.long (foldu (dgK KB Ds) k p u)), none, some (.int (nI 0))] [] z (Hp X (s, v, g, w, q, ct, cn, cc, di, dr, df, li, la, sf, sl) M) Q) := by
  intro p
  induction p with
  | zero =>
    intro k u hk
    have hk : k = 3 := by omega
    subst hk
    rw [W947_108]
    simp (disch := omega) only [W947, s_1, cl_17, r_6, s_0, ci_0, r_5, r_2, r_Li, ci_8, r_49, r_3, r_Ll, r_4, r_La, h79_944, r_26, h80_962, s_8, r_In, ci_1, r_52, h60_9_14, h60_9_12, h60_3_5, ci_5, h79_957, h60_9_3, h60_2_4, h79_207, ci_3, h60_9_4, h60_2_2, s_40, h60_2_5, cl_m1, ci_6, h60_9_0, h79_11, ci_4, h60_9_1, r_91, h68_1, h68_12, h68_2, enR, LG, LSt, LC, nlR, psR, TK, up_s, up_n, up_u, lt_nI, le_nI, eq_nI, true_and, and_true, if_true, if_false, Nat.zero_add, Nat.add_zero, nI_add, ↓reduceIte, Nat.reduceAdd, Nat.reduceMul, Nat.reduceSub, Nat.reduceLT, Nat.reduceLeDiff, Nat.reduceEqDiff, Nat.not_lt_zero, Nat.lt_irrefl, decide_true, BEq.rfl, nm1, nm2, nm3, nm4, nm9, ngc, eq_self, List.length_cons, List.length_nil, foldu]
  | succ p ih =>
    intro k u hk
    have h1 : k < 3 := by omega
    obtain ⟨g1, g2, g3⟩ := H.2.2.2.1.2.2.2 k h1
    rw [W947_108]
    cases hB : KB k with
    | false =>
      rw [hB] at g1
      have g1' : di (1 + k) 2 = nI 0 := g1
      simp (disch := omega) only [W947, s_1, cl_17, r_6, s_0, ci_0, r_5, r_2, r_Li, ci_8, r_49, r_3, r_Ll, r_4, r_La, h79_944, r_26, h80_962, s_8, r_In, ci_1, r_52, h60_9_14, h60_9_12, h60_3_5, ci_5, h79_957, h60_9_3, h60_2_4, h79_207, ci_3, h60_9_4, h60_2_2, s_40, h60_2_5, cl_m1, ci_6, h60_9_0, h79_11, ci_4, h60_9_1, r_91, h68_1, h68_12, h68_2, enR, LG, LSt, LC, nlR, psR, TK, up_s, up_n, up_u, lt_nI, le_nI, eq_nI, true_and, and_true, if_true, if_false, Nat.zero_add, Nat.add_zero, nI_add, ↓reduceIte, Nat.reduceAdd, Nat.reduceMul, Nat.reduceSub, Nat.reduceLT, Nat.reduceLeDiff, Nat.reduceEqDiff, Nat.not_lt_zero, Nat.lt_irrefl, decide_true, BEq.rfl, nm1, nm2, nm3, nm4, nm9, ngc, eq_self, List.length_cons, List.length_nil, h1, g1', c_mix]
      rw [ih (k + 1) _ (by omega)]
      simp only [foldu, dgK, hB, Bool.false_eq_true, if_false]
    | true =>
      rw [hB] at g1
      have g1' : di (1 + k) 2 = nI 1 := g1
      obtain ⟨-, hV, hD, -⟩ := g3 hB
      have h40 := hV.1
      simp (disch := omega) only [W947, s_1, cl_17, r_6, s_0, ci_0, r_5, r_2, r_Li, ci_8, r_49, r_3, r_Ll, r_4, r_La, h79_944, r_26, h80_962, s_8, r_In, ci_1, r_52, h60_9_14, h60_9_12, h60_3_5, ci_5, h79_957, h60_9_3, h60_2_4, h79_207, ci_3, h60_9_4, h60_2_2, s_40, h60_2_5, cl_m1, ci_6, h60_9_0, h79_11, ci_4, h60_9_1, r_91, h68_1, h68_12, h68_2, enR, LG, LSt, LC, nlR, psR, TK, up_s, up_n, up_u, lt_nI, le_nI, eq_nI, true_and, and_true, if_true, if_false, Nat.zero_add, Nat.add_zero, nI_add, ↓reduceIte, Nat.reduceAdd, Nat.reduceMul, Nat.reduceSub, Nat.reduceLT, Nat.reduceLeDiff, Nat.reduceEqDiff, Nat.not_lt_zero, Nat.lt_irrefl, decide_true, BEq.rfl, nm1, nm2, nm3, nm4, nm9, ngc, eq_self, List.length_cons, List.length_nil, h1, g1', hD.2.2.1, nI_nl, c_mix]
      rw [ih (k + 1) _ (by omega)]
      simp only [foldu, dgK, hB, if_true]
theorem dg5 (H : RL t z s v g w q ct cn cc di dr df li la sf sl a b e o B n P N W K O T J l Ds Dr Df Dp KB) : ∀ (p k : Nat) (u : Int64), k + p = 6 → (Wp (d + 4) 947 154 [some (.ref 0), some (.long u), none, some (.int (nI k))] [] z (Hp X (s, v, g, w, q, ct, cn, cc, di, dr, df, li, la, sf, sl) M) Q ↔ Wp (d + 4) 947 179 [some (.ref 0), some (.long (foldu (dgC B n cc) k p u)), none, some (.int (nI 0))] [] z (Hp X (s, v, g, w, q, ct, cn, cc, di, dr, df, li, la, sf, sl) M) Q) := by
  intro p
  induction p with
  | zero =>
    intro k u hk
    have hk : k = 6 := by omega
    subst hk
    rw [W947_154]
    simp (disch := omega) only [W947, s_1, cl_17, r_6, s_0, ci_0, r_5, r_2, r_Li, ci_8, r_49, r_3, r_Ll, r_4, r_La, h79_944, r_26, h80_962, s_8, r_In, ci_1, r_52, h60_9_14, h60_9_12, h60_3_5, ci_5, h79_957, h60_9_3, h60_2_4, h79_207, ci_3, h60_9_4, h60_2_2, s_40, h60_2_5, cl_m1, ci_6, h60_9_0, h79_11, ci_4, h60_9_1, r_91, h68_1, h68_12, h68_2, enR, LG, LSt, LC, nlR, psR, TK, up_s, up_n, up_u, lt_nI, le_nI, eq_nI, true_and, and_true, if_true, if_false, Nat.zero_add, Nat.add_zero, nI_add, ↓reduceIte, Nat.reduceAdd, Nat.reduceMul, Nat.reduceSub, Nat.reduceLT, Nat.reduceLeDiff, Nat.reduceEqDiff, Nat.not_lt_zero, Nat.lt_irrefl, decide_true, BEq.rfl, nm1, nm2, nm3, nm4, nm9, ngc, eq_self, List.length_cons, List.length_nil, foldu]
  | succ p ih =>
    intro k u hk
    have h1 : k < 6 := by omega
    obtain ⟨q1, q2, q3, q4⟩ := H.2.1.1 k (by omega)
    have q5 : ct k = nI 0 ∨ ct k = nI 1 := by rw [q1]; unfold bI; split; exact Or.inr rfl; exact Or.inl rfl
    have q6 : cap k ≤ 80 := by unfold cap; split <;> omega
    have e1 : (if ct k = nI 0 then (-1 : Int64) else (nI (n k)).toInt64) = if B k = true then lN (n k) else -1 := by
      rw [q1, nI_nl (by omega)]
      cases B k with
      | false => rfl
      | true => rfl
    rw [W947_154]
    simp (disch := omega) only [W947, s_1, cl_17, r_6, s_0, ci_0, r_5, r_2, r_Li, ci_8, r_49, r_3, r_Ll, r_4, r_La, h79_944, r_26, h80_962, s_8, r_In, ci_1, r_52, h60_9_14, h60_9_12, h60_3_5, ci_5, h79_957, h60_9_3, h60_2_4, h79_207, ci_3, h60_9_4, h60_2_2, s_40, h60_2_5, cl_m1, ci_6, h60_9_0, h79_11, ci_4, h60_9_1, r_91, h68_1, h68_12, h68_2, enR, LG, LSt, LC, nlR, psR, TK, up_s, up_n, up_u, lt_nI, le_nI, eq_nI, true_and, and_true, if_true, if_false, Nat.zero_add, Nat.add_zero, nI_add, ↓reduceIte, Nat.reduceAdd, Nat.reduceMul, Nat.reduceSub, Nat.reduceLT, Nat.reduceLeDiff, Nat.reduceEqDiff, Nat.not_lt_zero, Nat.lt_irrefl, decide_true, BEq.rfl, nm1, nm2, nm3, nm4, nm9, ngc, eq_self, List.length_cons, List.length_nil, h1, c_mixC (show k < 10 by omega) q2 q3 q5, e1]
    exact ih (k + 1) _ (by omega)
theorem dg6 (H : RL t z s v g w q ct cn cc di dr df li la sf sl a b e o B n P N W K O T J l Ds Dr Df Dp KB) : ∀ (p k : Nat) (u : Int64), k + p = 4 → (Wp (d + 4) 947 179 [some (.ref 0), some (.long u), none, some (.int (nI k))] [] z (Hp X (s, v, g, w, q, ct, cn, cc, di, dr, df, li, la, sf, sl) M) Q ↔ Q (some (.long (foldu (fun k => dgC B n cc (6 + k)) k p u))) z (Hp X (s, v, g, w, q, ct, cn, cc, di, dr, df, li, la, sf, sl) M)) := by
  intro p
  induction p with
  | zero =>
    intro k u hk
    have hk : k = 4 := by omega
    subst hk
    rw [W947_179]
    simp (disch := omega) only [W947, s_1, cl_17, r_6, s_0, ci_0, r_5, r_2, r_Li, ci_8, r_49, r_3, r_Ll, r_4, r_La, h79_944, r_26, h80_962, s_8, r_In, ci_1, r_52, h60_9_14, h60_9_12, h60_3_5, ci_5, h79_957, h60_9_3, h60_2_4, h79_207, ci_3, h60_9_4, h60_2_2, s_40, h60_2_5, cl_m1, ci_6, h60_9_0, h79_11, ci_4, h60_9_1, r_91, h68_1, h68_12, h68_2, enR, LG, LSt, LC, nlR, psR, TK, up_s, up_n, up_u, lt_nI, le_nI, eq_nI, true_and, and_true, if_true, if_false, Nat.zero_add, Nat.add_zero, nI_add, ↓reduceIte, Nat.reduceAdd, Nat.reduceMul, Nat.reduceSub, Nat.reduceLT, Nat.reduceLeDiff, Nat.reduceEqDiff, Nat.not_lt_zero, Nat.lt_irrefl, decide_true, BEq.rfl, nm1, nm2, nm3, nm4, nm9, ngc, eq_self, List.length_cons, List.length_nil, foldu]
  | succ p ih =>
    intro k u hk
    have h1 : k < 4 := by omega
    obtain ⟨q1, q2, q3, q4⟩ := H.2.1.1 (6 + k) (by omega)
    have q5 : ct (6 + k) = nI 0 ∨ ct (6 + k) = nI 1 := by rw [q1]; unfold bI; split; exact Or.inr rfl; exact Or.inl rfl
    have q6 : cap (6 + k) ≤ 80 := by unfold cap; split <;> omega
    have e1 : (if ct (6 + k) = nI 0 then (-1 : Int64) else (nI (n (6 + k))).toInt64) = if B (6 + k) = true then lN (n (6 + k)) else -1 := by
      rw [q1, nI_nl (by omega)]
      cases B (6 + k) with
      | false => rfl
      | true => rfl
    rw [W947_179]
    simp (disch := omega) only [W947, s_1, cl_17, r_6, s_0, ci_0, r_5, r_2, r_Li, ci_8, r_49, r_3, r_Ll, r_4, r_La, h79_944, r_26, h80_962, s_8, r_In, ci_1, r_52, h60_9_14, h60_9_12, h60_3_5, ci_5, h79_957, h60_9_3, h60_2_4, h79_207, ci_3, h60_9_4, h60_2_2, s_40, h60_2_5, cl_m1, ci_6, h60_9_0, h79_11, ci_4, h60_9_1, r_91, h68_1, h68_12, h68_2, enR, LG, LSt, LC, nlR, psR, TK, up_s, up_n, up_u, lt_nI, le_nI, eq_nI, true_and, and_true, if_true, if_false, Nat.zero_add, Nat.add_zero, nI_add, ↓reduceIte, Nat.reduceAdd, Nat.reduceMul, Nat.reduceSub, Nat.reduceLT, Nat.reduceLeDiff, Nat.reduceEqDiff, Nat.not_lt_zero, Nat.lt_irrefl, decide_true, BEq.rfl, nm1, nm2, nm3, nm4, nm9, ngc, eq_self, List.length_cons, List.length_nil, h1, c_mixC (show 6 + k < 10 by omega) q2 q3 q5, e1]
    exact ih (k + 1) _ (by omega)
theorem c_digest (H : RL t z s v g w q ct cn cc di dr df li la sf sl a b e o B n P N W K O T J l Ds Dr Df Dp KB) : Cw (d + 5) 947 [.ref 0] z (Hp X (s, v, g, w, q, ct, cn, cc, di, dr, df, li, la, sf, sl) M) Q ↔ Q (some (.long (dig P N W K O T J Ds Dr Df Dp KB B n cc))) z (Hp X (s, v, g, w, q, ct, cn, cc, di, dr, df, li, la, sf, sl) M) := by
  rw [cw_wp]
  simp (disch := omega) only [W947, s_1, cl_17, r_6, s_0, ci_0, r_5, r_2, r_Li, ci_8, r_49, r_3, r_Ll, r_4, r_La, h79_944, r_26, h80_962, s_8, r_In, ci_1, r_52, h60_9_14, h60_9_12, h60_3_5, ci_5, h79_957, h60_9_3, h60_2_4, h79_207, ci_3, h60_9_4, h60_2_2, s_40, h60_2_5, cl_m1, ci_6, h60_9_0, h79_11, ci_4, h60_9_1, r_91, h68_1, h68_12, h68_2, enR, LG, LSt, LC, nlR, psR, TK, up_s, up_n, up_u, lt_nI, le_nI, eq_nI, true_and, and_true, if_true, if_false, Nat.zero_add, Nat.add_zero, nI_add, ↓reduceIte, Nat.reduceAdd, Nat.reduceMul, Nat.reduceSub, Nat.reduceLT, Nat.reduceLeDiff, Nat.reduceEqDiff, Nat.not_lt_zero, Nat.lt_irrefl, decide_true, BEq.rfl, nm1, nm2, nm3, nm4, nm9, ngc, eq_self, List.length_cons, List.length_nil]
  rw [dg1 H 8 0 _ (by omega), dg3 H N 0 _ (by omega), dg4 H 3 0 _ (by omega), dg5 H 6 0 _ (by omega), dg6 H 4 0 _ (by omega)]
  exact Iff.rfl
-- the model's
theorem m_mix {x : Int32} : Cw (d + 1) 1088 [.ref 67, .int x] z (Hp X C (a, b, e, o)) Q ↔ Q none z (Hp X C (a, vp_updL b 37 (mix64 (b 37) x.toInt64), e, o)) := by
  rw [cw_wp]
  simp (disch := omega) only [W1088, r_4, r_La, s_1, cl_31, h60_10_37, r_22, r_2, r_Li, r_26, r_21, h61_10_37, r_93, enR, LG, LSt, LC, nlR, psR, TK, up_s, up_n, up_u, lt_nI, le_nI, eq_nI, true_and, and_true, if_true, if_false, Nat.zero_add, Nat.add_zero, nI_add, ↓reduceIte, Nat.reduceAdd, Nat.reduceMul, Nat.reduceSub, Nat.reduceLT, Nat.reduceLeDiff, Nat.reduceEqDiff, Nat.not_lt_zero, Nat.lt_irrefl, decide_true, BEq.rfl, nm1, nm2, nm3, nm4, nm9, ngc, eq_self, List.length_cons, List.length_nil]
  exact Iff.rfl
theorem ul_u (f : Nat → Int64) (k : Nat) (x y : Int64) : vp_updL (vp_updL f k x) k y = vp_updL f k y := by
  funext j
  unfold vp_updL
  split <;> rfl
theorem ml2 {i : Nat} (H : RL t z s v g w q ct cn cc di dr df li la sf sl a b e o B n P N W K O T J l Ds Dr Df Dp KB) (hi : i < N) : ∀ (p k : Nat) (u : Int64), k + p = 5 → (Wp (d + 3) 1089 20 [some (.ref 67), some (.int (nI i)), some (.int (nI k))] [] z (Hp X C (a, vp_updL b 37 u, e, o)) Q ↔ Wp (d + 3) 1089 10 [some (.ref 67), some (.int (nI (i + 1)))] [] z (Hp X C (a, vp_updL b 37 (foldu (dgF (fct W K O T J i)) k p u), e, o)) Q) := by
  obtain ⟨hb, hl, hq, hC, hs, hM, hS⟩ := rl_land H
  intro p
  induction p with
  | zero =>
    intro k u hk
    have hk : k = 5 := by omega
    subst hk
    rw [W1089_20]
    simp (disch := omega) only [W1089, r_4, r_La, h60_10_12, h79_1088, s_0, ci_0, r_5, r_2, r_Li, h60_10_11, r_49, ci_4, r_50, h79_1033, s_8, r_In, ci_1, r_52, h60_10_10, s_41, h79_1040, h60_10_18, h60_10_19, h60_10_20, ci_3, h60_10_22, ci_82, r_12, ci_m9, r_47, ci_m1, r_93, h64_75, h64_76, h64_78, enR, LG, LSt, LC, nlR, psR, TK, up_s, up_n, up_u, lt_nI, le_nI, eq_nI, true_and, and_true, if_true, if_false, Nat.zero_add, Nat.add_zero, nI_add, ↓reduceIte, Nat.reduceAdd, Nat.reduceMul, Nat.reduceSub, Nat.reduceLT, Nat.reduceLeDiff, Nat.reduceEqDiff, Nat.not_lt_zero, Nat.lt_irrefl, decide_true, BEq.rfl, nm1, nm2, nm3, nm4, nm9, ngc, eq_self, List.length_cons, List.length_nil, foldu]
  | succ p ih =>
    intro k u hk
    have h1 : k < 5 := by omega
    have h4 : ¬ 4 < k := by omega
    have h2 := fct_lt hb hi k
    rw [W1089_20]
    simp (disch := omega) only [W1089, r_4, r_La, h60_10_12, h79_1088, s_0, ci_0, r_5, r_2, r_Li, h60_10_11, r_49, ci_4, r_50, h79_1033, s_8, r_In, ci_1, r_52, h60_10_10, s_41, h79_1040, h60_10_18, h60_10_19, h60_10_20, ci_3, h60_10_22, ci_82, r_12, ci_m9, r_47, ci_m1, r_93, h64_75, h64_76, h64_78, enR, LG, LSt, LC, nlR, psR, TK, up_s, up_n, up_u, lt_nI, le_nI, eq_nI, true_and, and_true, if_true, if_false, Nat.zero_add, Nat.add_zero, nI_add, ↓reduceIte, Nat.reduceAdd, Nat.reduceMul, Nat.reduceSub, Nat.reduceLT, Nat.reduceLeDiff, Nat.reduceEqDiff, Nat.not_lt_zero, Nat.lt_irrefl, decide_true, BEq.rfl, nm1, nm2, nm3, nm4, nm9, ngc, eq_self, List.length_cons, List.length_nil, h4, m_tellsOf hM hb hi h1, nI_nl, m_mix, ul_s, ul_u]
    exact ih (k + 1) _ (by omega)
theorem ml1 (H : RL t z s v g w q ct cn cc di dr df li la sf sl a b e o B n P N W K O T J l Ds Dr Df Dp KB) : ∀ (p i : Nat) (u : Int64), i + p = N → (Wp (d + 3) 1089 10 [some (.ref 67), some (.int (nI i))] [] z (Hp X C (a, vp_updL b 37 u, e, o)) Q ↔ Wp (d + 3) 1089 68 [some (.ref 67), some (.int (nI 0))] [] z (Hp X C (a, vp_updL b 37 (mix64 (foldu (dgR W K O T J) i p u) (lN (Dp 0 (Ds 0)))), e, o)) Q) := by
  obtain ⟨hb, hl, hq, hC, hs, hM, hS⟩ := rl_land H
  obtain ⟨hV, hDC, ⟨m1, m2, m3⟩⟩ := rl_drv H
  have hN := hb.2.1
  have hP := hb.1
  have h10 := hM.1
  have h11 := hM.2.1
  have h7 := dv_place hb hV (Nat.le_refl _)
  intro p
  induction p with
  | zero =>
    intro i u hi
    have hi : i = N := by omega
    subst hi
    rw [W1089_10]
    by_cases hP0 : P = 0
    · have e1 : Dp 0 (Ds 0) = 0 := by
        have := hV.2.1 hP0
        rw [this.2]; exact this.1
      simp (disch := omega) only [W1089, r_4, r_La, h60_10_12, h79_1088, s_0, ci_0, r_5, r_2, r_Li, h60_10_11, r_49, ci_4, r_50, h79_1033, s_8, r_In, ci_1, r_52, h60_10_10, s_41, h79_1040, h60_10_18, h60_10_19, h60_10_20, ci_3, h60_10_22, ci_82, r_12, ci_m9, r_47, ci_m1, r_93, h64_75, h64_76, h64_78, enR, LG, LSt, LC, nlR, psR, TK, up_s, up_n, up_u, lt_nI, le_nI, eq_nI, true_and, and_true, if_true, if_false, Nat.zero_add, Nat.add_zero, nI_add, ↓reduceIte, Nat.reduceAdd, Nat.reduceMul, Nat.reduceSub, Nat.reduceLT, Nat.reduceLeDiff, Nat.reduceEqDiff, Nat.not_lt_zero, Nat.lt_irrefl, decide_true, BEq.rfl, nm1, nm2, nm3, nm4, nm9, ngc, eq_self, List.length_cons, List.length_nil, h11, h10, hP0, foldu, nI_nl, m_mix, ul_s, ul_u, e1]
    · simp (disch := omega) only [W1089, r_4, r_La, h60_10_12, h79_1088, s_0, ci_0, r_5, r_2, r_Li, h60_10_11, r_49, ci_4, r_50, h79_1033, s_8, r_In, ci_1, r_52, h60_10_10, s_41, h79_1040, h60_10_18, h60_10_19, h60_10_20, ci_3, h60_10_22, ci_82, r_12, ci_m9, r_47, ci_m1, r_93, h64_75, h64_76, h64_78, enR, LG, LSt, LC, nlR, psR, TK, up_s, up_n, up_u, lt_nI, le_nI, eq_nI, true_and, and_true, if_true, if_false, Nat.zero_add, Nat.add_zero, nI_add, ↓reduceIte, Nat.reduceAdd, Nat.reduceMul, Nat.reduceSub, Nat.reduceLT, Nat.reduceLeDiff, Nat.reduceEqDiff, Nat.not_lt_zero, Nat.lt_irrefl, decide_true, BEq.rfl, nm1, nm2, nm3, nm4, nm9, ngc, eq_self, List.length_cons, List.length_nil, h11, h10, hP0, foldu, m_now m1 m2 hV.1 (fun k hk => (m3 k hk).2.2), nI_nl, m_mix, ul_s, ul_u]
  | succ p ih =>
    intro i u hi
    have h1 : i < N := by omega
    rw [W1089_10]
    simp (disch := omega) only [W1089, r_4, r_La, h60_10_12, h79_1088, s_0, ci_0, r_5, r_2, r_Li, h60_10_11, r_49, ci_4, r_50, h79_1033, s_8, r_In, ci_1, r_52, h60_10_10, s_41, h79_1040, h60_10_18, h60_10_19, h60_10_20, ci_3, h60_10_22, ci_82, r_12, ci_m9, r_47, ci_m1, r_93, h64_75, h64_76, h64_78, enR, LG, LSt, LC, nlR, psR, TK, up_s, up_n, up_u, lt_nI, le_nI, eq_nI, true_and, and_true, if_true, if_false, Nat.zero_add, Nat.add_zero, nI_add, ↓reduceIte, Nat.reduceAdd, Nat.reduceMul, Nat.reduceSub, Nat.reduceLT, Nat.reduceLeDiff, Nat.reduceEqDiff, Nat.not_lt_zero, Nat.lt_irrefl, decide_true, BEq.rfl, nm1, nm2, nm3, nm4, nm9, ngc, eq_self, List.length_cons, List.length_nil, h11, h1]
    rw [ml2 H h1 5 0 u (by omega)]
    exact ih (i + 1) _ (by omega)
theorem ml3 (H : RL t z s v g w q ct cn cc di dr df li la sf sl a b e o B n P N W K O T J l Ds Dr Df Dp KB) : ∀ (p k : Nat) (u : Int64), k + p = Ds 0 → (Wp (d + 3) 1089 68 [some (.ref 67), some (.int (nI k))] [] z (Hp X C (a, vp_updL b 37 u, e, o)) Q ↔ Wp (d + 3) 1089 104 [some (.ref 67), some (.int (nI 0))] [] z (Hp X C (a, vp_updL b 37 (foldu (dgD (Dr 0) (Df 0)) k p u), e, o)) Q) := by
  obtain ⟨hb, hl, hq, hC, hs, hM, hS⟩ := rl_land H
  obtain ⟨hV, hDC, ⟨m1, m2, m3⟩⟩ := rl_drv H
  have h40 := hV.1
  have hN := hb.2.1
  intro p
  induction p with
  | zero =>
    intro k u hk
    have hk : k = Ds 0 := by omega
    subst hk
    rw [W1089_68]
    simp (disch := omega) only [W1089, r_4, r_La, h60_10_12, h79_1088, s_0, ci_0, r_5, r_2, r_Li, h60_10_11, r_49, ci_4, r_50, h79_1033, s_8, r_In, ci_1, r_52, h60_10_10, s_41, h79_1040, h60_10_18, h60_10_19, h60_10_20, ci_3, h60_10_22, ci_82, r_12, ci_m9, r_47, ci_m1, r_93, h64_75, h64_76, h64_78, enR, LG, LSt, LC, nlR, psR, TK, up_s, up_n, up_u, lt_nI, le_nI, eq_nI, true_and, and_true, if_true, if_false, Nat.zero_add, Nat.add_zero, nI_add, ↓reduceIte, Nat.reduceAdd, Nat.reduceMul, Nat.reduceSub, Nat.reduceLT, Nat.reduceLeDiff, Nat.reduceEqDiff, Nat.not_lt_zero, Nat.lt_irrefl, decide_true, BEq.rfl, nm1, nm2, nm3, nm4, nm9, ngc, eq_self, List.length_cons, List.length_nil, m2, foldu]
  | succ p ih =>
    intro k u hk
    have h1 : k < Ds 0 := by omega
    have hk40 : k < 40 := by omega
    obtain ⟨f1, f2, f3⟩ := m3 k h1
    obtain ⟨v1, v2, v3⟩ := hV.2.2.2 k h1
    rw [W1089_68]
    simp (disch := omega) only [W1089, r_4, r_La, h60_10_12, h79_1088, s_0, ci_0, r_5, r_2, r_Li, h60_10_11, r_49, ci_4, r_50, h79_1033, s_8, r_In, ci_1, r_52, h60_10_10, s_41, h79_1040, h60_10_18, h60_10_19, h60_10_20, ci_3, h60_10_22, ci_82, r_12, ci_m9, r_47, ci_m1, r_93, h64_75, h64_76, h64_78, enR, LG, LSt, LC, nlR, psR, TK, up_s, up_n, up_u, lt_nI, le_nI, eq_nI, true_and, and_true, if_true, if_false, Nat.zero_add, Nat.add_zero, nI_add, ↓reduceIte, Nat.reduceAdd, Nat.reduceMul, Nat.reduceSub, Nat.reduceLT, Nat.reduceLeDiff, Nat.reduceEqDiff, Nat.not_lt_zero, Nat.lt_irrefl, decide_true, BEq.rfl, nm1, nm2, nm3, nm4, nm9, ngc, eq_self, List.length_cons, List.length_nil, m2, h1, hk40, f1, f2, nI_nl, m_mix, ul_s, ul_u]
    exact ih (k + 1) _ (by omega)
theorem ml4 (H : RL t z s v g w q ct cn cc di dr df li la sf sl a b e o B n P N W K O T J l Ds Dr Df Dp KB) : ∀ (p k : Nat) (u : Int64), k + p = 3 → (Wp (d + 3) 1089 104 [some (.ref 67), some (.int (nI k))] [] z (Hp X C (a, vp_updL b 37 u, e, o)) Q ↔ Q none z (Hp X C (a, vp_updL b 37 (foldu (dgK KB Ds) k p u), e, o))) := by
  intro p
  induction p with
  | zero =>
    intro k u hk
    have hk : k = 3 := by omega
    subst hk
    rw [W1089_104]
    simp (disch := omega) only [W1089, r_4, r_La, h60_10_12, h79_1088, s_0, ci_0, r_5, r_2, r_Li, h60_10_11, r_49, ci_4, r_50, h79_1033, s_8, r_In, ci_1, r_52, h60_10_10, s_41, h79_1040, h60_10_18, h60_10_19, h60_10_20, ci_3, h60_10_22, ci_82, r_12, ci_m9, r_47, ci_m1, r_93, h64_75, h64_76, h64_78, enR, LG, LSt, LC, nlR, psR, TK, up_s, up_n, up_u, lt_nI, le_nI, eq_nI, true_and, and_true, if_true, if_false, Nat.zero_add, Nat.add_zero, nI_add, ↓reduceIte, Nat.reduceAdd, Nat.reduceMul, Nat.reduceSub, Nat.reduceLT, Nat.reduceLeDiff, Nat.reduceEqDiff, Nat.not_lt_zero, Nat.lt_irrefl, decide_true, BEq.rfl, nm1, nm2, nm3, nm4, nm9, ngc, eq_self, List.length_cons, List.length_nil, foldu]
  | succ p ih =>
    intro k u hk
    have h1 : k < 3 := by omega
    obtain ⟨g1, g2, g3⟩ := H.2.2.2.1.2.2.2 k h1
    rw [W1089_104]
    cases hB : KB k with
    | false =>
      have k1 := g2 hB
      simp (disch := omega) only [W1089, r_4, r_La, h60_10_12, h79_1088, s_0, ci_0, r_5, r_2, r_Li, h60_10_11, r_49, ci_4, r_50, h79_1033, s_8, r_In, ci_1, r_52, h60_10_10, s_41, h79_1040, h60_10_18, h60_10_19, h60_10_20, ci_3, h60_10_22, ci_82, r_12, ci_m9, r_47, ci_m1, r_93, h64_75, h64_76, h64_78, enR, LG, LSt, LC, nlR, psR, TK, up_s, up_n, up_u, lt_nI, le_nI, eq_nI, true_and, and_true, if_true, if_false, Nat.zero_add, Nat.add_zero, nI_add, ↓reduceIte, Nat.reduceAdd, Nat.reduceMul, Nat.reduceSub, Nat.reduceLT, Nat.reduceLeDiff, Nat.reduceEqDiff, Nat.not_lt_zero, Nat.lt_irrefl, decide_true, BEq.rfl, nm1, nm2, nm3, nm4, nm9, ngc, eq_self, List.length_cons, List.length_nil, h1, nI_mul, k1, m_mix, ul_s, ul_u, l_m1]
      rw [ih (k + 1) _ (by omega)]
      simp only [foldu, dgK, hB, Bool.false_eq_true, if_false]
    | true =>
      obtain ⟨-, hV, -, hK⟩ := g3 hB
      have h40 := hV.1
      have k1 := hK.1
      simp (disch := omega) only [W1089, r_4, r_La, h60_10_12, h79_1088, s_0, ci_0, r_5, r_2, r_Li, h60_10_11, r_49, ci_4, r_50, h79_1033, s_8, r_In, ci_1, r_52, h60_10_10, s_41, h79_1040, h60_10_18, h60_10_19, h60_10_20, ci_3, h60_10_22, ci_82, r_12, ci_m9, r_47, ci_m1, r_93, h64_75, h64_76, h64_78, enR, LG, LSt, LC, nlR, psR, TK, up_s, up_n, up_u, lt_nI, le_nI, eq_nI, true_and, and_true, if_true, if_false, Nat.zero_add, Nat.add_zero, nI_add, ↓reduceIte, Nat.reduceAdd, Nat.reduceMul, Nat.reduceSub, Nat.reduceLT, Nat.reduceLeDiff, Nat.reduceEqDiff, Nat.not_lt_zero, Nat.lt_irrefl, decide_true, BEq.rfl, nm1, nm2, nm3, nm4, nm9, ngc, eq_self, List.length_cons, List.length_nil, h1, nI_mul, k1, m_mix, ul_s, ul_u, nI_nl]
      rw [ih (k + 1) _ (by omega)]
      simp only [foldu, dgK, hB, if_true]
theorem m_mixLand (H : RL t z s v g w q ct cn cc di dr df li la sf sl a b e o B n P N W K O T J l Ds Dr Df Dp KB) {u : Int64} : Cw (d + 4) 1089 [.ref 67] z (Hp X C (a, vp_updL b 37 u, e, o)) Q ↔ Q none z (Hp X C (a, vp_updL b 37 (foldu (dgK KB Ds) 0 3 (foldu (dgD (Dr 0) (Df 0)) 0 (Ds 0) (mix64 (foldu (dgR W K O T J) 0 N (mix64 u (lN W))) (lN (Dp 0 (Ds 0)))))), e, o)) := by
  have hM := (rl_land H).2.2.2.2.2.1
  have hW := hM.2.2.1
  have hb := (rl_land H).1
  have h3 := hb.2.2.2.1
  rw [cw_wp]
  simp (disch := omega) only [W1089, r_4, r_La, h60_10_12, h79_1088, s_0, ci_0, r_5, r_2, r_Li, h60_10_11, r_49, ci_4, r_50, h79_1033, s_8, r_In, ci_1, r_52, h60_10_10, s_41, h79_1040, h60_10_18, h60_10_19, h60_10_20, ci_3, h60_10_22, ci_82, r_12, ci_m9, r_47, ci_m1, r_93, h64_75, h64_76, h64_78, enR, LG, LSt, LC, nlR, psR, TK, up_s, up_n, up_u, lt_nI, le_nI, eq_nI, true_and, and_true, if_true, if_false, Nat.zero_add, Nat.add_zero, nI_add, ↓reduceIte, Nat.reduceAdd, Nat.reduceMul, Nat.reduceSub, Nat.reduceLT, Nat.reduceLeDiff, Nat.reduceEqDiff, Nat.not_lt_zero, Nat.lt_irrefl, decide_true, BEq.rfl, nm1, nm2, nm3, nm4, nm9, ngc, eq_self, List.length_cons, List.length_nil, hW, nI_nl, m_mix, ul_s, ul_u]
  rw [ml1 H N 0 _ (by omega), ml3 H (Ds 0) 0 _ (by omega), ml4 H 3 0 _ (by omega)]
theorem me1 (H : RL t z s v g w q ct cn cc di dr df li la sf sl a b e o B n P N W K O T J l Ds Dr Df Dp KB) : ∀ (p k : Nat) (u : Int64), k + p = 8 → (Wp (d + 4) 1090 9 [some (.ref 67), some (.int (nI k))] [] z (Hp X C (a, vp_updL b 37 u, e, o)) Q ↔ Wp (d + 4) 1090 36 [some (.ref 67), some (.int (nI 0))] [] z (Hp X C (a, vp_updL b 37 (foldu (dgK KB Ds) 0 3 (foldu (dgD (Dr 0) (Df 0)) 0 (Ds 0) (mix64 (foldu (dgR W K O T J) 0 N (mix64 (foldu (dgF (tlsf P N K (Ds 0) KB B)) k p u) (lN W))) (lN (Dp 0 (Ds 0)))))), e, o)) Q) := by
  obtain ⟨hb, hl, hq, hC, hs, hM, hS⟩ := rl_land H
  have hP := hb.1
  have hN := hb.2.1
  have h40 := H.2.2.2.1.1.1
  have H0 : ∀ u, RL t z s v g w q ct cn cc di dr df li la sf sl a (vp_updL b 37 u) e o B n P N W K O T J l Ds Dr Df Dp KB := fun u => H
  intro p
  induction p with
  | zero =>
    intro k u hk
    have hk : k = 8 := by omega
    subst hk
    rw [W1090_9]
    simp (disch := omega) only [W1090, r_4, r_La, s_1, cl_17, h61_10_37, s_0, ci_0, r_5, r_2, r_Li, ci_7, r_50, h79_1084, h79_1088, s_8, r_In, ci_1, r_52, h79_1089, ci_6, r_49, h60_10_5, s_43, ci_m1, h79_1011, ci_4, h60_10_8, h60_10_9, ci_80, r_12, r_10, h60_10_37, r_91, h64_69, h64_72, h64_73, enR, LG, LSt, LC, nlR, psR, TK, up_s, up_n, up_u, lt_nI, le_nI, eq_nI, true_and, and_true, if_true, if_false, Nat.zero_add, Nat.add_zero, nI_add, ↓reduceIte, Nat.reduceAdd, Nat.reduceMul, Nat.reduceSub, Nat.reduceLT, Nat.reduceLeDiff, Nat.reduceEqDiff, Nat.not_lt_zero, Nat.lt_irrefl, decide_true, BEq.rfl, nm1, nm2, nm3, nm4, nm9, ngc, eq_self, List.length_cons, List.length_nil, foldu, show (7 < 8) = True from eq_true (by decide), m_mixLand H]
  | succ p ih =>
    intro k u hk
    have h1 : ¬ 7 < k := by omega
    have h2 := tls_lt (K := K) (KB := KB) (B := B) hP hN h40 k
    rw [W1090_9]
    simp (disch := omega) only [W1090, r_4, r_La, s_1, cl_17, h61_10_37, s_0, ci_0, r_5, r_2, r_Li, ci_7, r_50, h79_1084, h79_1088, s_8, r_In, ci_1, r_52, h79_1089, ci_6, r_49, h60_10_5, s_43, ci_m1, h79_1011, ci_4, h60_10_8, h60_10_9, ci_80, r_12, r_10, h60_10_37, r_91, h64_69, h64_72, h64_73, enR, LG, LSt, LC, nlR, psR, TK, up_s, up_n, up_u, lt_nI, le_nI, eq_nI, true_and, and_true, if_true, if_false, Nat.zero_add, Nat.add_zero, nI_add, ↓reduceIte, Nat.reduceAdd, Nat.reduceMul, Nat.reduceSub, Nat.reduceLT, Nat.reduceLeDiff, Nat.reduceEqDiff, Nat.not_lt_zero, Nat.lt_irrefl, decide_true, BEq.rfl, nm1, nm2, nm3, nm4, nm9, ngc, eq_self, List.length_cons, List.length_nil, h1, m_tells (H0 u) (show k < 8 by omega), nI_nl, m_mix, ul_s, ul_u]
    exact ih (k + 1) _ (by omega)
theorem me2 {r : Nat} (H : RL t z s v g w q ct cn cc di dr df li la sf sl a b e o B n P N W K O T J l Ds Dr Df Dp KB) (hr : r < 6) : ∀ (p k : Nat) (u : Int64), k + p = n r → (Wp (d + 4) 1090 67 [some (.ref 67), some (.int (nI r)), some (.int (nI k))] [] z (Hp X C (a, vp_updL b 37 u, e, o)) Q ↔ Wp (d + 4) 1090 36 [some (.ref 67), some (.int (nI (r + 1)))] [] z (Hp X C (a, vp_updL b 37 (foldu (mxF (cc r)) k p u), e, o)) Q) := by
  rcases rl_r H hr with ⟨q1, q2, q3, q4, q5⟩ | ⟨q1, q2, q3, q4, q5, q6⟩
  · intro p k u hk
    have hk0 : k = 0 := by omega
    have hp0 : p = 0 := by omega
    subst hk0; subst hp0
    rw [W1090_67]
    simp (disch := omega) only [W1090, r_4, r_La, s_1, cl_17, h61_10_37, s_0, ci_0, r_5, r_2, r_Li, ci_7, r_50, h79_1084, h79_1088, s_8, r_In, ci_1, r_52, h79_1089, ci_6, r_49, h60_10_5, s_43, ci_m1, h79_1011, ci_4, h60_10_8, h60_10_9, ci_80, r_12, r_10, h60_10_37, r_91, h64_69, h64_72, h64_73, enR, LG, LSt, LC, nlR, psR, TK, up_s, up_n, up_u, lt_nI, le_nI, eq_nI, true_and, and_true, if_true, if_false, Nat.zero_add, Nat.add_zero, nI_add, ↓reduceIte, Nat.reduceAdd, Nat.reduceMul, Nat.reduceSub, Nat.reduceLT, Nat.reduceLeDiff, Nat.reduceEqDiff, Nat.not_lt_zero, Nat.lt_irrefl, decide_true, BEq.rfl, nm1, nm2, nm3, nm4, nm9, ngc, eq_self, List.length_cons, List.length_nil, hr, q5, foldu, show (nI 0 < (-9 : Int32)) = False from eq_false (by decide +kernel)]
  · intro p
    induction p with
    | zero =>
      intro k u hk
      have hk : k = n r := by omega
      subst hk
      rw [W1090_67]
      simp (disch := omega) only [W1090, r_4, r_La, s_1, cl_17, h61_10_37, s_0, ci_0, r_5, r_2, r_Li, ci_7, r_50, h79_1084, h79_1088, s_8, r_In, ci_1, r_52, h79_1089, ci_6, r_49, h60_10_5, s_43, ci_m1, h79_1011, ci_4, h60_10_8, h60_10_9, ci_80, r_12, r_10, h60_10_37, r_91, h64_69, h64_72, h64_73, enR, LG, LSt, LC, nlR, psR, TK, up_s, up_n, up_u, lt_nI, le_nI, eq_nI, true_and, and_true, if_true, if_false, Nat.zero_add, Nat.add_zero, nI_add, ↓reduceIte, Nat.reduceAdd, Nat.reduceMul, Nat.reduceSub, Nat.reduceLT, Nat.reduceLeDiff, Nat.reduceEqDiff, Nat.not_lt_zero, Nat.lt_irrefl, decide_true, BEq.rfl, nm1, nm2, nm3, nm4, nm9, ngc, eq_self, List.length_cons, List.length_nil, hr, q5, foldu]
    | succ p ih =>
      intro k u hk
      have h1 : k < n r := by omega
      rw [W1090_67]
      simp (disch := omega) only [W1090, r_4, r_La, s_1, cl_17, h61_10_37, s_0, ci_0, r_5, r_2, r_Li, ci_7, r_50, h79_1084, h79_1088, s_8, r_In, ci_1, r_52, h79_1089, ci_6, r_49, h60_10_5, s_43, ci_m1, h79_1011, ci_4, h60_10_8, h60_10_9, ci_80, r_12, r_10, h60_10_37, r_91, h64_69, h64_72, h64_73, enR, LG, LSt, LC, nlR, psR, TK, up_s, up_n, up_u, lt_nI, le_nI, eq_nI, true_and, and_true, if_true, if_false, Nat.zero_add, Nat.add_zero, nI_add, ↓reduceIte, Nat.reduceAdd, Nat.reduceMul, Nat.reduceSub, Nat.reduceLT, Nat.reduceLeDiff, Nat.reduceEqDiff, Nat.not_lt_zero, Nat.lt_irrefl, decide_true, BEq.rfl, nm1, nm2, nm3, nm4, nm9, ngc, eq_self, List.length_cons, List.length_nil, hr, q5, h1, m_rowAt, q6 k h1, m_mix, ul_s, ul_u]
      exact ih (k + 1) _ (by omega)
theorem me3 (H : RL t z s v g w q ct cn cc di dr df li la sf sl a b e o B n P N W K O T J l Ds Dr Df Dp KB) : ∀ (p r : Nat) (u : Int64), r + p = 6 → (Wp (d + 4) 1090 36 [some (.ref 67), some (.int (nI r))] [] z (Hp X C (a, vp_updL b 37 u, e, o)) Q ↔ Wp (d + 4) 1090 101 [some (.ref 67), some (.int (nI 0))] [] z (Hp X C (a, vp_updL b 37 (foldu (dgC B n cc) r p u), e, o)) Q) := by
  intro p
  induction p with
  | zero =>
    intro r u hr
    have hr : r = 6 := by omega
    subst hr
    rw [W1090_36]
    simp (disch := omega) only [W1090, r_4, r_La, s_1, cl_17, h61_10_37, s_0, ci_0, r_5, r_2, r_Li, ci_7, r_50, h79_1084, h79_1088, s_8, r_In, ci_1, r_52, h79_1089, ci_6, r_49, h60_10_5, s_43, ci_m1, h79_1011, ci_4, h60_10_8, h60_10_9, ci_80, r_12, r_10, h60_10_37, r_91, h64_69, h64_72, h64_73, enR, LG, LSt, LC, nlR, psR, TK, up_s, up_n, up_u, lt_nI, le_nI, eq_nI, true_and, and_true, if_true, if_false, Nat.zero_add, Nat.add_zero, nI_add, ↓reduceIte, Nat.reduceAdd, Nat.reduceMul, Nat.reduceSub, Nat.reduceLT, Nat.reduceLeDiff, Nat.reduceEqDiff, Nat.not_lt_zero, Nat.lt_irrefl, decide_true, BEq.rfl, nm1, nm2, nm3, nm4, nm9, ngc, eq_self, List.length_cons, List.length_nil, foldu]
  | succ p ih =>
    intro r u hr
    have h1 : r < 6 := by omega
    rw [W1090_36]
    rcases rl_r H h1 with ⟨q1, q2, q3, q4, q5⟩ | ⟨q1, q2, q3, q4, q5, q6⟩
    · simp (disch := omega) only [W1090, r_4, r_La, s_1, cl_17, h61_10_37, s_0, ci_0, r_5, r_2, r_Li, ci_7, r_50, h79_1084, h79_1088, s_8, r_In, ci_1, r_52, h79_1089, ci_6, r_49, h60_10_5, s_43, ci_m1, h79_1011, ci_4, h60_10_8, h60_10_9, ci_80, r_12, r_10, h60_10_37, r_91, h64_69, h64_72, h64_73, enR, LG, LSt, LC, nlR, psR, TK, up_s, up_n, up_u, lt_nI, le_nI, eq_nI, true_and, and_true, if_true, if_false, Nat.zero_add, Nat.add_zero, nI_add, ↓reduceIte, Nat.reduceAdd, Nat.reduceMul, Nat.reduceSub, Nat.reduceLT, Nat.reduceLeDiff, Nat.reduceEqDiff, Nat.not_lt_zero, Nat.lt_irrefl, decide_true, BEq.rfl, nm1, nm2, nm3, nm4, nm9, ngc, eq_self, List.length_cons, List.length_nil, h1, q5, m_mix, ul_s, ul_u, l_m1]
      rw [me2 H h1 (n r) 0 _ (by omega), ih (r + 1) _ (by omega)]
      simp only [foldu, dgC, q1, q4, Bool.false_eq_true, if_false]
    · simp (disch := omega) only [W1090, r_4, r_La, s_1, cl_17, h61_10_37, s_0, ci_0, r_5, r_2, r_Li, ci_7, r_50, h79_1084, h79_1088, s_8, r_In, ci_1, r_52, h79_1089, ci_6, r_49, h60_10_5, s_43, ci_m1, h79_1011, ci_4, h60_10_8, h60_10_9, ci_80, r_12, r_10, h60_10_37, r_91, h64_69, h64_72, h64_73, enR, LG, LSt, LC, nlR, psR, TK, up_s, up_n, up_u, lt_nI, le_nI, eq_nI, true_and, and_true, if_true, if_false, Nat.zero_add, Nat.add_zero, nI_add, ↓reduceIte, Nat.reduceAdd, Nat.reduceMul, Nat.reduceSub, Nat.reduceLT, Nat.reduceLeDiff, Nat.reduceEqDiff, Nat.not_lt_zero, Nat.lt_irrefl, decide_true, BEq.rfl, nm1, nm2, nm3, nm4, nm9, ngc, eq_self, List.length_cons, List.length_nil, h1, q5, m_mix, ul_s, ul_u, nI_nl]
      rw [me2 H h1 (n r) 0 _ (by omega), ih (r + 1) _ (by omega)]
      simp only [foldu, dgC, q1, if_true]
theorem me4 {r : Nat} (H : RL t z s v g w q ct cn cc di dr df li la sf sl a b e o B n P N W K O T J l Ds Dr Df Dp KB) (hr : r < 4) : ∀ (p k : Nat) (u : Int64), k + p = n (6 + r) → (Wp (d + 4) 1090 131 [some (.ref 67), some (.int (nI r)), some (.int (nI k))] [] z (Hp X C (a, vp_updL b 37 u, e, o)) Q ↔ Wp (d + 4) 1090 101 [some (.ref 67), some (.int (nI (r + 1)))] [] z (Hp X C (a, vp_updL b 37 (foldu (mxF (cc (6 + r))) k p u), e, o)) Q) := by
  rcases rl_x H hr with ⟨q1, q2, q3, q4, q5⟩ | ⟨q1, q2, q3, q4, q5, q6⟩
  · intro p k u hk
    have hk0 : k = 0 := by omega
    have hp0 : p = 0 := by omega
    subst hk0; subst hp0
    rw [W1090_131]
    simp (disch := omega) only [W1090, r_4, r_La, s_1, cl_17, h61_10_37, s_0, ci_0, r_5, r_2, r_Li, ci_7, r_50, h79_1084, h79_1088, s_8, r_In, ci_1, r_52, h79_1089, ci_6, r_49, h60_10_5, s_43, ci_m1, h79_1011, ci_4, h60_10_8, h60_10_9, ci_80, r_12, r_10, h60_10_37, r_91, h64_69, h64_72, h64_73, enR, LG, LSt, LC, nlR, psR, TK, up_s, up_n, up_u, lt_nI, le_nI, eq_nI, true_and, and_true, if_true, if_false, Nat.zero_add, Nat.add_zero, nI_add, ↓reduceIte, Nat.reduceAdd, Nat.reduceMul, Nat.reduceSub, Nat.reduceLT, Nat.reduceLeDiff, Nat.reduceEqDiff, Nat.not_lt_zero, Nat.lt_irrefl, decide_true, BEq.rfl, nm1, nm2, nm3, nm4, nm9, ngc, eq_self, List.length_cons, List.length_nil, hr, q5, foldu, show (nI 0 < (-9 : Int32)) = False from eq_false (by decide +kernel)]
  · intro p
    induction p with
    | zero =>
      intro k u hk
      have hk : k = n (6 + r) := by omega
      subst hk
      rw [W1090_131]
      simp (disch := omega) only [W1090, r_4, r_La, s_1, cl_17, h61_10_37, s_0, ci_0, r_5, r_2, r_Li, ci_7, r_50, h79_1084, h79_1088, s_8, r_In, ci_1, r_52, h79_1089, ci_6, r_49, h60_10_5, s_43, ci_m1, h79_1011, ci_4, h60_10_8, h60_10_9, ci_80, r_12, r_10, h60_10_37, r_91, h64_69, h64_72, h64_73, enR, LG, LSt, LC, nlR, psR, TK, up_s, up_n, up_u, lt_nI, le_nI, eq_nI, true_and, and_true, if_true, if_false, Nat.zero_add, Nat.add_zero, nI_add, ↓reduceIte, Nat.reduceAdd, Nat.reduceMul, Nat.reduceSub, Nat.reduceLT, Nat.reduceLeDiff, Nat.reduceEqDiff, Nat.not_lt_zero, Nat.lt_irrefl, decide_true, BEq.rfl, nm1, nm2, nm3, nm4, nm9, ngc, eq_self, List.length_cons, List.length_nil, hr, q5, foldu]
    | succ p ih =>
      intro k u hk
      have h1 : k < n (6 + r) := by omega
      rw [W1090_131]
      simp (disch := omega) only [W1090, r_4, r_La, s_1, cl_17, h61_10_37, s_0, ci_0, r_5, r_2, r_Li, ci_7, r_50, h79_1084, h79_1088, s_8, r_In, ci_1, r_52, h79_1089, ci_6, r_49, h60_10_5, s_43, ci_m1, h79_1011, ci_4, h60_10_8, h60_10_9, ci_80, r_12, r_10, h60_10_37, r_91, h64_69, h64_72, h64_73, enR, LG, LSt, LC, nlR, psR, TK, up_s, up_n, up_u, lt_nI, le_nI, eq_nI, true_and, and_true, if_true, if_false, Nat.zero_add, Nat.add_zero, nI_add, ↓reduceIte, Nat.reduceAdd, Nat.reduceMul, Nat.reduceSub, Nat.reduceLT, Nat.reduceLeDiff, Nat.reduceEqDiff, Nat.not_lt_zero, Nat.lt_irrefl, decide_true, BEq.rfl, nm1, nm2, nm3, nm4, nm9, ngc, eq_self, List.length_cons, List.length_nil, hr, q5, h1, nI_mul, q6 k h1, m_mix, ul_s, ul_u]
      exact ih (k + 1) _ (by omega)
theorem me5 (H : RL t z s v g w q ct cn cc di dr df li la sf sl a b e o B n P N W K O T J l Ds Dr Df Dp KB) : ∀ (p r : Nat) (u : Int64), r + p = 4 → (Wp (d + 4) 1090 101 [some (.ref 67), some (.int (nI r))] [] z (Hp X C (a, vp_updL b 37 u, e, o)) Q ↔ Q (some (.long (foldu (fun k => dgC B n cc (6 + k)) r p u))) z (Hp X C (a, vp_updL b 37 (foldu (fun k => dgC B n cc (6 + k)) r p u), e, o))) := by
  intro p
  induction p with
  | zero =>
    intro r u hr
    have hr : r = 4 := by omega
    subst hr
    rw [W1090_101]
    simp (disch := omega) only [W1090, r_4, r_La, s_1, cl_17, h61_10_37, s_0, ci_0, r_5, r_2, r_Li, ci_7, r_50, h79_1084, h79_1088, s_8, r_In, ci_1, r_52, h79_1089, ci_6, r_49, h60_10_5, s_43, ci_m1, h79_1011, ci_4, h60_10_8, h60_10_9, ci_80, r_12, r_10, h60_10_37, r_91, h64_69, h64_72, h64_73, enR, LG, LSt, LC, nlR, psR, TK, up_s, up_n, up_u, lt_nI, le_nI, eq_nI, true_and, and_true, if_true, if_false, Nat.zero_add, Nat.add_zero, nI_add, ↓reduceIte, Nat.reduceAdd, Nat.reduceMul, Nat.reduceSub, Nat.reduceLT, Nat.reduceLeDiff, Nat.reduceEqDiff, Nat.not_lt_zero, Nat.lt_irrefl, decide_true, BEq.rfl, nm1, nm2, nm3, nm4, nm9, ngc, eq_self, List.length_cons, List.length_nil, foldu, ul_s]
  | succ p ih =>
    intro r u hr
    have h1 : r < 4 := by omega
    rw [W1090_101]
    rcases rl_x H h1 with ⟨q1, q2, q3, q4, q5⟩ | ⟨q1, q2, q3, q4, q5, q6⟩
    · simp (disch := omega) only [W1090, r_4, r_La, s_1, cl_17, h61_10_37, s_0, ci_0, r_5, r_2, r_Li, ci_7, r_50, h79_1084, h79_1088, s_8, r_In, ci_1, r_52, h79_1089, ci_6, r_49, h60_10_5, s_43, ci_m1, h79_1011, ci_4, h60_10_8, h60_10_9, ci_80, r_12, r_10, h60_10_37, r_91, h64_69, h64_72, h64_73, enR, LG, LSt, LC, nlR, psR, TK, up_s, up_n, up_u, lt_nI, le_nI, eq_nI, true_and, and_true, if_true, if_false, Nat.zero_add, Nat.add_zero, nI_add, ↓reduceIte, Nat.reduceAdd, Nat.reduceMul, Nat.reduceSub, Nat.reduceLT, Nat.reduceLeDiff, Nat.reduceEqDiff, Nat.not_lt_zero, Nat.lt_irrefl, decide_true, BEq.rfl, nm1, nm2, nm3, nm4, nm9, ngc, eq_self, List.length_cons, List.length_nil, h1, q5, m_mix, ul_s, ul_u, l_m1]
      rw [me4 H h1 (n (6 + r)) 0 _ (by omega), ih (r + 1) _ (by omega)]
      simp only [foldu, dgC, q1, q4, Bool.false_eq_true, if_false]
    · simp (disch := omega) only [W1090, r_4, r_La, s_1, cl_17, h61_10_37, s_0, ci_0, r_5, r_2, r_Li, ci_7, r_50, h79_1084, h79_1088, s_8, r_In, ci_1, r_52, h79_1089, ci_6, r_49, h60_10_5, s_43, ci_m1, h79_1011, ci_4, h60_10_8, h60_10_9, ci_80, r_12, r_10, h60_10_37, r_91, h64_69, h64_72, h64_73, enR, LG, LSt, LC, nlR, psR, TK, up_s, up_n, up_u, lt_nI, le_nI, eq_nI, true_and, and_true, if_true, if_false, Nat.zero_add, Nat.add_zero, nI_add, ↓reduceIte, Nat.reduceAdd, Nat.reduceMul, Nat.reduceSub, Nat.reduceLT, Nat.reduceLeDiff, Nat.reduceEqDiff, Nat.not_lt_zero, Nat.lt_irrefl, decide_true, BEq.rfl, nm1, nm2, nm3, nm4, nm9, ngc, eq_self, List.length_cons, List.length_nil, h1, q5, m_mix, ul_s, ul_u, nI_nl]
      rw [me4 H h1 (n (6 + r)) 0 _ (by omega), ih (r + 1) _ (by omega)]
      simp only [foldu, dgC, q1, if_true]
theorem op_digest (H : RL t z s v g w q ct cn cc di dr df li la sf sl a b e o B n P N W K O T J l Ds Dr Df Dp KB) : OPL (d + 20) 947 1090 [] t z X (s, v, g, w, q, ct, cn, cc, di, dr, df, li, la, sf, sl) (a, b, e, o) := by
  unfold OPL
  rw [c_digest H]
  refine olc ?_
  rw [cw_wp]
  simp (disch := omega) only [W1090, r_4, r_La, s_1, cl_17, h61_10_37, s_0, ci_0, r_5, r_2, r_Li, ci_7, r_50, h79_1084, h79_1088, s_8, r_In, ci_1, r_52, h79_1089, ci_6, r_49, h60_10_5, s_43, ci_m1, h79_1011, ci_4, h60_10_8, h60_10_9, ci_80, r_12, r_10, h60_10_37, r_91, h64_69, h64_72, h64_73, enR, LG, LSt, LC, nlR, psR, TK, up_s, up_n, up_u, lt_nI, le_nI, eq_nI, true_and, and_true, if_true, if_false, Nat.zero_add, Nat.add_zero, nI_add, ↓reduceIte, Nat.reduceAdd, Nat.reduceMul, Nat.reduceSub, Nat.reduceLT, Nat.reduceLeDiff, Nat.reduceEqDiff, Nat.not_lt_zero, Nat.lt_irrefl, decide_true, BEq.rfl, nm1, nm2, nm3, nm4, nm9, ngc, eq_self, List.length_cons, List.length_nil]
  rw [me1 H 8 0 _ (by omega), me3 H 6 0 _ (by omega), me5 H 4 0 _ (by omega)]
  have H1 : RL (t + 1) z s v g w q ct cn cc di dr df li la sf sl a (vp_updL b 37 (dig P N W K O T J Ds Dr Df Dp KB B n cc)) e o B n P N W K O T J l Ds Dr Df Dp KB := rl_t H
  exact olm (rl_inv H1)
end

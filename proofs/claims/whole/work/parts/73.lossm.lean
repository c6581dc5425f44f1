/-! loss, best: the model -/
def FRf (e e' : Nat → Nat → Int32) : Prop := ∀ k, k ≠ 84 → k ≠ 85 → k ≠ 88 → e' k = e k
def FRx (e e' : Nat → Nat → Int32) : Prop := ∀ k, k ≠ 83 → k ≠ 84 → k ≠ 85 → k ≠ 88 → e' k = e k
def ALq (L : Nat → Nat → Nat) (p q : Nat) (x : Int32) : Prop := (alk L q p ∧ x = nI 1) ∨ (¬ alk L q p ∧ x = nI 0)
def ALk (L : Nat → Nat → Nat) (P : Nat) (x : Nat → Int32) : Prop := ∀ p q, p < P → q < p → ALq L p q (x (7 * p + q))
section
variable {t d : Nat} {z : AZ} {X : Nat × (Nat → Int32)} {C : CT} {M : MT} {s : Nat → Int32} {v : Nat → Int64} {g : Nat → Nat → Int32} {w : Nat → Nat → Int64} {q : Nat → Nat} {ct : Nat → Int32} {cn : Nat → Int32} {cc : Nat → Nat → Int32} {di : Nat → Nat → Int32} {dr : Nat → Nat → Int32} {df : Nat → Nat → Int32} {li : Nat → Nat → Int32} {la : Nat → Nat → Nat → Int32} {sf : Nat → Nat → Int32} {sl : Nat → Nat → Int32} {a : Nat → Int32} {b : Nat → Int64} {e : Nat → Nat → Int32} {o : Nat → Nat → Int64} {B : Nat → Bool} {n : Nat → Nat} {P N W : Nat} {K O T J : Nat → Nat} {l : Nat} {Ds : Nat → Nat} {Dr Df Dp : Nat → Nat → Nat} {KB : Nat → Bool}
variable {Q : Option Value → AZ → AH → Prop} {L L0 L1 : Nat → Nat → Nat}
theorem lp_lo16 {i p m0 : Nat} (hP7 : P ≤ 7) (hp : p < P) (hm0 : m0 + 100 < 2147483648) (hNX : NX L P (e 83)) (hst : ∀ S v, stp L S v < 2 ^ P)
    (hQ : ∀ (a' : Nat → Int32) (e' : Nat → Nat → Int32) (mk : Nat), FRa a a' → FRf e e' → a' 30 = nI mk → mk ≤ m0 + 7 * (p + 1) → (∀ w, w < 16384 → ∃ v, v ≤ mk ∧ e' 84 w = nI v) → ALk L (p + 1) (e' 88) → Wp (d + 4) 1077 6 [some (.ref 67), some (.int (nI i)), some (.int (nI (p + 1)))] [] z (Hp X C (a', b, e', o)) Q) :
    ∀ (j q0 : Nat) (a' : Nat → Int32) (e' : Nat → Nat → Int32) (mk : Nat), q0 + j = p → FRa a a' → FRf e e' → a' 30 = nI mk → mk ≤ m0 + 7 * p + q0 → (∀ w, w < 16384 → ∃ v, v ≤ mk ∧ e' 84 w = nI v) → ALk L p (e' 88) → (∀ q, q < q0 → ALq L p q (e' 88 (7 * p + q))) → Wp (d + 4) 1077 16 [some (.ref 67), some (.int (nI i)), some (.int (nI p)), some (.int (nI q0))] [] z (Hp X C (a', b, e', o)) Q := by
  intro j
  induction j with
  | zero =>
    intro q0 a' e' mk hj ha he h30 hmk h84 hA hB
    have hj : q0 = p := by omega
    subst hj
    rw [W1077_16]
    simp (disch := omega) only [W1077, r_4, r_La, h79_1064, s_0, ci_0, r_5, r_2, r_Li, h60_10_10, r_49, h60_10_36, ci_7, r_12, r_10, h79_1065, ci_m9, r_47, ci_1, r_52, s_8, r_In, h79_1021, h60_10_13, ci_4, s_41, r_90, h65_74, h70_88, h71_88_0, h71_88_1, enR, LG, LSt, LC, nlR, psR, TK, up_s, up_n, up_u, lt_nI, le_nI, eq_nI, true_and, and_true, if_true, if_false, Nat.zero_add, Nat.add_zero, nI_add, ↓reduceIte, Nat.reduceAdd, Nat.reduceMul, Nat.reduceSub, Nat.reduceLT, Nat.reduceLeDiff, Nat.reduceEqDiff, Nat.not_lt_zero, Nat.lt_irrefl, decide_true, BEq.rfl, nm1, nm2, nm3, nm4, nm9, ngc, eq_self, List.length_cons, List.length_nil]
    refine hQ a' e' mk ha he h30 (by omega) h84 (fun p' q h1 h2 => ?_)
    by_cases h : p' = q0
    · subst h; exact hB q h2
    · exact hA p' q (by omega) h2
  | succ j ih =>
    intro q0 a' e' mk hj ha he h30 hmk h84 hA hB
    have h1 : q0 < p := by omega
    have h83 : NX L P (e' 83) := by rw [he 83 (by decide) (by decide) (by decide)]; exact hNX
    have h49 : 7 * p + q0 < 49 := by omega
    rw [W1077_16]
    simp (disch := omega) only [W1077, r_4, r_La, h79_1064, s_0, ci_0, r_5, r_2, r_Li, h60_10_10, r_49, h60_10_36, ci_7, r_12, r_10, h79_1065, ci_m9, r_47, ci_1, r_52, s_8, r_In, h79_1021, h60_10_13, ci_4, s_41, r_90, h65_74, h70_88, h71_88_0, h71_88_1, enR, LG, LSt, LC, nlR, psR, TK, up_s, up_n, up_u, lt_nI, le_nI, eq_nI, true_and, and_true, if_true, if_false, Nat.zero_add, Nat.add_zero, nI_add, ↓reduceIte, Nat.reduceAdd, Nat.reduceMul, Nat.reduceSub, Nat.reduceLT, Nat.reduceLeDiff, Nat.reduceEqDiff, Nat.not_lt_zero, Nat.lt_irrefl, decide_true, BEq.rfl, nm1, nm2, nm3, nm4, nm9, ngc, eq_self, List.length_cons, List.length_nil, h1, nI_mul]
    refine m_apartOf (L := L) (a := a') (e := e') hP7 (show mk + 1 < 2147483648 by omega) hp (show q0 < P by omega) h83 hst h30 h84 (fun a2 e2 out f1 f2 f3 f4 f5 f6 => ?_)
    have h9 := tdo9 (out := out) (fun m y h => (f6 m y h).1)
    have fa : FRa a a2 := fun k k1 k2 => (f1 k k1 k2).trans (ha k k1 k2)
    have fe : FRf e e2 := fun k k1 k2 k3 => (f2 k k1 k2).trans (he k k1 k2 k3)
    have e88 : e2 88 = e' 88 := f2 88 (by decide) (by decide)
    have fin : ∀ x, ALq L p q0 x → Wp (d + 4) 1077 16 [some (.ref 67), some (.int (nI i)), some (.int (nI p)), some (.int (nI (q0 + 1)))] [] z (Hp X C (a2, b, va_up e2 88 (upd (e2 88) (7 * p + q0) x), o)) Q := fun x hx =>
      ih (q0 + 1) a2 _ (mk + 1) (by omega) fa (fun k k1 k2 k3 => by rw [up_n _ _ k3]; exact fe k k1 k2 k3) f5 (by omega) (by rw [up_n _ _ (by decide)]; exact f3) (fun p' q h1 h2 => by
        rw [up_s, ud_n _ _ (by omega), e88]; exact hA p' q h1 h2) (fun q hq => by
        rw [up_s]
        by_cases h : q = q0
        · subst h; rw [ud_s]; exact hx
        · rw [ud_n _ _ (by omega), e88]; exact hB q (by omega))
    by_cases ho : out = none
    · have hal := (tres_none f4).mp ho
      simp (disch := omega) only [W1077, r_4, r_La, h79_1064, s_0, ci_0, r_5, r_2, r_Li, h60_10_10, r_49, h60_10_36, ci_7, r_12, r_10, h79_1065, ci_m9, r_47, ci_1, r_52, s_8, r_In, h79_1021, h60_10_13, ci_4, s_41, r_90, h65_74, h70_88, h71_88_0, h71_88_1, enR, LG, LSt, LC, nlR, psR, TK, up_s, up_n, up_u, lt_nI, le_nI, eq_nI, true_and, and_true, if_true, if_false, Nat.zero_add, Nat.add_zero, nI_add, ↓reduceIte, Nat.reduceAdd, Nat.reduceMul, Nat.reduceSub, Nat.reduceLT, Nat.reduceLeDiff, Nat.reduceEqDiff, Nat.not_lt_zero, Nat.lt_irrefl, decide_true, BEq.rfl, nm1, nm2, nm3, nm4, nm9, ngc, eq_self, List.length_cons, List.length_nil, h9, ho, h49]
      exact fin _ (Or.inl ⟨alk_s hal, rfl⟩)
    · have hal : ¬ alk L p q0 := fun h => ho ((tres_none f4).mpr h)
      simp (disch := omega) only [W1077, r_4, r_La, h79_1064, s_0, ci_0, r_5, r_2, r_Li, h60_10_10, r_49, h60_10_36, ci_7, r_12, r_10, h79_1065, ci_m9, r_47, ci_1, r_52, s_8, r_In, h79_1021, h60_10_13, ci_4, s_41, r_90, h65_74, h70_88, h71_88_0, h71_88_1, enR, LG, LSt, LC, nlR, psR, TK, up_s, up_n, up_u, lt_nI, le_nI, eq_nI, true_and, and_true, if_true, if_false, Nat.zero_add, Nat.add_zero, nI_add, ↓reduceIte, Nat.reduceAdd, Nat.reduceMul, Nat.reduceSub, Nat.reduceLT, Nat.reduceLeDiff, Nat.reduceEqDiff, Nat.not_lt_zero, Nat.lt_irrefl, decide_true, BEq.rfl, nm1, nm2, nm3, nm4, nm9, ngc, eq_self, List.length_cons, List.length_nil, h9, ho, h49]
      exact fin _ (Or.inr ⟨fun h => hal (alk_s h), rfl⟩)
theorem lp_lo97 {i p c m0 : Nat} {old : Int32} {u : Nat → Nat → Bool} (hP7 : P ≤ 7) (hp : p < P) (hm0 : m0 + 100 < 2147483648) (hNX : NX L1 P (e 83)) (hst : ∀ S v, stp L1 S v < 2 ^ P) (hA : ALk L0 P (e 88)) (hu : LSSu L0 L1 P u)
    (hQ : ∀ (a' : Nat → Int32) (e' : Nat → Nat → Int32) (mk : Nat), FRa a a' → FRe e e' → a' 30 = nI mk → mk ≤ m0 + 7 * (p + 1) → (∀ w, w < 16384 → ∃ v, v ≤ mk ∧ e' 84 w = nI v) → Wp (d + 4) 1077 85 [some (.ref 67), some (.int (nI i)), some (.int old), some (.int (nI (c + cnt (u p) p))), some (.int (nI (p + 1)))] [] z (Hp X C (a', b, e', o)) Q) :
    ∀ (j q0 : Nat) (a' : Nat → Int32) (e' : Nat → Nat → Int32) (mk : Nat), q0 + j = p → FRa a a' → FRe e e' → a' 30 = nI mk → mk ≤ m0 + 7 * p + q0 → (∀ w, w < 16384 → ∃ v, v ≤ mk ∧ e' 84 w = nI v) → Wp (d + 4) 1077 97 [some (.ref 67), some (.int (nI i)), some (.int old), some (.int (nI (c + cnt (u p) q0))), some (.int (nI p)), some (.int (nI q0))] [] z (Hp X C (a', b, e', o)) Q := by
  intro j
  induction j with
  | zero =>
    intro q0 a' e' mk hj ha he h30 hmk h84
    have hj : q0 = p := by omega
    subst hj
    rw [W1077_97]
    simp (disch := omega) only [W1077, r_4, r_La, h79_1064, s_0, ci_0, r_5, r_2, r_Li, h60_10_10, r_49, h60_10_36, ci_7, r_12, r_10, h79_1065, ci_m9, r_47, ci_1, r_52, s_8, r_In, h79_1021, h60_10_13, ci_4, s_41, r_90, h65_74, h70_88, h71_88_0, h71_88_1, enR, LG, LSt, LC, nlR, psR, TK, up_s, up_n, up_u, lt_nI, le_nI, eq_nI, true_and, and_true, if_true, if_false, Nat.zero_add, Nat.add_zero, nI_add, ↓reduceIte, Nat.reduceAdd, Nat.reduceMul, Nat.reduceSub, Nat.reduceLT, Nat.reduceLeDiff, Nat.reduceEqDiff, Nat.not_lt_zero, Nat.lt_irrefl, decide_true, BEq.rfl, nm1, nm2, nm3, nm4, nm9, ngc, eq_self, List.length_cons, List.length_nil]
    exact hQ a' e' mk ha he h30 (by omega) h84
  | succ j ih =>
    intro q0 a' e' mk hj ha he h30 hmk h84
    have h1 : q0 < p := by omega
    have h83 : NX L1 P (e' 83) := by rw [he 83 (by decide) (by decide)]; exact hNX
    have h49 : 7 * p + q0 < 49 := by omega
    have hx : ALq L0 p q0 (e' 88 (7 * p + q0)) := by rw [he 88 (by decide) (by decide)]; exact hA p q0 hp h1
    have hu1 := hu p q0 hp h1
    rw [W1077_97]
    rcases hx with ⟨x1, x2⟩ | ⟨x1, x2⟩
    · have c1 : cnt (u p) (q0 + 1) = cnt (u p) q0 := by rw [cnt_succ, if_neg (fun h => (hu1.mp h).1 x1)]
      simp (disch := omega) only [W1077, r_4, r_La, h79_1064, s_0, ci_0, r_5, r_2, r_Li, h60_10_10, r_49, h60_10_36, ci_7, r_12, r_10, h79_1065, ci_m9, r_47, ci_1, r_52, s_8, r_In, h79_1021, h60_10_13, ci_4, s_41, r_90, h65_74, h70_88, h71_88_0, h71_88_1, enR, LG, LSt, LC, nlR, psR, TK, up_s, up_n, up_u, lt_nI, le_nI, eq_nI, true_and, and_true, if_true, if_false, Nat.zero_add, Nat.add_zero, nI_add, ↓reduceIte, Nat.reduceAdd, Nat.reduceMul, Nat.reduceSub, Nat.reduceLT, Nat.reduceLeDiff, Nat.reduceEqDiff, Nat.not_lt_zero, Nat.lt_irrefl, decide_true, BEq.rfl, nm1, nm2, nm3, nm4, nm9, ngc, eq_self, List.length_cons, List.length_nil, h1, nI_mul, h49, x2]
      rw [← c1]
      exact ih (q0 + 1) a' e' mk (by omega) ha he h30 (by omega) h84
    · simp (disch := omega) only [W1077, r_4, r_La, h79_1064, s_0, ci_0, r_5, r_2, r_Li, h60_10_10, r_49, h60_10_36, ci_7, r_12, r_10, h79_1065, ci_m9, r_47, ci_1, r_52, s_8, r_In, h79_1021, h60_10_13, ci_4, s_41, r_90, h65_74, h70_88, h71_88_0, h71_88_1, enR, LG, LSt, LC, nlR, psR, TK, up_s, up_n, up_u, lt_nI, le_nI, eq_nI, true_and, and_true, if_true, if_false, Nat.zero_add, Nat.add_zero, nI_add, ↓reduceIte, Nat.reduceAdd, Nat.reduceMul, Nat.reduceSub, Nat.reduceLT, Nat.reduceLeDiff, Nat.reduceEqDiff, Nat.not_lt_zero, Nat.lt_irrefl, decide_true, BEq.rfl, nm1, nm2, nm3, nm4, nm9, ngc, eq_self, List.length_cons, List.length_nil, h1, nI_mul, h49, x2]
      refine m_apartOf (L := L1) (a := a') (e := e') hP7 (show mk + 1 < 2147483648 by omega) hp (show q0 < P by omega) h83 hst h30 h84 (fun a2 e2 out f1 f2 f3 f4 f5 f6 => ?_)
      have h9 := tdo9 (out := out) (fun m y h => (f6 m y h).1)
      have fa : FRa a a2 := fun k k1 k2 => (f1 k k1 k2).trans (ha k k1 k2)
      have fe : FRe e e2 := fun k k1 k2 => (f2 k k1 k2).trans (he k k1 k2)
      by_cases ho : out = none
      · have hal := (tres_none f4).mp ho
        have c1 : c + cnt (u p) (q0 + 1) = c + cnt (u p) q0 + 1 := by rw [cnt_succ, if_pos (hu1.mpr ⟨x1, alk_s hal⟩), Nat.add_assoc]
        simp (disch := omega) only [W1077, r_4, r_La, h79_1064, s_0, ci_0, r_5, r_2, r_Li, h60_10_10, r_49, h60_10_36, ci_7, r_12, r_10, h79_1065, ci_m9, r_47, ci_1, r_52, s_8, r_In, h79_1021, h60_10_13, ci_4, s_41, r_90, h65_74, h70_88, h71_88_0, h71_88_1, enR, LG, LSt, LC, nlR, psR, TK, up_s, up_n, up_u, lt_nI, le_nI, eq_nI, true_and, and_true, if_true, if_false, Nat.zero_add, Nat.add_zero, nI_add, ↓reduceIte, Nat.reduceAdd, Nat.reduceMul, Nat.reduceSub, Nat.reduceLT, Nat.reduceLeDiff, Nat.reduceEqDiff, Nat.not_lt_zero, Nat.lt_irrefl, decide_true, BEq.rfl, nm1, nm2, nm3, nm4, nm9, ngc, eq_self, List.length_cons, List.length_nil, h9, ho]
        rw [← c1]
        exact ih (q0 + 1) a2 e2 (mk + 1) (by omega) fa fe f5 (by omega) f3
      · have hal : ¬ alk L1 p q0 := fun h => ho ((tres_none f4).mpr h)
        have c1 : cnt (u p) (q0 + 1) = cnt (u p) q0 := by rw [cnt_succ, if_neg (fun h => hal (alk_s (hu1.mp h).2))]
        simp (disch := omega) only [W1077, r_4, r_La, h79_1064, s_0, ci_0, r_5, r_2, r_Li, h60_10_10, r_49, h60_10_36, ci_7, r_12, r_10, h79_1065, ci_m9, r_47, ci_1, r_52, s_8, r_In, h79_1021, h60_10_13, ci_4, s_41, r_90, h65_74, h70_88, h71_88_0, h71_88_1, enR, LG, LSt, LC, nlR, psR, TK, up_s, up_n, up_u, lt_nI, le_nI, eq_nI, true_and, and_true, if_true, if_false, Nat.zero_add, Nat.add_zero, nI_add, ↓reduceIte, Nat.reduceAdd, Nat.reduceMul, Nat.reduceSub, Nat.reduceLT, Nat.reduceLeDiff, Nat.reduceEqDiff, Nat.not_lt_zero, Nat.lt_irrefl, decide_true, BEq.rfl, nm1, nm2, nm3, nm4, nm9, ngc, eq_self, List.length_cons, List.length_nil, h9, ho]
        rw [← c1]
        exact ih (q0 + 1) a2 e2 (mk + 1) (by omega) fa fe f5 (by omega) f3
theorem lp_lo85 {i m0 : Nat} {old : Int32} {u : Nat → Nat → Bool} (h40 : 4 * i < 80) (hM : a 10 = nI P) (hP7 : P ≤ 7) (hm0 : m0 + 100 < 2147483648) (hNX : NX L1 P (e 83)) (hst : ∀ S v, stp L1 S v < 2 ^ P) (hA : ALk L0 P (e 88)) (hu : LSSu L0 L1 P u)
    (hQ : ∀ (a' : Nat → Int32) (e' : Nat → Nat → Int32) (mk : Nat), FRa a a' → FRe e e' → a' 30 = nI mk → mk ≤ m0 + 7 * P → (∀ w, w < 16384 → ∃ v, v ≤ mk ∧ e' 84 w = nI v) → Q (some (.int (nI (lossN u P)))) z (Hp X C (a', b, va_up e' 74 (upd (e' 74) (4 * i) old), o))) :
    ∀ (j p : Nat) (a' : Nat → Int32) (e' : Nat → Nat → Int32) (mk : Nat), p + j = P → FRa a a' → FRe e e' → a' 30 = nI mk → mk ≤ m0 + 7 * p → (∀ w, w < 16384 → ∃ v, v ≤ mk ∧ e' 84 w = nI v) → Wp (d + 4) 1077 85 [some (.ref 67), some (.int (nI i)), some (.int old), some (.int (nI (lossN u p))), some (.int (nI p))] [] z (Hp X C (a', b, e', o)) Q := by
  intro j
  induction j with
  | zero =>
    intro p a' e' mk hj ha he h30 hmk h84
    have hj : p = P := by omega
    subst hj
    have h10 : a' 10 = nI p := by rw [ha 10 (by decide) (by decide)]; exact hM
    rw [W1077_85]
    simp (disch := omega) only [W1077, r_4, r_La, h79_1064, s_0, ci_0, r_5, r_2, r_Li, h60_10_10, r_49, h60_10_36, ci_7, r_12, r_10, h79_1065, ci_m9, r_47, ci_1, r_52, s_8, r_In, h79_1021, h60_10_13, ci_4, s_41, r_90, h65_74, h70_88, h71_88_0, h71_88_1, enR, LG, LSt, LC, nlR, psR, TK, up_s, up_n, up_u, lt_nI, le_nI, eq_nI, true_and, and_true, if_true, if_false, Nat.zero_add, Nat.add_zero, nI_add, ↓reduceIte, Nat.reduceAdd, Nat.reduceMul, Nat.reduceSub, Nat.reduceLT, Nat.reduceLeDiff, Nat.reduceEqDiff, Nat.not_lt_zero, Nat.lt_irrefl, decide_true, BEq.rfl, nm1, nm2, nm3, nm4, nm9, ngc, eq_self, List.length_cons, List.length_nil, h10, nI_mul, h40]
    exact hQ a' e' mk ha he h30 hmk h84
  | succ j ih =>
    intro p a' e' mk hj ha he h30 hmk h84
    have h1 : p < P := by omega
    have h10 : a' 10 = nI P := by rw [ha 10 (by decide) (by decide)]; exact hM
    rw [W1077_85]
    simp (disch := omega) only [W1077, r_4, r_La, h79_1064, s_0, ci_0, r_5, r_2, r_Li, h60_10_10, r_49, h60_10_36, ci_7, r_12, r_10, h79_1065, ci_m9, r_47, ci_1, r_52, s_8, r_In, h79_1021, h60_10_13, ci_4, s_41, r_90, h65_74, h70_88, h71_88_0, h71_88_1, enR, LG, LSt, LC, nlR, psR, TK, up_s, up_n, up_u, lt_nI, le_nI, eq_nI, true_and, and_true, if_true, if_false, Nat.zero_add, Nat.add_zero, nI_add, ↓reduceIte, Nat.reduceAdd, Nat.reduceMul, Nat.reduceSub, Nat.reduceLT, Nat.reduceLeDiff, Nat.reduceEqDiff, Nat.not_lt_zero, Nat.lt_irrefl, decide_true, BEq.rfl, nm1, nm2, nm3, nm4, nm9, ngc, eq_self, List.length_cons, List.length_nil, h10, h1]
    exact lp_lo97 (c := lossN u p) hP7 h1 hm0 hNX hst hA hu (fun a2 e2 mk2 f1 f2 f3 f4 f5 => by
      rw [← lsN_succ]
      exact ih (p + 1) a2 e2 mk2 (by omega) f1 f2 f3 f4 f5) p 0 a' e' mk (by omega) ha he h30 (by omega) h84
theorem lp_lo6 {i m0 n : Nat} (hM : MLn a (e 74) P N W K O T J) (hb : LB P N W K O T J) (hi : i < N) (hK : K i = 0 ∨ K i = 2) (hm0 : m0 + 200 < 2147483648) (hNX : NX (lds N (fe W K J) K O T) P (e 83)) (hn : LSS (lds N (fe W K J) K O T) (lds N (fe W (va_up K i 1) J) K O T) P n)
    (hQ : ∀ (a' : Nat → Int32) (e' : Nat → Nat → Int32) (mk : Nat), FRa a a' → FRx e e' → a' 30 = nI mk → mk ≤ m0 + 98 → (∀ w, w < 16384 → ∃ v, v ≤ mk ∧ e' 84 w = nI v) → Q (some (.int (nI n))) z (Hp X C (a', b, e', o))) :
    ∀ (j p : Nat) (a' : Nat → Int32) (e' : Nat → Nat → Int32) (mk : Nat), p + j = P → FRa a a' → FRf e e' → a' 30 = nI mk → mk ≤ m0 + 7 * p → (∀ w, w < 16384 → ∃ v, v ≤ mk ∧ e' 84 w = nI v) → ALk (lds N (fe W K J) K O T) p (e' 88) → Wp (d + 4) 1077 6 [some (.ref 67), some (.int (nI i)), some (.int (nI p))] [] z (Hp X C (a', b, e', o)) Q := by
  have hP7 := hb.1
  have hN := hb.2.1
  intro j
  induction j with
  | zero =>
    intro p a' e' mk hj ha he h30 hmk h84 hA
    have hj : p = P := by omega
    subst hj
    have h10 : a' 10 = nI p := by rw [ha 10 (by decide) (by decide)]; exact hM.1
    have h40 : 4 * i < 80 := by omega
    have hM1 : MLn a' (e' 74) p N W K O T J := mln_fr hM (fun k hk => ha k (by omega) (by omega)) (he 74 (by decide) (by decide) (by decide))
    obtain ⟨u, hu, rfl⟩ := hn
    rw [W1077_6]
    simp (disch := omega) only [W1077, r_4, r_La, h79_1064, s_0, ci_0, r_5, r_2, r_Li, h60_10_10, r_49, h60_10_36, ci_7, r_12, r_10, h79_1065, ci_m9, r_47, ci_1, r_52, s_8, r_In, h79_1021, h60_10_13, ci_4, s_41, r_90, h65_74, h70_88, h71_88_0, h71_88_1, enR, LG, LSt, LC, nlR, psR, TK, up_s, up_n, up_u, lt_nI, le_nI, eq_nI, true_and, and_true, if_true, if_false, Nat.zero_add, Nat.add_zero, nI_add, ↓reduceIte, Nat.reduceAdd, Nat.reduceMul, Nat.reduceSub, Nat.reduceLT, Nat.reduceLeDiff, Nat.reduceEqDiff, Nat.not_lt_zero, Nat.lt_irrefl, decide_true, BEq.rfl, nm1, nm2, nm3, nm4, nm9, ngc, eq_self, List.length_cons, List.length_nil, h10, m_of, nI_mul, h40]
    refine m_setNext (a := a') (e := va_up e' 74 (upd (e' 74) (4 * i) (nI 1))) (K := va_up K i 1) (mln_pave hM1 (up_s _ _ _)) (lb_pave hb) (fun γ hγ => ?_)
    rw [lds_pave hK] at hγ
    simp (disch := omega) only [W1077, r_4, r_La, h79_1064, s_0, ci_0, r_5, r_2, r_Li, h60_10_10, r_49, h60_10_36, ci_7, r_12, r_10, h79_1065, ci_m9, r_47, ci_1, r_52, s_8, r_In, h79_1021, h60_10_13, ci_4, s_41, r_90, h65_74, h70_88, h71_88_0, h71_88_1, enR, LG, LSt, LC, nlR, psR, TK, up_s, up_n, up_u, lt_nI, le_nI, eq_nI, true_and, and_true, if_true, if_false, Nat.zero_add, Nat.add_zero, nI_add, ↓reduceIte, Nat.reduceAdd, Nat.reduceMul, Nat.reduceSub, Nat.reduceLT, Nat.reduceLeDiff, Nat.reduceEqDiff, Nat.not_lt_zero, Nat.lt_irrefl, decide_true, BEq.rfl, nm1, nm2, nm3, nm4, nm9, ngc, eq_self, List.length_cons, List.length_nil]
    refine lp_lo85 (L0 := lds N (fe W K J) K O T) (L1 := lds N (fe W (va_up K i 1) J) K O T) (a := a') (e := va_up (va_up e' 74 (upd (e' 74) (4 * i) (nI 1))) 83 γ) (m0 := m0 + 49) (u := u) h40 h10 hP7 (by omega) (by exact hγ) (fun S v => ?_) hA hu (fun a3 e3 mk3 f1 f2 f3 f4 f5 => ?_) p 0 a' _ mk (by omega) (fun _ _ _ => rfl) (fun _ _ _ => rfl) h30 (by omega) h84
    · rw [← lds_pave hK]; exact stp_lt (lb_pave hb)
    · refine hQ a3 _ mk3 (fun k k1 k2 => (f1 k k1 k2).trans (ha k k1 k2)) (fun k k1 k2 k3 k4 => ?_) f3 (by omega) (by rw [up_n _ _ (by decide)]; exact f5)
      by_cases h74 : k = 74
      · subst h74
        rw [up_s, f2 74 (by decide) (by decide), up_n _ _ (by decide), up_s, ud_back]
        exact he 74 (by decide) (by decide) (by decide)
      · rw [up_n _ _ h74, f2 k k2 k3, up_n _ _ k1, up_n _ _ h74]
        exact he k k2 k3 k4
  | succ j ih =>
    intro p a' e' mk hj ha he h30 hmk h84 hA
    have h1 : p < P := by omega
    have h10 : a' 10 = nI P := by rw [ha 10 (by decide) (by decide)]; exact hM.1
    rw [W1077_6]
    simp (disch := omega) only [W1077, r_4, r_La, h79_1064, s_0, ci_0, r_5, r_2, r_Li, h60_10_10, r_49, h60_10_36, ci_7, r_12, r_10, h79_1065, ci_m9, r_47, ci_1, r_52, s_8, r_In, h79_1021, h60_10_13, ci_4, s_41, r_90, h65_74, h70_88, h71_88_0, h71_88_1, enR, LG, LSt, LC, nlR, psR, TK, up_s, up_n, up_u, lt_nI, le_nI, eq_nI, true_and, and_true, if_true, if_false, Nat.zero_add, Nat.add_zero, nI_add, ↓reduceIte, Nat.reduceAdd, Nat.reduceMul, Nat.reduceSub, Nat.reduceLT, Nat.reduceLeDiff, Nat.reduceEqDiff, Nat.not_lt_zero, Nat.lt_irrefl, decide_true, BEq.rfl, nm1, nm2, nm3, nm4, nm9, ngc, eq_self, List.length_cons, List.length_nil, h10, h1]
    exact lp_lo16 (m0 := m0) hP7 h1 (by omega) hNX (fun S v => stp_lt hb) (fun a2 e2 mk2 f1 f2 f3 f4 f5 f6 => ih (p + 1) a2 e2 mk2 (by omega) f1 f2 f3 f4 f5 f6) p 0 a' e' mk (by omega) ha he h30 (by omega) h84 hA (fun q hq => absurd hq (by omega))
theorem m_lossOf {i m0 n : Nat} (hM : MLn a (e 74) P N W K O T J) (hb : LB P N W K O T J) (hi : i < N) (hK : K i = 0 ∨ K i = 2) (hm0 : m0 + 200 < 2147483648) (h30 : a 30 = nI m0) (h84 : ∀ w, w < 16384 → ∃ v, v ≤ m0 ∧ e 84 w = nI v) (hn : LSS (lds N (fe W K J) K O T) (lds N (fe W (va_up K i 1) J) K O T) P n)
    (hQ : ∀ (a' : Nat → Int32) (e' : Nat → Nat → Int32) (mk : Nat), FRa a a' → FRx e e' → a' 30 = nI mk → mk ≤ m0 + 98 → (∀ w, w < 16384 → ∃ v, v ≤ mk ∧ e' 84 w = nI v) → Q (some (.int (nI n))) z (Hp X C (a', b, e', o))) : Cw (d + 5) 1077 [.ref 67, .int (nI i)] z (Hp X C (a, b, e, o)) Q := by
  rw [cw_wp]
  simp (disch := omega) only [W1077, r_4, r_La, h79_1064, s_0, ci_0, r_5, r_2, r_Li, h60_10_10, r_49, h60_10_36, ci_7, r_12, r_10, h79_1065, ci_m9, r_47, ci_1, r_52, s_8, r_In, h79_1021, h60_10_13, ci_4, s_41, r_90, h65_74, h70_88, h71_88_0, h71_88_1, enR, LG, LSt, LC, nlR, psR, TK, up_s, up_n, up_u, lt_nI, le_nI, eq_nI, true_and, and_true, if_true, if_false, Nat.zero_add, Nat.add_zero, nI_add, ↓reduceIte, Nat.reduceAdd, Nat.reduceMul, Nat.reduceSub, Nat.reduceLT, Nat.reduceLeDiff, Nat.reduceEqDiff, Nat.not_lt_zero, Nat.lt_irrefl, decide_true, BEq.rfl, nm1, nm2, nm3, nm4, nm9, ngc, eq_self, List.length_cons, List.length_nil]
  refine m_setNext hM hb (fun γ hγ => ?_)
  simp (disch := omega) only [W1077, r_4, r_La, h79_1064, s_0, ci_0, r_5, r_2, r_Li, h60_10_10, r_49, h60_10_36, ci_7, r_12, r_10, h79_1065, ci_m9, r_47, ci_1, r_52, s_8, r_In, h79_1021, h60_10_13, ci_4, s_41, r_90, h65_74, h70_88, h71_88_0, h71_88_1, enR, LG, LSt, LC, nlR, psR, TK, up_s, up_n, up_u, lt_nI, le_nI, eq_nI, true_and, and_true, if_true, if_false, Nat.zero_add, Nat.add_zero, nI_add, ↓reduceIte, Nat.reduceAdd, Nat.reduceMul, Nat.reduceSub, Nat.reduceLT, Nat.reduceLeDiff, Nat.reduceEqDiff, Nat.not_lt_zero, Nat.lt_irrefl, decide_true, BEq.rfl, nm1, nm2, nm3, nm4, nm9, ngc, eq_self, List.length_cons, List.length_nil]
  exact lp_lo6 (m0 := m0) (e := va_up e 83 γ) hM hb hi hK hm0 (by exact hγ) hn (fun a' e' mk f1 f2 f3 f4 f5 => hQ a' e' mk f1 (fun k k1 k2 k3 k4 => (f2 k k1 k2 k3 k4).trans (up_n _ _ k1)) f3 f4 f5) P 0 a _ m0 (by omega) (fun _ _ _ => rfl) (fun _ _ _ _ => rfl) h30 (by omega) h84 (fun p q hp => absurd hp (by omega))
theorem op_loss {x : Int32} (H : RL t z s v g w q ct cn cc di dr df li la sf sl a b e o B n P N W K O T J l Ds Dr Df Dp KB) (ht : t < 1000000) : OPI (d + 20) 938 1078 [.int x] t z X (s, v, g, w, q, ct, cn, cc, di, dr, df, li, la, sf, sl) (a, b, e, o) := by
  obtain ⟨hb, hl, hq, hC, hs, hM, hS⟩ := rl_land H
  have hP := hb.1
  have hN := hb.2.1
  have h0 := hC.1
  unfold OPI
  rw [cw_wp]
  rcases ixN x (show N ≤ 80 by omega) with h | ⟨h1, h2, h3⟩ | ⟨i, hi, rfl⟩
  · simp (disch := omega) only [W938, r_4, r_La, h60_9_12, r_2, r_Li, h79_304, s_41, s_0, ci_m1, r_90, h79_314, ci_m4, h60_9_9, h60_9_5, h60_3_4, h60_4_0, h79_402, h79_959, enR, LG, LSt, LC, nlR, psR, TK, up_s, up_n, up_u, lt_nI, le_nI, eq_nI, true_and, and_true, if_true, if_false, Nat.zero_add, Nat.add_zero, nI_add, ↓reduceIte, Nat.reduceAdd, Nat.reduceMul, Nat.reduceSub, Nat.reduceLT, Nat.reduceLeDiff, Nat.reduceEqDiff, Nat.not_lt_zero, Nat.lt_irrefl, decide_true, BEq.rfl, nm1, nm2, nm3, nm4, nm9, ngc, eq_self, List.length_cons, List.length_nil, hq, hl, c_hasRoad hl hC, h]
    refine okc ?_
    rw [cw_wp]
    simp (disch := omega) only [W1078, r_4, r_La, r_2, r_Li, h79_1030, s_41, s_0, ci_m1, r_90, h79_1075, s_40, h79_1077, r_52, ci_m4, enR, LG, LSt, LC, nlR, psR, TK, up_s, up_n, up_u, lt_nI, le_nI, eq_nI, true_and, and_true, if_true, if_false, Nat.zero_add, Nat.add_zero, nI_add, ↓reduceIte, Nat.reduceAdd, Nat.reduceMul, Nat.reduceSub, Nat.reduceLT, Nat.reduceLeDiff, Nat.reduceEqDiff, Nat.not_lt_zero, Nat.lt_irrefl, decide_true, BEq.rfl, nm1, nm2, nm3, nm4, nm9, ngc, eq_self, List.length_cons, List.length_nil, m_isRoad hM, h]
    exact okm (rl_inv (rl_t H))
  · simp (disch := omega) only [W938, r_4, r_La, h60_9_12, r_2, r_Li, h79_304, s_41, s_0, ci_m1, r_90, h79_314, ci_m4, h60_9_9, h60_9_5, h60_3_4, h60_4_0, h79_402, h79_959, enR, LG, LSt, LC, nlR, psR, TK, up_s, up_n, up_u, lt_nI, le_nI, eq_nI, true_and, and_true, if_true, if_false, Nat.zero_add, Nat.add_zero, nI_add, ↓reduceIte, Nat.reduceAdd, Nat.reduceMul, Nat.reduceSub, Nat.reduceLT, Nat.reduceLeDiff, Nat.reduceEqDiff, Nat.not_lt_zero, Nat.lt_irrefl, decide_true, BEq.rfl, nm1, nm2, nm3, nm4, nm9, ngc, eq_self, List.length_cons, List.length_nil, hq, hl, c_hasRoad hl hC, h1, h2]
    refine okc ?_
    rw [cw_wp]
    simp (disch := omega) only [W1078, r_4, r_La, r_2, r_Li, h79_1030, s_41, s_0, ci_m1, r_90, h79_1075, s_40, h79_1077, r_52, ci_m4, enR, LG, LSt, LC, nlR, psR, TK, up_s, up_n, up_u, lt_nI, le_nI, eq_nI, true_and, and_true, if_true, if_false, Nat.zero_add, Nat.add_zero, nI_add, ↓reduceIte, Nat.reduceAdd, Nat.reduceMul, Nat.reduceSub, Nat.reduceLT, Nat.reduceLeDiff, Nat.reduceEqDiff, Nat.not_lt_zero, Nat.lt_irrefl, decide_true, BEq.rfl, nm1, nm2, nm3, nm4, nm9, ngc, eq_self, List.length_cons, List.length_nil, m_isRoad hM, h1, h3]
    exact okm (rl_inv (rl_t H))
  have hi2 := nsub (show N < 65536 by omega) hi
  obtain ⟨b1, b2, b3, b4⟩ := hb.2.2.2.2 i hi
  obtain ⟨e1, e2, e3, e4⟩ := hM.2.2.2 i hi
  by_cases hp : K i = 0 ∨ K i = 2
  · obtain ⟨n0, hn⟩ := ls_ex (lds N (fe W K J) K O T) (lds N (fe W (va_up K i 1) J) K O T) P
    obtain ⟨mk, k30, kmk, k84⟩ := id H.2.2.2.2.2.2
    simp (disch := omega) only [W938, r_4, r_La, h60_9_12, r_2, r_Li, h79_304, s_41, s_0, ci_m1, r_90, h79_314, ci_m4, h60_9_9, h60_9_5, h60_3_4, h60_4_0, h79_402, h79_959, enR, LG, LSt, LC, nlR, psR, TK, up_s, up_n, up_u, lt_nI, le_nI, eq_nI, true_and, and_true, if_true, if_false, Nat.zero_add, Nat.add_zero, nI_add, ↓reduceIte, Nat.reduceAdd, Nat.reduceMul, Nat.reduceSub, Nat.reduceLT, Nat.reduceLeDiff, Nat.reduceEqDiff, Nat.not_lt_zero, Nat.lt_irrefl, decide_true, BEq.rfl, nm1, nm2, nm3, nm4, nm9, ngc, eq_self, List.length_cons, List.length_nil, hq, hl, h0, hp, c_hasRoadn hl hC hi hN, c_canPave hl hC hb hi]
    refine c_group_26 (show 0 < 2 by decide) (sen_SL hb hS) hP (fun s1 g1 f1 f2 f3 => ?_)
    simp (disch := omega) only [W938, r_4, r_La, h60_9_12, r_2, r_Li, h79_304, s_41, s_0, ci_m1, r_90, h79_314, ci_m4, h60_9_9, h60_9_5, h60_3_4, h60_4_0, h79_402, h79_959, enR, LG, LSt, LC, nlR, psR, TK, up_s, up_n, up_u, lt_nI, le_nI, eq_nI, true_and, and_true, if_true, if_false, Nat.zero_add, Nat.add_zero, nI_add, ↓reduceIte, Nat.reduceAdd, Nat.reduceMul, Nat.reduceSub, Nat.reduceLT, Nat.reduceLeDiff, Nat.reduceEqDiff, Nat.not_lt_zero, Nat.lt_irrefl, decide_true, BEq.rfl, nm1, nm2, nm3, nm4, nm9, ngc, eq_self, List.length_cons, List.length_nil]
    refine c_lossAG (n := n0) (s := s1) (g := g1) hl hq hC hb (by rw [f1 14 (by decide) (by decide)]; exact hs) hi hp f3 hn (fun s2 g2 sf2 sl2 r1 r2 r3 r4 => ?_)
    simp (disch := omega) only [W938, r_4, r_La, h60_9_12, r_2, r_Li, h79_304, s_41, s_0, ci_m1, r_90, h79_314, ci_m4, h60_9_9, h60_9_5, h60_3_4, h60_4_0, h79_402, h79_959, enR, LG, LSt, LC, nlR, psR, TK, up_s, up_n, up_u, lt_nI, le_nI, eq_nI, true_and, and_true, if_true, if_false, Nat.zero_add, Nat.add_zero, nI_add, ↓reduceIte, Nat.reduceAdd, Nat.reduceMul, Nat.reduceSub, Nat.reduceLT, Nat.reduceLeDiff, Nat.reduceEqDiff, Nat.not_lt_zero, Nat.lt_irrefl, decide_true, BEq.rfl, nm1, nm2, nm3, nm4, nm9, ngc, eq_self, List.length_cons, List.length_nil]
    refine okc ?_
    rw [cw_wp]
    have hm : (K i = 0) ∨ ¬ (K i = 0) ∧ K i = 2 := by omega
    have fin : ∀ (a' : Nat → Int32) (e' : Nat → Nat → Int32) (mk' : Nat), FRa a a' → FRx e e' → a' 30 = nI mk' → mk' ≤ mk + 98 → (∀ w, w < 16384 → ∃ v, v ≤ mk' ∧ e' 84 w = nI v) → RL (t + 1) z (s2) v (g2) w q ct cn cc di dr df li la (sf2) (sl2) (a') b (e') o B n P N W K O T J l Ds Dr Df Dp KB := fun a' e' mk' w1 w2 w3 w4 w5 => by
      have ha' : ∀ k, k < 30 → a' k = a k := fun k hk => w1 k (by omega) (by omega)
      exact rl_fr (mk := mk') H (fun k hk => (r1 k (by omega) (by omega)).trans (f1 k (by omega) (by omega))) ((r2 32 (by decide) (by decide) (by decide) (by decide)).trans (f2 32 (by decide) (by decide) (by decide) (by decide))) r3 r4 ha' (fun k k1 k2 k3 => w2 k (by omega) (by omega) (by omega) (by omega)) (mln_fr hM ha' (w2 74 (by decide) (by decide) (by decide) (by decide))) w3 (by omega) w5
    rcases hm with hm | ⟨hm, hm2⟩
    · simp (disch := omega) only [W1078, r_4, r_La, r_2, r_Li, h79_1030, s_41, s_0, ci_m1, r_90, h79_1075, s_40, h79_1077, r_52, ci_m4, W1075, ci_0, h79_1021, ci_2, r_47, ci_1, r_94, s_Z0, s_Z1, (fun d => cw_wp d 1075), enR, LG, LSt, LC, nlR, psR, TK, up_s, up_n, up_u, lt_nI, le_nI, eq_nI, true_and, and_true, if_true, if_false, Nat.zero_add, Nat.add_zero, nI_add, ↓reduceIte, Nat.reduceAdd, Nat.reduceMul, Nat.reduceSub, Nat.reduceLT, Nat.reduceLeDiff, Nat.reduceEqDiff, Nat.not_lt_zero, Nat.lt_irrefl, decide_true, BEq.rfl, nm1, nm2, nm3, nm4, nm9, ngc, eq_self, List.length_cons, List.length_nil, m_isRoad hM, hi2, m_of, e1, hm]
      refine m_lossOf hM hb hi hp (by omega) k30 k84 hn (fun a' e' mk' w1 w2 w3 w4 w5 => ?_)
      simp (disch := omega) only [W1078, r_4, r_La, r_2, r_Li, h79_1030, s_41, s_0, ci_m1, r_90, h79_1075, s_40, h79_1077, r_52, ci_m4, enR, LG, LSt, LC, nlR, psR, TK, up_s, up_n, up_u, lt_nI, le_nI, eq_nI, true_and, and_true, if_true, if_false, Nat.zero_add, Nat.add_zero, nI_add, ↓reduceIte, Nat.reduceAdd, Nat.reduceMul, Nat.reduceSub, Nat.reduceLT, Nat.reduceLeDiff, Nat.reduceEqDiff, Nat.not_lt_zero, Nat.lt_irrefl, decide_true, BEq.rfl, nm1, nm2, nm3, nm4, nm9, ngc, eq_self, List.length_cons, List.length_nil]
      exact okm (rl_inv (fin a' e' mk' w1 w2 w3 w4 w5))
    · simp (disch := omega) only [W1078, r_4, r_La, r_2, r_Li, h79_1030, s_41, s_0, ci_m1, r_90, h79_1075, s_40, h79_1077, r_52, ci_m4, W1075, ci_0, h79_1021, ci_2, r_47, ci_1, r_94, s_Z0, s_Z1, (fun d => cw_wp d 1075), enR, LG, LSt, LC, nlR, psR, TK, up_s, up_n, up_u, lt_nI, le_nI, eq_nI, true_and, and_true, if_true, if_false, Nat.zero_add, Nat.add_zero, nI_add, ↓reduceIte, Nat.reduceAdd, Nat.reduceMul, Nat.reduceSub, Nat.reduceLT, Nat.reduceLeDiff, Nat.reduceEqDiff, Nat.not_lt_zero, Nat.lt_irrefl, decide_true, BEq.rfl, nm1, nm2, nm3, nm4, nm9, ngc, eq_self, List.length_cons, List.length_nil, m_isRoad hM, hi2, m_of, e1, hm2]
      refine m_lossOf hM hb hi hp (by omega) k30 k84 hn (fun a' e' mk' w1 w2 w3 w4 w5 => ?_)
      simp (disch := omega) only [W1078, r_4, r_La, r_2, r_Li, h79_1030, s_41, s_0, ci_m1, r_90, h79_1075, s_40, h79_1077, r_52, ci_m4, enR, LG, LSt, LC, nlR, psR, TK, up_s, up_n, up_u, lt_nI, le_nI, eq_nI, true_and, and_true, if_true, if_false, Nat.zero_add, Nat.add_zero, nI_add, ↓reduceIte, Nat.reduceAdd, Nat.reduceMul, Nat.reduceSub, Nat.reduceLT, Nat.reduceLeDiff, Nat.reduceEqDiff, Nat.not_lt_zero, Nat.lt_irrefl, decide_true, BEq.rfl, nm1, nm2, nm3, nm4, nm9, ngc, eq_self, List.length_cons, List.length_nil]
      exact okm (rl_inv (fin a' e' mk' w1 w2 w3 w4 w5))
  · have hp1 : ¬ K i = 0 := fun h => hp (Or.inl h)
    have hp2 : ¬ K i = 2 := fun h => hp (Or.inr h)
    simp (disch := omega) only [W938, r_4, r_La, h60_9_12, r_2, r_Li, h79_304, s_41, s_0, ci_m1, r_90, h79_314, ci_m4, h60_9_9, h60_9_5, h60_3_4, h60_4_0, h79_402, h79_959, enR, LG, LSt, LC, nlR, psR, TK, up_s, up_n, up_u, lt_nI, le_nI, eq_nI, true_and, and_true, if_true, if_false, Nat.zero_add, Nat.add_zero, nI_add, ↓reduceIte, Nat.reduceAdd, Nat.reduceMul, Nat.reduceSub, Nat.reduceLT, Nat.reduceLeDiff, Nat.reduceEqDiff, Nat.not_lt_zero, Nat.lt_irrefl, decide_true, BEq.rfl, nm1, nm2, nm3, nm4, nm9, ngc, eq_self, List.length_cons, List.length_nil, hq, hl, hp, c_hasRoadn hl hC hi hN, c_canPave hl hC hb hi]
    refine okc ?_
    rw [cw_wp]
    simp (disch := omega) only [W1078, r_4, r_La, r_2, r_Li, h79_1030, s_41, s_0, ci_m1, r_90, h79_1075, s_40, h79_1077, r_52, ci_m4, W1075, ci_0, h79_1021, ci_2, r_47, ci_1, r_94, s_Z0, s_Z1, (fun d => cw_wp d 1075), enR, LG, LSt, LC, nlR, psR, TK, up_s, up_n, up_u, lt_nI, le_nI, eq_nI, true_and, and_true, if_true, if_false, Nat.zero_add, Nat.add_zero, nI_add, ↓reduceIte, Nat.reduceAdd, Nat.reduceMul, Nat.reduceSub, Nat.reduceLT, Nat.reduceLeDiff, Nat.reduceEqDiff, Nat.not_lt_zero, Nat.lt_irrefl, decide_true, BEq.rfl, nm1, nm2, nm3, nm4, nm9, ngc, eq_self, List.length_cons, List.length_nil, m_isRoad hM, hi2, m_of, e1, hp1, hp2]
    exact okm (rl_inv (rl_t H))
end

/-! tour: the model's walk -/
section
variable {t d : Nat} {z : AZ} {X : Nat × (Nat → Int32)} {C : CT} {M : MT} {s : Nat → Int32} {v : Nat → Int64} {g : Nat → Nat → Int32} {w : Nat → Nat → Int64} {q : Nat → Nat} {ct : Nat → Int32} {cn : Nat → Int32} {cc : Nat → Nat → Int32} {di : Nat → Nat → Int32} {dr : Nat → Nat → Int32} {df : Nat → Nat → Int32} {li : Nat → Nat → Int32} {la : Nat → Nat → Nat → Int32} {sf : Nat → Nat → Int32} {sl : Nat → Nat → Int32} {a : Nat → Int32} {b : Nat → Int64} {e : Nat → Nat → Int32} {o : Nat → Nat → Int64} {B : Nat → Bool} {n : Nat → Nat} {P N W : Nat} {K O T J : Nat → Nat} {l : Nat} {Ds : Nat → Nat} {Dr Df Dp : Nat → Nat → Nat} {KB : Nat → Bool}
variable {Q : Option Value → AZ → AH → Prop}
def FRt (e e' : Nat → Nat → Int32) : Prop := ∀ k, k ≠ 86 → k ≠ 87 → e' k = e k
theorem lp_tw12 {p0 : Nat} (hQ : ∀ σ : Nat → Int32, (∀ x, x < 7168 → σ x = -9) → Wp (d + 2) 1074 12 [some (.ref 67), some (.int (nI p0)), some (.int (nI 7168))] [] z (Hp X C (a, b, va_up e 86 σ, o)) Q) : ∀ (j k : Nat) (σ : Nat → Int32), k + j = 7168 → (∀ x, x < k → σ x = -9) → Wp (d + 2) 1074 12 [some (.ref 67), some (.int (nI p0)), some (.int (nI k))] [] z (Hp X C (a, b, va_up e 86 σ, o)) Q := by
  intro j
  induction j with
  | zero =>
    intro k σ hk hσ
    have hk : k = 7168 := by omega
    subst hk
    exact hQ σ hσ
  | succ j ih =>
    intro k σ hk hσ
    have h1 : k < 7168 := by omega
    rw [W1074_12]
    simp (disch := omega) only [W1074, r_4, r_La, r_2, r_Li, h79_1029, s_41, s_0, ci_m1, r_90, ci_0, r_5, ci_7168, r_49, h60_10_34, ci_m9, s_8, r_In, ci_1, r_52, h60_10_11, r_18, r_11, h60_10_35, ci_1024, r_12, s_13, s_14, r_47, r_46, h79_1038, r_16, r_10, h79_1003, h64_86, h65_86, h64_87, h65_87, enR, LG, LSt, LC, nlR, psR, TK, up_s, up_n, up_u, lt_nI, le_nI, eq_nI, true_and, and_true, if_true, if_false, Nat.zero_add, Nat.add_zero, nI_add, ↓reduceIte, Nat.reduceAdd, Nat.reduceMul, Nat.reduceSub, Nat.reduceLT, Nat.reduceLeDiff, Nat.reduceEqDiff, Nat.not_lt_zero, Nat.lt_irrefl, decide_true, BEq.rfl, nm1, nm2, nm3, nm4, nm9, ngc, eq_self, List.length_cons, List.length_nil, h1]
    refine ih (k + 1) _ (by omega) (fun x hx => ?_)
    by_cases hxk : x = k
    · subst hxk; exact ud_s _ _ _
    · rw [ud_n _ _ hxk]; exact hσ x (by omega)
theorem lp_tw173 {p0 n0 h : Nat} {c4 c5 : Int32} {ss dd : Nat → Nat} (hM : MLn a (e 74) P N W K O T J) (hb : LB P N W K O T J)
    (hQ : ∀ (e' : Nat → Nat → Int32) (n : Nat) (ss' dd' : Nat → Nat), FRt e e' → n0 ≤ n → TQx N K O T p0 n h N ss' dd' (e' 86) (e' 87) → (∀ j, j < n0 → ss' j = ss j ∧ dd' j = dd j) → Wp (d + 2) 1074 77 [some (.ref 67), some (.int (nI p0)), some (.int (nI (2 ^ N - 1))), some (.int (nI n)), some (.int c4), some (.int c5), some (.int (nI (h + 1)))] [] z (Hp X C (a, b, e', o)) Q) (hh : h < n0) :
    ∀ (j i n : Nat) (e' : Nat → Nat → Int32) (ss' dd' : Nat → Nat), i + j = N → FRt e e' → n0 ≤ n → TQx N K O T p0 n h i ss' dd' (e' 86) (e' 87) → (∀ j, j < n0 → ss' j = ss j ∧ dd' j = dd j) → Wp (d + 2) 1074 173 [some (.ref 67), some (.int (nI p0)), some (.int (nI (2 ^ N - 1))), some (.int (nI n)), some (.int c4), some (.int c5), some (.int (nI h)), some (.int (nI (ss h / 1024))), some (.int (nI (ss h % 1024))), some (.int (nI (dd h))), some (.int (nI i))] [] z (Hp X C (a, b, e', o)) Q := by
  have hN := hb.2.1
  have hP := hb.1
  intro j
  induction j with
  | zero =>
    intro i n e' ss' dd' hj he hn hT hsd
    have hj : i = N := by omega
    subst hj
    have e11 : a 11 = nI i := hM.2.1
    rw [W1074_173]
    simp (disch := omega) only [W1074, r_4, r_La, r_2, r_Li, h79_1029, s_41, s_0, ci_m1, r_90, ci_0, r_5, ci_7168, r_49, h60_10_34, ci_m9, s_8, r_In, ci_1, r_52, h60_10_11, r_18, r_11, h60_10_35, ci_1024, r_12, s_13, s_14, r_47, r_46, h79_1038, r_16, r_10, h79_1003, h64_86, h65_86, h64_87, h65_87, enR, LG, LSt, LC, nlR, psR, TK, up_s, up_n, up_u, lt_nI, le_nI, eq_nI, true_and, and_true, if_true, if_false, Nat.zero_add, Nat.add_zero, nI_add, ↓reduceIte, Nat.reduceAdd, Nat.reduceMul, Nat.reduceSub, Nat.reduceLT, Nat.reduceLeDiff, Nat.reduceEqDiff, Nat.not_lt_zero, Nat.lt_irrefl, decide_true, BEq.rfl, nm1, nm2, nm3, nm4, nm9, ngc, eq_self, List.length_cons, List.length_nil, e11]
    exact hQ e' n ss' dd' he hn hT hsd
  | succ j ih =>
    intro i n e' ss' dd' hj he hn hT hsd
    have h1 : i < N := by omega
    have h31 : i < 31 := by omega
    have e11 : a 11 = nI N := hM.2.1
    have hM1 : MLn a (e' 74) P N W K O T J := by rw [he 74 (by decide) (by decide)]; exact hM
    obtain ⟨s1, s2⟩ := hsd h hh
    obtain ⟨g1, g2, g3, g4, g5, g6⟩ := hT.1 h (by omega)
    rw [s1] at g2 g3
    rw [s2] at g5
    have hpl : ss h / 1024 < 65536 := by omega
    have hS : ss h % 1024 < 1024 := Nat.mod_lt _ (by decide)
    have hor := or_1024 (i := i) hS (by omega)
    rw [W1074_173]
    cases hld : ldm K O T i (ss h / 1024) with
    | none =>
      have hsc : scT K O T i (ss h) = none := by unfold scT; rw [hld]
      have ih2 := ih (i + 1) n e' ss' dd' (by omega) he hn (tq_skip hT (by omega) (fun y hy => by rw [s1, hsc] at hy; exact absurd hy (by simp))) hsd
      simp (disch := omega) only [W1074, r_4, r_La, r_2, r_Li, h79_1029, s_41, s_0, ci_m1, r_90, ci_0, r_5, ci_7168, r_49, h60_10_34, ci_m9, s_8, r_In, ci_1, r_52, h60_10_11, r_18, r_11, h60_10_35, ci_1024, r_12, s_13, s_14, r_47, r_46, h79_1038, r_16, r_10, h79_1003, h64_86, h65_86, h64_87, h65_87, enR, LG, LSt, LC, nlR, psR, TK, up_s, up_n, up_u, lt_nI, le_nI, eq_nI, true_and, and_true, if_true, if_false, Nat.zero_add, Nat.add_zero, nI_add, ↓reduceIte, Nat.reduceAdd, Nat.reduceMul, Nat.reduceSub, Nat.reduceLT, Nat.reduceLeDiff, Nat.reduceEqDiff, Nat.not_lt_zero, Nat.lt_irrefl, decide_true, BEq.rfl, nm1, nm2, nm3, nm4, nm9, ngc, eq_self, List.length_cons, List.length_nil, e11, h1, m_leads hM1 hb h1 hpl, hld, o2i]
      exact ih2
    | some t2 =>
      have ht2 := ldm_lt hb h1 hld
      have hy : 1024 * t2 + (ss h % 1024 ||| 2 ^ i) < 7168 := by omega
      have hsc : scT K O T i (ss' h) = some (1024 * t2 + (ss h % 1024 ||| 2 ^ i)) := by rw [s1]; unfold scT; rw [hld]
      have hm9 : (nI t2 = -9) = False := nm9 (by omega)
      by_cases hf : e' 86 (1024 * t2 + (ss h % 1024 ||| 2 ^ i)) = -9
      · have hroom := tq_room hT hy hf
        have hlt := (sc_lt (p0 := p0) (x := ss' h) hb h1 (by rw [s1]; exact g3) hsc).2
        have ht := tq_add hT (by omega) h1 hy hlt hsc hf
        have ih2 := ih (i + 1) (n + 1) (va_up (va_up e' 86 (upd (e' 86) (1024 * t2 + (ss h % 1024 ||| 2 ^ i)) (nI (dd h + 1)))) 87 (upd (e' 87) n (nI (1024 * t2 + (ss h % 1024 ||| 2 ^ i))))) _ _ (by omega) (fun k k1 k2 => by rw [up_n _ _ k2, up_n _ _ k1]; exact he k k1 k2) (by omega) (by
          rw [up_s, up_n _ _ (by decide), up_s]
          rw [s2] at ht
          exact ht) (fun j' hj' => by rw [up_n _ _ (by omega), up_n _ _ (by omega)]; exact hsd j' hj')
        simp (disch := omega) only [W1074, r_4, r_La, r_2, r_Li, h79_1029, s_41, s_0, ci_m1, r_90, ci_0, r_5, ci_7168, r_49, h60_10_34, ci_m9, s_8, r_In, ci_1, r_52, h60_10_11, r_18, r_11, h60_10_35, ci_1024, r_12, s_13, s_14, r_47, r_46, h79_1038, r_16, r_10, h79_1003, h64_86, h65_86, h64_87, h65_87, enR, LG, LSt, LC, nlR, psR, TK, up_s, up_n, up_u, lt_nI, le_nI, eq_nI, true_and, and_true, if_true, if_false, Nat.zero_add, Nat.add_zero, nI_add, ↓reduceIte, Nat.reduceAdd, Nat.reduceMul, Nat.reduceSub, Nat.reduceLT, Nat.reduceLeDiff, Nat.reduceEqDiff, Nat.not_lt_zero, Nat.lt_irrefl, decide_true, BEq.rfl, nm1, nm2, nm3, nm4, nm9, ngc, eq_self, List.length_cons, List.length_nil, e11, h1, h31, m_leads hM1 hb h1 hpl, hld, o2i, hm9, nI_mul, nI_bit, nI_or, hy, hf, hroom]
        exact ih2
      · have ih2 := ih (i + 1) n e' ss' dd' (by omega) he hn (tq_skip hT (by omega) (fun y hy2 => by
          rw [hsc] at hy2
          cases hy2
          exact ⟨hy, hf⟩)) hsd
        simp (disch := omega) only [W1074, r_4, r_La, r_2, r_Li, h79_1029, s_41, s_0, ci_m1, r_90, ci_0, r_5, ci_7168, r_49, h60_10_34, ci_m9, s_8, r_In, ci_1, r_52, h60_10_11, r_18, r_11, h60_10_35, ci_1024, r_12, s_13, s_14, r_47, r_46, h79_1038, r_16, r_10, h79_1003, h64_86, h65_86, h64_87, h65_87, enR, LG, LSt, LC, nlR, psR, TK, up_s, up_n, up_u, lt_nI, le_nI, eq_nI, true_and, and_true, if_true, if_false, Nat.zero_add, Nat.add_zero, nI_add, ↓reduceIte, Nat.reduceAdd, Nat.reduceMul, Nat.reduceSub, Nat.reduceLT, Nat.reduceLeDiff, Nat.reduceEqDiff, Nat.not_lt_zero, Nat.lt_irrefl, decide_true, BEq.rfl, nm1, nm2, nm3, nm4, nm9, ngc, eq_self, List.length_cons, List.length_nil, e11, h1, h31, m_leads hM1 hb h1 hpl, hld, o2i, hm9, nI_mul, nI_bit, nI_or, hy, hf]
        exact ih2
theorem lp_tw77 {p0 : Nat} (hM : MLn a (e 74) P N W K O T J) (hb : LB P N W K O T J)
    (hQ0 : ∀ (e' : Nat → Nat → Int32), FRt e e' → TSo N K O T p0 none → Q (some (.int (-9))) z (Hp X C (a, b, e', o)))
    (hQ1 : ∀ (e' : Nat → Nat → Int32) (d1 p1 : Nat), FRt e e' → TSo N K O T p0 (some (d1, p1)) → Q (some (.int (nI d1))) z (Hp X C (va_up a 2 (nI p1), b, e', o))) :
    ∀ (j h n : Nat) (e' : Nat → Nat → Int32) (ss dd : Nat → Nat) (out : Option (Nat × Nat)), h + j = 7169 → h ≤ n → FRt e e' → TQx N K O T p0 n h 0 ss dd (e' 86) (e' 87) → TOx N h ss dd out → Wp (d + 2) 1074 77 [some (.ref 67), some (.int (nI p0)), some (.int (nI (2 ^ N - 1))), some (.int (nI n)), some (.int (bsA out)), some (.int (bsB (-9) out)), some (.int (nI h))] [] z (Hp X C (a, b, e', o)) Q := by
  have hN := hb.2.1
  have hP := hb.1
  have h1024 : 2 ^ N ≤ 1024 := Nat.pow_le_pow_right (n := 2) (by decide) hN
  have h0 := Nat.two_pow_pos N
  intro j
  induction j with
  | zero =>
    intro h n e' ss dd out hj hhn he hT hO
    have := tq_n hT
    omega
  | succ j ih =>
    intro h n e' ss dd out hj hhn he hT hO
    have hn := tq_n hT
    by_cases hh : h = n
    · subst hh
      have hts := tq_ts hT hN hO
      rw [W1074_77]
      cases out with
      | none =>
        simp (disch := omega) only [W1074, r_4, r_La, r_2, r_Li, h79_1029, s_41, s_0, ci_m1, r_90, ci_0, r_5, ci_7168, r_49, h60_10_34, ci_m9, s_8, r_In, ci_1, r_52, h60_10_11, r_18, r_11, h60_10_35, ci_1024, r_12, s_13, s_14, r_47, r_46, h79_1038, r_16, r_10, h79_1003, h64_86, h65_86, h64_87, h65_87, enR, LG, LSt, LC, nlR, psR, TK, up_s, up_n, up_u, lt_nI, le_nI, eq_nI, true_and, and_true, if_true, if_false, Nat.zero_add, Nat.add_zero, nI_add, ↓reduceIte, Nat.reduceAdd, Nat.reduceMul, Nat.reduceSub, Nat.reduceLT, Nat.reduceLeDiff, Nat.reduceEqDiff, Nat.not_lt_zero, Nat.lt_irrefl, decide_true, BEq.rfl, nm1, nm2, nm3, nm4, nm9, ngc, eq_self, List.length_cons, List.length_nil, bsA, bsB]
        exact hQ0 e' he hts
      | some w =>
        obtain ⟨d1, p1⟩ := w
        obtain ⟨t1, t2, -⟩ := id hts
        have hm9 : (nI d1 = -9) = False := nm9 (by omega)
        simp (disch := omega) only [W1074, r_4, r_La, r_2, r_Li, h79_1029, s_41, s_0, ci_m1, r_90, ci_0, r_5, ci_7168, r_49, h60_10_34, ci_m9, s_8, r_In, ci_1, r_52, h60_10_11, r_18, r_11, h60_10_35, ci_1024, r_12, s_13, s_14, r_47, r_46, h79_1038, r_16, r_10, h79_1003, h64_86, h65_86, h64_87, h65_87, enR, LG, LSt, LC, nlR, psR, TK, up_s, up_n, up_u, lt_nI, le_nI, eq_nI, true_and, and_true, if_true, if_false, Nat.zero_add, Nat.add_zero, nI_add, ↓reduceIte, Nat.reduceAdd, Nat.reduceMul, Nat.reduceSub, Nat.reduceLT, Nat.reduceLeDiff, Nat.reduceEqDiff, Nat.not_lt_zero, Nat.lt_irrefl, decide_true, BEq.rfl, nm1, nm2, nm3, nm4, nm9, ngc, eq_self, List.length_cons, List.length_nil, bsA, bsB, hm9, m_ask]
        exact hQ1 e' d1 p1 he hts
    · have hlt : h < n := by omega
      have hh7 : h < 7168 := by omega
      obtain ⟨g1, g2, g3, g4, g5, g6⟩ := hT.1 h hlt
      have hdv : nI (ss h) / nI 1024 = nI (ss h / 1024) := nI_div (by omega) (by decide) (by decide)
      have hrm : nI (ss h) - nI (ss h / 1024) * nI 1024 = nI (ss h % 1024) := by
        have := nI_rem (a := ss h) (d := 1024) (by omega) (by decide) (by decide)
        rw [hdv] at this
        exact this
      have fin : ∀ out', TOx N (h + 1) ss dd out' → Wp (d + 2) 1074 173 [some (.ref 67), some (.int (nI p0)), some (.int (nI (2 ^ N - 1))), some (.int (nI n)), some (.int (bsA out')), some (.int (bsB (-9) out')), some (.int (nI h)), some (.int (nI (ss h / 1024))), some (.int (nI (ss h % 1024))), some (.int (nI (dd h))), some (.int (nI 0))] [] z (Hp X C (a, b, e', o)) Q := fun out' hO' =>
        lp_tw173 (e := e') (by rw [he 74 (by decide) (by decide)]; exact hM) hb (fun e2 n2 ss2 dd2 f1 f2 f3 f4 => ih (h + 1) n2 e2 ss2 dd2 out' (by omega) (by omega) (fun k k1 k2 => (f1 k k1 k2).trans (he k k1 k2)) (tq_next f3 (by omega)) (by
          have hsame : ∀ j, j < h + 1 → ss2 j = ss j ∧ dd2 j = dd j := fun j hj => f4 j (by omega)
          cases out' with
          | none => exact fun j hj => by rw [(hsame j hj).1]; exact hO' j hj
          | some w =>
            obtain ⟨d1, p1⟩ := w
            obtain ⟨⟨j, j1, j2, j3⟩, hk⟩ := hO'
            exact ⟨⟨j, j1, by rw [(hsame j j1).1]; exact j2, by rw [(hsame j j1).2]; exact j3⟩, fun k k1 k2 => by
              rw [(hsame k k1).1] at k2 ⊢
              rw [(hsame k k1).2]
              exact hk k k1 k2⟩)) hlt N 0 n e' ss dd (by omega) (fun _ _ _ => rfl) (Nat.le_refl _) hT (fun _ _ => ⟨rfl, rfl⟩)
      rw [W1074_77]
      by_cases hf : ss h % 1024 = 2 ^ N - 1
      · have hto := to_take hO hf (fun j hj => hT.2.2.2.1 j h (by omega) hlt)
        cases out with
        | none =>
          have f2 := fin _ hto
          simp (disch := omega) only [W1074, r_4, r_La, r_2, r_Li, h79_1029, s_41, s_0, ci_m1, r_90, ci_0, r_5, ci_7168, r_49, h60_10_34, ci_m9, s_8, r_In, ci_1, r_52, h60_10_11, r_18, r_11, h60_10_35, ci_1024, r_12, s_13, s_14, r_47, r_46, h79_1038, r_16, r_10, h79_1003, h64_86, h65_86, h64_87, h65_87, enR, LG, LSt, LC, nlR, psR, TK, up_s, up_n, up_u, lt_nI, le_nI, eq_nI, true_and, and_true, if_true, if_false, Nat.zero_add, Nat.add_zero, nI_add, ↓reduceIte, Nat.reduceAdd, Nat.reduceMul, Nat.reduceSub, Nat.reduceLT, Nat.reduceLeDiff, Nat.reduceEqDiff, Nat.not_lt_zero, Nat.lt_irrefl, decide_true, BEq.rfl, nm1, nm2, nm3, nm4, nm9, ngc, eq_self, List.length_cons, List.length_nil, hlt, hh7, g1, g2, g4, hdv, hrm, not_false_eq_true, hf, bsA, bsB]
          rw [hf] at f2
          exact f2
        | some w =>
          obtain ⟨d1, p1⟩ := w
          obtain ⟨⟨j1, i1, i2, i3⟩, -⟩ := id hO
          obtain ⟨r1, r2, r3, r4, r5, r6⟩ := hT.1 j1 (by omega)
          have hd1 : d1 < 7168 := by omega
          have hp1 : p1 < 7 := by omega
          have hm9 : (nI d1 = -9) = False := nm9 (by omega)
          have hm92 : (nI p1 = -9) = False := nm9 (by omega)
          have f2 := fin _ hto
          rw [hf] at f2
          by_cases hd : dd h = d1
          · by_cases hp : ss h / 1024 < p1
            · simp only [toNx, hd, if_pos, hp] at f2
              simp (disch := omega) only [W1074, r_4, r_La, r_2, r_Li, h79_1029, s_41, s_0, ci_m1, r_90, ci_0, r_5, ci_7168, r_49, h60_10_34, ci_m9, s_8, r_In, ci_1, r_52, h60_10_11, r_18, r_11, h60_10_35, ci_1024, r_12, s_13, s_14, r_47, r_46, h79_1038, r_16, r_10, h79_1003, h64_86, h65_86, h64_87, h65_87, enR, LG, LSt, LC, nlR, psR, TK, up_s, up_n, up_u, lt_nI, le_nI, eq_nI, true_and, and_true, if_true, if_false, Nat.zero_add, Nat.add_zero, nI_add, ↓reduceIte, Nat.reduceAdd, Nat.reduceMul, Nat.reduceSub, Nat.reduceLT, Nat.reduceLeDiff, Nat.reduceEqDiff, Nat.not_lt_zero, Nat.lt_irrefl, decide_true, BEq.rfl, nm1, nm2, nm3, nm4, nm9, ngc, eq_self, List.length_cons, List.length_nil, hlt, hh7, g1, g2, g4, hdv, hrm, not_false_eq_true, hf, bsA, bsB, hm9, hm92, hd, hp]
              exact f2
            · simp only [toNx, hd, if_true, hp, if_false] at f2
              simp (disch := omega) only [W1074, r_4, r_La, r_2, r_Li, h79_1029, s_41, s_0, ci_m1, r_90, ci_0, r_5, ci_7168, r_49, h60_10_34, ci_m9, s_8, r_In, ci_1, r_52, h60_10_11, r_18, r_11, h60_10_35, ci_1024, r_12, s_13, s_14, r_47, r_46, h79_1038, r_16, r_10, h79_1003, h64_86, h65_86, h64_87, h65_87, enR, LG, LSt, LC, nlR, psR, TK, up_s, up_n, up_u, lt_nI, le_nI, eq_nI, true_and, and_true, if_true, if_false, Nat.zero_add, Nat.add_zero, nI_add, ↓reduceIte, Nat.reduceAdd, Nat.reduceMul, Nat.reduceSub, Nat.reduceLT, Nat.reduceLeDiff, Nat.reduceEqDiff, Nat.not_lt_zero, Nat.lt_irrefl, decide_true, BEq.rfl, nm1, nm2, nm3, nm4, nm9, ngc, eq_self, List.length_cons, List.length_nil, hlt, hh7, g1, g2, g4, hdv, hrm, not_false_eq_true, hf, bsA, bsB, hm9, hm92, hd, hp]
              exact f2
          · simp only [toNx, hd, if_false] at f2
            simp (disch := omega) only [W1074, r_4, r_La, r_2, r_Li, h79_1029, s_41, s_0, ci_m1, r_90, ci_0, r_5, ci_7168, r_49, h60_10_34, ci_m9, s_8, r_In, ci_1, r_52, h60_10_11, r_18, r_11, h60_10_35, ci_1024, r_12, s_13, s_14, r_47, r_46, h79_1038, r_16, r_10, h79_1003, h64_86, h65_86, h64_87, h65_87, enR, LG, LSt, LC, nlR, psR, TK, up_s, up_n, up_u, lt_nI, le_nI, eq_nI, true_and, and_true, if_true, if_false, Nat.zero_add, Nat.add_zero, nI_add, ↓reduceIte, Nat.reduceAdd, Nat.reduceMul, Nat.reduceSub, Nat.reduceLT, Nat.reduceLeDiff, Nat.reduceEqDiff, Nat.not_lt_zero, Nat.lt_irrefl, decide_true, BEq.rfl, nm1, nm2, nm3, nm4, nm9, ngc, eq_self, List.length_cons, List.length_nil, hlt, hh7, g1, g2, g4, hdv, hrm, not_false_eq_true, hf, bsA, bsB, hm9, hm92, hd]
            exact f2
      · have f2 := fin _ (to_skip hO hf)
        simp (disch := omega) only [W1074, r_4, r_La, r_2, r_Li, h79_1029, s_41, s_0, ci_m1, r_90, ci_0, r_5, ci_7168, r_49, h60_10_34, ci_m9, s_8, r_In, ci_1, r_52, h60_10_11, r_18, r_11, h60_10_35, ci_1024, r_12, s_13, s_14, r_47, r_46, h79_1038, r_16, r_10, h79_1003, h64_86, h65_86, h64_87, h65_87, enR, LG, LSt, LC, nlR, psR, TK, up_s, up_n, up_u, lt_nI, le_nI, eq_nI, true_and, and_true, if_true, if_false, Nat.zero_add, Nat.add_zero, nI_add, ↓reduceIte, Nat.reduceAdd, Nat.reduceMul, Nat.reduceSub, Nat.reduceLT, Nat.reduceLeDiff, Nat.reduceEqDiff, Nat.not_lt_zero, Nat.lt_irrefl, decide_true, BEq.rfl, nm1, nm2, nm3, nm4, nm9, ngc, eq_self, List.length_cons, List.length_nil, hlt, hh7, g1, g2, g4, hdv, hrm, not_false_eq_true, hf]
        exact f2
theorem m_tour {p0 : Nat} (hM : MLn a (e 74) P N W K O T J) (hb : LB P N W K O T J) (hp : p0 < P)
    (hQ0 : ∀ (e' : Nat → Nat → Int32), FRt e e' → TSo N K O T p0 none → Q (some (.int (-9))) z (Hp X C (a, b, e', o)))
    (hQ1 : ∀ (e' : Nat → Nat → Int32) (d1 p1 : Nat), FRt e e' → TSo N K O T p0 (some (d1, p1)) → Q (some (.int (nI d1))) z (Hp X C (va_up a 2 (nI p1), b, e', o))) : Cw (d + 3) 1074 [.ref 67, .int (nI p0)] z (Hp X C (a, b, e, o)) Q := by
  have hN := hb.2.1
  have hP := hb.1
  have e11 := hM.2.1
  have hp2 := nsub (show P < 65536 by omega) hp
  have h31 : N < 31 := by omega
  have h7 : 1024 * p0 < 7168 := by omega
  have h0 := Nat.two_pow_pos N
  rw [cw_wp]
  simp (disch := omega) only [W1074, r_4, r_La, r_2, r_Li, h79_1029, s_41, s_0, ci_m1, r_90, ci_0, r_5, ci_7168, r_49, h60_10_34, ci_m9, s_8, r_In, ci_1, r_52, h60_10_11, r_18, r_11, h60_10_35, ci_1024, r_12, s_13, s_14, r_47, r_46, h79_1038, r_16, r_10, h79_1003, h64_86, h65_86, h64_87, h65_87, enR, LG, LSt, LC, nlR, psR, TK, up_s, up_n, up_u, lt_nI, le_nI, eq_nI, true_and, and_true, if_true, if_false, Nat.zero_add, Nat.add_zero, nI_add, ↓reduceIte, Nat.reduceAdd, Nat.reduceMul, Nat.reduceSub, Nat.reduceLT, Nat.reduceLeDiff, Nat.reduceEqDiff, Nat.not_lt_zero, Nat.lt_irrefl, decide_true, BEq.rfl, nm1, nm2, nm3, nm4, nm9, ngc, eq_self, List.length_cons, List.length_nil, m_isPlace hM, hp2]
  have key := lp_tw12 (d := d) (z := z) (X := X) (C := C) (a := a) (b := b) (e := e) (o := o) (Q := Q) (p0 := p0) (fun σ hσ => ?_) 7168 0 (e 86) (by omega) (fun x hx => absurd hx (by omega))
  · rw [up_id (rfl : e 86 = e 86)] at key
    exact key
  · rw [W1074_12]
    simp (disch := omega) only [W1074, r_4, r_La, r_2, r_Li, h79_1029, s_41, s_0, ci_m1, r_90, ci_0, r_5, ci_7168, r_49, h60_10_34, ci_m9, s_8, r_In, ci_1, r_52, h60_10_11, r_18, r_11, h60_10_35, ci_1024, r_12, s_13, s_14, r_47, r_46, h79_1038, r_16, r_10, h79_1003, h64_86, h65_86, h64_87, h65_87, enR, LG, LSt, LC, nlR, psR, TK, up_s, up_n, up_u, lt_nI, le_nI, eq_nI, true_and, and_true, if_true, if_false, Nat.zero_add, Nat.add_zero, nI_add, ↓reduceIte, Nat.reduceAdd, Nat.reduceMul, Nat.reduceSub, Nat.reduceLT, Nat.reduceLeDiff, Nat.reduceEqDiff, Nat.not_lt_zero, Nat.lt_irrefl, decide_true, BEq.rfl, nm1, nm2, nm3, nm4, nm9, ngc, eq_self, List.length_cons, List.length_nil, e11, h31, nI_bit, nI_sub, nI_mul, h7]
    refine lp_tw77 (p0 := p0) hM hb (fun e' f1 f2 => hQ0 e' f1 f2) (fun e' d1 p1 f1 f2 => hQ1 e' d1 p1 f1 f2) 7169 0 1 _ (fun _ => 1024 * p0) (fun _ => 0) none (by omega) (by omega) (fun k k1 k2 => ?_) ⟨fun j hj => ?_, fun x hx => ?_, ?_, fun _ _ _ _ => Nat.le_refl _, fun _ _ _ => Nat.zero_le _, fun j i y h1 => by omega, by omega, rfl, rfl⟩ (fun j hj => absurd hj (by omega))
    · simp (disch := omega) only [up_n]
    · have hj : j = 0 := by omega
      subst hj
      simp (disch := omega) only [up_n, up_s, ud_s]
      exact ⟨trivial, h7, by rw [show 1024 * p0 % 1024 = 0 by omega]; exact h0, trivial, Nat.le_refl _, rfl⟩
    · simp (disch := omega) only [up_n, up_s]
      by_cases h : x = 1024 * p0
      · exact Or.inr ⟨0, by omega, h.symm⟩
      · rw [ud_n _ _ h]; exact Or.inl (hσ x hx)
    · simp (disch := omega) only [up_n, up_s]
      have e1 : cnt (fun x => !decide (upd σ (1024 * p0) (nI 0) x = -9)) 7168 = cnt (va_up (fun _ => false) (1024 * p0) true) 7168 := cnt_congr (fun x hx => by
        by_cases h : x = 1024 * p0
        · subst h; rw [ud_s, up_s]; decide
        · rw [ud_n _ _ h, up_n _ _ h, hσ x hx]; decide)
      rw [e1, cnt_ins rfl, if_pos h7, cnt_ext (p := fun _ => false) (Nat.zero_le 7168) (fun _ _ => rfl)]
      rfl
end

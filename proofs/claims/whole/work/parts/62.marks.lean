/-! marks -/
def ffn (n t : Nat) : Nat := foldu (fun i a => a * (n - i)) 0 t 1
theorem ffm : ∀ (t k n a : Nat), foldu (fun i a => a * (n - i)) k t a = a * foldu (fun i a => a * (n - i)) k t 1 := by
  intro t
  induction t with
  | zero => intro k n a; exact (Nat.mul_one a).symm
  | succ t ih =>
    intro k n a
    show foldu _ (k + 1) t (a * (n - k)) = a * foldu _ (k + 1) t (1 * (n - k))
    rw [ih (k + 1) n (a * (n - k)), ih (k + 1) n (1 * (n - k)), Nat.one_mul, Nat.mul_assoc]
theorem ffs : ∀ (t k n a : Nat), foldu (fun i a => a * (n - i)) (k + 1) t a = foldu (fun i a => a * (n - 1 - i)) k t a := by
  intro t
  induction t with
  | zero => intro k n a; rfl
  | succ t ih =>
    intro k n a
    show foldu _ (k + 1 + 1) t (a * (n - (k + 1))) = foldu _ (k + 1) t (a * (n - 1 - k))
    rw [ih (k + 1) n, show n - (k + 1) = n - 1 - k by omega]
theorem ffn_succ (n t : Nat) : ffn n (t + 1) = n * ffn (n - 1) t := by
  show foldu _ 1 t (1 * (n - 0)) = _
  rw [Nat.one_mul, Nat.sub_zero, ffm t 1 n n, ffs t 0 n 1]
  rfl
theorem ffn_0 (t : Nat) (h : ffn 0 t ≠ 0) : t = 0 := by
  cases t with
  | zero => rfl
  | succ t => rw [ffn_succ, Nat.zero_mul] at h; exact absurd rfl h
def pro (G : Nat → Nat) : Nat := foldu (fun u a => a * G u) 0 10 1
theorem prm {G : Nat → Nat} : ∀ (q k a : Nat), foldu (fun u a => a * G u) k q a = a * foldu (fun u a => a * G u) k q 1 := by
  intro q
  induction q with
  | zero => intro k a; exact (Nat.mul_one a).symm
  | succ q ih =>
    intro k a
    show foldu _ (k + 1) q (a * G k) = a * foldu _ (k + 1) q (1 * G k)
    rw [ih (k + 1) (a * G k), ih (k + 1) (1 * G k), Nat.one_mul, Nat.mul_assoc]
theorem pro_congr {G H : Nat → Nat} (h : ∀ u, u < 10 → G u = H u) : pro G = pro H := foldu_congr 10 0 1 (fun j x _ hj => by show x * G j = x * H j; rw [h j (by omega)])
theorem pro_one {G H : Nat → Nat} {v c : Nat} (hv : v < 10) (h1 : G v = c * H v) (h2 : ∀ u, u ≠ v → G u = H u) : pro G = c * pro H := by
  have hs : ∀ (q k : Nat), (v < k ∨ k + q ≤ v) → foldu (fun u a => a * G u) k q 1 = foldu (fun u a => a * H u) k q 1 := fun q k hh => foldu_congr q k 1 (fun j x _ _ => by show x * G j = x * H j; rw [h2 j (by omega)])
  have hh : ∀ (q k : Nat), k ≤ v → v < k + q → foldu (fun u a => a * G u) k q 1 = c * foldu (fun u a => a * H u) k q 1 := by
    intro q
    induction q with
    | zero => intro k h1 h2; omega
    | succ q ih =>
      intro k g1 g2
      show foldu _ (k + 1) q (1 * G k) = c * foldu _ (k + 1) q (1 * H k)
      rw [prm q (k + 1) (1 * G k), prm q (k + 1) (1 * H k)]
      by_cases hk : k = v
      · subst hk
        rw [h1, hs q (k + 1) (by omega), Nat.one_mul, Nat.one_mul, Nat.mul_assoc]
      · rw [ih (k + 1) (by omega) (by omega), h2 k hk, Nat.one_mul, ← Nat.mul_assoc, ← Nat.mul_assoc, Nat.mul_comm c]
  exact hh 10 0 (Nat.zero_le _) (by omega)
theorem pro_nz {G : Nat → Nat} (h : pro G ≠ 0) {v : Nat} (hv : v < 10) : G v ≠ 0 := by
  intro h0
  apply h
  rw [pro_one (G := G) (H := G) (c := 0) hv (by rw [h0, Nat.mul_zero]) (fun _ _ => rfl), Nat.zero_mul]
/-- free ROADS that feel v -/
def avk (N : Nat) (F : Nat → Nat) (v S : Nat) : Nat := cnt (fun i => !S.testBit i && decide (F i = v)) N
/-- how often v comes in the j numbers from k on -/
def rmk (R : Nat → Nat) (v k j : Nat) : Nat := foldu (cnb (fun i => decide (R i = v))) k j 0
theorem rmk_succ (R : Nat → Nat) (v k j : Nat) : rmk R v k (j + 1) = rmk R v (k + 1) j + (if R k = v then 1 else 0) := by
  show foldu _ (k + 1) j (cnb (fun i => decide (R i = v)) k 0) = _
  rw [cnb_add, Nat.add_comm]
  congr 1
  unfold cnb
  by_cases h : R k = v <;> simp [h]
def prk (N : Nat) (F R : Nat → Nat) (j k S : Nat) : Nat := pro (fun v => ffn (avk N F v S) (rmk R v k j))
def prq (N : Nat) (F R : Nat → Nat) (j k S : Nat) : Nat := pro (fun u => if u = R k then ffn (avk N F u S - 1) (rmk R u (k + 1) j) else ffn (avk N F u S) (rmk R u (k + 1) j))
theorem prk_succ {N : Nat} {F R : Nat → Nat} {j k S : Nat} (hR : R k < 10) : prk N F R (j + 1) k S = avk N F (R k) S * prq N F R j k S := by
  refine pro_one hR ?_ (fun u hu => ?_)
  · rw [if_pos rfl, rmk_succ, if_pos rfl, ffn_succ]
  · rw [if_neg hu, rmk_succ, if_neg (fun h => hu h.symm), Nat.add_zero]
theorem avk_or {N : Nat} {F : Nat → Nat} {S i v : Nat} (hi : i < N) (hS : S.testBit i = false) : avk N F v S = avk N F v (S ||| 2 ^ i) + if F i = v then 1 else 0 := by
  have hb : ∀ j, (S ||| 2 ^ i).testBit j = (S.testBit j || decide (i = j)) := fun j => by rw [Nat.testBit_or, Nat.testBit_two_pow]
  by_cases h : F i = v
  · rw [if_pos h]
    have h1 : (fun j => !S.testBit j && decide (F j = v)) = va_up (fun j => !(S ||| 2 ^ i).testBit j && decide (F j = v)) i true := by
      funext j
      by_cases hj : j = i
      · subst hj; rw [up_s, hS, h]; simp
      · rw [up_n _ _ hj, hb]; simp [show ¬ i = j from fun e => hj e.symm]
    show cnt (fun j => !S.testBit j && decide (F j = v)) N = _
    rw [h1, cnt_ins (by rw [hb]; simp), if_pos hi]
    rfl
  · rw [if_neg h]
    refine cnt_congr (fun j _ => ?_)
    rw [hb]
    by_cases hj : i = j
    · subst hj; simp [h]
    · simp [hj]
theorem avk_pos {N : Nat} {F : Nat → Nat} {S i : Nat} (hi : i < N) (hS : S.testBit i = false) : 0 < avk N F (F i) S := by
  rw [avk_or hi hS, if_pos rfl]; omega
theorem cnt_ex {p : Nat → Bool} : ∀ n, 0 < cnt p n → ∃ i, i < n ∧ p i = true := by
  intro n
  induction n with
  | zero => intro h; exact absurd h (Nat.lt_irrefl _)
  | succ n ih =>
    intro h
    by_cases hp : p n = true
    · exact ⟨n, by omega, hp⟩
    · rw [cnt_succ, if_neg hp] at h
      obtain ⟨i, h1, h2⟩ := ih h
      exact ⟨i, by omega, h2⟩
theorem prq_or {N : Nat} {F R : Nat → Nat} {j k S i : Nat} (hi : i < N) (hS : S.testBit i = false) (hF : F i = R k) : prk N F R j (k + 1) (S ||| 2 ^ i) = prq N F R j k S := by
  refine pro_congr (fun u _ => ?_)
  have h := avk_or (F := F) (v := u) hi hS
  by_cases hu : u = R k
  · rw [if_pos (hF.trans hu.symm)] at h
    rw [if_pos hu, h, Nat.add_sub_cancel]
  · rw [if_neg (fun e => hu (e.symm.trans hF))] at h
    rw [Nat.add_zero] at h
    rw [if_neg hu, h]
theorem prk_le {N : Nat} {F R : Nat → Nat} (hN : N ≤ 10) : ∀ (j k S : Nat), (∀ i, k ≤ i → i < k + j → R i < 10) → prk N F R j k S ≤ 10 ^ j := by
  intro j
  induction j with
  | zero =>
    intro k S _
    show pro (fun _ => 1) ≤ 1
    exact Nat.le_of_eq (by decide +kernel)
  | succ j ih =>
    intro k S hR
    rw [prk_succ (hR k (Nat.le_refl _) (by omega))]
    by_cases h : 0 < avk N F (R k) S
    · obtain ⟨i, hi, h2⟩ := cnt_ex N h
      simp only [Bool.and_eq_true, Bool.not_eq_true', decide_eq_true_eq] at h2
      rw [← prq_or (j := j) hi h2.1 h2.2, Nat.pow_succ, Nat.mul_comm]
      exact Nat.mul_le_mul (ih (k + 1) _ (fun i h1 h2 => hR i (by omega) (by omega))) (Nat.le_trans (cnt_le _ _) hN)
    · rw [show avk N F (R k) S = 0 by omega, Nat.zero_mul]
      exact Nat.zero_le _
/-- the ROADS that the row may be, one after another -/
def mko (N : Nat) (F R : Nat → Nat) : Nat → Nat → Nat → Nat × Nat → Nat × Nat
  | 0, _, S, st => (st.1 + 1, st.2 &&& S)
  | j + 1, k, S, st => foldu (fun i st => if S.testBit i = false ∧ F i = R k then mko N F R j (k + 1) (S ||| 2 ^ i) st else st) 0 N st
theorem mko_ok {N : Nat} {F R : Nat → Nat} (hN : N ≤ 10) : ∀ (j k S : Nat) (st : Nat × Nat), (∀ i, k ≤ i → i < k + j → R i < 10) → (mko N F R j k S st).1 = st.1 + prk N F R j k S ∧ ∀ b, (mko N F R j k S st).2.testBit b = true ↔ st.2.testBit b = true ∧ (prk N F R j k S = 0 ∨ S.testBit b = true ∨ (b < N ∧ rmk R (F b) k j = avk N F (F b) S)) := by
  intro j
  induction j with
  | zero =>
    intro k S st _
    have h1 : prk N F R 0 k S = 1 := by
      show pro (fun _ => 1) = 1
      decide +kernel
    refine ⟨by rw [h1]; rfl, fun b => ?_⟩
    show (st.2 &&& S).testBit b = true ↔ _
    rw [Nat.testBit_and, Bool.and_eq_true, h1]
    refine and_congr Iff.rfl ⟨fun h => Or.inr (Or.inl h), ?_⟩
    rintro (h | h | ⟨h, h2⟩)
    · exact absurd h (by decide)
    · exact h
    · cases hS : S.testBit b
      · have := avk_pos (F := F) h hS
        have h3 : rmk R (F b) k 0 = 0 := rfl
        omega
      · rfl
  | succ j ih =>
    intro k S st hR
    have hRk := hR k (Nat.le_refl _) (by omega)
    have hR' : ∀ i, k + 1 ≤ i → i < k + 1 + j → R i < 10 := fun i h1 h2 => hR i (by omega) (by omega)
    have hI := foldu_inv (F := fun i st => if S.testBit i = false ∧ F i = R k then mko N F R j (k + 1) (S ||| 2 ^ i) st else st) (fun i x => x.1 = st.1 + cnt (fun i => !S.testBit i && decide (F i = R k)) i * prq N F R j k S ∧ ∀ b, x.2.testBit b = true ↔ st.2.testBit b = true ∧ ∀ i', i' < i → S.testBit i' = false → F i' = R k → (prq N F R j k S = 0 ∨ (S ||| 2 ^ i').testBit b = true ∨ (b < N ∧ rmk R (F b) (k + 1) j = avk N F (F b) (S ||| 2 ^ i')))) N 0 st ⟨by
        show st.1 = st.1 + 0 * _
        rw [Nat.zero_mul, Nat.add_zero], fun b => ⟨fun h => ⟨h, fun i' h => absurd h (by omega)⟩, fun h => h.1⟩⟩ (fun i x _ hi hx => by
        have hiN : i < N := by omega
        by_cases hc : S.testBit i = false ∧ F i = R k
        · rw [if_pos hc]
          obtain ⟨g1, g2⟩ := ih (k + 1) (S ||| 2 ^ i) x hR'
          rw [prq_or hiN hc.1 hc.2] at g1 g2
          refine ⟨?_, fun b => ?_⟩
          · rw [g1, hx.1, cnt_succ, if_pos (by simp [hc.1, hc.2]), Nat.succ_mul, Nat.add_assoc]
          · rw [g2 b, hx.2 b]
            constructor
            · rintro ⟨⟨h1, h2⟩, h3⟩
              refine ⟨h1, fun i' q1 q2 q3 => ?_⟩
              by_cases hii : i' = i
              · subst hii; exact h3
              · exact h2 i' (by omega) q2 q3
            · rintro ⟨h1, h2⟩
              exact ⟨⟨h1, fun i' q1 => h2 i' (by omega)⟩, h2 i (by omega) hc.1 hc.2⟩
        · rw [if_neg hc]
          refine ⟨?_, fun b => ?_⟩
          · rw [hx.1, cnt_succ, if_neg (by simpa using hc)]
          · rw [hx.2 b]
            refine and_congr Iff.rfl ⟨fun h2 i' q1 q2 q3 => ?_, fun h2 i' q1 => h2 i' (by omega)⟩
            by_cases hii : i' = i
            · subst hii; exact absurd ⟨q2, q3⟩ hc
            · exact h2 i' (by omega) q2 q3)
    rw [Nat.zero_add] at hI
    obtain ⟨h1, h2⟩ := hI
    refine ⟨?_, fun b => ?_⟩
    · rw [prk_succ hRk]; exact h1
    · refine (h2 b).trans (and_congr Iff.rfl ?_)
      rw [prk_succ hRk]
      by_cases hq : prq N F R j k S = 0
      · rw [hq, Nat.mul_zero]
        exact ⟨fun _ => Or.inl rfl, fun _ i' _ _ _ => Or.inl rfl⟩
      by_cases ha : avk N F (R k) S = 0
      · rw [ha, Nat.zero_mul]
        refine ⟨fun _ => Or.inl rfl, fun _ i' q1 q2 q3 => ?_⟩
        have := avk_pos (F := F) q1 q2
        rw [q3] at this
        omega
      have hne : ¬ avk N F (R k) S * prq N F R j k S = 0 := fun h => by rcases Nat.mul_eq_zero.mp h with h | h; exact ha h; exact hq h
      obtain ⟨c, hc, hc2⟩ := cnt_ex N (Nat.pos_of_ne_zero ha)
      simp only [Bool.and_eq_true, Bool.not_eq_true', decide_eq_true_eq] at hc2
      have hbit : ∀ i', (S ||| 2 ^ i').testBit b = true ↔ S.testBit b = true ∨ i' = b := fun i' => or_pow
      have hstep : ∀ i', i' < N → S.testBit i' = false → F i' = R k → (rmk R (F b) (k + 1) j = avk N F (F b) (S ||| 2 ^ i') ↔ rmk R (F b) k (j + 1) = avk N F (F b) S) := fun i' q1 q2 q3 => by
        rw [rmk_succ, avk_or (v := F b) q1 q2, q3]
        split <;> omega
      constructor
      · intro h
        refine Or.inr ?_
        by_cases hSb : S.testBit b = true
        · exact Or.inl hSb
        have hg : ∀ i', i' < N → S.testBit i' = false → F i' = R k → i' ≠ b → b < N ∧ rmk R (F b) k (j + 1) = avk N F (F b) S := fun i' q1 q2 q3 q4 => by
          rcases h i' q1 q2 q3 with g | g | g
          · exact absurd g hq
          · rcases (hbit i').mp g with g | g
            · exact absurd g hSb
            · exact absurd g q4
          · exact ⟨g.1, (hstep i' q1 q2 q3).mp g.2⟩
        refine Or.inr ?_
        by_cases hcb : c = b
        · subst hcb
          by_cases h0 : 0 < avk N F (R k) (S ||| 2 ^ c)
          · obtain ⟨i', q1, q2⟩ := cnt_ex N h0
            simp only [Bool.and_eq_true, Bool.not_eq_true', decide_eq_true_eq] at q2
            have q4 := q2.1
            rw [Nat.testBit_or, Nat.testBit_two_pow, Bool.or_eq_false_iff, decide_eq_false_iff_not] at q4
            exact hg i' q1 q4.1 q2.2 (fun e => q4.2 e.symm)
          · have e1 : avk N F (R k) S = 1 := by
              rw [avk_or (v := R k) hc hc2.1, if_pos hc2.2]; omega
            have h4 := pro_nz hq hRk
            rw [if_pos rfl, e1] at h4
            have h5 := ffn_0 _ h4
            refine ⟨hc, ?_⟩
            rw [hc2.2, e1, rmk_succ, if_pos rfl, h5]
        · exact hg c hc hc2.1 hc2.2 hcb
      · rintro (h | h | h) i' q1 q2 q3
        · exact absurd h hne
        · exact Or.inr (Or.inl ((hbit i').mpr (Or.inl h)))
        · exact Or.inr (Or.inr ⟨h.1, (hstep i' q1 q2 q3).mpr h.2⟩)
section
variable {d : Nat} {z : AZ} {f : AH} {Q : Option Value → AZ → AH → Prop} {X : Nat × (Nat → Int32)} {C : CT} {a : Nat → Int32} {b : Nat → Int64} {e : Nat → Nat → Int32} {o : Nat → Nat → Int64} {P N W : Nat} {K O T J : Nat → Nat}
theorem up_323 {α : Type} (f : Nat → α) (x y x' y' : α) : va_up (va_up (va_up (va_up f 32 x) 33 y) 32 x') 33 y' = va_up (va_up f 32 x') 33 y' := by
  funext q
  unfold va_up
  by_cases q1 : q = 33
  · simp [q1]
  · by_cases q2 : q = 32 <;> simp [q1, q2]
theorem m_marksOn {r m : Nat} {R : Nat → Nat} (h : MLn a (e 74) P N W K O T J) (hb : LB P N W K O T J) (hr : r < 6) (hm : m ≤ 6) (h69 : e 69 r = nI m) (hR : ∀ k, k < m → e 70 (40 * r + k) = nI (R k) ∧ R k < 10) : ∀ (j k S w x D d : Nat) (Q : Option Value → AZ → AH → Prop), k + j = m → D = d + j + 3 → S < 1024 → (Cw D 1070 [.ref 67, .int (nI r), .int (nI k), .int (nI S)] z (Hp X C (va_up (va_up a 32 (nI w)) 33 (nI x), b, e, o)) Q ↔ Q none z (Hp X C (va_up (va_up a 32 (nI (mko N (fe W K J) R j k S (w, x)).1)) 33 (nI (mko N (fe W K J) R j k S (w, x)).2), b, e, o))) := by
  have hN := hb.2.1
  have h1 := h.2.1
  intro j
  induction j with
  | zero =>
    intro k S w x D d Q hk hD hS
    have hk : k = m := by omega
    subst hk
    subst hD
    rw [cw_wp]
    simp (disch := omega) only [W1070, r_2, r_Li, r_4, r_La, h60_10_5, r_47, r_30, r_30r, h60_10_32, s_0, ci_1, r_10, h61_10_32, h60_10_33, r_15, h61_10_33, r_93, ci_0, r_5, h60_10_11, r_49, h80_1005, s_41, h79_1032, h79_1011, r_18, r_16, h79_1070, s_8, r_In, r_52, h64_69, enR, LG, LSt, LC, nlR, psR, TK, up_s, up_n, up_u, lt_nI, le_nI, eq_nI, true_and, and_true, if_true, if_false, Nat.zero_add, Nat.add_zero, nI_add, ↓reduceIte, Nat.reduceAdd, Nat.reduceMul, Nat.reduceSub, Nat.reduceLT, Nat.reduceLeDiff, Nat.reduceEqDiff, Nat.not_lt_zero, Nat.lt_irrefl, decide_true, BEq.rfl, nm1, nm2, nm3, nm4, nm9, ngc, eq_self, List.length_cons, List.length_nil, hr, h69, nI_and]
    rw [up_323]
    rfl
  | succ j ih =>
    intro k S w x D d Q hk hD hS
    subst hD
    have h2 : k ≠ m := by omega
    have h3 : k < m := by omega
    have h40 : k < 40 := by omega
    obtain ⟨r1, r2⟩ := hR k h3
    have hloop : ∀ (q i w x : Nat), i + q = N → (Wp (d + (j + 1) + 2) 1070 34 [some (.ref 67), some (.int (nI r)), some (.int (nI k)), some (.int (nI S)), some (.int (nI i))] [] z (Hp X C (va_up (va_up a 32 (nI w)) 33 (nI x), b, e, o)) Q ↔ Q none z (Hp X C (va_up (va_up a 32 (nI (foldu (fun i st => if S.testBit i = false ∧ fe W K J i = R k then mko N (fe W K J) R j (k + 1) (S ||| 2 ^ i) st else st) i q (w, x)).1)) 33 (nI (foldu (fun i st => if S.testBit i = false ∧ fe W K J i = R k then mko N (fe W K J) R j (k + 1) (S ||| 2 ^ i) st else st) i q (w, x)).2), b, e, o))) := by
      intro q
      induction q with
      | zero =>
        intro i w x hi
        have hi : i = N := by omega
        subst hi
        rw [W1070_34]
        simp (disch := omega) only [W1070, r_2, r_Li, r_4, r_La, h60_10_5, r_47, r_30, r_30r, h60_10_32, s_0, ci_1, r_10, h61_10_32, h60_10_33, r_15, h61_10_33, r_93, ci_0, r_5, h60_10_11, r_49, h80_1005, s_41, h79_1032, h79_1011, r_18, r_16, h79_1070, s_8, r_In, r_52, h64_69, enR, LG, LSt, LC, nlR, psR, TK, up_s, up_n, up_u, lt_nI, le_nI, eq_nI, true_and, and_true, if_true, if_false, Nat.zero_add, Nat.add_zero, nI_add, ↓reduceIte, Nat.reduceAdd, Nat.reduceMul, Nat.reduceSub, Nat.reduceLT, Nat.reduceLeDiff, Nat.reduceEqDiff, Nat.not_lt_zero, Nat.lt_irrefl, decide_true, BEq.rfl, nm1, nm2, nm3, nm4, nm9, ngc, eq_self, List.length_cons, List.length_nil, h1, foldu]
      | succ q ihq =>
        intro i w x hi
        have hiN : i < N := by omega
        have hf := fe_lt hb hiN
        have h' : MLn (va_up (va_up a 32 (nI w)) 33 (nI x)) (e 74) P N W K O T J := h
        show _ ↔ Q none z (Hp X C (va_up (va_up a 32 (nI (foldu _ (i + 1) q (if S.testBit i = false ∧ fe W K J i = R k then mko N (fe W K J) R j (k + 1) (S ||| 2 ^ i) (w, x) else (w, x))).1)) 33 (nI (foldu _ (i + 1) q (if S.testBit i = false ∧ fe W K J i = R k then mko N (fe W K J) R j (k + 1) (S ||| 2 ^ i) (w, x) else (w, x))).2), b, e, o))
        rw [W1070_34]
        by_cases h5 : S.testBit i = true
        · rw [if_neg (fun hh => by rw [h5] at hh; exact absurd hh.1 (by decide))]
          simp (disch := omega) only [W1070, r_2, r_Li, r_4, r_La, h60_10_5, r_47, r_30, r_30r, h60_10_32, s_0, ci_1, r_10, h61_10_32, h60_10_33, r_15, h61_10_33, r_93, ci_0, r_5, h60_10_11, r_49, h80_1005, s_41, h79_1032, h79_1011, r_18, r_16, h79_1070, s_8, r_In, r_52, h64_69, enR, LG, LSt, LC, nlR, psR, TK, up_s, up_n, up_u, lt_nI, le_nI, eq_nI, true_and, and_true, if_true, if_false, Nat.zero_add, Nat.add_zero, nI_add, ↓reduceIte, Nat.reduceAdd, Nat.reduceMul, Nat.reduceSub, Nat.reduceLT, Nat.reduceLeDiff, Nat.reduceEqDiff, Nat.not_lt_zero, Nat.lt_irrefl, decide_true, BEq.rfl, nm1, nm2, nm3, nm4, nm9, ngc, eq_self, List.length_cons, List.length_nil, h1, hiN, m_has, h5]
          exact ihq (i + 1) w x (by omega)
        · have h5' : S.testBit i = false := by simpa using h5
          by_cases h6 : fe W K J i = R k
          · rw [if_pos ⟨h5', h6⟩]
            simp (disch := omega) only [W1070, r_2, r_Li, r_4, r_La, h60_10_5, r_47, r_30, r_30r, h60_10_32, s_0, ci_1, r_10, h61_10_32, h60_10_33, r_15, h61_10_33, r_93, ci_0, r_5, h60_10_11, r_49, h80_1005, s_41, h79_1032, h79_1011, r_18, r_16, h79_1070, s_8, r_In, r_52, h64_69, enR, LG, LSt, LC, nlR, psR, TK, up_s, up_n, up_u, lt_nI, le_nI, eq_nI, true_and, and_true, if_true, if_false, Nat.zero_add, Nat.add_zero, nI_add, ↓reduceIte, Nat.reduceAdd, Nat.reduceMul, Nat.reduceSub, Nat.reduceLT, Nat.reduceLeDiff, Nat.reduceEqDiff, Nat.not_lt_zero, Nat.lt_irrefl, decide_true, BEq.rfl, nm1, nm2, nm3, nm4, nm9, ngc, eq_self, List.length_cons, List.length_nil, h1, hiN, m_has, h5', Bool.false_eq_true, m_feelOf h' hb hiN, hr, h40, m_rowAt, r1, h6, nI_bit, nI_or]
            rw [ih (k + 1) (S ||| 2 ^ i) w x (d + (j + 1) + 2) d _ (by omega) (by omega) (or_lt (n := 10) (k := i) hS (by omega))]
            simp (disch := omega) only [W1070, r_2, r_Li, r_4, r_La, h60_10_5, r_47, r_30, r_30r, h60_10_32, s_0, ci_1, r_10, h61_10_32, h60_10_33, r_15, h61_10_33, r_93, ci_0, r_5, h60_10_11, r_49, h80_1005, s_41, h79_1032, h79_1011, r_18, r_16, h79_1070, s_8, r_In, r_52, h64_69, enR, LG, LSt, LC, nlR, psR, TK, up_s, up_n, up_u, lt_nI, le_nI, eq_nI, true_and, and_true, if_true, if_false, Nat.zero_add, Nat.add_zero, nI_add, ↓reduceIte, Nat.reduceAdd, Nat.reduceMul, Nat.reduceSub, Nat.reduceLT, Nat.reduceLeDiff, Nat.reduceEqDiff, Nat.not_lt_zero, Nat.lt_irrefl, decide_true, BEq.rfl, nm1, nm2, nm3, nm4, nm9, ngc, eq_self, List.length_cons, List.length_nil]
            exact ihq (i + 1) _ _ (by omega)
          · rw [if_neg (fun hh => h6 hh.2)]
            simp (disch := omega) only [W1070, r_2, r_Li, r_4, r_La, h60_10_5, r_47, r_30, r_30r, h60_10_32, s_0, ci_1, r_10, h61_10_32, h60_10_33, r_15, h61_10_33, r_93, ci_0, r_5, h60_10_11, r_49, h80_1005, s_41, h79_1032, h79_1011, r_18, r_16, h79_1070, s_8, r_In, r_52, h64_69, enR, LG, LSt, LC, nlR, psR, TK, up_s, up_n, up_u, lt_nI, le_nI, eq_nI, true_and, and_true, if_true, if_false, Nat.zero_add, Nat.add_zero, nI_add, ↓reduceIte, Nat.reduceAdd, Nat.reduceMul, Nat.reduceSub, Nat.reduceLT, Nat.reduceLeDiff, Nat.reduceEqDiff, Nat.not_lt_zero, Nat.lt_irrefl, decide_true, BEq.rfl, nm1, nm2, nm3, nm4, nm9, ngc, eq_self, List.length_cons, List.length_nil, h1, hiN, m_has, h5', Bool.false_eq_true, m_feelOf h' hb hiN, hr, h40, m_rowAt, r1, h6]
            exact ihq (i + 1) w x (by omega)
    rw [cw_wp]
    simp (disch := omega) only [W1070, r_2, r_Li, r_4, r_La, h60_10_5, r_47, r_30, r_30r, h60_10_32, s_0, ci_1, r_10, h61_10_32, h60_10_33, r_15, h61_10_33, r_93, ci_0, r_5, h60_10_11, r_49, h80_1005, s_41, h79_1032, h79_1011, r_18, r_16, h79_1070, s_8, r_In, r_52, h64_69, enR, LG, LSt, LC, nlR, psR, TK, up_s, up_n, up_u, lt_nI, le_nI, eq_nI, true_and, and_true, if_true, if_false, Nat.zero_add, Nat.add_zero, nI_add, ↓reduceIte, Nat.reduceAdd, Nat.reduceMul, Nat.reduceSub, Nat.reduceLT, Nat.reduceLeDiff, Nat.reduceEqDiff, Nat.not_lt_zero, Nat.lt_irrefl, decide_true, BEq.rfl, nm1, nm2, nm3, nm4, nm9, ngc, eq_self, List.length_cons, List.length_nil, hr, h69, h2]
    exact hloop N 0 w x (by omega)
end
theorem tm_rmk {g : Nat → Int32} {R : Nat → Nat} {v m : Nat} (hv : v < 65536) (hR : ∀ k, k < m → g k = nI (R k) ∧ R k < 10) : foldu (tmF g (nI v)) 0 m 0 = rmk R v 0 m :=
  foldu_congr m 0 0 (fun j x _ hj => by
    obtain ⟨h1, h2⟩ := hR j (by omega)
    unfold tmF cnb
    rw [h1]
    by_cases h : R j = v
    · rw [if_pos (congrArg nI h), if_pos (by simpa using h)]
    · rw [if_neg (fun e => h ((nI_eq (by omega) (by omega)).mp e)), if_neg (by simpa using h)])
theorem rmk_le (R : Nat → Nat) (v : Nat) : ∀ (j k : Nat), rmk R v k j ≤ j := by
  intro j
  induction j with
  | zero => intro k; exact Nat.le_refl _
  | succ j ih =>
    intro k
    have := ih (k + 1)
    rw [rmk_succ]
    split <;> omega
theorem rb_sto' (F : Nat → Nat) (y N : Nat) : foldu (rbF F y) 0 N 0 = sto (fun i => decide (F i = y)) N :=
  foldu_congr N 0 0 (fun j c _ _ => by
    show rbF F y j c = stb _ j c
    unfold rbF stb
    by_cases h : F j = y <;> simp [h])
theorem nv_avk {F : Nat → Nat} {y N : Nat} (hN : N ≤ 10) : foldu (pcF (foldu (rbF F y) 0 N 0)) 0 10 0 = avk N F y 0 := by
  rw [rb_sto', pc_sto _ hN]
  exact cnt_congr (fun j _ => by simp)
/-- the ROADS that every row has -/
def alF (N : Nat) (F R : Nat → Nat) (m v a : Nat) : Nat := if rmk R v 0 m = avk N F v 0 then a ||| foldu (rbF F v) 0 N 0 else a
theorem al_bit {N m : Nat} {F R : Nat → Nat} (hF : ∀ i, i < N → F i < 10) (b : Nat) : (foldu (alF N F R m) 0 10 0).testBit b = true ↔ b < N ∧ rmk R (F b) 0 m = avk N F (F b) 0 := by
  rw [foldu_or (c := fun v => rmk R v 0 m = avk N F v 0 ∧ b < N ∧ F b = v) 10 0 0 (fun i x _ _ => ?_)]
  · constructor
    · rintro (h | ⟨v, _, h1, h2, h3, h4⟩)
      · exact absurd h (by simp)
      · subst h4; exact ⟨h3, h2⟩
    · rintro ⟨h1, h2⟩
      exact Or.inr ⟨F b, Nat.zero_le _, by have := hF b h1; omega, h2, h1, rfl⟩
  · show (alF N F R m i x).testBit b = true ↔ _
    unfold alF
    by_cases h : rmk R i 0 m = avk N F i 0
    · rw [if_pos h, Nat.testBit_or, Bool.or_eq_true, rb_sto', sto_bit]
      simp [h]
    · rw [if_neg h]; simp [h]
theorem mxn : ∀ n, n < 11 → ∀ i, i < 7 → (if nI n - nI i < nI 0 then nI 0 else nI n - nI i) = nI (n - i) := by decide +kernel
section
variable {t d : Nat} {z : AZ} {X : Nat × (Nat → Int32)} {C : CT} {M : MT} {s : Nat → Int32} {v : Nat → Int64} {g : Nat → Nat → Int32} {w : Nat → Nat → Int64} {q : Nat → Nat} {ct : Nat → Int32} {cn : Nat → Int32} {cc : Nat → Nat → Int32} {di : Nat → Nat → Int32} {dr : Nat → Nat → Int32} {df : Nat → Nat → Int32} {li : Nat → Nat → Int32} {la : Nat → Nat → Nat → Int32} {sf : Nat → Nat → Int32} {sl : Nat → Nat → Int32} {a : Nat → Int32} {b : Nat → Int64} {e : Nat → Nat → Int32} {o : Nat → Nat → Int64} {B : Nat → Bool} {n : Nat → Nat} {P N W : Nat} {K O T J : Nat → Nat} {l : Nat} {Ds : Nat → Nat} {Dr Df Dp : Nat → Nat → Nat} {KB : Nat → Bool}
variable {Q : Option Value → AZ → AH → Prop}
theorem lp_cmk2 {r al v0 t0 n0 : Nat} {x2 : Int32} (ht : t0 ≤ 6) (hn : n0 ≤ 10) : ∀ (j i u : Nat), i + j = t0 → (Wp (d + 2) 933 77 [some (.ref 0), some (.int (nI r)), some (.int x2), some (.int (nI u)), some (.int (nI al)), some (.int (nI v0)), some (.int (nI t0)), some (.int (nI n0)), some (.int (nI i))] [] z (Hp X (s, v, g, w, q, ct, cn, cc, di, dr, df, li, la, sf, sl) M) Q ↔ Wp (d + 2) 933 77 [some (.ref 0), some (.int (nI r)), some (.int x2), some (.int (nI (foldu (fun i a => a * (n0 - i)) i j u))), some (.int (nI al)), some (.int (nI v0)), some (.int (nI t0)), some (.int (nI n0)), some (.int (nI t0))] [] z (Hp X (s, v, g, w, q, ct, cn, cc, di, dr, df, li, la, sf, sl) M) Q) := by
  intro j
  induction j with
  | zero =>
    intro i u hi
    have hi : i = t0 := by omega
    subst hi
    exact Iff.rfl
  | succ j ih =>
    intro i u hi
    have h1 : i < t0 := by omega
    rw [W933_77]
    simp (disch := omega) only [W933, r_2, r_Li, h80_948, s_41, s_0, ci_m1, r_90, r_4, r_La, h60_9_0, ci_6, h79_955, r_5, s_40, ci_1, ci_0, ci_10, r_49, h79_9, h60_9_5, h60_9_12, h60_3_5, h79_610, r_11, s_83, r_12, s_8, r_In, r_52, r_47, h79_609, r_16, h61_9_15, h68_1, enR, LG, LSt, LC, nlR, psR, TK, up_s, up_n, up_u, lt_nI, le_nI, eq_nI, true_and, and_true, if_true, if_false, Nat.zero_add, Nat.add_zero, nI_add, ↓reduceIte, Nat.reduceAdd, Nat.reduceMul, Nat.reduceSub, Nat.reduceLT, Nat.reduceLeDiff, Nat.reduceEqDiff, Nat.not_lt_zero, Nat.lt_irrefl, decide_true, BEq.rfl, nm1, nm2, nm3, nm4, nm9, ngc, eq_self, List.length_cons, List.length_nil, h1]
    rw [mxn n0 (by omega) i (by omega), nI_mul]
    exact ih (i + 1) _ (by omega)
theorem lp_cmk {r m u' al' : Nat} {R F : Nat → Nat} (hl : l < 2) (hq : q 0 = l) (hC : CLn (li l) (la l) P N K O T J) (hN : N ≤ 10) (hF : ∀ i, i < N → sf 0 i = nI (F i) ∧ F i < 10) (hr : r < 6) (hn : cn r = nI m) (hm : m ≤ 6) (hR : ∀ k, k < m → cc r k = nI (R k) ∧ R k < 10) (hu : u' < 2147483648)
    (hQ : Q (some (.int (nI u'))) z (Hp X (va_up s 15 (nI (if u' = 0 then 0 else al')), v, g, w, q, ct, cn, cc, di, dr, df, li, la, sf, sl) M)) : ∀ (j v0 u al : Nat), v0 + j = 10 → u' = foldu (fun v a => a * ffn (avk N F v 0) (rmk R v 0 m)) v0 j u → al' = foldu (alF N F R m) v0 j al → Wp (d + 2) 933 36 [some (.ref 0), some (.int (nI r)), some (.int (nI 0)), some (.int (nI u)), some (.int (nI al)), some (.int (nI v0))] [] z (Hp X (s, v, g, w, q, ct, cn, cc, di, dr, df, li, la, sf, sl) M) Q := by
  have h5 := hC.2.1
  have hcap : cap r = 40 := if_pos hr
  intro j
  induction j with
  | zero =>
    intro v0 u al hv hu1 hal
    have hv : v0 = 10 := by omega
    subst hv
    have e1 : u' = u := hu1
    have e2 : al' = al := hal
    subst e1
    subst e2
    rw [W933_36]
    by_cases h0 : u' = 0
    · rw [if_pos h0] at hQ
      subst h0
      simp (disch := omega) only [W933, r_2, r_Li, h80_948, s_41, s_0, ci_m1, r_90, r_4, r_La, h60_9_0, ci_6, h79_955, r_5, s_40, ci_1, ci_0, ci_10, r_49, h79_9, h60_9_5, h60_9_12, h60_3_5, h79_610, r_11, s_83, r_12, s_8, r_In, r_52, r_47, h79_609, r_16, h61_9_15, h68_1, enR, LG, LSt, LC, nlR, psR, TK, up_s, up_n, up_u, lt_nI, le_nI, eq_nI, true_and, and_true, if_true, if_false, Nat.zero_add, Nat.add_zero, nI_add, ↓reduceIte, Nat.reduceAdd, Nat.reduceMul, Nat.reduceSub, Nat.reduceLT, Nat.reduceLeDiff, Nat.reduceEqDiff, Nat.not_lt_zero, Nat.lt_irrefl, decide_true, BEq.rfl, nm1, nm2, nm3, nm4, nm9, ngc, eq_self, List.length_cons, List.length_nil]
      exact hQ
    · rw [if_neg h0] at hQ
      simp (disch := omega) only [W933, r_2, r_Li, h80_948, s_41, s_0, ci_m1, r_90, r_4, r_La, h60_9_0, ci_6, h79_955, r_5, s_40, ci_1, ci_0, ci_10, r_49, h79_9, h60_9_5, h60_9_12, h60_3_5, h79_610, r_11, s_83, r_12, s_8, r_In, r_52, r_47, h79_609, r_16, h61_9_15, h68_1, enR, LG, LSt, LC, nlR, psR, TK, up_s, up_n, up_u, lt_nI, le_nI, eq_nI, true_and, and_true, if_true, if_false, Nat.zero_add, Nat.add_zero, nI_add, ↓reduceIte, Nat.reduceAdd, Nat.reduceMul, Nat.reduceSub, Nat.reduceLT, Nat.reduceLeDiff, Nat.reduceEqDiff, Nat.not_lt_zero, Nat.lt_irrefl, decide_true, BEq.rfl, nm1, nm2, nm3, nm4, nm9, ngc, eq_self, List.length_cons, List.length_nil, h0]
      exact hQ
  | succ j ih =>
    intro v0 u al hv hu1 hal
    have h1 : v0 < 10 := by omega
    have ht := rmk_le R v0 m 0
    have hn2 : avk N F v0 0 ≤ 10 := Nat.le_trans (cnt_le _ _) hN
    have hu2 : u' = foldu (fun v a => a * ffn (avk N F v 0) (rmk R v 0 m)) (v0 + 1) j (u * ffn (avk N F v0 0) (rmk R v0 0 m)) := hu1
    have hal2 : al' = foldu (alF N F R m) (v0 + 1) j (alF N F R m v0 al) := hal
    have hff : foldu (fun i a => a * (avk N F v0 0 - i)) 0 (rmk R v0 0 m) u = u * ffn (avk N F v0 0) (rmk R v0 0 m) := ffm _ _ _ _
    rw [W933_36]
    simp (disch := omega) only [W933, r_2, r_Li, h80_948, s_41, s_0, ci_m1, r_90, r_4, r_La, h60_9_0, ci_6, h79_955, r_5, s_40, ci_1, ci_0, ci_10, r_49, h79_9, h60_9_5, h60_9_12, h60_3_5, h79_610, r_11, s_83, r_12, s_8, r_In, r_52, r_47, h79_609, r_16, h61_9_15, h68_1, enR, LG, LSt, LC, nlR, psR, TK, up_s, up_n, up_u, lt_nI, le_nI, eq_nI, true_and, and_true, if_true, if_false, Nat.zero_add, Nat.add_zero, nI_add, ↓reduceIte, Nat.reduceAdd, Nat.reduceMul, Nat.reduceSub, Nat.reduceLT, Nat.reduceLeDiff, Nat.reduceEqDiff, Nat.not_lt_zero, Nat.lt_irrefl, decide_true, BEq.rfl, nm1, nm2, nm3, nm4, nm9, ngc, eq_self, List.length_cons, List.length_nil, hr, h1, hq, hl, h5, c_timesOf (show r < 10 by omega) hn (show m ≤ cap r by omega), tm_rmk (show v0 < 65536 by omega) hR, c_roadsF (show 0 < 2 by omega) hN (show v0 < 65536 by omega) hF, nv_avk hN]
    rw [lp_cmk2 (by omega) hn2 (rmk R v0 0 m) 0 u (by omega), hff, W933_77]
    unfold alF at hal2
    by_cases h6 : rmk R v0 0 m = avk N F v0 0
    · rw [if_pos h6] at hal2
      simp (disch := omega) only [W933, r_2, r_Li, h80_948, s_41, s_0, ci_m1, r_90, r_4, r_La, h60_9_0, ci_6, h79_955, r_5, s_40, ci_1, ci_0, ci_10, r_49, h79_9, h60_9_5, h60_9_12, h60_3_5, h79_610, r_11, s_83, r_12, s_8, r_In, r_52, r_47, h79_609, r_16, h61_9_15, h68_1, enR, LG, LSt, LC, nlR, psR, TK, up_s, up_n, up_u, lt_nI, le_nI, eq_nI, true_and, and_true, if_true, if_false, Nat.zero_add, Nat.add_zero, nI_add, ↓reduceIte, Nat.reduceAdd, Nat.reduceMul, Nat.reduceSub, Nat.reduceLT, Nat.reduceLeDiff, Nat.reduceEqDiff, Nat.not_lt_zero, Nat.lt_irrefl, decide_true, BEq.rfl, nm1, nm2, nm3, nm4, nm9, ngc, eq_self, List.length_cons, List.length_nil, hq, hl, h5, h6, c_roadBits (show 0 < 2 by omega) hN (show v0 < 65536 by omega) hF, nI_or]
      rw [h6] at hu2
      exact ih (v0 + 1) _ _ (by omega) hu2 hal2
    · rw [if_neg h6] at hal2
      simp (disch := omega) only [W933, r_2, r_Li, h80_948, s_41, s_0, ci_m1, r_90, r_4, r_La, h60_9_0, ci_6, h79_955, r_5, s_40, ci_1, ci_0, ci_10, r_49, h79_9, h60_9_5, h60_9_12, h60_3_5, h79_610, r_11, s_83, r_12, s_8, r_In, r_52, r_47, h79_609, r_16, h61_9_15, h68_1, enR, LG, LSt, LC, nlR, psR, TK, up_s, up_n, up_u, lt_nI, le_nI, eq_nI, true_and, and_true, if_true, if_false, Nat.zero_add, Nat.add_zero, nI_add, ↓reduceIte, Nat.reduceAdd, Nat.reduceMul, Nat.reduceSub, Nat.reduceLT, Nat.reduceLeDiff, Nat.reduceEqDiff, Nat.not_lt_zero, Nat.lt_irrefl, decide_true, BEq.rfl, nm1, nm2, nm3, nm4, nm9, ngc, eq_self, List.length_cons, List.length_nil, h6]
      exact ih (v0 + 1) _ _ (by omega) hu2 hal2
theorem op_marks {x : Int32} (H : RL t z s v g w q ct cn cc di dr df li la sf sl a b e o B n P N W K O T J l Ds Dr Df Dp KB) : OPI (d + 20) 933 1071 [.int x] t z X (s, v, g, w, q, ct, cn, cc, di, dr, df, li, la, sf, sl) (a, b, e, o) := by
  obtain ⟨hb, hl, hq, hC, hs, hM, hS⟩ := rl_land H
  have hN := hb.2.1
  have h1 := hM.2.1
  have h2p := Nat.two_pow_pos N
  unfold OPI
  rw [cw_wp]
  rcases ix x (n := 5) (by decide) with h | ⟨h1, h2, h3⟩ | ⟨r, hr, rfl⟩
  · simp (disch := omega) only [W933, r_2, r_Li, h80_948, s_41, s_0, ci_m1, r_90, r_4, r_La, h60_9_0, ci_6, h79_955, r_5, s_40, ci_1, ci_0, ci_10, r_49, h79_9, h60_9_5, h60_9_12, h60_3_5, h79_610, r_11, s_83, r_12, s_8, r_In, r_52, r_47, h79_609, r_16, h61_9_15, h68_1, enR, LG, LSt, LC, nlR, psR, TK, up_s, up_n, up_u, lt_nI, le_nI, eq_nI, true_and, and_true, if_true, if_false, Nat.zero_add, Nat.add_zero, nI_add, ↓reduceIte, Nat.reduceAdd, Nat.reduceMul, Nat.reduceSub, Nat.reduceLT, Nat.reduceLeDiff, Nat.reduceEqDiff, Nat.not_lt_zero, Nat.lt_irrefl, decide_true, BEq.rfl, nm1, nm2, nm3, nm4, nm9, ngc, eq_self, List.length_cons, List.length_nil, c_isRow, h]
    refine okc ?_
    rw [cw_wp]
    simp (disch := omega) only [W1071, r_2, r_Li, h80_1007, s_41, s_0, ci_m1, r_90, r_4, r_La, ci_6, h79_1052, r_5, s_43, ci_0, h61_10_32, ci_1, h60_10_11, r_18, r_11, h61_10_33, h79_1070, h60_10_32, r_52, h60_10_33, h79_1003, enR, LG, LSt, LC, nlR, psR, TK, up_s, up_n, up_u, lt_nI, le_nI, eq_nI, true_and, and_true, if_true, if_false, Nat.zero_add, Nat.add_zero, nI_add, ↓reduceIte, Nat.reduceAdd, Nat.reduceMul, Nat.reduceSub, Nat.reduceLT, Nat.reduceLeDiff, Nat.reduceEqDiff, Nat.not_lt_zero, Nat.lt_irrefl, decide_true, BEq.rfl, nm1, nm2, nm3, nm4, nm9, ngc, eq_self, List.length_cons, List.length_nil, m_isRow, h]
    exact okm (rl_inv (rl_t H))
  · simp (disch := omega) only [W933, r_2, r_Li, h80_948, s_41, s_0, ci_m1, r_90, r_4, r_La, h60_9_0, ci_6, h79_955, r_5, s_40, ci_1, ci_0, ci_10, r_49, h79_9, h60_9_5, h60_9_12, h60_3_5, h79_610, r_11, s_83, r_12, s_8, r_In, r_52, r_47, h79_609, r_16, h61_9_15, h68_1, enR, LG, LSt, LC, nlR, psR, TK, up_s, up_n, up_u, lt_nI, le_nI, eq_nI, true_and, and_true, if_true, if_false, Nat.zero_add, Nat.add_zero, nI_add, ↓reduceIte, Nat.reduceAdd, Nat.reduceMul, Nat.reduceSub, Nat.reduceLT, Nat.reduceLeDiff, Nat.reduceEqDiff, Nat.not_lt_zero, Nat.lt_irrefl, decide_true, BEq.rfl, nm1, nm2, nm3, nm4, nm9, ngc, eq_self, List.length_cons, List.length_nil, c_isRow, h1, h2]
    refine okc ?_
    rw [cw_wp]
    simp (disch := omega) only [W1071, r_2, r_Li, h80_1007, s_41, s_0, ci_m1, r_90, r_4, r_La, ci_6, h79_1052, r_5, s_43, ci_0, h61_10_32, ci_1, h60_10_11, r_18, r_11, h61_10_33, h79_1070, h60_10_32, r_52, h60_10_33, h79_1003, enR, LG, LSt, LC, nlR, psR, TK, up_s, up_n, up_u, lt_nI, le_nI, eq_nI, true_and, and_true, if_true, if_false, Nat.zero_add, Nat.add_zero, nI_add, ↓reduceIte, Nat.reduceAdd, Nat.reduceMul, Nat.reduceSub, Nat.reduceLT, Nat.reduceLeDiff, Nat.reduceEqDiff, Nat.not_lt_zero, Nat.lt_irrefl, decide_true, BEq.rfl, nm1, nm2, nm3, nm4, nm9, ngc, eq_self, List.length_cons, List.length_nil, m_isRow, h1, h3]
    exact okm (rl_inv (rl_t H))
  have hr6 : r < 6 := by omega
  have hr5 : ¬ 5 < r := by omega
  rcases rl_r H hr6 with ⟨q1, q2, q3, q4, q5⟩ | ⟨q1, q2, q3, q4, q5, q6⟩
  · simp (disch := omega) only [W933, r_2, r_Li, h80_948, s_41, s_0, ci_m1, r_90, r_4, r_La, h60_9_0, ci_6, h79_955, r_5, s_40, ci_1, ci_0, ci_10, r_49, h79_9, h60_9_5, h60_9_12, h60_3_5, h79_610, r_11, s_83, r_12, s_8, r_In, r_52, r_47, h79_609, r_16, h61_9_15, h68_1, enR, LG, LSt, LC, nlR, psR, TK, up_s, up_n, up_u, lt_nI, le_nI, eq_nI, true_and, and_true, if_true, if_false, Nat.zero_add, Nat.add_zero, nI_add, ↓reduceIte, Nat.reduceAdd, Nat.reduceMul, Nat.reduceSub, Nat.reduceLT, Nat.reduceLeDiff, Nat.reduceEqDiff, Nat.not_lt_zero, Nat.lt_irrefl, decide_true, BEq.rfl, nm1, nm2, nm3, nm4, nm9, ngc, eq_self, List.length_cons, List.length_nil, c_isRow, hr6, c_felt_no (show r < 10 by omega) q2]
    refine okc ?_
    rw [cw_wp]
    simp (disch := omega) only [W1071, r_2, r_Li, h80_1007, s_41, s_0, ci_m1, r_90, r_4, r_La, ci_6, h79_1052, r_5, s_43, ci_0, h61_10_32, ci_1, h60_10_11, r_18, r_11, h61_10_33, h79_1070, h60_10_32, r_52, h60_10_33, h79_1003, enR, LG, LSt, LC, nlR, psR, TK, up_s, up_n, up_u, lt_nI, le_nI, eq_nI, true_and, and_true, if_true, if_false, Nat.zero_add, Nat.add_zero, nI_add, ↓reduceIte, Nat.reduceAdd, Nat.reduceMul, Nat.reduceSub, Nat.reduceLT, Nat.reduceLeDiff, Nat.reduceEqDiff, Nat.not_lt_zero, Nat.lt_irrefl, decide_true, BEq.rfl, nm1, nm2, nm3, nm4, nm9, ngc, eq_self, List.length_cons, List.length_nil, m_isRow, hr5, m_felt_no hr6 q5]
    exact okm (rl_inv (rl_found (k := 1) (by decide) H))
  by_cases hw : 6 < n r
  · simp (disch := omega) only [W933, r_2, r_Li, h80_948, s_41, s_0, ci_m1, r_90, r_4, r_La, h60_9_0, ci_6, h79_955, r_5, s_40, ci_1, ci_0, ci_10, r_49, h79_9, h60_9_5, h60_9_12, h60_3_5, h79_610, r_11, s_83, r_12, s_8, r_In, r_52, r_47, h79_609, r_16, h61_9_15, h68_1, enR, LG, LSt, LC, nlR, psR, TK, up_s, up_n, up_u, lt_nI, le_nI, eq_nI, true_and, and_true, if_true, if_false, Nat.zero_add, Nat.add_zero, nI_add, ↓reduceIte, Nat.reduceAdd, Nat.reduceMul, Nat.reduceSub, Nat.reduceLT, Nat.reduceLeDiff, Nat.reduceEqDiff, Nat.not_lt_zero, Nat.lt_irrefl, decide_true, BEq.rfl, nm1, nm2, nm3, nm4, nm9, ngc, eq_self, List.length_cons, List.length_nil, c_isRow, hr6, c_felt_size (show r < 10 by omega) q2 q3 (show n r ≤ 80 by omega) hw]
    refine okc ?_
    rw [cw_wp]
    simp (disch := omega) only [W1071, r_2, r_Li, h80_1007, s_41, s_0, ci_m1, r_90, r_4, r_La, ci_6, h79_1052, r_5, s_43, ci_0, h61_10_32, ci_1, h60_10_11, r_18, r_11, h61_10_33, h79_1070, h60_10_32, r_52, h60_10_33, h79_1003, enR, LG, LSt, LC, nlR, psR, TK, up_s, up_n, up_u, lt_nI, le_nI, eq_nI, true_and, and_true, if_true, if_false, Nat.zero_add, Nat.add_zero, nI_add, ↓reduceIte, Nat.reduceAdd, Nat.reduceMul, Nat.reduceSub, Nat.reduceLT, Nat.reduceLeDiff, Nat.reduceEqDiff, Nat.not_lt_zero, Nat.lt_irrefl, decide_true, BEq.rfl, nm1, nm2, nm3, nm4, nm9, ngc, eq_self, List.length_cons, List.length_nil, m_isRow, hr5, m_felt_size hr6 q5 q4 hw]
    exact okm (rl_inv (rl_found (k := 5) (by decide) H))
  have hw2 : n r ≤ 6 := by omega
  have hcap : n r ≤ cap r := by rw [show cap r = 40 from if_pos hr6]; exact q4
  cases hf : felt (cc r) (n r) with
  | false =>
    simp (disch := omega) only [W933, r_2, r_Li, h80_948, s_41, s_0, ci_m1, r_90, r_4, r_La, h60_9_0, ci_6, h79_955, r_5, s_40, ci_1, ci_0, ci_10, r_49, h79_9, h60_9_5, h60_9_12, h60_3_5, h79_610, r_11, s_83, r_12, s_8, r_In, r_52, r_47, h79_609, r_16, h61_9_15, h68_1, enR, LG, LSt, LC, nlR, psR, TK, up_s, up_n, up_u, lt_nI, le_nI, eq_nI, true_and, and_true, if_true, if_false, Nat.zero_add, Nat.add_zero, nI_add, ↓reduceIte, Nat.reduceAdd, Nat.reduceMul, Nat.reduceSub, Nat.reduceLT, Nat.reduceLeDiff, Nat.reduceEqDiff, Nat.not_lt_zero, Nat.lt_irrefl, decide_true, BEq.rfl, nm1, nm2, nm3, nm4, nm9, ngc, eq_self, List.length_cons, List.length_nil, c_isRow, hr6, c_felt_unlike (show r < 10 by omega) q2 q3 hcap hw2 (by omega) hf]
    refine okc ?_
    rw [cw_wp]
    simp (disch := omega) only [W1071, r_2, r_Li, h80_1007, s_41, s_0, ci_m1, r_90, r_4, r_La, ci_6, h79_1052, r_5, s_43, ci_0, h61_10_32, ci_1, h60_10_11, r_18, r_11, h61_10_33, h79_1070, h60_10_32, r_52, h60_10_33, h79_1003, enR, LG, LSt, LC, nlR, psR, TK, up_s, up_n, up_u, lt_nI, le_nI, eq_nI, true_and, and_true, if_true, if_false, Nat.zero_add, Nat.add_zero, nI_add, ↓reduceIte, Nat.reduceAdd, Nat.reduceMul, Nat.reduceSub, Nat.reduceLT, Nat.reduceLeDiff, Nat.reduceEqDiff, Nat.not_lt_zero, Nat.lt_irrefl, decide_true, BEq.rfl, nm1, nm2, nm3, nm4, nm9, ngc, eq_self, List.length_cons, List.length_nil, m_isRow, hr5, m_felt_unlike hr6 q5 q4 hw2 (by omega) q6 hf]
    exact okm (rl_inv (rl_found (k := 3) (by decide) H))
  | true =>
    obtain ⟨R, hR⟩ := felt_ok hf
    have hR7 : ∀ k, k < n r → e 70 (40 * r + k) = nI (R k) ∧ R k < 10 := fun k hk => ⟨by rw [q6 k hk]; exact (hR k hk).1, (hR k hk).2⟩
    have hsf : ∀ j, j < N → sf 0 j = nI (fe W K J j) ∧ fe W K J j < 10 := fun j hj => ⟨by rw [hS.1 j (by omega), if_pos hj], fe_lt hb hj⟩
    have hle := prk_le (F := fe W K J) (R := R) hN (n r) 0 0 (fun i _ hi => (hR i (by omega)).2)
    have hle2 : 10 ^ n r ≤ 10 ^ 6 := Nat.pow_le_pow_right (by decide) hw2
    have hlt : prk N (fe W K J) R (n r) 0 0 < 2147483648 := by
      have : (10 : Nat) ^ 6 = 1000000 := by decide
      omega
    obtain ⟨k1, k2⟩ := mko_ok (F := fe W K J) (R := R) hN (n r) 0 0 (0, 2 ^ N - 1) (fun i _ hi => (hR i (by omega)).2)
    have k1' : (mko N (fe W K J) R (n r) 0 0 (0, 2 ^ N - 1)).1 = prk N (fe W K J) R (n r) 0 0 := k1.trans (Nat.zero_add _)
    simp (disch := omega) only [W933, r_2, r_Li, h80_948, s_41, s_0, ci_m1, r_90, r_4, r_La, h60_9_0, ci_6, h79_955, r_5, s_40, ci_1, ci_0, ci_10, r_49, h79_9, h60_9_5, h60_9_12, h60_3_5, h79_610, r_11, s_83, r_12, s_8, r_In, r_52, r_47, h79_609, r_16, h61_9_15, h68_1, enR, LG, LSt, LC, nlR, psR, TK, up_s, up_n, up_u, lt_nI, le_nI, eq_nI, true_and, and_true, if_true, if_false, Nat.zero_add, Nat.add_zero, nI_add, ↓reduceIte, Nat.reduceAdd, Nat.reduceMul, Nat.reduceSub, Nat.reduceLT, Nat.reduceLeDiff, Nat.reduceEqDiff, Nat.not_lt_zero, Nat.lt_irrefl, decide_true, BEq.rfl, nm1, nm2, nm3, nm4, nm9, ngc, eq_self, List.length_cons, List.length_nil, c_isRow, hr6, c_felt_ok (show r < 10 by omega) q2 q3 hcap hw2 (by omega) hf]
    refine lp_cmk (d := d + 17) (u' := prk N (fe W K J) R (n r) 0 0) (al' := foldu (alF N (fe W K J) R (n r)) 0 10 0) hl hq hC hN hsf hr6 q3 hw2 hR hlt ?_ 10 0 1 0 (by omega) rfl rfl
    refine okc ?_
    rw [cw_wp]
    simp (disch := omega) only [W1071, r_2, r_Li, h80_1007, s_41, s_0, ci_m1, r_90, r_4, r_La, ci_6, h79_1052, r_5, s_43, ci_0, h61_10_32, ci_1, h60_10_11, r_18, r_11, h61_10_33, h79_1070, h60_10_32, r_52, h60_10_33, h79_1003, enR, LG, LSt, LC, nlR, psR, TK, up_s, up_n, up_u, lt_nI, le_nI, eq_nI, true_and, and_true, if_true, if_false, Nat.zero_add, Nat.add_zero, nI_add, ↓reduceIte, Nat.reduceAdd, Nat.reduceMul, Nat.reduceSub, Nat.reduceLT, Nat.reduceLeDiff, Nat.reduceEqDiff, Nat.not_lt_zero, Nat.lt_irrefl, decide_true, BEq.rfl, nm1, nm2, nm3, nm4, nm9, ngc, eq_self, List.length_cons, List.length_nil, m_isRow, hr5, m_felt_ok hr6 q5 q4 hw2 (by omega) q6 hf, h1, nI_bit, nI_sub]
    rw [m_marksOn (Q := _) hM hb hr6 hw2 q5 hR7 (n r) 0 0 0 (2 ^ N - 1) (d + 19) (d + 16 - n r) (by omega) (by omega) (by decide), k1']
    have H0 : RL t z s v g w q ct cn cc di dr df li la sf sl (va_up (va_up a 32 (nI (prk N (fe W K J) R (n r) 0 0))) 33 (nI (mko N (fe W K J) R (n r) 0 0 (0, 2 ^ N - 1)).2)) b e o B n P N W K O T J l Ds Dr Df Dp KB := H
    by_cases h0 : prk N (fe W K J) R (n r) 0 0 = 0
    · rw [h0] at H0
      rw [h0]
      simp (disch := omega) only [W1071, r_2, r_Li, h80_1007, s_41, s_0, ci_m1, r_90, r_4, r_La, ci_6, h79_1052, r_5, s_43, ci_0, h61_10_32, ci_1, h60_10_11, r_18, r_11, h61_10_33, h79_1070, h60_10_32, r_52, h60_10_33, h79_1003, enR, LG, LSt, LC, nlR, psR, TK, up_s, up_n, up_u, lt_nI, le_nI, eq_nI, true_and, and_true, if_true, if_false, Nat.zero_add, Nat.add_zero, nI_add, ↓reduceIte, Nat.reduceAdd, Nat.reduceMul, Nat.reduceSub, Nat.reduceLT, Nat.reduceLeDiff, Nat.reduceEqDiff, Nat.not_lt_zero, Nat.lt_irrefl, decide_true, BEq.rfl, nm1, nm2, nm3, nm4, nm9, ngc, eq_self, List.length_cons, List.length_nil, m_ask]
      exact okm (rl_inv (rl_ask H0))
    · have hal : (mko N (fe W K J) R (n r) 0 0 (0, 2 ^ N - 1)).2 = foldu (alF N (fe W K J) R (n r)) 0 10 0 := by
        apply eq_bits
        intro b
        rw [k2 b, al_bit (fun i hi => fe_lt hb hi) b]
        constructor
        · rintro ⟨g1, g2 | g2 | g2⟩
          · exact absurd g2 h0
          · exact absurd g2 (by simp)
          · exact g2
        · intro g
          refine ⟨?_, Or.inr (Or.inr g)⟩
          show (2 ^ N - 1).testBit b = true
          rw [Nat.testBit_two_pow_sub_one]
          simpa using g.1
      rw [hal] at H0
      rw [hal]
      simp (disch := omega) only [W1071, r_2, r_Li, h80_1007, s_41, s_0, ci_m1, r_90, r_4, r_La, ci_6, h79_1052, r_5, s_43, ci_0, h61_10_32, ci_1, h60_10_11, r_18, r_11, h61_10_33, h79_1070, h60_10_32, r_52, h60_10_33, h79_1003, enR, LG, LSt, LC, nlR, psR, TK, up_s, up_n, up_u, lt_nI, le_nI, eq_nI, true_and, and_true, if_true, if_false, Nat.zero_add, Nat.add_zero, nI_add, ↓reduceIte, Nat.reduceAdd, Nat.reduceMul, Nat.reduceSub, Nat.reduceLT, Nat.reduceLeDiff, Nat.reduceEqDiff, Nat.not_lt_zero, Nat.lt_irrefl, decide_true, BEq.rfl, nm1, nm2, nm3, nm4, nm9, ngc, eq_self, List.length_cons, List.length_nil, h0, m_ask]
      exact okm (rl_inv (rl_ask H0))
end

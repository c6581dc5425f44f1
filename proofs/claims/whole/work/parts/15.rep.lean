/-! abstract and machine states -/
def adr (B b tK k : Nat) : Nat := if k = 1000000 then b else if k = 1000001 then tK else B + k
def tv (ad : Nat → Nat) : Value → Value
  | .ref k => .ref (ad k)
  | v => v
def tE (ad : Nat → Nat) (cA : Nat → ClassId) : AE → va_E
  | .inl (t, n, .inr (.inr (.inr (.inr g)))) => .inl (cA t, n, .inr (.inr (.inr (.inr fun j => (g j).map ad))))
  | .inl (t, n, w) => .inl (cA t, n, w)
  | .inr (c, fs) => .inr (c, fs.map (tv ad))
def wsl (ad : Nat → Nat) (cA : Nat → ClassId) (n : Nat) (f : AH) : va_W := (List.range n).map fun k => (ad k, tE ad cA (f k))
theorem wsl_get {ad : Nat → Nat} {cA : Nat → ClassId} {n k : Nat} {f : AH} (h : k < n) : (wsl ad cA n f)[k]? = some (ad k, tE ad cA (f k)) := by
  simp [wsl, h]
theorem wsl_none {ad : Nat → Nat} {cA : Nat → ClassId} {n k : Nat} {f : AH} (h : n ≤ k) : (wsl ad cA n f)[k]? = none := by
  simp [wsl, h]
theorem wsl_set {ad : Nat → Nat} {cA : Nat → ClassId} {n k : Nat} {f : AH} {e : AE} (h : k < n) : (wsl ad cA n f).set k (ad k, tE ad cA e) = wsl ad cA n (va_up f k e) := by
  apply List.ext_getElem?
  intro i
  by_cases hi : i < n
  · rw [wsl_get hi]
    by_cases hk : i = k
    · subst hk
      rw [List.getElem?_set_self (by simp [wsl]; exact hi), up_s]
    · rw [List.getElem?_set_ne (Ne.symm hk), wsl_get hi, up_n _ _ hk]
  · rw [wsl_none (Nat.le_of_not_lt hi), List.getElem?_eq_none]
    simp [wsl]
    omega
theorem wsl_push {ad : Nat → Nat} {cA : Nat → ClassId} {n : Nat} {f : AH} {e : AE} : wsl ad cA n f ++ [(ad n, tE ad cA e)] = wsl ad cA (n + 1) (va_up f n e) := by
  apply List.ext_getElem?
  intro i
  by_cases hi : i < n
  · rw [wsl_get (by omega), List.getElem?_append_left (by simp [wsl]; exact hi), wsl_get hi, up_n _ _ (by omega)]
  · by_cases hk : i = n
    · subst hk
      rw [wsl_get (by omega), up_s, List.getElem?_append_right (by simp [wsl])]
      simp [wsl]
    · rw [wsl_none (by omega), List.getElem?_eq_none]
      simp [wsl]
      omega
theorem adr_lt {B b tK k : Nat} (h : k < 1000000) : adr B b tK k = B + k := by
  simp only [adr]
  rw [if_neg (by omega), if_neg (by omega)]
theorem wsl_D {B b tK n : Nat} {cA : Nat → ClassId} {f : AH} (hn : n ≤ 1000000) : va_D (fun q => B ≤ q) (wsl (adr B b tK) cA n f) := by
  refine ⟨fun i j p q hi hj hpq => ?_, fun k q hk => ?_⟩
  · have h1 : i < n := by
      apply Classical.byContradiction
      intro h
      rw [wsl_none (by omega)] at hi
      cases hi
    have h2 : j < n := by
      apply Classical.byContradiction
      intro h
      rw [wsl_none (by omega)] at hj
      cases hj
    rw [wsl_get h1] at hi
    rw [wsl_get h2] at hj
    cases hi
    cases hj
    simp only [adr_lt (show i < 1000000 by omega), adr_lt (show j < 1000000 by omega)] at hpq
    omega
  · have h1 : k < n := by
      apply Classical.byContradiction
      intro h
      rw [wsl_none (by omega)] at hk
      cases hk
    rw [wsl_get h1] at hk
    cases hk
    simp only [adr_lt (show k < 1000000 by omega)]
    omega
def letters : Nat → Int32 := fun j => ([114, 112, 115, 102, 116, 118] : List Int32).getD j 0
def classes : List vw_C := (List.range 11).map fun c => (clsN c, TF c, (kds c).length)
theorem classes_get {c : Nat} (h : c < 11) : classes[c]? = some (clsN c, TF c, (kds c).length) := by
  simp [classes, h]
def tysl (cA : Nat → ClassId) : List (ClassId × FieldType) := [(cA 0, .int), (cA 1, .long), (cA 2, .boolean), (cA 3, .object "BumpMap$Cells"), (cA 4, .object "BumpMap$Drive")]
def Rp (B b tK L : Nat) (xs : Nat → Int32) (cA : Nat → ClassId) (D : va_G) (z : AZ) (f : AH) (H : Heap) : Prop :=
  H.size = B + z.1 ∧ va_P D classes (wsl (adr B b tK) cA z.1 f) H ∧ z.1 ≤ 600000 ∧ (∀ k, k < z.1 → ∀ t n w, f k = .inl (t, n, w) → t < 5) ∧ (∀ k, z.1 ≤ k → k ≠ 1000000 → k ≠ 1000001 → f k = vd) ∧ f 1000000 = cA9 L xs ∧ f 1000001 = cA9 6 letters
def GW : List Cond := lw_tbl.filter goodWord
theorem gw_in {w : Cond} (h : w ∈ lw_tbl) (hg : goodWord w = true) : w ∈ GW := List.mem_filter.mpr ⟨h, hg⟩
def Ks (B b tK L : Nat) (xs : Nat → Int32) (cA : Nat → ClassId) (D : va_G) (U : State) : Prop :=
  va_K D classes (tysl cA) U ∧ (∀ q ∈ neT, va_Nw (.methodLinkNest (clsN q.1) q.2.1 (mY q.2.2.1) "BumpMap") U) ∧ va_Nw (.fieldLinkNest "BumpMap$Reader" 66 "BumpMap" "KIND_LETTERS" "[I" "BumpMap") U ∧ va_AO "BumpMap$Cells" U ∧ va_AO "BumpMap$Drive" U ∧
  va_Z "BumpMap" "KIND_LETTERS" "[I" (.ref tK) (fun q => B ≤ q) U U.heap ∧ va_T .int tK 6 (fun j => .int (letters j)) (fun q => B ≤ q) U U.heap ∧ va_X b L xs U U.heap ∧ b < B ∧ B ≤ U.heap.size
theorem Ks.moved {B b tK L : Nat} {xs : Nat → Int32} {cA : Nat → ClassId} {D : va_G} {s U : State} {H : Heap} {locs : List Loc} (h : Ks B b tK L xs cA D s) (hS : va_S (fun q => B ≤ q) s.heap H locs) (hU : U.heap = H) (hW : s.WarmedH U.vm) : Ks B b tK L xs cA D U := by
  obtain ⟨h1, h2, h3, h4, h5, h6, h7, h8, h9, h10⟩ := h
  have hk : ∀ a : Nat, a < s.heap.size → ¬ B ≤ a → U.heap[a]? = s.heap[a]? := fun a q1 q2 => by rw [hU]; exact hS.2.1 a q1 q2
  refine ⟨h1.moved hW.alike, fun q hq => va_Nw.warmM hW (h2 q hq), va_Nw.warmF hW h3, h4.moved hW.alike, h5.moved hW.alike, (h6.kept hk).moved hW.alike, (h7.kept hk).moved hW.alike, ?_, h9, by rw [hU]; exact Nat.le_trans h10 hS.1⟩
  exact (h8.kept (hk b (by omega) (by omega))).moved hW.alike
/-- locals -/
def lp (ad : Nat → Nat) : Nat → AL → List (Nat × Value)
  | _, [] => []
  | i, some v :: r => (i, tv ad v) :: lp ad (i + 1) r
  | i, none :: r => lp ad (i + 1) r
theorem lp_mem {ad : Nat → Nat} : ∀ (ls : AL) (i j : Nat) (w : Value), (j, w) ∈ lp ad i ls → ∃ v, i ≤ j ∧ lget ls (j - i) = some v ∧ w = tv ad v
  | [], _, _, _, h => by cases h
  | some v :: r, i, j, w, h => by
    rcases List.mem_cons.mp h with h | h
    · cases h
      exact ⟨v, Nat.le_refl _, by rw [Nat.sub_self]; rfl, rfl⟩
    · obtain ⟨v', h1, h2, h3⟩ := lp_mem r (i + 1) j w h
      refine ⟨v', by omega, ?_, h3⟩
      rw [show j - i = (j - (i + 1)) + 1 by omega]
      exact h2
  | none :: r, i, j, w, h => by
    obtain ⟨v', h1, h2, h3⟩ := lp_mem r (i + 1) j w h
    refine ⟨v', by omega, ?_, h3⟩
    rw [show j - i = (j - (i + 1)) + 1 by omega]
    exact h2
theorem lp_in {ad : Nat → Nat} : ∀ (ls : AL) (i j : Nat) (v : Value), lget ls j = some v → (i + j, tv ad v) ∈ lp ad i ls
  | [], _, _, _, h => by cases h
  | some w :: r, i, 0, v, h => by
    have h : some w = some v := h
    cases h
    exact List.mem_cons_self
  | none :: r, i, 0, v, h => by cases h
  | some w :: r, i, j + 1, v, h => by
    have := lp_in (ad := ad) r (i + 1) j v h
    rw [show i + (j + 1) = i + 1 + j by omega]
    exact List.mem_cons_of_mem _ this
  | none :: r, i, j + 1, v, h => by
    have := lp_in (ad := ad) r (i + 1) j v h
    rw [show i + (j + 1) = i + 1 + j by omega]
    exact this
def LvR (ad : Nat → Nat) (ls : AL) (a : Array Slot) (nL : Nat) : Prop := lv_has a nL (lp ad 0 ls)
theorem LvR.get {ad : Nat → Nat} {ls : AL} {a : Array Slot} {nL i : Nat} {v : Value} (h : LvR ad ls a nL) (hv : lget ls i = some v) : a[i]? = some (.val (tv ad v)) := by
  have := lp_in (ad := ad) ls 0 i v hv
  rw [Nat.zero_add] at this
  exact h.2.2 _ this
theorem LvR.sub {ad : Nat → Nat} {ls ls' : AL} {a : Array Slot} {nL : Nat} (h : LvR ad ls a nL) (hs : ∀ j v, lget ls' j = some v → lget ls j = some v) : LvR ad ls' a nL := by
  refine ⟨h.1, h.2.1, fun q hq => ?_⟩
  obtain ⟨j, w⟩ := q
  obtain ⟨v, h1, h2, h3⟩ := lp_mem ls' 0 j w hq
  have h4 := h.get (hs _ _ h2)
  rw [h3]
  exact h4
theorem tv_cat {ad : Nat → Nat} (v : Value) : (tv ad v).category = v.category := by cases v <;> rfl
theorem nl_some {o : Option Value} {v : Value} (h : nl o = some v) : o = some v ∧ v.category = 1 := by
  cases o with
  | none => cases h
  | some w => cases w <;> first | (cases h; exact ⟨rfl, rfl⟩) | cases h
theorem lset_get : ∀ (ls : AL) (i : Nat) (x : Value) (j : Nat) (v : Value), lget (lset ls i x) j = some v → (j = i ∧ v = x) ∨ (j ≠ i ∧ lget ls j = some v ∧ (j + 1 = i → v.category = 1))
  | [], 0, x, j, v, h => by
    cases j with
    | zero => exact Or.inl ⟨rfl, (Option.some.inj h).symm⟩
    | succ j => cases h
  | [], i + 1, x, j, v, h => by
    cases j with
    | zero => cases h
    | succ j =>
      have h : lget (lset [] i x) j = some v := h
      rcases lset_get [] i x j v h with ⟨h1, h2⟩ | ⟨_, h2, _⟩
      · exact Or.inl ⟨by omega, h2⟩
      · cases h2
  | a :: r, 0, x, j, v, h => by
    cases j with
    | zero => exact Or.inl ⟨rfl, (Option.some.inj h).symm⟩
    | succ j => exact Or.inr ⟨by omega, h, fun q => by omega⟩
  | a :: r, 1, x, j, v, h => by
    cases j with
    | zero =>
      have h : nl a = some v := h
      obtain ⟨h1, h2⟩ := nl_some h
      exact Or.inr ⟨by omega, h1, fun _ => h2⟩
    | succ j =>
      have h : lget (lset r 0 x) j = some v := h
      rcases lset_get r 0 x j v h with ⟨h1, h2⟩ | ⟨h1, h2, h3⟩
      · exact Or.inl ⟨by omega, h2⟩
      · exact Or.inr ⟨by omega, h2, fun q => by omega⟩
  | a :: r, i + 2, x, j, v, h => by
    cases j with
    | zero => exact Or.inr ⟨by omega, h, fun q => by omega⟩
    | succ j =>
      have h : lget (lset r (i + 1) x) j = some v := h
      rcases lset_get r (i + 1) x j v h with ⟨h1, h2⟩ | ⟨h1, h2, h3⟩
      · exact Or.inl ⟨by omega, h2⟩
      · exact Or.inr ⟨by omega, h2, fun q => h3 (by omega)⟩
theorem lclr_get : ∀ (ls : AL) (i j : Nat) (v : Value), lget (lclr ls i) j = some v → j ≠ i ∧ lget ls j = some v
  | [], 0, j, v, h => by
    cases j with
    | zero => cases h
    | succ j => cases h
  | [], i + 1, j, v, h => by cases h
  | a :: r, 0, j, v, h => by
    cases j with
    | zero => cases h
    | succ j => exact ⟨by omega, h⟩
  | a :: r, i + 1, j, v, h => by
    cases j with
    | zero => exact ⟨by omega, h⟩
    | succ j =>
      obtain ⟨h1, h2⟩ := lclr_get r i j v h
      exact ⟨by omega, h2⟩
theorem take_get : ∀ (ls : AL) (n j : Nat) (v : Value), lget (ls.take n) j = some v → lget ls j = some v
  | [], n, j, v, h => by rw [List.take_nil] at h; cases h
  | a :: r, 0, j, v, h => by cases h
  | a :: r, n + 1, 0, v, h => h
  | a :: r, n + 1, j + 1, v, h => take_get r n j v h
theorem LvR.set1 {ad : Nat → Nat} {ls : AL} {i : Nat} {x : Value} {a : Array Slot} {nL : Nat} (h : lv_has a nL ((i, tv ad x) :: (lp ad 0 ls).filter (fun q => !(q.1 == i) && !(q.1 + 1 == i && q.2.category == 2)))) : LvR ad (lset ls i x) a nL := by
  refine ⟨h.1, h.2.1, fun q hq => ?_⟩
  obtain ⟨j, w⟩ := q
  obtain ⟨v, h1, h2, h3⟩ := lp_mem _ 0 j w hq
  rw [Nat.sub_zero] at h2
  refine h.2.2 _ ?_
  rcases lset_get ls i x j v h2 with ⟨e1, e2⟩ | ⟨e1, e2, e3⟩
  · rw [h3, e1, e2]
    exact List.mem_cons_self
  · have h4 := lp_in (ad := ad) ls 0 j v e2
    rw [Nat.zero_add] at h4
    rw [h3]
    refine List.mem_cons_of_mem _ (List.mem_filter.mpr ⟨h4, ?_⟩)
    simp only [tv_cat]
    by_cases hj : j + 1 = i
    · simp [e1, e3 hj]
    · simp [e1, hj]
theorem LvR.set2 {ad : Nat → Nat} {ls : AL} {i : Nat} {x : Value} {a : Array Slot} {nL : Nat} (h : lv_has a nL ((i, tv ad x) :: (lp ad 0 ls).filter (fun q => !(q.1 == i) && (!(q.1 == i + 1) && !(q.1 + 1 == i && q.2.category == 2))))) : LvR ad (lclr (lset ls i x) (i + 1)) a nL := by
  refine ⟨h.1, h.2.1, fun q hq => ?_⟩
  obtain ⟨j, w⟩ := q
  obtain ⟨v, h1, h2, h3⟩ := lp_mem _ 0 j w hq
  rw [Nat.sub_zero] at h2
  obtain ⟨h5, h2⟩ := lclr_get _ _ _ _ h2
  refine h.2.2 _ ?_
  rcases lset_get ls i x j v h2 with ⟨e1, e2⟩ | ⟨e1, e2, e3⟩
  · rw [h3, e1, e2]
    exact List.mem_cons_self
  · have h4 := lp_in (ad := ad) ls 0 j v e2
    rw [Nat.zero_add] at h4
    rw [h3]
    refine List.mem_cons_of_mem _ (List.mem_filter.mpr ⟨h4, ?_⟩)
    simp only [tv_cat]
    by_cases hj : j + 1 = i
    · simp [e1, h5, e3 hj]
    · simp [e1, h5, hj]

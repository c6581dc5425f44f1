/-! cells: what the tables say of the classes; a changed cell, a new one -/
theorem uws_pos : ((List.range 11).all fun a => (List.range (kds a).length).all fun k => (laT.map fun q => (q.1, q.2.1)).contains (a, k)) = true := by decide +kernel
theorem good_lay (C : String) (T : u_T) (k : Nat) : goodWord (u_lay C T k) = true := by
  unfold u_lay
  split <;> rfl
theorem uws_in {a : Nat} (ha : a < 11) : ∀ w ∈ u_ws (clsN a) (TF a) (kds a).length, w ∈ GW := by
  intro w hw
  obtain ⟨k, hk, rfl⟩ := List.mem_map.mp hw
  have h1 := List.all_eq_true.mp (List.all_eq_true.mp uws_pos a (List.mem_range.mpr ha)) k hk
  obtain ⟨q, hq, e⟩ := List.mem_map.mp (List.contains_iff_mem.mp h1)
  have h2 := List.all_eq_true.mp laT_ok q hq
  obtain ⟨q1, q2, q3⟩ := q
  cases e
  exact gw_in (wAt_mem h2) (good_lay _ _ _)
def tyO (a k : Nat) : FieldType := (parseFieldDescriptor (TF a k).2.2.1).getD .int
theorem tyO_pos : ((List.range 11).all fun a => (List.range (kds a).length).all fun k => decide (parseFieldDescriptor (TF a k).2.2.1 = some (tyO a k))) = true := by decide +kernel
theorem tyO_ok {a : Nat} (ha : a < 11) : ∀ k, k < (kds a).length → parseFieldDescriptor (TF a k).2.2.1 = some (tyO a k) := fun k hk =>
  of_decide_eq_true (List.all_eq_true.mp (List.all_eq_true.mp tyO_pos a (List.mem_range.mpr ha)) k (List.mem_range.mpr hk))
def ndS : List String → Bool
  | [] => true
  | a :: l => decide (a ∉ l) && ndS l
theorem ndS_pos : ((List.range 11).all fun a => ndS ((fdl a).map Prod.fst) && decide ((fdl a).length = (kds a).length)) = true := by decide +kernel
theorem ndS_inj : ∀ (l : List String), ndS l = true → ∀ (i j : Nat) (x : String), l[i]? = some x → l[j]? = some x → i = j
  | [], _, i, j, x, h, _ => by simp at h
  | b :: l, hn, i, j, x, h1, h2 => by
    simp only [ndS, Bool.and_eq_true, decide_eq_true_eq] at hn
    cases i with
    | zero =>
      cases j with
      | zero => rfl
      | succ j =>
        rw [List.getElem?_cons_zero] at h1
        rw [List.getElem?_cons_succ] at h2
        cases h1
        exact absurd (List.mem_of_getElem? h2) hn.1
    | succ i =>
      rw [List.getElem?_cons_succ] at h1
      cases j with
      | zero =>
        rw [List.getElem?_cons_zero] at h2
        cases h2
        exact absurd (List.mem_of_getElem? h1) hn.1
      | succ j =>
        rw [List.getElem?_cons_succ] at h2
        rw [ndS_inj l hn.2 i j x h1 h2]
theorem nm_ok {a : Nat} (ha : a < 11) : ∀ x, x < (kds a).length → ∀ y, y < (kds a).length → x ≠ y → (TF a x).2.1 ≠ (TF a y).2.1 := by
  have h := List.all_eq_true.mp ndS_pos a (List.mem_range.mpr ha)
  simp only [Bool.and_eq_true, decide_eq_true_eq] at h
  have key : ∀ x, x < (kds a).length → ((fdl a).map Prod.fst)[x]? = some (TF a x).2.1 := by
    intro x hx
    have hx' : x < (fdl a).length := by omega
    simp [TF, hx']
  intro x hx y hy hne e
  exact hne (ndS_inj _ h.1 x y _ (key x hx) (by rw [e]; exact key y hy))
def kok (k : Nat) (ty : FieldType) : Bool := match k, ty with
  | 0, .int => true
  | 1, .boolean => true
  | 2, .long => true
  | 3, .object _ => true
  | 3, .array _ => true
  | _, _ => false
theorem kok_pos : ((List.range 11).all fun a => (List.range (kds a).length).all fun k => kok (kdf a k) (tyO a k)) = true := by decide +kernel
theorem kok_ok {a k : Nat} (ha : a < 11) (hk : k < (kds a).length) : kok (kdf a k) (tyO a k) = true :=
  List.all_eq_true.mp (List.all_eq_true.mp kok_pos a (List.mem_range.mpr ha)) k (List.mem_range.mpr hk)
theorem okf_fits {ad : Nat → Nat} {k : Nat} {ty : FieldType} {v : Value} (h : kok k ty = true) (hv : okf k v = true) : narrow ty (tv ad v) = tv ad v ∧ fits ty (tv ad v) = true := by
  unfold kok at h
  split at h
  · cases v <;> first | exact ⟨rfl, rfl⟩ | cases hv
  · cases v <;> first | cases hv | skip
    rename_i x
    have hv : (x == 0 || x == 1) = true := hv
    rcases Bool.or_eq_true_iff.mp hv with h | h
    · rw [eq_of_beq h]; exact ⟨rfl, rfl⟩
    · rw [eq_of_beq h]; exact ⟨rfl, rfl⟩
  · cases v <;> first | exact ⟨rfl, rfl⟩ | cases hv
  · cases v <;> first | exact ⟨rfl, rfl⟩ | cases hv
  · cases v <;> first | exact ⟨rfl, rfl⟩ | cases hv
  · cases h
theorem kds_big {a : Nat} (h : ¬ a < 11) : kds a = [] := by
  unfold kds
  split <;> first | rfl | omega
section
variable {B b tK L : Nat} {xs : Nat → Int32} {cA : Nat → ClassId} {D : va_G} {z : AZ} {f : AH} {H : Heap}
theorem Rp.lt (h : Rp B b tK L xs cA D z f H) {x : Nat} (h1 : f x ≠ vd) (h2 : ∀ n w, f x ≠ .inl (9, n, w)) : x < z.1 := by
  obtain ⟨-, -, -, -, h5, h6, h7⟩ := h
  apply Classical.byContradiction
  intro hx
  by_cases e1 : x = 1000000
  · subst e1
    exact h2 _ _ h6
  · by_cases e2 : x = 1000001
    · subst e2
      exact h2 _ _ h7
    · exact h1 (h5 x (by omega) e1 e2)
theorem Rp.at (h : Rp B b tK L xs cA D z f H) {x : Nat} (hx : x < z.1) : va_at D classes (adr B b tK x, tE (adr B b tK) cA (f x)) H := h.2.1 x _ (wsl_get hx)
theorem Rp.upd (h : Rp B b tK L xs cA D z f H) {x : Nat} (hx : x < z.1) {e : AE} {H1 : Heap} (hz : H1.size = H.size) (hq : ∀ q, q ≠ adr B b tK x → H1[q]? = H[q]?) (ha : va_at D classes (adr B b tK x, tE (adr B b tK) cA e) H1) (h9 : ∀ t n w, e = .inl (t, n, w) → t < 5) : Rp B b tK L xs cA D z (va_up f x e) H1 := by
  obtain ⟨h1, h2, h3, h4, h5, h6, h7⟩ := h
  refine ⟨by rw [hz]; exact h1, ?_, h3, fun k hk t n w hw => ?_, fun k k1 k2 k3 => ?_, ?_, ?_⟩
  · rw [← wsl_set hx]
    exact h2.set (wsl_D (by omega)) (wsl_get hx) ha hq
  · by_cases e : k = x
    · subst e
      rw [up_s] at hw
      exact h9 t n w hw
    · rw [up_n _ _ e] at hw
      exact h4 k hk t n w hw
  · rw [up_n _ _ (by omega)]
    exact h5 k k1 k2 k3
  · rw [up_n _ _ (by omega)]
    exact h6
  · rw [up_n _ _ (by omega)]
    exact h7
theorem Rp.push (h : Rp B b tK L xs cA D z f H) {n : Nat} {e : AE} {H1 : Heap} (hz : H1.size = H.size + 1) (hq : ∀ q, q < H.size → H1[q]? = H[q]?) (ha : va_at D classes (adr B b tK z.1, tE (adr B b tK) cA e) H1) (h9 : ∀ t n w, e = .inl (t, n, w) → t < 5) (hm : z.1 + 1 ≤ 600000) : Rp B b tK L xs cA D (z.1 + 1, n) (va_up f z.1 e) H1 := by
  obtain ⟨h1, h2, h3, h4, h5, h6, h7⟩ := h
  refine ⟨by rw [hz, h1]; show B + z.1 + 1 = B + (z.1 + 1); omega, ?_, hm, fun k hk t n w hw => ?_, fun k k1 k2 k3 => ?_, ?_, ?_⟩
  · show va_P D classes (wsl (adr B b tK) cA (z.1 + 1) (va_up f z.1 e)) H1
    rw [← wsl_push]
    refine (h2.kept (fun k q hk => hq _ ((h2 k q hk).lt))).app (fun k q hk => ?_)
    have hz : k < 1 := (List.getElem?_eq_some_iff.mp hk).1
    rw [show k = 0 by omega] at hk
    cases hk
    exact ha
  · have hk : k < z.1 + 1 := hk
    by_cases e : k = z.1
    · subst e
      rw [up_s] at hw
      exact h9 t n w hw
    · rw [up_n _ _ e] at hw
      exact h4 k (by omega) t n w hw
  · have k1 : z.1 + 1 ≤ k := k1
    rw [up_n _ _ (by omega)]
    exact h5 k (by omega) k2 k3
  · rw [up_n _ _ (by omega)]
    exact h6
  · rw [up_n _ _ (by omega)]
    exact h7
end
theorem gf_spec {e : AE} {a w : Nat} {v : Value} (h : gf e a w = some v) : ∃ fs, e = .inr (a, fs) ∧ fs[w]? = some v := by
  unfold gf at h
  split at h
  · rename_i c fs
    by_cases q : c = a
    · rw [if_pos q] at h
      subst q
      exact ⟨fs, rfl, h⟩
    · rw [if_neg q] at h
      cases h
  · cases h
theorem pf_spec {e e' : AE} {a w : Nat} {v : Value} (h : pf e a w v = some e') : ∃ fs, e = .inr (a, fs) ∧ okf (kdf a w) v = true ∧ w < fs.length ∧ e' = .inr (a, fs.set w v) := by
  unfold pf at h
  split at h
  · rename_i c fs
    by_cases q : c = a ∧ okf (kdf a w) v = true ∧ w < fs.length
    · rw [if_pos q] at h
      obtain ⟨q1, q2, q3⟩ := q
      subst q1
      cases h
      exact ⟨fs, rfl, q2, q3, rfl⟩
    · rw [if_neg q] at h
      cases h
  · cases h
theorem ia_spec {e : AE} {i : Int32} {v : Value} (h : ia e i = some v) : ∃ t n g, e = .inl (t, n, .inl g) ∧ (t = 0 ∨ t = 9) ∧ inb i n ∧ v = .int (g i.toNatClampNeg) := by
  unfold ia at h
  split at h
  · rename_i t n g
    by_cases q : (t = 0 ∨ t = 9) ∧ inb i n
    · rw [if_pos q] at h
      cases h
      exact ⟨t, n, g, rfl, q.1, q.2, rfl⟩
    · rw [if_neg q] at h
      cases h
  · cases h
theorem is_spec {e e' : AE} {i x : Int32} (h : is e i x = some e') : ∃ n g, e = .inl (0, n, .inl g) ∧ inb i n ∧ e' = .inl (0, n, .inl (upd g i.toNatClampNeg x)) := by
  unfold is at h
  split at h
  · rename_i t n g
    by_cases q : t = 0 ∧ inb i n
    · rw [if_pos q] at h
      cases h
      obtain ⟨rfl, q⟩ := q
      exact ⟨n, g, rfl, q, rfl⟩
    · rw [if_neg q] at h
      cases h
  · cases h
theorem la_spec {e : AE} {i : Int32} {v : Value} (h : la e i = some v) : ∃ n g, e = .inl (1, n, .inr (.inl g)) ∧ inb i n ∧ v = .long (g i.toNatClampNeg) := by
  unfold la at h
  split at h
  · rename_i t n g
    by_cases q : t = 1 ∧ inb i n
    · rw [if_pos q] at h
      cases h
      obtain ⟨rfl, q⟩ := q
      exact ⟨n, g, rfl, q, rfl⟩
    · rw [if_neg q] at h
      cases h
  · cases h
theorem lst_spec {e e' : AE} {i : Int32} {x : Int64} (h : lst e i x = some e') : ∃ n g, e = .inl (1, n, .inr (.inl g)) ∧ inb i n ∧ e' = .inl (1, n, .inr (.inl (vp_updL g i.toNatClampNeg x))) := by
  unfold lst at h
  split at h
  · rename_i t n g
    by_cases q : t = 1 ∧ inb i n
    · rw [if_pos q] at h
      cases h
      obtain ⟨rfl, q⟩ := q
      exact ⟨n, g, rfl, q, rfl⟩
    · rw [if_neg q] at h
      cases h
  · cases h
theorem qa_spec {e : AE} {i : Int32} {v : Value} (h : qa e i = some v) : ∃ t n g y, e = .inl (t, n, .inr (.inr (.inr (.inr g)))) ∧ (t = 3 ∨ t = 4) ∧ inb i n ∧ g i.toNatClampNeg = some y ∧ v = .ref y := by
  unfold qa at h
  split at h
  · rename_i t n g
    by_cases q : (t = 3 ∨ t = 4) ∧ inb i n
    · rw [if_pos q] at h
      cases hg : g i.toNatClampNeg with
      | none => rw [hg] at h; cases h
      | some y =>
        rw [hg] at h
        cases h
        exact ⟨t, n, g, y, rfl, q.1, q.2, hg, rfl⟩
    · rw [if_neg q] at h
      cases h
  · cases h
theorem qs_spec {e w e' : AE} {i : Int32} {y : Nat} (h : qs e w i y = some e') : ∃ t n g c fs, e = .inl (t, n, .inr (.inr (.inr (.inr g)))) ∧ w = .inr (c, fs) ∧ (t = 3 ∧ c = 0 ∨ t = 4 ∧ c = 2) ∧ inb i n ∧ e' = .inl (t, n, .inr (.inr (.inr (.inr (va_up g i.toNatClampNeg (some y)))))) := by
  unfold qs at h
  split at h
  · rename_i t n g c fs
    by_cases q : (t = 3 ∧ c = 0 ∨ t = 4 ∧ c = 2) ∧ inb i n
    · rw [if_pos q] at h
      cases h
      exact ⟨t, n, g, c, fs, rfl, rfl, q.1, q.2, rfl⟩
    · rw [if_neg q] at h
      cases h
  · cases h
theorem za_spec {e : AE} {i : Int32} {v : Value} (h : za e i = some v) : ∃ n g, e = .inl (2, n, .inl g) ∧ inb i n ∧ v = .int (g i.toNatClampNeg) := by
  unfold za at h
  split at h
  · rename_i t n g
    by_cases q : t = 2 ∧ inb i n
    · rw [if_pos q] at h
      cases h
      obtain ⟨rfl, q⟩ := q
      exact ⟨n, g, rfl, q, rfl⟩
    · rw [if_neg q] at h
      cases h
  · cases h
theorem zs_spec {e e' : AE} {i x : Int32} (h : zs e i x = some e') : ∃ n g, e = .inl (2, n, .inl g) ∧ (x = 0 ∨ x = 1) ∧ inb i n ∧ e' = .inl (2, n, .inl (upd g i.toNatClampNeg x)) := by
  unfold zs at h
  split at h
  · rename_i t n g
    by_cases q : t = 2 ∧ (x = 0 ∨ x = 1) ∧ inb i n
    · rw [if_pos q] at h
      cases h
      obtain ⟨rfl, q1, q2⟩ := q
      exact ⟨n, g, rfl, q1, q2, rfl⟩
    · rw [if_neg q] at h
      cases h
  · cases h
theorem cpy_spec {e w e' : AE} {sp dp n : Int32} (h : cpy e w sp dp n = some e') : ∃ n0 g0 n1 g1, e = .inl (0, n0, .inl g0) ∧ w = .inl (0, n1, .inl g1) ∧ ¬ sp < 0 ∧ ¬ dp < 0 ∧ ¬ n < 0 ∧ sp.toNatClampNeg + n.toNatClampNeg ≤ n0 ∧ dp.toNatClampNeg + n.toNatClampNeg ≤ n1 ∧ e' = .inl (0, n1, .inl (va_cpy g0 g1 sp.toNatClampNeg dp.toNatClampNeg n.toNatClampNeg)) := by
  unfold cpy at h
  split at h
  · rename_i t0 n0 g0 t1 n1 g1
    by_cases q : t0 = 0 ∧ t1 = 0 ∧ ¬ sp < 0 ∧ ¬ dp < 0 ∧ ¬ n < 0 ∧ sp.toNatClampNeg + n.toNatClampNeg ≤ n0 ∧ dp.toNatClampNeg + n.toNatClampNeg ≤ n1
    · rw [if_pos q] at h
      cases h
      obtain ⟨rfl, rfl, q1, q2, q3, q4, q5⟩ := q
      exact ⟨n0, g0, n1, g1, rfl, rfl, q1, q2, q3, q4, q5, rfl⟩
    · rw [if_neg q] at h
      cases h
  · cases h

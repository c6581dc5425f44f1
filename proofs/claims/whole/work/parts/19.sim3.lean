/-! one instruction: arrays, new cells -/
section
variable {p : Program} {l : Launch} {e : Env} {R : Room} {s : State} {m : MethodId} {args : Array Value} {below : List Frame} {meth : Method} {c : Code} {j B b tK L : Nat} {xs : Nat → Int32} {cA : Nat → ClassId} {D : va_G} {z0 : AZ} {Q : State → Prop} {pc nx : Nat} {ls : AL} {r : List Value} {z : AZ} {f : AH} {a w : Nat} {k : Int} {t : List Nat} {H : Heap}
theorem Rp.arr (h : Rp B b tK L xs cA D z f H) {x t n : Nat} {w : (Nat → Int32) ⊕ (Nat → Int64) ⊕ (Nat → UInt32) ⊕ (Nat → UInt64) ⊕ (Nat → Option Nat)} (e : f x = .inl (t, n, w)) : (x < z.1 ∧ t < 5) ∨ (x = 1000000 ∧ t = 9 ∧ n = L ∧ w = .inl xs) ∨ (x = 1000001 ∧ t = 9 ∧ n = 6 ∧ w = .inl letters) := by
  obtain ⟨-, -, -, h4, h5, h6, h7⟩ := h
  by_cases hx : x < z.1
  · exact Or.inl ⟨hx, h4 x hx t n w e⟩
  · by_cases e1 : x = 1000000
    · subst e1
      rw [h6] at e
      cases e
      exact Or.inr (Or.inl ⟨rfl, rfl, rfl, rfl⟩)
    · by_cases e2 : x = 1000001
      · subst e2
        rw [h7] at e
        cases e
        exact Or.inr (Or.inr ⟨rfl, rfl, rfl, rfl⟩)
      · rw [h5 x (by omega) e1 e2] at e
        cases e
theorem tE_inl (ad : Nat → Nat) (t n : Nat) (w : (Nat → Int32) ⊕ (Nat → Int64) ⊕ (Nat → UInt32) ⊕ (Nat → UInt64) ⊕ (Nat → Option Nat)) : ∃ w', tE ad cA (.inl (t, n, w)) = .inl (cA t, n, w') := by
  rcases w with g | g | g | g | g <;> exact ⟨_, rfl⟩
theorem tysl_get {t : Nat} (h : t < 5) : ∃ ty, (tysl cA)[t]? = some (cA t, ty) := by
  match t, h with
  | 0, _ => exact ⟨_, rfl⟩
  | 1, _ => exact ⟨_, rfl⟩
  | 2, _ => exact ⟨_, rfl⟩
  | 3, _ => exact ⟨_, rfl⟩
  | 4, _ => exact ⟨_, rfl⟩
theorem adr_s : adr B b tK 1000000 = b := if_pos rfl
theorem adr_k : adr B b tK 1000001 = tK := by
  unfold adr
  rw [if_neg (by omega), if_pos rfl]
theorem Rp.geB (h : Rp B b tK L xs cA D z f H) {x : Nat} (hx : x < z.1) : B ≤ adr B b tK x := by
  have := h.2.2.1
  rw [adr_lt (by omega)]
  omega
theorem m_62 (C : Cx p s m args meth c j B b tK L xs cA D) (ho : okb j pc (62, a, w, k, t) nx = true) (kk : Sm p l e R s m args below meth c j B b tK L xs cA D z0 Q nx ls (.ref 1000001 :: r) z f) : Sm p l e R s m args below meth c j B b tK L xs cA D z0 Q pc ls r z f := by
  obtain ⟨hx, hb, -, hown, hts, hK, -⟩ := C
  have ho := Bool.and_eq_true_iff.mp (show (dk j pc (.getstatic 66) 3 nx && decide (mC j = 5)) = true from ho)
  obtain ⟨hd, rfl⟩ := dk_spec ho.1
  have hj : mC j = 5 := of_decide_eq_true ho.2
  rw [hj] at hown
  have hown : s.vm.findClass "BumpMap$Reader" = some m.cls := hown
  obtain ⟨k1, k2, k3, k4, k5, k6, k7, k8, k9, k10⟩ := hK
  intro H locs la hR hS hL
  have K := kk H locs la hR hS hL
  have e1 : tv (adr B b tK) (.ref 1000001) = .ref tK := by show Value.ref (adr B b tK 1000001) = _; rw [adr_k]
  rw [List.map_cons, e1] at K
  exact va_getsN hx hb k6 hS hown (va_Nw.use rfl k3) (fun _ h => h) hd K
theorem m_63 {x : Nat} {v : Value} (C : Cx p s m args meth c j B b tK L xs cA D) (ho : okb j pc (63, a, w, k, t) nx = true) (h : al (f x) = some v) (kk : Sm p l e R s m args below meth c j B b tK L xs cA D z0 Q nx ls (v :: r) z f) : Sm p l e R s m args below meth c j B b tK L xs cA D z0 Q pc ls (.ref x :: r) z f := by
  obtain ⟨hx, hb, -, hown, hts, hK, -⟩ := C
  obtain ⟨hd, rfl⟩ := dk_spec ho
  obtain ⟨k1, k2, k3, k4, k5, k6, k7, k8, k9, k10⟩ := hK
  intro H locs la hR hS hL
  have K := kk H locs la hR hS hL
  unfold al at h
  split at h
  · rename_i tt n w' e1
    cases h
    rcases hR.arr e1 with ⟨q1, q2⟩ | ⟨rfl, -, rfl, -⟩ | ⟨rfl, -, rfl, -⟩
    · obtain ⟨ty, hty⟩ := tysl_get (cA := cA) q2
      have hws := wsl_get (ad := adr B b tK) (cA := cA) (f := f) q1
      rw [e1] at hws
      obtain ⟨w2, e2⟩ := tE_inl (cA := cA) (adr B b tK) tt n w'
      rw [e2] at hws
      exact va_alen hx hb k1 hR.2.1 x tt hws hty rfl hd K
    · have e2 : tv (adr B b tK) (.ref 1000000) = .ref b := by show Value.ref (adr B b tK 1000000) = _; rw [adr_s]
      rw [List.map_cons, e2]
      exact va_slen hx hb k8 (by omega) (Nat.not_le.mpr k9) hS hd K
    · have e2 : tv (adr B b tK) (.ref 1000001) = .ref tK := by show Value.ref (adr B b tK 1000001) = _; rw [adr_k]
      rw [List.map_cons, e2]
      exact va_tlen hx hb k7 hS rfl hd K
  · cases h
theorem m_64 {x : Nat} {i : Int32} {v : Value} (C : Cx p s m args meth c j B b tK L xs cA D) (ho : okb j pc (64, a, w, k, t) nx = true) (h : ia (f x) i = some v) (kk : Sm p l e R s m args below meth c j B b tK L xs cA D z0 Q nx ls (v :: r) z f) : Sm p l e R s m args below meth c j B b tK L xs cA D z0 Q pc ls (.int i :: .ref x :: r) z f := by
  obtain ⟨hx, hb, -, hown, hts, hK, -⟩ := C
  obtain ⟨hd, rfl⟩ := dk_spec ho
  obtain ⟨k1, k2, k3, k4, k5, k6, k7, k8, k9, k10⟩ := hK
  obtain ⟨tt, n, g, e1, e2, e3, rfl⟩ := ia_spec h
  intro H locs la hR hS hL
  have K := kk H locs la hR hS hL
  rcases hR.arr e1 with ⟨q1, q2⟩ | ⟨rfl, -, rfl, e4⟩ | ⟨rfl, -, rfl, e4⟩
  · have ht : tt = 0 := by omega
    subst ht
    have hws := wsl_get (ad := adr B b tK) (cA := cA) (f := f) q1
    rw [e1] at hws
    exact va_iald hx hb k1 hR.2.1 x 0 hws rfl e3 hd K
  · cases e4
    have e2 : tv (adr B b tK) (.ref 1000000) = .ref b := by show Value.ref (adr B b tK 1000000) = _; rw [adr_s]
    rw [List.map_cons, List.map_cons, e2]
    exact va_sld hx hb k8 (by omega) (Nat.not_le.mpr k9) hS e3 hd K
  · cases e4
    have e2 : tv (adr B b tK) (.ref 1000001) = .ref tK := by show Value.ref (adr B b tK 1000001) = _; rw [adr_k]
    rw [List.map_cons, List.map_cons, e2]
    exact va_ti hx hb k7 hS e3 rfl hd K
theorem lt_arr (h : Rp B b tK L xs cA D z f H) {x t n : Nat} {w : (Nat → Int32) ⊕ (Nat → Int64) ⊕ (Nat → UInt32) ⊕ (Nat → UInt64) ⊕ (Nat → Option Nat)} (e : f x = .inl (t, n, w)) (ht : t < 5) : x < z.1 := by
  rcases h.arr e with ⟨q1, -⟩ | ⟨-, q, -⟩ | ⟨-, q, -⟩
  · exact q1
  · omega
  · omega
theorem m_66 {x : Nat} {i : Int32} {v : Value} (C : Cx p s m args meth c j B b tK L xs cA D) (ho : okb j pc (66, a, w, k, t) nx = true) (h : la (f x) i = some v) (kk : Sm p l e R s m args below meth c j B b tK L xs cA D z0 Q nx ls (v :: r) z f) : Sm p l e R s m args below meth c j B b tK L xs cA D z0 Q pc ls (.int i :: .ref x :: r) z f := by
  obtain ⟨hx, hb, -, hown, hts, hK, -⟩ := C
  obtain ⟨hd, rfl⟩ := dk_spec ho
  obtain ⟨n, g, e1, e3, rfl⟩ := la_spec h
  intro H locs la hR hS hL
  have hws := wsl_get (ad := adr B b tK) (cA := cA) (f := f) (lt_arr hR e1 (by omega))
  rw [e1] at hws
  exact va_lald hx hb hK.1 hR.2.1 x 1 hws rfl e3 hd (kk H locs la hR hS hL)
theorem m_70 {x : Nat} {i : Int32} {v : Value} (C : Cx p s m args meth c j B b tK L xs cA D) (ho : okb j pc (70, a, w, k, t) nx = true) (h : za (f x) i = some v) (kk : Sm p l e R s m args below meth c j B b tK L xs cA D z0 Q nx ls (v :: r) z f) : Sm p l e R s m args below meth c j B b tK L xs cA D z0 Q pc ls (.int i :: .ref x :: r) z f := by
  obtain ⟨hx, hb, -, hown, hts, hK, -⟩ := C
  obtain ⟨hd, rfl⟩ := dk_spec ho
  obtain ⟨n, g, e1, e3, rfl⟩ := za_spec h
  intro H locs la hR hS hL
  have hws := wsl_get (ad := adr B b tK) (cA := cA) (f := f) (lt_arr hR e1 (by omega))
  rw [e1] at hws
  exact va_zald hx hb hK.1 hR.2.1 x 2 hws rfl e3 hd (kk H locs la hR hS hL)
theorem m_68 {x : Nat} {i : Int32} {v : Value} (C : Cx p s m args meth c j B b tK L xs cA D) (ho : okb j pc (68, a, w, k, t) nx = true) (h : qa (f x) i = some v) (kk : Sm p l e R s m args below meth c j B b tK L xs cA D z0 Q nx ls (v :: r) z f) : Sm p l e R s m args below meth c j B b tK L xs cA D z0 Q pc ls (.int i :: .ref x :: r) z f := by
  obtain ⟨hx, hb, -, hown, hts, hK, -⟩ := C
  obtain ⟨hd, rfl⟩ := dk_spec ho
  obtain ⟨tt, n, g, y, e1, e2, e3, e4, rfl⟩ := qa_spec h
  intro H locs la hR hS hL
  have hws := wsl_get (ad := adr B b tK) (cA := cA) (f := f) (lt_arr hR e1 (by omega))
  rw [e1] at hws
  have K := kk H locs la hR hS hL
  have e5 : tv (adr B b tK) (.ref y) = va_rf ((g i.toNatClampNeg).map (adr B b tK)) := by rw [e4]; rfl
  rw [List.map_cons, e5] at K
  rcases e2 with rfl | rfl
  · exact va_aldq hx hb hK.1 hR.2.1 x 3 hws rfl e3 hd K
  · exact va_aldq hx hb hK.1 hR.2.1 x 4 hws rfl e3 hd K
theorem m_65 {x : Nat} {i y : Int32} {e' : AE} (C : Cx p s m args meth c j B b tK L xs cA D) (ho : okb j pc (65, a, w, k, t) nx = true) (h : is (f x) i y = some e') (kk : Sm p l e R s m args below meth c j B b tK L xs cA D z0 Q nx ls r z (va_up f x e')) : Sm p l e R s m args below meth c j B b tK L xs cA D z0 Q pc ls (.int y :: .int i :: .ref x :: r) z f := by
  obtain ⟨hx, hb, -, hown, hts, hK, -⟩ := C
  obtain ⟨hd, rfl⟩ := dk_spec ho
  obtain ⟨n, g, e1, e3, rfl⟩ := is_spec h
  intro H locs la hR hS hL
  have hlt := lt_arr hR e1 (by omega)
  have hc := hR.at hlt
  rw [e1] at hc
  refine W.iast hx hb (show H[adr B b tK x]? = some (vp_cell (cA 0) (n, .inl g)) from hc) ((hK.1.2 0 (cA 0, .int) rfl).1 n (fun j => .int (g j))) (fun q => by cases q) (by show ¬ (i < 0 ∨ (arrV _ _ _).slots.size ≤ _); rw [arrV_size]; exact e3) rfl rfl hd fun H1 ee zz oq => ?_
  refine kk H1 _ la (hR.upd hlt zz oq ?_ (fun t n w h => by cases h; omega)) (hS.put zz oq (hR.geB hlt)) hL
  show H1[adr B b tK x]? = some (vp_cell (cA 0) (n, .inl (upd g i.toNatClampNeg y)))
  rw [ee, vp_cell_i, vp_cell_i, arrV_store]
  congr 2
  funext q
  by_cases hq : q = i.toNatClampNeg
  · subst hq
    simp [updV, upd]
  · simp [updV, upd, hq]
theorem m_71 {x : Nat} {i y : Int32} {e' : AE} (C : Cx p s m args meth c j B b tK L xs cA D) (ho : okb j pc (71, a, w, k, t) nx = true) (h : zs (f x) i y = some e') (kk : Sm p l e R s m args below meth c j B b tK L xs cA D z0 Q nx ls r z (va_up f x e')) : Sm p l e R s m args below meth c j B b tK L xs cA D z0 Q pc ls (.int y :: .int i :: .ref x :: r) z f := by
  obtain ⟨hx, hb, -, hown, hts, hK, -⟩ := C
  obtain ⟨hd, rfl⟩ := dk_spec ho
  obtain ⟨n, g, e1, e2, e3, rfl⟩ := zs_spec h
  intro H locs la hR hS hL
  have hlt := lt_arr hR e1 (by omega)
  have hc := hR.at hlt
  rw [e1] at hc
  refine W.zast hx hb (show H[adr B b tK x]? = some (vp_cell (cA 2) (n, .inl g)) from hc) ((hK.1.2 2 (cA 2, .boolean) rfl).1 n (fun j => .int (g j))) (fun q => by cases q) (by show ¬ (i < 0 ∨ (arrV _ _ _).slots.size ≤ _); rw [arrV_size]; exact e3) rfl rfl hd fun H1 ee zz oq => ?_
  refine kk H1 _ la (hR.upd hlt zz oq ?_ (fun t n w h => by cases h; omega)) (hS.put zz oq (hR.geB hlt)) hL
  have hy : narrow .boolean (.int y) = .int y := by rcases e2 with rfl | rfl <;> rfl
  show H1[adr B b tK x]? = some (vp_cell (cA 2) (n, .inl (upd g i.toNatClampNeg y)))
  rw [ee, hy, vp_cell_i, vp_cell_i, arrV_store]
  congr 2
  funext q
  by_cases hq : q = i.toNatClampNeg
  · subst hq
    simp [updV, upd]
  · simp [updV, upd, hq]
theorem m_67 {x : Nat} {i : Int32} {y : Int64} {e' : AE} (C : Cx p s m args meth c j B b tK L xs cA D) (ho : okb j pc (67, a, w, k, t) nx = true) (h : lst (f x) i y = some e') (kk : Sm p l e R s m args below meth c j B b tK L xs cA D z0 Q nx ls r z (va_up f x e')) : Sm p l e R s m args below meth c j B b tK L xs cA D z0 Q pc ls (.long y :: .int i :: .ref x :: r) z f := by
  obtain ⟨hx, hb, -, hown, hts, hK, -⟩ := C
  obtain ⟨hd, rfl⟩ := dk_spec ho
  obtain ⟨n, g, e1, e3, rfl⟩ := lst_spec h
  intro H locs la hR hS hL
  have hlt := lt_arr hR e1 (by omega)
  have hc := hR.at hlt
  rw [e1] at hc
  refine W.last hx hb (show H[adr B b tK x]? = some (vp_cell (cA 1) (n, .inr (.inl g))) from hc) ((hK.1.2 1 (cA 1, .long) rfl).1 n (fun j => .long (g j))) (fun q => by cases q) (by show ¬ (i < 0 ∨ (arrV _ _ _).slots.size ≤ _); rw [arrV_size]; exact e3) rfl rfl hd fun H1 ee zz oq => ?_
  refine kk H1 _ la (hR.upd hlt zz oq ?_ (fun t n w h => by cases h; omega)) (hS.put zz oq (hR.geB hlt)) hL
  show H1[adr B b tK x]? = some (vp_cell (cA 1) (n, .inr (.inl (vp_updL g i.toNatClampNeg y))))
  rw [ee, vp_cell_l, vp_cell_l, arrV_store]
  congr 2
  funext q
  by_cases hq : q = i.toNatClampNeg
  · subst hq
    simp [updV, vp_updL]
  · simp [updV, vp_updL, hq]
theorem m_69 {x y : Nat} {i : Int32} {e' : AE} (C : Cx p s m args meth c j B b tK L xs cA D) (ho : okb j pc (69, a, w, k, t) nx = true) (h : qs (f x) (f y) i y = some e') (kk : Sm p l e R s m args below meth c j B b tK L xs cA D z0 Q nx ls r z (va_up f x e')) : Sm p l e R s m args below meth c j B b tK L xs cA D z0 Q pc ls (.ref y :: .int i :: .ref x :: r) z f := by
  obtain ⟨hx, hb, -, hown, hts, hK, -⟩ := C
  obtain ⟨hd, rfl⟩ := dk_spec ho
  obtain ⟨tt, n, g, cc, fs, e1, e2, e3, e4, rfl⟩ := qs_spec h
  intro H locs la hR hS hL
  have hlt := lt_arr hR e1 (by omega)
  have hc := hR.at hlt
  rw [e1] at hc
  have hlt2 := hR.lt (x := y) (by rw [e2]; exact vd_ne (by omega)) (by rw [e2]; intro n w h; cases h)
  have hv := hR.at hlt2
  rw [e2] at hv
  obtain ⟨rr, q0, cellV, g1, g2, g3, -⟩ := hv
  have hcc : cc < 11 := by omega
  have hcls := (hK.1.1 cc _ (classes_get hcc)).2
  have hty : (tysl cA)[tt]? = some (cA tt, .object (clsN cc)) := by
    rcases e3 with ⟨rfl, rfl⟩ | ⟨rfl, rfl⟩ <;> rfl
  obtain ⟨kA, comp, k1, k2, k3, -⟩ := (hK.1.2 tt _ hty).2
  have hcomp : comp = D.1 cc := Option.some.inj (k3.symm.trans hcls.1)
  subst hcomp
  obtain ⟨kC, hkC, -⟩ := hcls.2
  have h0 : ¬ i < 0 := fun q => e4 (Or.inl q)
  have hli : i.toNatClampNeg < n := Nat.not_le.mp fun q => e4 (Or.inr q)
  refine W.aast hx hb (show H[adr B b tK x]? = some (vp_cell (cA tt) (n, .inr (.inr (.inr (.inr fun j => (g j).map (adr B b tK)))))) from hc) (fun q h => by cases h) (fun h => by cases h) k1 k2 rfl hkC ⟨h0, by show _ < (arrV _ _ _).slots.size; rw [arrV_size]; exact hli⟩ g1 (fun q h => by rw [g3] at h; cases h) (by rw [g2]; exact hkC) (by rw [g2]; exact va_assign hcls) rfl rfl hd fun H1 ee zz oq => ?_
  refine kk H1 _ la (hR.upd hlt zz oq ?_ (fun t n w h => by cases h; omega)) (hS.put zz oq (hR.geB hlt)) hL
  show H1[adr B b tK x]? = some (vp_cell (cA tt) (n, .inr (.inr (.inr (.inr fun q => (va_up g i.toNatClampNeg (some y) q).map (adr B b tK))))))
  rw [ee, vp_cell_q, vp_cell_q, arrV_store]
  congr 2
  funext q
  by_cases hq : q = i.toNatClampNeg
  · subst hq
    simp [updV, va_up, va_rf]
  · simp [updV, va_up, hq]
end

/-! one instruction: new cells, copying, calls of the library -/
theorem cat_sum (ad : Nat → Nat) : ∀ (r : List Value), ((r.map (tv ad)).map fun v => v.category).sum ≤ 2 * r.length
  | [] => by simp
  | v :: r => by
    have := cat_sum ad r
    simp only [List.map_cons, List.sum_cons, List.length_cons]
    have h2 : (tv ad v).category ≤ 2 := by rcases lv_cat (tv ad v) with h | h <;> omega
    omega
theorem dfv_pos : ((List.range 11).all fun a => (List.range (kds a).length).all fun k => decide (defaultValue (tyO a k) = dfv (kdf a k))) = true := by decide +kernel
theorem dfv_ok {a k : Nat} (ha : a < 11) (hk : k < (kds a).length) : defaultValue (tyO a k) = dfv (kdf a k) :=
  of_decide_eq_true (List.all_eq_true.mp (List.all_eq_true.mp dfv_pos a (List.mem_range.mpr ha)) k (List.mem_range.mpr hk))
theorem tv_dfv (ad : Nat → Nat) (k : Nat) : tv ad (dfv k) = dfv k := by
  unfold dfv
  split <;> rfl
theorem nfw_ok : nativeFrameWords "java/lang/System" "arraycopy" 5 ≤ 60 := by decide +kernel
section
variable {p : Program} {l : Launch} {e : Env} {R : Room} {s : State} {m : MethodId} {args : Array Value} {below : List Frame} {meth : Method} {c : Code} {j B b tK L : Nat} {xs : Nat → Int32} {cA : Nat → ClassId} {D : va_G} {z0 : AZ} {Q : State → Prop} {pc nx : Nat} {ls : AL} {r : List Value} {z : AZ} {f : AH} {a w : Nat} {k : Int} {t : List Nat} {H : Heap}
theorem m_72 {n : Int32} (C : Cx p s m args meth c j B b tK L xs cA D) (ho : okb j pc (72, a, w, k, t) nx = true) (hn : ¬ (n < 0 ∨ 65536 < n.toNatClampNeg)) (h0 : z0.1 ≤ z.1 ∧ z0.2 ≤ z.2) (hc : z.1 + 1 - z0.1 ≤ R.cells) (hs : z.2 + n.toNatClampNeg - z0.2 ≤ R.slots) (hm : z.1 + 1 ≤ 600000)
    (kk : Sm p l e R s m args below meth c j B b tK L xs cA D z0 Q nx ls (.ref z.1 :: r) (z.1 + 1, z.2 + n.toNatClampNeg) (va_up f z.1 (.inl (a, n.toNatClampNeg, if a = 1 then .inr (.inl fun _ => 0) else .inl fun _ => 0)))) : Sm p l e R s m args below meth c j B b tK L xs cA D z0 Q pc ls (.int n :: r) z f := by
  obtain ⟨hx, hb, -, hown, hts, hK, -⟩ := C
  intro H locs la hR hS hL
  have hn0 : ¬ n < 0 := fun q => hn (Or.inl q)
  have hn1 : n.toNatClampNeg ≤ 65536 := Nat.le_of_not_lt fun q => hn (Or.inr q)
  have had : adr B b tK z.1 = H.size := by rw [adr_lt (by omega), hR.1]
  have e1 : z.1 + 1 - z0.1 = z.1 - z0.1 + 1 := by omega
  have e2 : z.2 + n.toNatClampNeg - z0.2 = z.2 - z0.2 + n.toNatClampNeg := by omega
  have fin : ∀ (cls : ClassId) (ty : FieldType) (w' : (Nat → Int32) ⊕ (Nat → Int64) ⊕ (Nat → UInt32) ⊕ (Nat → UInt64) ⊕ (Nat → Option Nat)) (H1 : Heap), a < 5 → (if a = 1 then .inr (.inl fun _ => 0) else .inl fun _ => 0) = w' → tE (adr B b tK) cA (.inl (a, n.toNatClampNeg, w')) = .inl (cA a, n.toNatClampNeg, w') → cls = cA a → vp_cell cls (n.toNatClampNeg, w') = arrV cls n.toNatClampNeg (fun _ => defaultValue ty) →
      H1[H.size]? = some (arrV cls n.toNatClampNeg (fun _ => defaultValue ty)) → H1.size = H.size + 1 → (∀ q, q < H.size → H1[q]? = H[q]?) → W p l e R s m args below meth c H1 locs (z.1 - z0.1 + 1) (z.2 - z0.2 + n.toNatClampNeg) Q (F0 m nx la (.ref H.size :: r.map (tv (adr B b tK)))) := by
    intro cls ty w' H1 ha5 ew et ec ev g1 g2 g3
    rw [ew] at kk
    have K := kk H1 locs la (hR.push g2 g3 (by rw [et, had]; show H1[H.size]? = some (vp_cell (cA a) (n.toNatClampNeg, w')); rw [← ec, ev]; exact g1) (fun t n w h => by cases h; exact ha5) hm) ⟨by rw [g2]; exact Nat.le_succ_of_le hS.1, fun q q1 q2 => by rw [g3 q (Nat.lt_of_lt_of_le q1 hS.1)]; exact hS.2.1 q q1 q2, hS.2.2⟩ hL
    have e5 : tv (adr B b tK) (.ref z.1) = .ref H.size := by rw [← had]; rfl
    rw [List.map_cons, e5] at K
    show W p l e R s m args below meth c H1 locs (z.1 - z0.1 + 1) (z.2 - z0.2 + n.toNatClampNeg) Q _
    rw [← e1, ← e2]
    exact K
  match a, ho, fin with
  | 0, ho, fin =>
    obtain ⟨hd, rfl⟩ := dk_spec ho
    refine va_newaK hx hb (atype := .int) (hts _ (gw_in w_ai rfl)) rfl hd rfl hn0 rfl (by show n.toNatClampNeg * 4 ≤ _; omega) (by rw [← e1]; exact hc) (by rw [← e2]; exact hs) rfl fun H1 cls g1 g2 g3 g4 g5 => ?_
    have g5 : s.vm.findClass "[I" = some cls := g5
    have g6 : s.vm.findClass "[I" = some (cA 0) := (hK.1.2 0 (cA 0, .int) rfl).2
    exact fin cls .int _ H1 (by omega) rfl rfl (Option.some.inj (g5.symm.trans g6)) rfl g1 g2 g3
  | 1, ho, fin =>
    obtain ⟨hd, rfl⟩ := dk_spec ho
    refine va_newaK hx hb (atype := .long) (hts _ (gw_in w_al rfl)) rfl hd rfl hn0 rfl (by show n.toNatClampNeg * 8 ≤ _; omega) (by rw [← e1]; exact hc) (by rw [← e2]; exact hs) rfl fun H1 cls g1 g2 g3 g4 g5 => ?_
    have g5 : s.vm.findClass "[J" = some cls := g5
    have g6 : s.vm.findClass "[J" = some (cA 1) := (hK.1.2 1 (cA 1, .long) rfl).2
    exact fin cls .long _ H1 (by omega) rfl rfl (Option.some.inj (g5.symm.trans g6)) rfl g1 g2 g3
  | 2, ho, fin =>
    obtain ⟨hd, rfl⟩ := dk_spec ho
    refine va_newaK hx hb (atype := .boolean) (hts _ (gw_in w_az rfl)) rfl hd rfl hn0 rfl (by show n.toNatClampNeg * 1 ≤ _; omega) (by rw [← e1]; exact hc) (by rw [← e2]; exact hs) rfl fun H1 cls g1 g2 g3 g4 g5 => ?_
    have g5 : s.vm.findClass "[Z" = some cls := g5
    have g6 : s.vm.findClass "[Z" = some (cA 2) := (hK.1.2 2 (cA 2, .boolean) rfl).2
    exact fin cls .boolean _ H1 (by omega) rfl rfl (Option.some.inj (g5.symm.trans g6)) rfl g1 g2 g3
  | n + 3, ho, fin => cases ho
theorem m_73 {n : Int32} (C : Cx p s m args meth c j B b tK L xs cA D) (ho : okb j pc (73, a, w, k, t) nx = true) (hn : ¬ (n < 0 ∨ 65536 < n.toNatClampNeg)) (h0 : z0.1 ≤ z.1 ∧ z0.2 ≤ z.2) (hc : z.1 + 1 - z0.1 ≤ R.cells) (hs : z.2 + n.toNatClampNeg - z0.2 ≤ R.slots) (hm : z.1 + 1 ≤ 600000)
    (kk : Sm p l e R s m args below meth c j B b tK L xs cA D z0 Q nx ls (.ref z.1 :: r) (z.1 + 1, z.2 + n.toNatClampNeg) (va_up f z.1 (.inl (a, n.toNatClampNeg, .inr (.inr (.inr (.inr fun _ => none))))))) : Sm p l e R s m args below meth c j B b tK L xs cA D z0 Q pc ls (.int n :: r) z f := by
  obtain ⟨hx, hb, -, hown, hts, hK, -⟩ := C
  intro H locs la hR hS hL
  have hn0 : ¬ n < 0 := fun q => hn (Or.inl q)
  have hn1 : n.toNatClampNeg ≤ 65536 := Nat.le_of_not_lt fun q => hn (Or.inr q)
  have had : adr B b tK z.1 = H.size := by rw [adr_lt (by omega), hR.1]
  have e1 : z.1 + 1 - z0.1 = z.1 - z0.1 + 1 := by omega
  have e2 : z.2 + n.toNatClampNeg - z0.2 = z.2 - z0.2 + n.toNatClampNeg := by omega
  have fin : ∀ (cls : ClassId), a < 5 → cls = cA a → W p l e R s m args below meth c (H.push ({ cls := cls, slots := Array.replicate n.toNatClampNeg .null, vm := .none } : Cell)) locs (z.1 - z0.1 + 1) (z.2 - z0.2 + n.toNatClampNeg) Q (F0 m nx la (.ref H.size :: r.map (tv (adr B b tK)))) := by
    intro cls ha5 ec
    have g2 : (H.push ({ cls := cls, slots := Array.replicate n.toNatClampNeg .null, vm := .none } : Cell)).size = H.size + 1 := by simp
    have g3 : ∀ q, q < H.size → (H.push ({ cls := cls, slots := Array.replicate n.toNatClampNeg .null, vm := .none } : Cell))[q]? = H[q]? := fun q hq => by rw [Array.getElem?_push, if_neg (Nat.ne_of_lt hq)]
    have K := kk _ locs la (hR.push g2 g3 (by
      rw [had]
      show (H.push _)[H.size]? = some (vp_cell (cA a) (n.toNatClampNeg, .inr (.inr (.inr (.inr fun _ => none)))))
      rw [vp_cell_q, ← ec, arrV_new]
      simp
      rfl) (fun t n w h => by cases h; exact ha5) hm) ⟨by rw [g2]; exact Nat.le_succ_of_le hS.1, fun q q1 q2 => by rw [g3 q (Nat.lt_of_lt_of_le q1 hS.1)]; exact hS.2.1 q q1 q2, hS.2.2⟩ hL
    have e5 : tv (adr B b tK) (.ref z.1) = .ref H.size := by rw [← had]; rfl
    rw [List.map_cons, e5] at K
    show W p l e R s m args below meth c _ locs (z.1 - z0.1 + 1) (z.2 - z0.2 + n.toNatClampNeg) Q _
    rw [← e1, ← e2]
    exact K
  have clin : ∀ q : Nat, (clT.map Prod.fst).contains (mC j, k.toNat, q) = true → (Cond.classLink (clsN (mC j)) k.toNat (clsN q)).before args s = true := by
    intro q h
    obtain ⟨q', hq, e⟩ := List.mem_map.mp (List.contains_iff_mem.mp h)
    have h2 := List.all_eq_true.mp clT_ok q' hq
    obtain ⟨q1, q2⟩ := q'
    cases e
    exact hts _ (gw_in (wAt_mem h2) rfl)
  match a, ho, fin with
  | 3, ho, fin =>
    have ho := Bool.and_eq_true_iff.mp (show (dk j pc (.anewarray k.toNat) 3 nx && (clT.map Prod.fst).contains (mC j, k.toNat, 0)) = true from ho)
    obtain ⟨hd, rfl⟩ := dk_spec ho.1
    refine W.anew hx hb hown (show (Cond.classLink (clsN (mC j)) k.toNat "BumpMap$Cells").before args s = true from clin 0 ho.2) (va_AO.use hK.2.2.2.1) rfl hd rfl hn0 (by omega) (by rw [← e1]; exact hc) (by rw [← e2]; exact hs) fun cls kA comp g1 g2 g3 g4 => ?_
    obtain ⟨kA', comp', q1, q2, q3, q4⟩ := (hK.1.2 3 (cA 3, .object "BumpMap$Cells") rfl).2
    exact fin cls (by omega) (Option.some.inj (g1.symm.trans q4))
  | 4, ho, fin =>
    have ho := Bool.and_eq_true_iff.mp (show (dk j pc (.anewarray k.toNat) 3 nx && (clT.map Prod.fst).contains (mC j, k.toNat, 2)) = true from ho)
    obtain ⟨hd, rfl⟩ := dk_spec ho.1
    refine W.anew hx hb hown (show (Cond.classLink (clsN (mC j)) k.toNat "BumpMap$Drive").before args s = true from clin 2 ho.2) (va_AO.use hK.2.2.2.2.1) rfl hd rfl hn0 (by omega) (by rw [← e1]; exact hc) (by rw [← e2]; exact hs) fun cls kA comp g1 g2 g3 g4 => ?_
    obtain ⟨kA', comp', q1, q2, q3, q4⟩ := (hK.1.2 4 (cA 4, .object "BumpMap$Drive") rfl).2
    exact fin cls (by omega) (Option.some.inj (g1.symm.trans q4))
  | 0, ho, fin => cases ho
  | 1, ho, fin => cases ho
  | 2, ho, fin => cases ho
  | n + 5, ho, fin => cases ho
theorem m_74 (C : Cx p s m args meth c j B b tK L xs cA D) (ho : okb j pc (74, a, w, k, t) nx = true) (h0 : z0.1 ≤ z.1 ∧ z0.2 ≤ z.2) (hc : z.1 + 1 - z0.1 ≤ R.cells) (hs : z.2 + (kds a).length - z0.2 ≤ R.slots) (hm : z.1 + 1 ≤ 600000)
    (kk : Sm p l e R s m args below meth c j B b tK L xs cA D z0 Q nx ls (.ref z.1 :: r) (z.1 + 1, z.2 + (kds a).length) (va_up f z.1 (.inr (a, (kds a).map dfv)))) : Sm p l e R s m args below meth c j B b tK L xs cA D z0 Q pc ls r z f := by
  obtain ⟨hx, hb, -, hown, hts, hK, -⟩ := C
  have ho := Bool.and_eq_true_iff.mp (show (dk j pc (.new k.toNat) 3 nx && (clT.map Prod.fst).contains (mC j, k.toNat, a) && decide (a < 11)) = true from ho)
  have ho1 := Bool.and_eq_true_iff.mp ho.1
  have ha : a < 11 := of_decide_eq_true ho.2
  obtain ⟨hd, rfl⟩ := dk_spec ho1.1
  have hcl : (Cond.classLink (clsN (mC j)) k.toNat (clsN a)).before args s = true := by
    obtain ⟨q', hq, e⟩ := List.mem_map.mp (List.contains_iff_mem.mp ho1.2)
    have h2 := List.all_eq_true.mp clT_ok q' hq
    obtain ⟨q1, q2⟩ := q'
    cases e
    exact hts _ (gw_in (wAt_mem h2) rfl)
  have hinst : (Cond.instantiable (clsN a) (kds a).length).before args s = true ∧ (Cond.initialized (clsN a)).before args s = true := by
    have hm : a ∈ isT.map Prod.fst := by
      have : ((List.range 11).all fun q => (isT.map Prod.fst).contains q) = true := by decide +kernel
      exact List.contains_iff_mem.mp (List.all_eq_true.mp this a (List.mem_range.mpr ha))
    obtain ⟨q', hq, e⟩ := List.mem_map.mp hm
    have h2 := Bool.and_eq_true_iff.mp (List.all_eq_true.mp isT_ok q' hq)
    obtain ⟨q1, q2, q3⟩ := q'
    cases e
    exact ⟨hts _ (gw_in (wAt_mem h2.1) rfl), hts _ (gw_in (wAt_mem h2.2) rfl)⟩
  intro H locs la hR hS hL
  have had : adr B b tK z.1 = H.size := by rw [adr_lt (by omega), hR.1]
  have e1 : z.1 + 1 - z0.1 = z.1 - z0.1 + 1 := by omega
  have e2 : z.2 + (kds a).length - z0.2 = z.2 - z0.2 + (kds a).length := by omega
  have hKn := hK.1.1 a _ (classes_get ha)
  refine W.newcK hx hb hown hcl hinst.1 hinst.2 rfl hd (by rw [← e1]; exact hc) (by rw [← e2]; exact hs) hKn.2.1 rfl fun H1 kC hkC g1 g2 g3 => ?_
  have K := kk H1 locs la (hR.push g2 g3 (by
    rw [had]
    refine ⟨_, classes_get ha, (u_born (tyO a) hts (uws_in ha) hKn hkC g1 (tyO_ok ha)).to (fun q hq => ?_)⟩
    have hq : q < (kds a).length := hq
    show defaultValue (tyO a q) = vp_V (((kds a).map dfv).map (tv (adr B b tK))) q
    rw [dfv_ok ha hq]
    simp [vp_V, kdf, hq, tv_dfv]) (fun t n w h => by cases h) hm) ⟨by rw [g2]; exact Nat.le_succ_of_le hS.1, fun q q1 q2 => by rw [g3 q (Nat.lt_of_lt_of_le q1 hS.1)]; exact hS.2.1 q q1 q2, hS.2.2⟩ hL
  have e5 : tv (adr B b tK) (.ref z.1) = .ref H.size := by rw [← had]; rfl
  rw [List.map_cons, e5] at K
  show W p l e R s m args below meth c H1 locs (z.1 - z0.1 + 1) (z.2 - z0.2 + (kds a).length) Q _
  rw [← e1, ← e2]
  exact K
theorem lk_use {y : MethodName} {T : List ((Nat × Nat) × Nat)} {i : Nat} (hT : T.all (lkB y) = true) (hts : ∀ w ∈ GW, w.before args s = true) (h : (T.map Prod.fst).contains (mC j, i) = true) : (Cond.methodLink (clsN (mC j)) i y).before args s = true := by
  obtain ⟨q', hq, e⟩ := List.mem_map.mp (List.contains_iff_mem.mp h)
  have h2 := List.all_eq_true.mp hT q' hq
  obtain ⟨q1, q2⟩ := q'
  cases e
  exact hts _ (gw_in (wAt_mem h2) rfl)
theorem m_82 {x : Nat} (C : Cx p s m args meth c j B b tK L xs cA D) (ho : okb j pc (82, a, w, k, t) nx = true) (hr : r.length < 5) (hf : 1 ≤ R.frames) (hl : 100 ≤ R.locals) (kk : Sm p l e R s m args below meth c j B b tK L xs cA D z0 Q nx ls r z f) : Sm p l e R s m args below meth c j B b tK L xs cA D z0 Q pc ls (.ref x :: r) z f := by
  obtain ⟨hx, hb, hml, hown, hts, hK, -⟩ := C
  have ho := Bool.and_eq_true_iff.mp (show (dk j pc (.invokespecial k.toNat) 3 nx && (oiT.map Prod.fst).contains (mC j, k.toNat)) = true from ho)
  obtain ⟨hd, rfl⟩ := dk_spec ho.1
  intro H locs la hR hS hL
  have := cat_sum (adr B b tK) r
  exact W.objInit hx hb hown (lk_use oiT_ok hts ho.2) (hts _ (gw_in w_oi rfl)) (hts _ (gw_in w_ob rfl)) rfl (by rw [hml]; exact hL.1) rfl hd hf (by show 2 * 0 + _ + 12 ≤ _; omega) (kk H locs la hR hS hL)
theorem m_83 {x y : Int32} (C : Cx p s m args meth c j B b tK L xs cA D) (ho : okb j pc (83, a, w, k, t) nx = true) (hr : r.length < 5) (hf : 1 ≤ R.frames) (hl : 100 ≤ R.locals) (hc : z.1 - z0.1 ≤ R.cells) (hs : z.2 - z0.2 ≤ R.slots) (kk : Sm p l e R s m args below meth c j B b tK L xs cA D z0 Q nx ls (.int (if x < y then y else x) :: r) z f) : Sm p l e R s m args below meth c j B b tK L xs cA D z0 Q pc ls (.int y :: .int x :: r) z f := by
  obtain ⟨hx, hb, hml, hown, hts, hK, -⟩ := C
  have ho := Bool.and_eq_true_iff.mp (show (dk j pc (.invokestatic k.toNat) 3 nx && (mxT.map Prod.fst).contains (mC j, k.toNat)) = true from ho)
  obtain ⟨hd, rfl⟩ := dk_spec ho.1
  intro H locs la hR hS hL
  have := cat_sum (adr B b tK) r
  exact va_mmax hx hb (by rw [hml]; exact hL.1.symm) hown (lk_use mxT_ok hts ho.2) (hts _ (gw_in w_mx rfl)) (hts _ (gw_in w_mt rfl)) (hts _ (gw_in w_mxc rfl)) hf (by omega) hc hs hd (kk H locs la hR hS hL)
theorem m_84 {x y : Int32} (C : Cx p s m args meth c j B b tK L xs cA D) (ho : okb j pc (84, a, w, k, t) nx = true) (hr : r.length < 5) (hf : 1 ≤ R.frames) (hl : 100 ≤ R.locals) (hc : z.1 - z0.1 ≤ R.cells) (hs : z.2 - z0.2 ≤ R.slots) (kk : Sm p l e R s m args below meth c j B b tK L xs cA D z0 Q nx ls (.int (if y < x then y else x) :: r) z f) : Sm p l e R s m args below meth c j B b tK L xs cA D z0 Q pc ls (.int y :: .int x :: r) z f := by
  obtain ⟨hx, hb, hml, hown, hts, hK, -⟩ := C
  have ho := Bool.and_eq_true_iff.mp (show (dk j pc (.invokestatic k.toNat) 3 nx && (miT.map Prod.fst).contains (mC j, k.toNat)) = true from ho)
  obtain ⟨hd, rfl⟩ := dk_spec ho.1
  intro H locs la hR hS hL
  have := cat_sum (adr B b tK) r
  exact va_mmin hx hb (by rw [hml]; exact hL.1.symm) hown (lk_use miT_ok hts ho.2) (hts _ (gw_in w_mi rfl)) (hts _ (gw_in w_mt rfl)) (hts _ (gw_in w_mic rfl)) hf (by omega) hc hs hd (kk H locs la hR hS hL)
end

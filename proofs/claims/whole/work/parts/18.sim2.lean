/-! one instruction: fields and arrays -/
section
variable {p : Program} {l : Launch} {e : Env} {R : Room} {s : State} {m : MethodId} {args : Array Value} {below : List Frame} {meth : Method} {c : Code} {j B b tK L : Nat} {xs : Nat → Int32} {cA : Nat → ClassId} {D : va_G} {z0 : AZ} {Q : State → Prop} {pc nx : Nat} {ls : AL} {r : List Value} {z : AZ} {f : AH} {a w : Nat} {k : Int} {t : List Nat}
theorem fl_use {i : Nat} (hts : ∀ w ∈ GW, w.before args s = true) (h : (flT.map Prod.fst).contains (mC j, i, a, w) = true) : (Cond.fieldLink (clsN (mC j)) i (clsN a) (TF a w).2.1 (TF a w).2.2.1).before args s = true ∧ w < (kds a).length ∧ a < 11 := by
  obtain ⟨q, hq, e⟩ := List.mem_map.mp (List.contains_iff_mem.mp h)
  have h2 := List.all_eq_true.mp flT_ok q hq
  obtain ⟨q1, q2⟩ := q
  cases e
  have h2 := Bool.and_eq_true_iff.mp h2
  have hw : w < (kds a).length := of_decide_eq_true h2.2
  refine ⟨hts _ (gw_in (wAt_mem h2.1) rfl), hw, ?_⟩
  apply Classical.byContradiction
  intro ha
  rw [kds_big ha] at hw
  cases hw
theorem vd_ne {fs : List Value} (ha : a < 11) : (Sum.inr (a, fs) : AE) ≠ vd := by
  intro h
  cases h
  omega
theorem m_60 {x : Nat} {v : Value} (C : Cx p s m args meth c j B b tK L xs cA D) (ho : okb j pc (60, a, w, k, t) nx = true) (h : gf (f x) a w = some v) (kk : Sm p l e R s m args below meth c j B b tK L xs cA D z0 Q nx ls (v :: r) z f) : Sm p l e R s m args below meth c j B b tK L xs cA D z0 Q pc ls (.ref x :: r) z f := by
  obtain ⟨hx, hb, -, hown, hts, hK, -⟩ := C
  have ho := Bool.and_eq_true_iff.mp (show (dk j pc (.getfield k.toNat) 3 nx && (flT.map Prod.fst).contains (mC j, k.toNat, a, w)) = true from ho)
  obtain ⟨hd, rfl⟩ := dk_spec ho.1
  obtain ⟨hlink, hw, ha⟩ := fl_use hts ho.2
  obtain ⟨fs, e1, e2⟩ := gf_spec h
  intro H locs la hR hS hL
  have hlt := hR.lt (x := x) (by rw [e1]; exact vd_ne ha) (by rw [e1]; intro n w h; cases h)
  have hws := wsl_get (ad := adr B b tK) (cA := cA) (f := f) hlt
  rw [e1] at hws
  exact va_get (D := D) (ci := a) (v := tv (adr B b tK) v) (C := clsN a) (T := TF a) (N := (kds a).length) hx hb hts (uws_in ha) hown hK.1 hR.2.1 x hws (classes_get ha) w hw hlink (fun _ h9 => h9) (by rw [List.getElem?_map, e2]; rfl) hd (kk H locs la hR hS hL)
theorem m_61 {x : Nat} {v : Value} {e' : AE} (C : Cx p s m args meth c j B b tK L xs cA D) (ho : okb j pc (61, a, w, k, t) nx = true) (h : pf (f x) a w v = some e') (kk : Sm p l e R s m args below meth c j B b tK L xs cA D z0 Q nx ls r z (va_up f x e')) : Sm p l e R s m args below meth c j B b tK L xs cA D z0 Q pc ls (v :: .ref x :: r) z f := by
  obtain ⟨hx, hb, -, hown, hts, hK, hini, -⟩ := C
  have ho := Bool.and_eq_true_iff.mp (show (dk j pc (.putfield k.toNat) 3 nx && (flT.map Prod.fst).contains (mC j, k.toNat, a, w) && ((TF a w).2.2.2 == false || (decide ((mY j).name = "<init>") && decide (a = mC j)))) = true from ho)
  have ho1 := Bool.and_eq_true_iff.mp ho.1
  obtain ⟨hd, rfl⟩ := dk_spec ho1.1
  obtain ⟨hlink, hw, ha⟩ := fl_use hts ho1.2
  obtain ⟨fs, e1, e2, e3, e4⟩ := pf_spec h
  intro H locs la hR hS hL
  have hlt := hR.lt (x := x) (by rw [e1]; exact vd_ne ha) (by rw [e1]; intro n w h; cases h)
  have hat := hR.at hlt
  rw [e1] at hat
  obtain ⟨rr, q0, cell, q1, q2, q3, q4⟩ := hat
  have hrr : rr = (clsN a, TF a, (kds a).length) := Option.some.inj (q0.symm.trans (classes_get ha))
  subst hrr
  obtain ⟨hSl, hfc, kC, hkC, hkind⟩ := hK.1.1 a _ (classes_get ha)
  obtain ⟨cf, kf, fi, fld, hi, hsl⟩ := hSl w hw
  have hst := (u_facts hfc hkC (u_lays hts (uws_in ha) hw) hi).1
  obtain ⟨hn, hf⟩ := okf_fits (ad := adr B b tK) (kok_ok ha hw) e2
  have hap := va_apart (own := clsN a) hts (uws_in ha) (tyO a) (tyO_ok ha) (nm_ok ha) hK.1 (classes_get ha)
  have hB : B ≤ adr B b tK x := by
    have := hR.2.2.1
    rw [adr_lt (by omega)]
    omega
  have fin : ∀ H' : Heap, H'[adr B b tK x]? = some (cell.setSlot fld.slot (tv (adr B b tK) v)) → H'.size = H.size → (∀ q, q ≠ adr B b tK x → H'[q]? = H[q]?) → W p l e R s m args below meth c H' (locs ++ [⟨adr B b tK x, fld.slot⟩]) (z.1 - z0.1) (z.2 - z0.2) Q (F0 m (pc + 3) la (r.map (tv (adr B b tK)))) := by
    intro H' g1 g2 g3
    refine kk H' _ la (hR.upd hlt g2 g3 ?_ (by rw [e4]; intro t n w h; cases h)) (hS.put g2 g3 hB) hL
    rw [e4]
    rw [hsl] at g1
    refine ⟨_, classes_get ha, t_OB.to (V := updV (vp_V (fs.map (tv (adr B b tK)))) w (tv (adr B b tK) v)) ⟨_, g1, q2, q3, t_set q4 hap hw (tv (adr B b tK) v)⟩ (fun k _ => ?_)⟩
    rw [vp_updV_set (by rw [List.length_map]; exact e3), List.map_set]
  have hlay := hts _ (uws_in ha _ (u_in_lay hw))
  unfold u_lay at hlay
  rcases Bool.or_eq_true_iff.mp ho.2 with hfin | hfin
  · have hfin : (TF a w).2.2.2 = false := eq_of_beq hfin
    rw [if_neg (by rw [hfin]; decide)] at hlay
    exact W.putK hx hb (f := fld) ⟨hown, hlink, ⟨_, _, _, hi⟩, hst⟩ (by rw [q2]; exact u_store hfc hkC hkind hlay hi (tyO_ok ha w hw) hn hf) q1 q3 (by rw [hsl]; exact k2_hasslot (q4 w hw)) rfl rfl hd fin
  · cases hff : (TF a w).2.2.2 with
    | false =>
      rw [if_neg (by rw [hff]; decide)] at hlay
      exact W.putK hx hb (f := fld) ⟨hown, hlink, ⟨_, _, _, hi⟩, hst⟩ (by rw [q2]; exact u_store hfc hkC hkind hlay hi (tyO_ok ha w hw) hn hf) q1 q3 (by rw [hsl]; exact k2_hasslot (q4 w hw)) rfl rfl hd fin
    | true =>
      rw [if_pos hff] at hlay
      have hfin := Bool.and_eq_true_iff.mp hfin
      have hname := hini (of_decide_eq_true hfin.1)
      have haj : a = mC j := of_decide_eq_true hfin.2
      have hcf : m.cls = cf := by
        obtain ⟨_, _, c', _, _, _, -, -, hf', -, -, -, hown2, -⟩ := Cond.laysFinal_spec hlay
        have e1 : c' = cf := by have := hi.symm.trans hf'; simp at this; exact this.1.symm
        rw [← e1]
        have hown3 : s.vm.findClass (clsN a) = some m.cls := by rw [haj]; exact hown
        exact Option.some.inj (hown3.symm.trans hown2)
      exact W.putFinK hx hb hown hlink hi hst hcf hname (by rw [q2]; exact u_fits hfc hkC hkind (Or.inr hlay) hi (tyO_ok ha w hw) hn hf) q1 q3 (by rw [hsl]; exact k2_hasslot (q4 w hw)) rfl rfl hd fin
end

/-! copying; one instruction of any kind -/
section
variable {p : Program} {l : Launch} {e : Env} {R : Room} {s : State} {m : MethodId} {args : Array Value} {below : List Frame} {meth : Method} {c : Code} {j B b tK L : Nat} {xs : Nat → Int32} {cA : Nat → ClassId} {D : va_G} {z0 : AZ} {Q : State → Prop} {pc nx : Nat} {ls : AL} {r : List Value} {z : AZ} {f : AH} {a w : Nat} {k : Int} {t : List Nat}
theorem cl_int {x : Int32} (h : ¬ x < 0) : x.toInt = (x.toNatClampNeg : Int) := by
  have h0 : (0 : Int) ≤ x.toInt := by
    have := Int32.not_lt.mp h
    simpa using Int32.le_iff_toInt_le.mp this
  show x.toInt = ((x.toInt.toNat : Nat) : Int)
  omega
theorem m_81 {x y : Nat} {sp dp n : Int32} {e' : AE} (C : Cx p s m args meth c j B b tK L xs cA D) (ho : okb j pc (81, a, w, k, t) nx = true) (hr : r.length < 5) (hf : 1 ≤ R.frames) (hl : 100 ≤ R.locals) (h : cpy (f x) (f y) sp dp n = some e') (kk : Sm p l e R s m args below meth c j B b tK L xs cA D z0 Q nx ls r z (va_up f y e')) : Sm p l e R s m args below meth c j B b tK L xs cA D z0 Q pc ls (.int n :: .int dp :: .ref y :: .int sp :: .ref x :: r) z f := by
  obtain ⟨hx, hb, hml, hown, hts, hK, -⟩ := C
  have ho := Bool.and_eq_true_iff.mp (show (dk j pc (.invokestatic k.toNat) 3 nx && (cpT.map Prod.fst).contains (mC j, k.toNat)) = true from ho)
  obtain ⟨hd, rfl⟩ := dk_spec ho.1
  obtain ⟨n0, g0, n1, g1, e1, e2, h1, h2, h3, h4, h5, rfl⟩ := cpy_spec h
  intro H locs la hR hS hL T hT X
  have hlt0 := lt_arr hR e1 (by omega)
  have hlt1 := lt_arr hR e2 (by omega)
  have hc0 := hR.at hlt0
  have hc1 := hR.at hlt1
  rw [e1] at hc0
  rw [e2] at hc1
  have hc0 : H[adr B b tK x]? = some (vp_cell (cA 0) (n0, .inl g0)) := hc0
  have hc1 : H[adr B b tK y]? = some (vp_cell (cA 0) (n1, .inl g1)) := hc1
  obtain ⟨-, k0, hk0, cm0, hkk0⟩ := (hK.1.2 0 (cA 0, .int) rfl).1 n0 (fun j => .int (g0 j))
  obtain ⟨-, k1, hk1, cm1, hkk1⟩ := (hK.1.2 0 (cA 0, .int) rfl).1 n1 (fun j => .int (g1 j))
  have hcs := cat_sum (adr B b tK) r
  have hnf := nfw_ok
  obtain ⟨vm', X', step⟩ := X.arraycopy hx hown (lk_use cpT_ok hts ho.2) (hts _ (gw_in w_nt rfl)) (hts _ (gw_in w_ac rfl)) (hts _ (gw_in w_sy rfl)) (src := adr B b tK x) (dst := adr B b tK y) (cs := vp_cell (cA 0) (n0, .inl g0)) (cd := vp_cell (cA 0) (n1, .inl g1)) (srcPos := sp) (destPos := dp) (n := n) (by rw [hT]; exact hc0) (by rw [hT]; exact hc1)
    (fun _ h => by cases h) (fun _ h => by cases h) (fun h => by cases h) (fun h => by cases h) hk0 hk1 hkk0 hkk1 (by rfl) h1 h2 h3
    (by rw [cl_int h1, cl_int h3]; show ¬ _ > ((arrV (cA 0) n0 (fun j => .int (g0 j))).slots.size : Int); rw [arrV_size]; omega)
    (by rw [cl_int h2, cl_int h3]; show ¬ _ > ((arrV (cA 0) n1 (fun j => .int (g1 j))).slots.size : Int); rw [arrV_size]; omega)
    (fun vm₁ _ i hi => by
      have e : (vp_cell (cA 0) (n0, .inl g0)).slots.getD (sp.toNatClampNeg + i) .null = .int (g0 (sp.toNatClampNeg + i)) := by
        show (arrV (cA 0) n0 (fun j => .int (g0 j))).slots.getD _ _ = _
        rw [Array.getD_eq_getD_getElem?, arrV_read _ _ (by omega)]
        rfl
      rw [e]
      exact ⟨rfl, trivial⟩)
    (g := F0 m pc la (.int n :: .int dp :: .ref (adr B b tK y) :: .int sp :: .ref (adr B b tK x) :: r.map (tv (adr B b tK)))) rfl (by rw [hml]; exact hL.1) (rest := r.map (tv (adr B b tK))) rfl (by rw [hb]; exact hd) hf (by show 2 * 0 + _ + _ ≤ _; omega)
  have e3 : copied (vp_cell (cA 0) (n0, .inl g0)) (vp_cell (cA 0) (n1, .inl g1)) sp dp n = vp_cell (cA 0) (n1, .inl (va_cpy g0 g1 sp.toNatClampNeg dp.toNatClampNeg n.toNatClampNeg)) := va_copied (fun z => .int z) (cA 0) (cA 0) g0 g1 h4
  rw [e3] at X' step
  have hl1 : adr B b tK y < H.size := (Array.getElem?_eq_some_iff.mp hc1).1
  have hheap : ((T.setVm vm').setCell (adr B b tK y) (vp_cell (cA 0) (n1, .inl (va_cpy g0 g1 sp.toNatClampNeg dp.toNatClampNeg n.toNatClampNeg)))).heap = H.setIfInBounds (adr B b tK y) (vp_cell (cA 0) (n1, .inl (va_cpy g0 g1 sp.toNatClampNeg dp.toNatClampNeg n.toNatClampNeg))) := by rw [← hT]; rfl
  have oq : ∀ q : Nat, q ≠ adr B b tK y → (H.setIfInBounds (adr B b tK y) (vp_cell (cA 0) (n1, .inl (va_cpy g0 g1 sp.toNatClampNeg dp.toNatClampNeg n.toNatClampNeg))))[q]? = H[q]? := fun q hq => by simp [Array.getElem?_setIfInBounds, Ne.symm hq]
  obtain ⟨tt, a1, b1⟩ := kk _ _ la (hR.upd (H1 := H.setIfInBounds (adr B b tK y) (vp_cell (cA 0) (n1, .inl (va_cpy g0 g1 sp.toNatClampNeg dp.toNatClampNeg n.toNatClampNeg)))) hlt1 (by simp) oq (show (H.setIfInBounds (adr B b tK y) _)[adr B b tK y]? = some _ by simp [Array.getElem?_setIfInBounds, hl1]) (fun t n w h => by cases h; omega)) ⟨by simp; exact hS.1, fun q g1 g2 => by
      rw [oq q (fun e => g2 (by rw [e]; exact hR.geB hlt1))]
      exact hS.2.1 q g1 g2, fun q hq => by
      rcases List.mem_append.mp hq with h | h
      · exact hS.2.2 q h
      · obtain ⟨z, -, hz⟩ := List.mem_map.mp h
        rw [← hz]
        exact hR.geB hlt1⟩ hL _ hheap X'
  exact ⟨tt, step tt a1, b1⟩
theorem gv_inv {o : Option Value} {nx : Nat} {ls : AL} {st : List Value} {z : AZ} {f : AH} {q : Nat × AL × List Value × AZ × AH} (h : gv o nx ls st z f = some (.inl q)) : ∃ v, o = some v ∧ q = (nx, ls, v :: st, z, f) := by
  cases o with
  | none => cases h
  | some v => cases h; exact ⟨v, rfl, rfl⟩
theorem gu_inv {o : Option AE} {a nx : Nat} {ls : AL} {st : List Value} {z : AZ} {f : AH} {q : Nat × AL × List Value × AZ × AH} (h : gu o a nx ls st z f = some (.inl q)) : ∃ v, o = some v ∧ q = (nx, ls, st, z, va_up f a v) := by
  cases o with
  | none => cases h
  | some v => cases h; exact ⟨v, rfl, rfl⟩
set_option maxHeartbeats 4000000 in
theorem sim_next {o : AI} {st st1 : List Value} {ls1 : AL} {pc1 : Nat} {z1 : AZ} {f1 : AH} (C : Cx p s m args meth c j B b tK L xs cA D) (ho : okb j pc o nx = true) (hx : sx o nx ls st z f = some (.inl (pc1, ls1, st1, z1, f1))) (h0 : z0.1 ≤ z.1 ∧ z0.2 ≤ z.2) (hf : 1 ≤ R.frames) (hl : 100 ≤ R.locals) (hc : z1.1 - z0.1 ≤ R.cells) (hs : z1.2 - z0.2 ≤ R.slots) (hm : z1.1 ≤ 600000) (kk : Sm p l e R s m args below meth c j B b tK L xs cA D z0 Q pc1 ls1 st1 z1 f1) : Sm p l e R s m args below meth c j B b tK L xs cA D z0 Q pc ls st z f := by
  unfold sx at hx
  split at hx
  · cases hx
    exact m_0 C ho kk
  · cases hx
    exact m_1 C ho kk
  · split at hx
    · rename_i hq
      cases hx
      exact m_2 C ho hq kk
    · cases hx
  · split at hx
    · rename_i hq
      cases hx
      exact m_3 C ho hq kk
    · cases hx
  · split at hx
    · rename_i hq
      cases hx
      exact m_4 C ho hq kk
    · cases hx
  · split at hx
    · cases hx
      exact m_5 C ho kk
    · cases hx
  · split at hx
    · cases hx
      exact m_6 C ho kk
    · cases hx
  · split at hx
    · cases hx
      exact m_7 C ho kk
    · cases hx
  · split at hx
    · rename_i hq
      cases hx
      exact m_8 C ho hq kk
    · cases hx
  · split at hx
    · cases hx
      exact m_10 C ho kk
    · cases hx
  · split at hx
    · cases hx
      exact m_11 C ho kk
    · cases hx
  · split at hx
    · cases hx
      exact m_12 C ho kk
    · cases hx
  · split at hx
    · split at hx
      · cases hx
      · rename_i hq
        cases hx
        exact m_13 C ho hq kk
    · cases hx
  · split at hx
    · split at hx
      · cases hx
      · rename_i hq
        cases hx
        exact m_14 C ho hq kk
    · cases hx
  · split at hx
    · cases hx
      exact m_15 C ho kk
    · cases hx
  · split at hx
    · cases hx
      exact m_16 C ho kk
    · cases hx
  · split at hx
    · cases hx
      exact m_17 C ho kk
    · cases hx
  · split at hx
    · cases hx
      exact m_18 C ho kk
    · cases hx
  · split at hx
    · cases hx
      exact m_19 C ho kk
    · cases hx
  · split at hx
    · cases hx
      exact m_20 C ho kk
    · cases hx
  · split at hx
    · cases hx
      exact m_21 C ho kk
    · cases hx
  · split at hx
    · cases hx
      exact m_22 C ho kk
    · cases hx
  · split at hx
    · split at hx
      · cases hx
      · rename_i hq
        cases hx
        exact m_23 C ho hq kk
    · cases hx
  · split at hx
    · split at hx
      · cases hx
      · rename_i hq
        cases hx
        exact m_24 C ho hq kk
    · cases hx
  · split at hx
    · cases hx
      exact m_25 C ho kk
    · cases hx
  · split at hx
    · cases hx
      exact m_26 C ho kk
    · cases hx
  · split at hx
    · cases hx
      exact m_27 C ho kk
    · cases hx
  · split at hx
    · cases hx
      exact m_28 C ho kk
    · cases hx
  · split at hx
    · cases hx
      exact m_30 C ho kk
    · cases hx
      exact m_30r C ho kk
    · cases hx
  · split at hx
    · cases hx
      exact m_31 C ho kk
    · cases hx
  · split at hx
    · cases hx
      exact m_32 C ho kk
    · cases hx
  · split at hx
    · refine m_40 C ho (fun q => ?_) (fun q => ?_)
      · rw [if_pos q] at hx
        cases hx
        exact kk
      · rw [if_neg q] at hx
        cases hx
        exact kk
    · cases hx
  · split at hx
    · refine m_41 C ho (fun q => ?_) (fun q => ?_)
      · rw [if_pos q] at hx
        cases hx
        exact kk
      · rw [if_neg q] at hx
        cases hx
        exact kk
    · cases hx
  · split at hx
    · refine m_42 C ho (fun q => ?_) (fun q => ?_)
      · rw [if_pos q] at hx
        cases hx
        exact kk
      · rw [if_neg q] at hx
        cases hx
        exact kk
    · cases hx
  · split at hx
    · refine m_43 C ho (fun q => ?_) (fun q => ?_)
      · rw [if_pos q] at hx
        cases hx
        exact kk
      · rw [if_neg q] at hx
        cases hx
        exact kk
    · cases hx
  · split at hx
    · refine m_44 C ho (fun q => ?_) (fun q => ?_)
      · rw [if_pos q] at hx
        cases hx
        exact kk
      · rw [if_neg q] at hx
        cases hx
        exact kk
    · cases hx
  · split at hx
    · refine m_45 C ho (fun q => ?_) (fun q => ?_)
      · rw [if_pos q] at hx
        cases hx
        exact kk
      · rw [if_neg q] at hx
        cases hx
        exact kk
    · cases hx
  · split at hx
    · refine m_46 C ho (fun q => ?_) (fun q => ?_)
      · rw [if_pos q] at hx
        cases hx
        exact kk
      · rw [if_neg q] at hx
        cases hx
        exact kk
    · cases hx
  · split at hx
    · refine m_47 C ho (fun q => ?_) (fun q => ?_)
      · rw [if_pos q] at hx
        cases hx
        exact kk
      · rw [if_neg q] at hx
        cases hx
        exact kk
    · cases hx
  · split at hx
    · refine m_48 C ho (fun q => ?_) (fun q => ?_)
      · rw [if_pos q] at hx
        cases hx
        exact kk
      · rw [if_neg q] at hx
        cases hx
        exact kk
    · cases hx
  · split at hx
    · refine m_49 C ho (fun q => ?_) (fun q => ?_)
      · rw [if_pos q] at hx
        cases hx
        exact kk
      · rw [if_neg q] at hx
        cases hx
        exact kk
    · cases hx
  · split at hx
    · refine m_50 C ho (fun q => ?_) (fun q => ?_)
      · rw [if_pos q] at hx
        cases hx
        exact kk
      · rw [if_neg q] at hx
        cases hx
        exact kk
    · cases hx
  · split at hx
    · refine m_51 C ho (fun q => ?_) (fun q => ?_)
      · rw [if_pos q] at hx
        cases hx
        exact kk
      · rw [if_neg q] at hx
        cases hx
        exact kk
    · cases hx
  · cases hx
    exact m_52 C ho kk
  · split at hx
    · cases hx
      exact m_53 C ho kk
    · cases hx
      exact m_53n C ho kk
    · cases hx
  · split at hx
    · cases hx
      exact m_54 C ho kk
    · cases hx
  · split at hx
    · obtain ⟨v, hg, eq⟩ := gv_inv hx
      cases eq
      exact m_60 C ho hg kk
    · cases hx
  · split at hx
    · obtain ⟨v, hg, eq⟩ := gu_inv hx
      cases eq
      exact m_61 C ho hg kk
    · cases hx
  · cases hx
    exact m_62 C ho kk
  · split at hx
    · obtain ⟨v, hg, eq⟩ := gv_inv hx
      cases eq
      exact m_63 C ho hg kk
    · cases hx
  · split at hx
    · obtain ⟨v, hg, eq⟩ := gv_inv hx
      cases eq
      exact m_64 C ho hg kk
    · cases hx
  · split at hx
    · obtain ⟨v, hg, eq⟩ := gu_inv hx
      cases eq
      exact m_65 C ho hg kk
    · cases hx
  · split at hx
    · obtain ⟨v, hg, eq⟩ := gv_inv hx
      cases eq
      exact m_66 C ho hg kk
    · cases hx
  · split at hx
    · obtain ⟨v, hg, eq⟩ := gu_inv hx
      cases eq
      exact m_67 C ho hg kk
    · cases hx
  · split at hx
    · obtain ⟨v, hg, eq⟩ := gv_inv hx
      cases eq
      exact m_68 C ho hg kk
    · cases hx
  · split at hx
    · obtain ⟨v, hg, eq⟩ := gu_inv hx
      cases eq
      exact m_69 C ho hg kk
    · cases hx
  · split at hx
    · obtain ⟨v, hg, eq⟩ := gv_inv hx
      cases eq
      exact m_70 C ho hg kk
    · cases hx
  · split at hx
    · obtain ⟨v, hg, eq⟩ := gu_inv hx
      cases eq
      exact m_71 C ho hg kk
    · cases hx
  · split at hx
    · split at hx
      · cases hx
      · rename_i hq
        cases hx
        exact m_72 C ho hq h0 hc hs hm kk
    · cases hx
  · split at hx
    · split at hx
      · cases hx
      · rename_i hq
        cases hx
        exact m_73 C ho hq h0 hc hs hm kk
    · cases hx
  · cases hx
    exact m_74 C ho h0 hc hs hm kk
  · split at hx
    · split at hx <;> cases hx
    · cases hx
  · split at hx
    · split at hx <;> cases hx
    · cases hx
  · split at hx
    · split at hx
      · rename_i hq
        obtain ⟨v, hg, eq⟩ := gu_inv hx
        cases eq
        exact m_81 C ho hq hf hl hg kk
      · cases hx
    · cases hx
  · split at hx
    · split at hx
      · rename_i hq
        cases hx
        exact m_82 C ho hq hf hl kk
      · cases hx
    · cases hx
  · split at hx
    · split at hx
      · rename_i hq
        cases hx
        exact m_83 C ho hq hf hl hc hs kk
      · cases hx
    · cases hx
  · split at hx
    · split at hx
      · rename_i hq
        cases hx
        exact m_84 C ho hq hf hl hc hs kk
      · cases hx
    · cases hx
  · split at hx <;> cases hx
  · split at hx <;> cases hx
  · split at hx <;> cases hx
  · split at hx <;> cases hx
  · split at hx
    · split at hx <;> cases hx
    · cases hx
  · cases hx
end

/-! the law's start: an abstract run of the law gives the walk that the claim wants -/
theorem w_ls : Cond.laysStatic "BumpMap" "KIND_LETTERS" "[I" ∈ lw_tbl := wAt_mem (p := 456) (by decide +kernel)
theorem w_ib : Cond.initialized "BumpMap" ∈ lw_tbl := wAt_mem (p := 63) (by decide +kernel)
def f0 (L : Nat) (xs : Nat → Int32) : AH := fun k => if k = 1000000 then cA9 L xs else if k = 1000001 then cA9 6 letters else vd
theorem m1100 : mq 1100 = (x, code, maxLocals, ret) := rfl
theorem u_all {args : Array Value} {s : State} (hts : ∀ w ∈ lw_tbl, w.before args s = true) : ∃ D : va_G, ∀ (c : Nat) (q : vw_C), classes[c]? = some q → u_Kn s q.1 q.2.1 q.2.2 (D.1 c) (D.2 c) := by
  have h : ∀ c : Nat, ∃ (cC : ClassId) (iS : Nat → Nat), c < 11 → u_Kn s (clsN c) (TF c) (kds c).length cC iS := by
    intro c
    by_cases hc : c < 11
    · have hm : c ∈ isT.map Prod.fst := by
        have : ((List.range 11).all fun q => (isT.map Prod.fst).contains q) = true := by decide +kernel
        exact List.contains_iff_mem.mp (List.all_eq_true.mp this c (List.mem_range.mpr hc))
      obtain ⟨q', hq, e⟩ := List.mem_map.mp hm
      have h2 := Bool.and_eq_true_iff.mp (List.all_eq_true.mp isT_ok q' hq)
      obtain ⟨q1, q2, q3⟩ := q'
      cases e
      obtain ⟨cC, iS, hk⟩ := u_known (C := clsN q1) (T := TF q1) (N := (kds q1).length) (n := (kds q1).length) hts (fun w hw => (List.mem_filter.mp (uws_in hc w hw)).1) (hts _ (wAt_mem h2.1))
      exact ⟨cC, iS, fun _ => hk⟩
    · exact ⟨default, fun _ => 0, fun h => absurd h hc⟩
  refine ⟨(fun c => Classical.choose (h c), fun c => Classical.choose (Classical.choose_spec (h c))), ?_⟩
  intro c q hq
  have hc : c < 11 := by
    have := (List.getElem?_eq_some_iff.mp hq).1
    simpa [classes] using this
  rw [classes_get hc] at hq
  cases hq
  exact Classical.choose_spec (Classical.choose_spec (h c)) hc
theorem arr_prim {args : Array Value} {s : State} {ty : FieldType} (hp : va_RA s = va_RA s) (h : (Cond.arrayClass ty).before args s = true) : ∃ cA : ClassId, ArrOfT s cA ty ∧ s.vm.findClass ("[" ++ ty.toString) = some cA := by
  obtain ⟨c, k, comp, h1, h2, h3⟩ := Cond.arrayClass_spec h
  exact ⟨c, fun n z => ⟨fun k h => (by cases h), k, h2, comp, h3⟩, h1⟩
theorem arr_over {args : Array Value} {s : State} {C : String} (h : (Cond.arrayOver (.object C)).before args s = true) : ∃ cA : ClassId, ArrOfT s cA (.object C) ∧ va_RA s cA (.object C) := by
  obtain ⟨comp, c, k, h1, h2, h3, h4, h5⟩ := Cond.arrayOver_spec h
  exact ⟨c, fun n z => ⟨fun k h => (by cases h), k, h3, comp, h4⟩, k, comp, h3, h4, h1, h5⟩
set_option maxHeartbeats 1000000 in
theorem law_start {p : Program} {e : Env} {s : State} {m : MethodId} {below : List Frame} {meth : Method} {c : Code} (l : Launch) {b L : Nat} {xs : Nat → Int32} {d : Nat} (hd : d ≤ 400) (hW : Wp d 1100 0 [some (.ref 1000000)] [] (0, 0) (f0 L xs) (fun r z _ => r = some (.int 1) ∧ z.1 ≤ 600000 ∧ z.2 ≤ 7302250))
    (hx : p.tables.exec = Jvm.exec) (hb : c.code = code) (hr : meth.sig.returnType = ret) (hml : c.maxLocals = 4) (hown : s.vm.findClass "BumpMapLaw" = some m.cls) (hts : ∀ w ∈ lw_tbl, w.before #[Value.ref b] s = true) (hX : va_X b L xs s s.heap) (hbl : b < s.heap.size) (hlocks : meth.locks = false) (hgv : (Jvm.Cond.and given_1 narrow_1).before #[Value.ref b] s = true)
    {Q : State → Prop} (hq : ∀ (H : Heap) (pc : Nat) (la : Array Slot), decode code pc = .ok (.ireturn, 1) → W p l e room_1 s m #[Value.ref b] below meth c H [] 600000 7302250 Q (F0 m pc la [.int 1])) :
    W p l e room_1 s m #[Value.ref b] below meth c s.heap [] 0 0 Q (entryFrame m ([Value.ref b] : List Value).toArray 4) := by
  obtain ⟨N, r, z', f', hrun, rfl, hz1, hz2⟩ := hW
  obtain ⟨D, hKc⟩ := u_all hts
  obtain ⟨a0, a01, a02⟩ := arr_prim rfl (hts _ w_ai)
  obtain ⟨a1, a11, a12⟩ := arr_prim rfl (hts _ w_al)
  obtain ⟨a2, a21, a22⟩ := arr_prim rfl (hts _ w_az)
  obtain ⟨a3, a31, a32⟩ := arr_over (hts _ w_oc)
  obtain ⟨a4, a41, a42⟩ := arr_over (hts _ w_od)
  obtain ⟨cA, e0, e1, e2, e3, e4⟩ : ∃ cA : Nat → ClassId, cA 0 = a0 ∧ cA 1 = a1 ∧ cA 2 = a2 ∧ cA 3 = a3 ∧ cA 4 = a4 := ⟨fun k => if k = 0 then a0 else if k = 1 then a1 else if k = 2 then a2 else if k = 3 then a3 else a4, rfl, rfl, rfl, rfl, rfl⟩
  subst e0; subst e1; subst e2; subst e3; subst e4
  have hK : va_K D classes (tysl cA) s := by
    refine ⟨hKc, fun k q hk => ?_⟩
    match k, hk with
    | 0, hk => cases hk; exact ⟨a01, a02⟩
    | 1, hk => cases hk; exact ⟨a11, a12⟩
    | 2, hk => cases hk; exact ⟨a21, a22⟩
    | 3, hk => cases hk; exact ⟨a31, a32⟩
    | 4, hk => cases hk; exact ⟨a41, a42⟩
    | k + 5, hk => simp [tysl] at hk
  have hfl := flat_of_before _ hgv
  have hA : ∀ a : Nat, a < s.heap.size → ¬ (fun q => s.heap.size ≤ q) a := fun a h => Nat.not_le.mpr h
  obtain ⟨tK, ht1, hT⟩ := va_Tof (A := fun q => s.heap.size ≤ q) (N := 6) (f := fun j => .int (letters j)) (tm := .static "BumpMap" "KIND_LETTERS" "[I") (ty := .int) (by decide) (hfl _ (by decide +kernel)) (va_eqt (hfl (.eq (.length (.static "BumpMap" "KIND_LETTERS" "[I")) (.int 6)) (by decide +kernel)))
    (fun j hj => by
      match j, hj with
      | 0, _ => exact va_eqt (hfl (.eq (.elem (.static "BumpMap" "KIND_LETTERS" "[I") (.int 0)) (.int 114)) (by decide +kernel))
      | 1, _ => exact va_eqt (hfl (.eq (.elem (.static "BumpMap" "KIND_LETTERS" "[I") (.int 1)) (.int 112)) (by decide +kernel))
      | 2, _ => exact va_eqt (hfl (.eq (.elem (.static "BumpMap" "KIND_LETTERS" "[I") (.int 2)) (.int 115)) (by decide +kernel))
      | 3, _ => exact va_eqt (hfl (.eq (.elem (.static "BumpMap" "KIND_LETTERS" "[I") (.int 3)) (.int 102)) (by decide +kernel))
      | 4, _ => exact va_eqt (hfl (.eq (.elem (.static "BumpMap" "KIND_LETTERS" "[I") (.int 4)) (.int 116)) (by decide +kernel))
      | 5, _ => exact va_eqt (hfl (.eq (.elem (.static "BumpMap" "KIND_LETTERS" "[I") (.int 5)) (.int 118)) (by decide +kernel))) hA
  have hZ : va_Z "BumpMap" "KIND_LETTERS" "[I" (.ref tK) (fun q => s.heap.size ≤ q) s s.heap := va_Zof (hts _ w_ls) (hts _ w_ib) ht1 hA
  have hKs : Ks s.heap.size b tK L xs cA D s := by
    refine ⟨hK, fun q hq => ?_, va_Nw.of rfl (hts _ w_gs), va_AO.of (hts _ w_oc), va_AO.of (hts _ w_od), hZ, hT, hX, hbl, Nat.le_refl _⟩
    have h2 := List.all_eq_true.mp neT_ok q hq
    exact va_Nw.of rfl (hts _ (wAt_mem h2))
  have hR : Rp s.heap.size b tK L xs cA D (0, 0) (f0 L xs) s.heap := by
    refine ⟨rfl, fun k q hk => ?_, Nat.zero_le _, fun k hk => (by cases hk), fun k _ h1 h2 => ?_, ?_, ?_⟩
    · simp [wsl] at hk
    · show f0 L xs k = vd
      unfold f0
      rw [if_neg h1, if_neg h2]
    · exact if_pos rfl
    · show f0 L xs 1000001 = _
      unfold f0
      rw [if_neg (by omega), if_pos rfl]
  have e11 : mB 1100 = code := by unfold mB; rw [m1100]
  have e12 : mL 1100 = 4 := by unfold mL; rw [m1100]; rfl
  have e13 : mR 1100 = ret := by unfold mR; rw [m1100]
  have e14 : (mY 1100).name = "law" := by unfold mY; rw [m1100]; rfl
  have C : Cx p s m #[Value.ref b] meth c 1100 s.heap.size b tK L xs cA D := ⟨hx, by rw [e11]; exact hb, by rw [e12]; exact hml, hown, fun w hw => hts w (List.mem_filter.mp hw).1, hKs, fun h => by rw [e14] at h; exact absurd h (by decide), hlocks, by rw [e13]; exact hr⟩
  have K := run_sm (l := l) (e := e) (below := below) (R := room_1) (z0 := (0, 0)) (Q := Q) (d := d) (N := N) C (fun a as z f v z1 f1 h => sound l d N a as z f v z1 f1 h) (show d + 1 ≤ 2048 by omega) (show 100 * d + 100 ≤ 84000 by omega) (show z'.1 - 0 ≤ 600000 by omega) (show z'.2 - 0 ≤ 7302250 by omega) hz1 (fun pc nx o ls st ho hs => by
      obtain ⟨-, -, a, b', c', t, h⟩ := sx_ret hs
      have hmR : mR 1100 = some .boolean := e13
      intro H locs la hR hS hL
      refine va_forget (fun q hq => hS.2.2 q hq) (W.widen (k := 600000) (n := 7302250) (by show z'.1 - 0 ≤ _; omega) (by show z'.2 - 0 ≤ _; omega) ?_)
      rcases h with ⟨rfl, x, rfl, hv⟩ | ⟨rfl, x, rfl, hv⟩ | ⟨rfl, x, rfl, hv⟩ | ⟨rfl, rfl, hv⟩ | ⟨rfl, x, rfl, hv, hxx⟩
      · cases hv
        have ho := Bool.and_eq_true_iff.mp (show (decide (decode (mB 1100) pc = .ok (.ireturn, 1)) && decide (mR 1100 = some .int)) = true from ho)
        have h3 : mR 1100 = some .int := of_decide_eq_true ho.2
        rw [hmR] at h3
        cases h3
      · cases hv
      · cases hv
      · cases hv
      · cases hv
        have ho := Bool.and_eq_true_iff.mp (show (decide (decode (mB 1100) pc = .ok (.ireturn, 1)) && decide (mR 1100 = some .boolean)) = true from ho)
        have h3 := of_decide_eq_true ho.1
        rw [e11] at h3
        exact hq H pc la h3) N 0 [some (.ref 1000000)] [] (0, 0) (f0 L xs) hrun ⟨Nat.le_refl _, Nat.le_refl _⟩
  have e15 : ([.ref 1000000] : List Value).map (tv (adr s.heap.size b tK)) = [.ref b] := by
    show [Value.ref (adr s.heap.size b tK 1000000)] = _
    rw [adr_s]
  have hen := entry_LvR (ad := adr s.heap.size b tK) (as := [.ref 1000000]) (n := 4) (by decide)
  rw [e15] at hen
  rw [lg_entry_eq]
  exact K s.heap [] _ hR va_S.rf (by rw [e12]; exact hen)

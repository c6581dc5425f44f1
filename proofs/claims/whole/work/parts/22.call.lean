/-! calls; what a method's run gives -/
def Qm (B b tK L : Nat) (xs : Nat → Int32) (cA : Nat → ClassId) (D : va_G) (r : Option Value) (z : AZ) (f : AH) : Array Value → State → Outcome → State → Prop := fun _ st o t => o = .returned (r.map (tv (adr B b tK))) ∧ Rp B b tK L xs cA D z f t.heap ∧ va_F (fun q => B ≤ q) st t
def Pm (B b tK L : Nat) (xs : Nat → Int32) (cA : Nat → ClassId) (D : va_G) (as : List Value) (z : AZ) (f : AH) : Array Value → State → Prop := va_Pc (as.map (tv (adr B b tK))) (fun U => Rp B b tK L xs cA D z f U.heap ∧ Ks B b tK L xs cA D U)
def wsM (j : Nat) : List Cond := .code (mY j) (mB j) (mL j) (mR j) :: GW
def rmM (d mc ms : Nat) : Room := { frames := d, cells := mc, slots := ms, locals := 100 * d }
def MetA (l : Launch) (B b tK L : Nat) (xs : Nat → Int32) (cA : Nat → ClassId) (D : va_G) (d j : Nat) (as : List Value) (z : AZ) (f : AH) (r : Option Value) (z' : AZ) (f' : AH) : Prop :=
  Met l (mY j) (wsM j) (rmM d (z'.1 - z.1) (z'.2 - z.2)) (Pm B b tK L xs cA D as z f) (Qm B b tK L xs cA D r z' f') (z'.1 - z.1) (z'.2 - z.2) (fun q => B ≤ q)
theorem Pm_blind {B b tK L : Nat} {xs : Nat → Int32} {cA : Nat → ClassId} {D : va_G} {as : List Value} {z : AZ} {f : AH} : FrameBlind (Pm B b tK L xs cA D as z f) := by
  intro a U g mk h
  obtain ⟨h1, h2, k1, k2, k3, k4, k5, k6, k7, k8, k9, k10⟩ := h
  refine ⟨h1, h2, va_K.moved (u := U) (U := U.calling g mk a) (Vm.Alike.refl U.vm) k1, fun q hq => va_Nw.same rfl (u := U) (U := U.calling g mk a) rfl (k2 q hq), va_Nw.same rfl (u := U) (U := U.calling g mk a) rfl k3, va_AO.moved (u := U) (U := U.calling g mk a) (Vm.Alike.refl U.vm) k4, va_AO.moved (u := U) (U := U.calling g mk a) (Vm.Alike.refl U.vm) k5, va_Z.moved (u := U) (U := U.calling g mk a) (Vm.Alike.refl U.vm) k6, va_T.moved (u := U) (U := U.calling g mk a) (Vm.Alike.refl U.vm) k7, va_X.moved (u := U) (U := U.calling g mk a) (Vm.Alike.refl U.vm) k8, k9, k10⟩
theorem popn_spec : ∀ (n : Nat) (acc st as r : List Value), popn n acc st = some (as, r) → ∃ q, st = q ++ r ∧ as = q.reverse ++ acc ∧ q.length = n
  | 0, acc, st, as, r, h => by cases h; exact ⟨[], rfl, rfl, rfl⟩
  | n + 1, acc, [], as, r, h => by cases h
  | n + 1, acc, v :: st, as, r, h => by
    obtain ⟨q, h1, h2, h3⟩ := popn_spec n (v :: acc) st as r h
    exact ⟨v :: q, by rw [h1]; rfl, by rw [h2]; simp, by simp [h3]⟩
theorem cd_use {j : Nat} (h : (cdT.map Prod.fst).contains j = true) : Cond.code (mY j) (mB j) (mL j) (mR j) ∈ GW ∧ (mY j).cls = clsN (mC j) ∧ ((mY j).cls ≠ "java/lang/invoke/MethodHandle" ∧ (mY j).cls ≠ "java/lang/invoke/VarHandle") ∧ _root_.Jvm.plainName (mY j).cls = true := by
  obtain ⟨q', hq, e⟩ := List.mem_map.mp (List.contains_iff_mem.mp h)
  have h2 := List.all_eq_true.mp cdT_ok q' hq
  obtain ⟨q1, q2⟩ := q'
  cases e
  simp only [cdB, Bool.and_eq_true, decide_eq_true_eq] at h2
  exact ⟨gw_in (wAt_mem h2.1.1.1) rfl, h2.1.1.2, h2.1.2, h2.2⟩
theorem mC_all : (cdT.all fun q => decide (mC q.1 ≠ 99)) = true := by decide +kernel
theorem mC_ne {j : Nat} (h : (cdT.map Prod.fst).contains j = true) : mC j ≠ 99 := by
  obtain ⟨q', hq, e⟩ := List.mem_map.mp (List.contains_iff_mem.mp h)
  have h2 := of_decide_eq_true (List.all_eq_true.mp mC_all q' hq)
  rw [e] at h2
  exact h2
theorem good_ws {j : Nat} (h : (cdT.map Prod.fst).contains j = true) : GoodIn GW (wsM j) := by
  intro w hw
  have hg : w ∈ GW := by
    rcases List.mem_cons.mp hw with rfl | hw
    · exact (cd_use h).1
    · exact hw
  exact ⟨hg, good_of_word (List.mem_filter.mp hg).2⟩
section
variable {p : Program} {l : Launch} {e : Env} {R : Room} {s : State} {m : MethodId} {args : Array Value} {below : List Frame} {meth : Method} {c : Code} {j B b tK L : Nat} {xs : Nat → Int32} {cA : Nat → ClassId} {D : va_G} {z0 : AZ} {Q : State → Prop} {pc nx : Nat} {ls : AL} {r : List Value} {z : AZ} {f : AH} {a w : Nat} {k : Int} {t : List Nat}
theorem run_W {H : Heap} {locs : List Loc} {cells slots mc ms : Nat} {la : Array Slot} {st0 rest : List Value} {v : Option Value} {z1 : AZ} {f1 : AH} {a' : Array Value} (hr : va_Run p l e R s m args below meth c H locs cells slots mc ms (F0 m pc la st0) rest (Qm B b tK L xs cA D v z1 f1 a') (fun q => B ≤ q)) (hS : va_S (fun q => B ≤ q) s.heap H locs)
    (kk : ∀ (H1 : Heap) (locs1 : List Loc), Rp B b tK L xs cA D z1 f1 H1 → va_S (fun q => B ≤ q) s.heap H1 locs1 → W p l e R s m args below meth c H1 locs1 (cells + mc) (slots + ms) Q (F0 m (pc + 3) la ((v.map (tv (adr B b tK))).toList ++ rest))) : W p l e R s m args below meth c H locs cells slots Q (F0 m pc la st0) := by
  intro T hT X
  obtain ⟨v', st₀, t, T', L', h0, X', hL, e1, e2, ⟨hv, hRp, hz, hk⟩, stp⟩ := hr T hT X
  cases hv
  rw [h0] at hz hk
  obtain ⟨t2, a1, b1⟩ := kk T'.heap (locs ++ L') (by rw [e1]; exact hRp) ⟨Nat.le_trans hS.1 (by rw [e1]; exact hz), fun q h1 h2 => by rw [e1, hk q (Nat.lt_of_lt_of_le h1 hS.1) h2]; exact hS.2.1 q h1 h2, fun q hq => by
      rcases List.mem_append.mp hq with h | h
      · exact hS.2.2 q h
      · exact hL q h⟩ T' rfl X'
  exact ⟨t2, stp t2 a1, b1⟩
theorem ps_map (ad : Nat → Nat) (v : Option Value) (r : List Value) : (ps v r).map (tv ad) = (v.map (tv ad)).toList ++ r.map (tv ad) := by cases v <;> rfl
theorem ml_use {ix a kd : Nat} (h : (mlT.map Prod.fst).contains (mC j, ix, a, kd) = true) : ∃ q, q ∈ mlT ∧ q.1 = (mC j, ix, a, kd) ∧ mlB q = true := by
  obtain ⟨q', hq, e⟩ := List.mem_map.mp (List.contains_iff_mem.mp h)
  exact ⟨q', hq, e, List.all_eq_true.mp mlT_ok q' hq⟩
set_option maxHeartbeats 1000000 in
theorem m_79 {d n : Nat} {as st : List Value} {v : Option Value} {z1 : AZ} {f1 : AH} (C : Cx p s m args meth c j B b tK L xs cA D) (ho : okb j pc (79, a, n, k, t) nx = true) (hp : popn n [] st = some (as, r)) (hr : r.length < 5) (hv : rcv f as a = true) (hM : MetA l B b tK L xs cA D d a as z f v z1 f1) (h0 : z0.1 ≤ z.1 ∧ z0.2 ≤ z.2) (h1 : z.1 ≤ z1.1 ∧ z.2 ≤ z1.2) (hf : d + 1 ≤ R.frames) (hl : 100 * d + 100 ≤ R.locals) (hc : z1.1 - z0.1 ≤ R.cells) (hs : z1.2 - z0.2 ≤ R.slots)
    (kk : Sm p l e R s m args below meth c j B b tK L xs cA D z0 Q nx ls (ps v r) z1 f1) : Sm p l e R s m args below meth c j B b tK L xs cA D z0 Q pc ls st z f := by
  obtain ⟨hx, hb, hml, hown, hts, hK, -⟩ := C
  match t, ho with
  | [], ho => cases ho
  | _ :: _ :: _, ho => cases ho
  | [ix], ho =>
    have ho : (decide (k.toNat = mL a) && decide (mL a ≤ 60) && (cdT.map Prod.fst).contains a && decide (nx = pc + 3) && decide ((parseMethodDescriptor (mY a).desc).map (fun d => d.parameters.length + 1) = some n) &&
      ((decide (decode (mB j) pc = .ok (.invokevirtual ix, 3)) && (mlT.map Prod.fst).contains (mC j, ix, a, 0)) ||
       (decide (decode (mB j) pc = .ok (.invokespecial ix, 3)) && decide (mR a = none) && ((mlT.map Prod.fst).contains (mC j, ix, a, 2) || (mlT.map Prod.fst).contains (mC j, ix, a, 5) && (neT.map fun q => (q.1, q.2.1, q.2.2.1)).contains (mC j, ix, a))))) = true := ho
    simp only [Bool.and_eq_true, Bool.or_eq_true, decide_eq_true_eq] at ho
    obtain ⟨⟨⟨⟨⟨o1, o2⟩, o3⟩, o4⟩, o7⟩, hcase⟩ := ho
    subst o4
    obtain ⟨q1, q2, q3⟩ : ∃ x As, as = .ref x :: As := by
      cases as with
      | nil => cases hv
      | cons v0 As => cases v0 <;> first | exact ⟨_, _, rfl⟩ | cases hv
    subst q3
    have hv : rce (f q1) a = true := hv
    obtain ⟨qq, p1, p2, p3⟩ := popn_spec n [] st _ r hp
    rw [List.append_nil] at p2
    have p4 : qq = q2.reverse ++ [.ref q1] := by rw [← List.reverse_reverse qq, ← p2]; simp
    obtain ⟨fs, hfs⟩ : ∃ fs, f q1 = .inr (mC a, fs) := by
      unfold rce at hv
      split at hv
      · rename_i c0 fs e0
        exact ⟨fs, by rw [e0, eq_of_beq hv]; rfl⟩
      · cases hv
    obtain ⟨c1, c2, c3, c4⟩ := cd_use o3
    intro H locs la hR hS hL
    have hlt := hR.lt (x := q1) (by
      rw [hfs]
      intro h
      exact mC_ne o3 (Prod.mk.inj (Sum.inr.inj h)).1) (by rw [hfs]; intro n w h; cases h)
    have hws := wsl_get (ad := adr B b tK) (cA := cA) (f := f) hlt
    rw [hfs] at hws
    have hca : mC a < 11 := by
      have hat := hR.at hlt
      rw [hfs] at hat
      obtain ⟨rr, g1, -⟩ := hat
      have := (List.getElem?_eq_some_iff.mp g1).1
      simpa [classes] using this
    have hrec := va_recv hK.1 hR.2.1 (classes_get hca) hws
    have hcs := cat_sum (adr B b tK) r
    have hlen : (parseMethodDescriptor (mY a).desc).map (fun d => d.parameters.length) = some q2.length := by
      have hn : n = q2.length + 1 := by rw [← p3, p4]; simp
      rw [hn] at o7
      cases hpd : parseMethodDescriptor (mY a).desc with
      | none => rw [hpd] at o7; cases o7
      | some dd =>
        rw [hpd] at o7
        have : dd.parameters.length + 1 = q2.length + 1 := Option.some.inj o7
        show some dd.parameters.length = _
        congr 1
        omega
    have hrm : (rmM d (z1.1 - z.1) (z1.2 - z.2)).frames + 1 ≤ R.frames ∧ 8 + (mL a + 11) + (rmM d (z1.1 - z.1) (z1.2 - z.2)).locals ≤ R.locals := ⟨hf, by show 8 + (mL a + 11) + 100 * d ≤ _; omega⟩
    have nest : (neT.map fun q => (q.1, q.2.1, q.2.2.1)).contains (mC j, ix, a) = true → va_Nw (.methodLinkNest (clsN (mC j)) ix (mY a) "BumpMap") s := by
      intro h
      obtain ⟨q', hq, e⟩ := List.mem_map.mp (List.contains_iff_mem.mp h)
      have h2 := hK.2.1 q' hq
      obtain ⟨q1, q2, q3, q4⟩ := q'
      cases e
      exact h2
    have fin : ∀ a', va_Run p l e R s m args below meth c H locs (z.1 - z0.1) (z.2 - z0.2) (z1.1 - z.1) (z1.2 - z.2) (F0 m pc la (st.map (tv (adr B b tK)))) (r.map (tv (adr B b tK))) (Qm B b tK L xs cA D v z1 f1 a') (fun q => B ≤ q) → W p l e R s m args below meth c H locs (z.1 - z0.1) (z.2 - z0.2) Q (F0 m pc la (st.map (tv (adr B b tK)))) := by
      intro a' run
      refine run_W run hS fun H1 locs1 hR1 hS1 => ?_
      have K := kk H1 locs1 la hR1 hS1 hL
      rw [ps_map] at K
      rw [show z.1 - z0.1 + (z1.1 - z.1) = z1.1 - z0.1 by omega, show z.2 - z0.2 + (z1.2 - z.2) = z1.2 - z0.2 by omega]
      exact K
    rcases hcase with ⟨o5, o6⟩ | ⟨⟨o5, o5r⟩, o6⟩
    · obtain ⟨q, -, hq1, hq2⟩ := ml_use o6
      obtain ⟨⟨x1, x2, x3, x4⟩, y1, y2, y3, y4⟩ := q
      cases hq1
      have hq2 := Bool.and_eq_true_iff.mp hq2
      have hq3 : (wAt y1 (.methodLink (clsN (mC j)) ix (mY a)) && wAt y2 (.instanceMethod (mY a)) && wAt y3 (.selects (mY a).cls (mY a) (mY a))) = true := hq2.2
      simp only [Bool.and_eq_true] at hq3
      have hini := hts _ (gw_in (wAt_mem hq2.1) rfl)
      have hlink := hts _ (gw_in (wAt_mem hq3.1.1) rfl)
      have hins := hts _ (gw_in (wAt_mem hq3.1.2) rfl)
      have hsel := hts _ (gw_in (wAt_mem hq3.2) rfl)
      have cb := callB_of (R := R) (own := clsN (mC j)) (index := ix) (bytes := mB a) (maxL := mL a) (ret := mR a) (rm := rmM d (z1.1 - z.1) (z1.2 - z.2)) (mc := z1.1 - z.1) (ms := z1.2 - z.2) (ws' := GW) q2.length hts (good_ws o3) rfl rfl rfl hini hlink ⟨c3.1, c3.2, hlen⟩ hrm
      exact fin _ (va_runV (l := l) (e := e) (below := below) (meth := meth) (locs := locs) (cells := z.1 - z0.1) (slots := z.2 - z0.2) (C := (mY a).cls) (b := adr B b tK q1) (As := q2.map (tv (adr B b tK))) (rest := r.map (tv (adr B b tK))) (g := F0 m pc la (st.map (tv (adr B b tK)))) ⟨hx, hb, hml, hown, hts⟩ hM ⟨cb, hins, hsel⟩ ⟨Pm_blind, by rw [c2]; exact hrec, fun U hU hW => ⟨rfl, by rw [hU]; exact hR, hK.moved hS hU hW⟩⟩ rfl (by simp) hL.1 (by show st.map _ = _; rw [p1, p4]; simp; rfl) (lv_room (by omega)) o5 ⟨by omega, by omega⟩)
    · have hst : st.map (tv (adr B b tK)) = (q2.map (tv (adr B b tK))).reverse ++ .ref (adr B b tK q1) :: r.map (tv (adr B b tK)) := by rw [p1, p4]; simp; rfl
      have hps : PreS s H (Pm B b tK L xs cA D (.ref q1 :: q2) z f) (.ref (adr B b tK q1) :: q2.map (tv (adr B b tK))) := ⟨Pm_blind, fun U hU hW => ⟨rfl, by rw [hU]; exact hR, hK.moved hS hU hW⟩⟩
      have hM' : Met l (mY a) (.code (mY a) (mB a) (mL a) none :: GW) (rmM d (z1.1 - z.1) (z1.2 - z.2)) (Pm B b tK L xs cA D (.ref q1 :: q2) z f) (Qm B b tK L xs cA D v z1 f1) (z1.1 - z.1) (z1.2 - z.2) (fun q => B ≤ q) := by
        have := hM
        unfold MetA wsM at this
        rw [o5r] at this
        exact this
      have hgood : GoodIn GW (.code (mY a) (mB a) (mL a) none :: GW) := by
        have := good_ws o3
        unfold wsM at this
        rw [o5r] at this
        exact this
      rcases o6 with o6 | ⟨o6, o8⟩
      · obtain ⟨q, -, hq1, hq2⟩ := ml_use o6
        obtain ⟨⟨x1, x2, x3, x4⟩, y1, y2, y3, y4⟩ := q
        cases hq1
        have hq2 := Bool.and_eq_true_iff.mp hq2
        have hq3 : (wAt y1 (.methodLink (clsN (mC j)) ix (mY a)) && wAt y2 (.instanceMethod (mY a)) && decide ((mY a).name = "<init>")) = true := hq2.2
        simp only [Bool.and_eq_true, decide_eq_true_eq] at hq3
        have cb := callB_of (R := R) (own := clsN (mC j)) (index := ix) (bytes := mB a) (maxL := mL a) (ret := none) (rm := rmM d (z1.1 - z.1) (z1.2 - z.2)) (mc := z1.1 - z.1) (ms := z1.2 - z.2) (ws' := GW) q2.length hts hgood rfl rfl rfl (hts _ (gw_in (wAt_mem hq2.1) rfl)) (hts _ (gw_in (wAt_mem hq3.1.1) rfl)) ⟨c3.1, c3.2, hlen⟩ hrm
        exact fin _ (va_runI (As := q2.map (tv (adr B b tK))) (b := adr B b tK q1) (g := F0 m pc la (st.map (tv (adr B b tK)))) ⟨hx, hb, hml, hown, hts⟩ hM' ⟨cb, hq3.2, hts _ (gw_in (wAt_mem hq3.1.2) rfl)⟩ hps rfl (by simp) hL.1 hst (lv_room (by omega)) o5 ⟨by omega, by omega⟩)
      · obtain ⟨q, -, hq1, hq2⟩ := ml_use o6
        obtain ⟨⟨x1, x2, x3, x4⟩, y1, y2, y3, y4⟩ := q
        cases hq1
        have hq2 := Bool.and_eq_true_iff.mp hq2
        have hq3 : (wAt y1 (.methodLinkNest (clsN (mC j)) ix (mY a) "BumpMap") && wAt y2 (.instanceMethod (mY a)) && decide ((mY a).name = "<init>")) = true := hq2.2
        simp only [Bool.and_eq_true, decide_eq_true_eq] at hq3
        have cb := va_cnB (R := R) (own := clsN (mC j)) (host := "BumpMap") (index := ix) (bytes := mB a) (maxL := mL a) (ret := none) (rm := rmM d (z1.1 - z.1) (z1.2 - z.2)) (mc := z1.1 - z.1) (ms := z1.2 - z.2) (ws' := GW) q2.length hts hgood rfl rfl rfl (nest o8) (hts _ (gw_in (wAt_mem hq2.1) rfl)) ⟨c3.1, c3.2, hlen⟩ hrm
        exact fin _ (va_runIN (As := q2.map (tv (adr B b tK))) (b := adr B b tK q1) (g := F0 m pc la (st.map (tv (adr B b tK)))) ⟨hx, hb, hml, hown, hts⟩ hM' ⟨cb, hq3.2, hts _ (gw_in (wAt_mem hq3.1.2) rfl)⟩ hps rfl (by simp) hL.1 hst (lv_room (by omega)) o5 ⟨by omega, by omega⟩)
set_option maxHeartbeats 1000000 in
theorem m_80 {d n : Nat} {as st : List Value} {v : Option Value} {z1 : AZ} {f1 : AH} (C : Cx p s m args meth c j B b tK L xs cA D) (ho : okb j pc (80, a, n, k, t) nx = true) (hp : popn n [] st = some (as, r)) (hr : r.length < 5) (hM : MetA l B b tK L xs cA D d a as z f v z1 f1) (h0 : z0.1 ≤ z.1 ∧ z0.2 ≤ z.2) (h1 : z.1 ≤ z1.1 ∧ z.2 ≤ z1.2) (hf : d + 1 ≤ R.frames) (hl : 100 * d + 100 ≤ R.locals) (hc : z1.1 - z0.1 ≤ R.cells) (hs : z1.2 - z0.2 ≤ R.slots)
    (kk : Sm p l e R s m args below meth c j B b tK L xs cA D z0 Q nx ls (ps v r) z1 f1) : Sm p l e R s m args below meth c j B b tK L xs cA D z0 Q pc ls st z f := by
  obtain ⟨hx, hb, hml, hown, hts, hK, -⟩ := C
  match t, ho with
  | [], ho => cases ho
  | _ :: _ :: _, ho => cases ho
  | [ix], ho =>
    have ho : (decide (k.toNat = mL a) && decide (mL a ≤ 60) && (cdT.map Prod.fst).contains a && decide (nx = pc + 3) && decide ((parseMethodDescriptor (mY a).desc).map (fun d => d.parameters.length) = some n) && decide (decode (mB j) pc = .ok (.invokestatic ix, 3)) && ((mlT.map Prod.fst).contains (mC j, ix, a, 1) || (mlT.map Prod.fst).contains (mC j, ix, a, 4) && (neT.map fun q => (q.1, q.2.1, q.2.2.1)).contains (mC j, ix, a))) = true := ho
    simp only [Bool.and_eq_true, Bool.or_eq_true, decide_eq_true_eq] at ho
    obtain ⟨⟨⟨⟨⟨⟨o1, o2⟩, o3⟩, o4⟩, o7⟩, o5⟩, o6⟩ := ho
    subst o4
    obtain ⟨qq, p1, p2, p3⟩ := popn_spec n [] st _ r hp
    rw [List.append_nil] at p2
    obtain ⟨c1, c2, c3, c4⟩ := cd_use o3
    have nest : (neT.map fun q => (q.1, q.2.1, q.2.2.1)).contains (mC j, ix, a) = true → va_Nw (.methodLinkNest (clsN (mC j)) ix (mY a) "BumpMap") s := by
      intro h
      obtain ⟨q', hq, e⟩ := List.mem_map.mp (List.contains_iff_mem.mp h)
      have h2 := hK.2.1 q' hq
      obtain ⟨q1, q2, q3, q4⟩ := q'
      cases e
      exact h2
    intro H locs la hR hS hL
    have hcs := cat_sum (adr B b tK) r
    have hrm : (rmM d (z1.1 - z.1) (z1.2 - z.2)).frames + 1 ≤ R.frames ∧ 8 + (mL a + 11) + (rmM d (z1.1 - z.1) (z1.2 - z.2)).locals ≤ R.locals := ⟨hf, by show 8 + (mL a + 11) + 100 * d ≤ _; omega⟩
    have fin : ∀ a', va_Run p l e R s m args below meth c H locs (z.1 - z0.1) (z.2 - z0.2) (z1.1 - z.1) (z1.2 - z.2) (F0 m pc la (st.map (tv (adr B b tK)))) (r.map (tv (adr B b tK))) (Qm B b tK L xs cA D v z1 f1 a') (fun q => B ≤ q) → W p l e R s m args below meth c H locs (z.1 - z0.1) (z.2 - z0.2) Q (F0 m pc la (st.map (tv (adr B b tK)))) := by
      intro a' run
      refine run_W run hS fun H1 locs1 hR1 hS1 => ?_
      have K := kk H1 locs1 la hR1 hS1 hL
      rw [ps_map] at K
      rw [show z.1 - z0.1 + (z1.1 - z.1) = z1.1 - z0.1 by omega, show z.2 - z0.2 + (z1.2 - z.2) = z1.2 - z0.2 by omega]
      exact K
    have hlen : (parseMethodDescriptor (mY a).desc).map (fun d => d.parameters.length) = some as.length := by
      rw [o7, p2, List.length_reverse, p3]
    have hst : st.map (tv (adr B b tK)) = (as.map (tv (adr B b tK))).reverse ++ r.map (tv (adr B b tK)) := by rw [p1, p2]; simp
    have hps : PreS s H (Pm B b tK L xs cA D as z f) (as.map (tv (adr B b tK))) := ⟨Pm_blind, fun U hU hW => ⟨rfl, by rw [hU]; exact hR, hK.moved hS hU hW⟩⟩
    rcases o6 with o6 | ⟨o6, o8⟩
    · obtain ⟨q, -, hq1, hq2⟩ := ml_use o6
      obtain ⟨⟨x1, x2, x3, x4⟩, y1, y2, y3, y4⟩ := q
      cases hq1
      have hq2 := Bool.and_eq_true_iff.mp hq2
      have hq3 : (wAt y1 (.methodLink (clsN (mC j)) ix (mY a)) && wAt y2 (.static (mY a))) = true := hq2.2
      simp only [Bool.and_eq_true] at hq3
      have cb := callB_of (R := R) (own := clsN (mC j)) (index := ix) (bytes := mB a) (maxL := mL a) (ret := mR a) (rm := rmM d (z1.1 - z.1) (z1.2 - z.2)) (mc := z1.1 - z.1) (ms := z1.2 - z.2) (ws' := GW) as.length hts (good_ws o3) rfl rfl rfl (hts _ (gw_in (wAt_mem hq2.1) rfl)) (hts _ (gw_in (wAt_mem hq3.1) rfl)) ⟨c3.1, c3.2, hlen⟩ hrm
      exact fin _ (va_runS (As := as.map (tv (adr B b tK))) (g := F0 m pc la (st.map (tv (adr B b tK)))) ⟨hx, hb, hml, hown, hts⟩ hM ⟨cb, hts _ (gw_in (wAt_mem hq3.2) rfl)⟩ hps rfl (by simp) hL.1 hst (lv_room (by omega)) o5 ⟨by omega, by omega⟩)
    · obtain ⟨q, -, hq1, hq2⟩ := ml_use o6
      obtain ⟨⟨x1, x2, x3, x4⟩, y1, y2, y3, y4⟩ := q
      cases hq1
      have hq2 := Bool.and_eq_true_iff.mp hq2
      have hq3 : (wAt y1 (.methodLinkNest (clsN (mC j)) ix (mY a) "BumpMap") && wAt y2 (.static (mY a))) = true := hq2.2
      simp only [Bool.and_eq_true] at hq3
      have cb := va_cnB (R := R) (own := clsN (mC j)) (host := "BumpMap") (index := ix) (bytes := mB a) (maxL := mL a) (ret := mR a) (rm := rmM d (z1.1 - z.1) (z1.2 - z.2)) (mc := z1.1 - z.1) (ms := z1.2 - z.2) (ws' := GW) as.length hts (good_ws o3) rfl rfl rfl (nest o8) (hts _ (gw_in (wAt_mem hq2.1) rfl)) ⟨c3.1, c3.2, hlen⟩ hrm
      exact fin _ (va_runSN (As := as.map (tv (adr B b tK))) (g := F0 m pc la (st.map (tv (adr B b tK)))) ⟨hx, hb, hml, hown, hts⟩ hM ⟨cb, hts _ (gw_in (wAt_mem hq3.2) rfl), trivial⟩ hps rfl (by simp) hL.1 hst (lv_room (by omega)) o5 ⟨by omega, by omega⟩)
end

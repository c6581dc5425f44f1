/-! the run of a method in the abstract machine is a run of the machine -/
theorem gv_z {o : Option Value} {nx : Nat} {ls : AL} {st : List Value} {z : AZ} {f : AH} {pc1 : Nat} {ls1 : AL} {st1 : List Value} {z1 : AZ} {f1 : AH} (h : gv o nx ls st z f = some (.inl (pc1, ls1, st1, z1, f1))) : z.1 ≤ z1.1 ∧ z.2 ≤ z1.2 := by
  obtain ⟨v, -, e⟩ := gv_inv h
  cases e
  exact ⟨Nat.le_refl _, Nat.le_refl _⟩
theorem gu_z {o : Option AE} {a nx : Nat} {ls : AL} {st : List Value} {z : AZ} {f : AH} {pc1 : Nat} {ls1 : AL} {st1 : List Value} {z1 : AZ} {f1 : AH} (h : gu o a nx ls st z f = some (.inl (pc1, ls1, st1, z1, f1))) : z.1 ≤ z1.1 ∧ z.2 ≤ z1.2 := by
  obtain ⟨v, -, e⟩ := gu_inv h
  cases e
  exact ⟨Nat.le_refl _, Nat.le_refl _⟩
theorem gv_nr {o : Option Value} {nx : Nat} {ls : AL} {st : List Value} {z : AZ} {f : AH} {q : (Nat × List Value × Nat × AL × List Value) ⊕ AR} (h : gv o nx ls st z f = some (.inr q)) : False := by
  cases o <;> cases h
theorem gu_nr {o : Option AE} {a nx : Nat} {ls : AL} {st : List Value} {z : AZ} {f : AH} {q : (Nat × List Value × Nat × AL × List Value) ⊕ AR} (h : gu o a nx ls st z f = some (.inr q)) : False := by
  cases o <;> cases h
set_option maxHeartbeats 4000000 in
theorem sx_z {o : AI} {nx : Nat} {ls : AL} {st : List Value} {z : AZ} {f : AH} {pc1 : Nat} {ls1 : AL} {st1 : List Value} {z1 : AZ} {f1 : AH} (h : sx o nx ls st z f = some (.inl (pc1, ls1, st1, z1, f1))) : z.1 ≤ z1.1 ∧ z.2 ≤ z1.2 := by
  unfold sx at h
  split at h
  all_goals first
    | (cases h <;> first | exact ⟨Nat.le_refl _, Nat.le_refl _⟩ | exact ⟨Nat.le_succ _, Nat.le_add_right _ _⟩)
    | exact gv_z h
    | exact gu_z h
    | (split at h <;> first | (cases h <;> first | exact ⟨Nat.le_refl _, Nat.le_refl _⟩ | exact ⟨Nat.le_succ _, Nat.le_add_right _ _⟩) | exact gv_z h | exact gu_z h | (split at h <;> first | (cases h <;> first | exact ⟨Nat.le_refl _, Nat.le_refl _⟩ | exact ⟨Nat.le_succ _, Nat.le_add_right _ _⟩) | exact gv_z h | exact gu_z h))
set_option maxHeartbeats 4000000 in
/-- a return: which instruction, and that the heap stays -/
theorem sx_ret {o : AI} {nx : Nat} {ls : AL} {st : List Value} {z : AZ} {f : AH} {v : Option Value} {z1 : AZ} {f1 : AH} (h : sx o nx ls st z f = some (.inr (.inr (v, z1, f1)))) : z1 = z ∧ f1 = f ∧ ∃ (a b : Nat) (c : Int) (t : List Nat), (o = (90, a, b, c, t) ∧ ∃ x, st = [.int x] ∧ v = some (.int x)) ∨ (o = (91, a, b, c, t) ∧ ∃ x, st = [.long x] ∧ v = some (.long x)) ∨ (o = (92, a, b, c, t) ∧ ∃ x, st = [.ref x] ∧ v = some (.ref x)) ∨ (o = (93, a, b, c, t) ∧ st = [] ∧ v = none) ∨ (o = (94, a, b, c, t) ∧ ∃ x, st = [.int x] ∧ v = some (.int x) ∧ (x = 0 ∨ x = 1)) := by
  unfold sx at h
  split at h
  all_goals first
    | (cases h; done)
    | exact (gv_nr h).elim
    | exact (gu_nr h).elim
    | (split at h <;> first | (cases h; done) | exact (gv_nr h).elim | exact (gu_nr h).elim | (split at h <;> first | (cases h; done) | exact (gv_nr h).elim | exact (gu_nr h).elim) | skip)
    | skip
  all_goals skip
  · cases h; exact ⟨rfl, rfl, _, _, _, _, Or.inl ⟨rfl, _, rfl, rfl⟩⟩
  · cases h; exact ⟨rfl, rfl, _, _, _, _, Or.inr (Or.inl ⟨rfl, _, rfl, rfl⟩)⟩
  · cases h; exact ⟨rfl, rfl, _, _, _, _, Or.inr (Or.inr (Or.inl ⟨rfl, _, rfl, rfl⟩))⟩
  · cases h; exact ⟨rfl, rfl, _, _, _, _, Or.inr (Or.inr (Or.inr (Or.inl ⟨rfl, rfl, rfl⟩)))⟩
  · split at h
    · rename_i hq
      cases h
      exact ⟨rfl, rfl, _, _, _, _, Or.inr (Or.inr (Or.inr (Or.inr ⟨rfl, _, rfl, rfl, hq⟩)))⟩
    · cases h
set_option maxHeartbeats 4000000 in
theorem sx_call {o : AI} {nx : Nat} {ls : AL} {st : List Value} {z : AZ} {f : AH} {j' nx' : Nat} {as r : List Value} {ls' : AL} (h : sx o nx ls st z f = some (.inr (.inl (j', as, nx', ls', r)))) : nx' = nx ∧ ls' = ls ∧ ∃ (n : Nat) (c : Int) (t : List Nat), popn n [] st = some (as, r) ∧ (en as).length ≤ c.toNat ∧ r.length < 5 ∧ ((o = (79, j', n, c, t) ∧ rcv f as j' = true) ∨ o = (80, j', n, c, t)) := by
  unfold sx at h
  split at h
  all_goals first
    | (cases h; done)
    | exact (gv_nr h).elim
    | exact (gu_nr h).elim
    | (split at h <;> first | (cases h; done) | exact (gv_nr h).elim | exact (gu_nr h).elim | (split at h <;> first | (cases h; done) | exact (gv_nr h).elim | exact (gu_nr h).elim) | skip)
    | skip
  all_goals skip
  · rename_i hp
    split at h
    · rename_i hq
      cases h
      exact ⟨rfl, rfl, _, _, _, hp, hq.1, hq.2.1, Or.inl ⟨rfl, hq.2.2⟩⟩
    · cases h
  · rename_i hp
    split at h
    · rename_i hq
      cases h
      exact ⟨rfl, rfl, _, _, _, hp, hq.1, hq.2, Or.inr rfl⟩
    · cases h
theorem runa_z {cal : Nat → List Value → AZ → AH → Option AR} {code : Nat → Option (AI × Nat)} (hcal : ∀ j as z f v z1 f1, cal j as z f = some (v, z1, f1) → z.1 ≤ z1.1 ∧ z.2 ≤ z1.2) :
    ∀ (n pc : Nat) (ls : AL) (st : List Value) (z : AZ) (f : AH) (v : Option Value) (z1 : AZ) (f1 : AH), runa cal code n pc ls st z f = some (v, z1, f1) → z.1 ≤ z1.1 ∧ z.2 ≤ z1.2 := by
  intro n
  induction n with
  | zero => intro pc ls st z f v z1 f1 h; cases h
  | succ n ih =>
    intro pc ls st z f v z1 f1 h
    simp only [runa] at h
    cases h1 : code pc with
    | none => rw [h1] at h; cases h
    | some q =>
      obtain ⟨o, nx⟩ := q
      rw [h1] at h
      simp only at h
      cases h2 : sx o nx ls st z f with
      | none => rw [h2] at h; cases h
      | some q =>
        rw [h2] at h
        rcases q with ⟨pc', ls', st', z', f'⟩ | ⟨j, as, nx', ls', r'⟩ | ⟨v', z', f'⟩
        · have a1 := sx_z h2
          have a2 := ih _ _ _ _ _ _ _ _ h
          exact ⟨Nat.le_trans a1.1 a2.1, Nat.le_trans a1.2 a2.2⟩
        · simp only at h
          cases h3 : cal j as z f with
          | none => rw [h3] at h; cases h
          | some q =>
            obtain ⟨v', z', f'⟩ := q
            rw [h3] at h
            have a1 := hcal _ _ _ _ _ _ _ h3
            have a2 := ih _ _ _ _ _ _ _ _ h
            exact ⟨Nat.le_trans a1.1 a2.1, Nat.le_trans a1.2 a2.2⟩
        · obtain ⟨e1, -⟩ := sx_ret h2
          cases h
          rw [e1]
          exact ⟨Nat.le_refl _, Nat.le_refl _⟩
theorem calla_z : ∀ (d n j : Nat) (as : List Value) (z : AZ) (f : AH) (v : Option Value) (z1 : AZ) (f1 : AH), calla d n j as z f = some (v, z1, f1) → z.1 ≤ z1.1 ∧ z.2 ≤ z1.2 := by
  intro d
  induction d with
  | zero => intro n j as z f v z1 f1 h; cases h
  | succ d ih => intro n j as z f v z1 f1 h; exact runa_z (fun j as z f v z1 f1 h => ih n j as z f v z1 f1 h) n _ _ _ _ _ _ _ _ h
theorem lookup_mem {α : Type} : ∀ (l : List (Nat × α)) (k : Nat) (v : α), l.lookup k = some v → (k, v) ∈ l
  | [], _, _, h => by cases h
  | (a, w) :: r, k, v, h => by
    rw [List.lookup] at h
    split at h
    · rename_i e
      cases h
      rw [eq_of_beq e]
      exact List.mem_cons_self
    · exact List.mem_cons_of_mem _ (lookup_mem r k v h)
theorem cd_ok {j pc nx : Nat} {o : AI} (h : cd j pc = some (o, nx)) : okb j pc o nx = true := by
  unfold cd at h
  cases h1 : cdt.lookup j with
  | none => rw [h1] at h; cases h
  | some l =>
    rw [h1] at h
    have h2 : okl (j, l) = true := List.all_eq_true.mp ob_all (j, l) (lookup_mem _ _ _ h1)
    exact List.all_eq_true.mp h2 (pc, o, nx) (lookup_mem _ _ _ h)
theorem okb79 {j pc nx a n : Nat} {c : Int} {t : List Nat} (ho : okb j pc (79, a, n, c, t) nx = true) : (cdT.map Prod.fst).contains a = true ∧ c.toNat = mL a := by
  match t, ho with
  | [], ho => cases ho
  | _ :: _ :: _, ho => cases ho
  | [ix], ho =>
    have ho : (decide (c.toNat = mL a) && decide (mL a ≤ 60) && (cdT.map Prod.fst).contains a && decide (nx = pc + 3) && decide ((parseMethodDescriptor (mY a).desc).map (fun d => d.parameters.length + 1) = some n) &&
      ((decide (decode (mB j) pc = .ok (.invokevirtual ix, 3)) && (mlT.map Prod.fst).contains (mC j, ix, a, 0)) ||
       (decide (decode (mB j) pc = .ok (.invokespecial ix, 3)) && decide (mR a = none) && ((mlT.map Prod.fst).contains (mC j, ix, a, 2) || (mlT.map Prod.fst).contains (mC j, ix, a, 5) && (neT.map fun q => (q.1, q.2.1, q.2.2.1)).contains (mC j, ix, a))))) = true := ho
    have ho := Bool.and_eq_true_iff.mp ho
    simp only [Bool.and_eq_true, decide_eq_true_eq] at ho
    exact ⟨ho.1.1.1.2, ho.1.1.1.1.1⟩
theorem okb80 {j pc nx a n : Nat} {c : Int} {t : List Nat} (ho : okb j pc (80, a, n, c, t) nx = true) : (cdT.map Prod.fst).contains a = true ∧ c.toNat = mL a := by
  match t, ho with
  | [], ho => cases ho
  | _ :: _ :: _, ho => cases ho
  | [ix], ho =>
    have ho : (decide (c.toNat = mL a) && decide (mL a ≤ 60) && (cdT.map Prod.fst).contains a && decide (nx = pc + 3) && decide ((parseMethodDescriptor (mY a).desc).map (fun d => d.parameters.length) = some n) && decide (decode (mB j) pc = .ok (.invokestatic ix, 3)) && ((mlT.map Prod.fst).contains (mC j, ix, a, 1) || (mlT.map Prod.fst).contains (mC j, ix, a, 4) && (neT.map fun q => (q.1, q.2.1, q.2.2.1)).contains (mC j, ix, a))) = true := ho
    simp only [Bool.and_eq_true, decide_eq_true_eq] at ho
    exact ⟨ho.1.1.1.1.2, ho.1.1.1.1.1.1⟩
section
variable {p : Program} {l : Launch} {e : Env} {R : Room} {s : State} {m : MethodId} {args : Array Value} {below : List Frame} {meth : Method} {c : Code} {j B b tK L : Nat} {xs : Nat → Int32} {cA : Nat → ClassId} {D : va_G} {z0 : AZ} {Q : State → Prop}
theorem run_sm {d N : Nat} {v' : Option Value} {zE : AZ} {fE : AH} (C : Cx p s m args meth c j B b tK L xs cA D)
    (IH : ∀ (a : Nat) (as : List Value) (z : AZ) (f : AH) (v : Option Value) (z1 : AZ) (f1 : AH), calla d N a as z f = some (v, z1, f1) → z1.1 ≤ 600000 → (cdT.map Prod.fst).contains a = true → (en as).length ≤ mL a → MetA l B b tK L xs cA D d a as z f v z1 f1)
    (hf : d + 1 ≤ R.frames) (hl : 100 * d + 100 ≤ R.locals) (hc : zE.1 - z0.1 ≤ R.cells) (hs : zE.2 - z0.2 ≤ R.slots) (hm : zE.1 ≤ 600000)
    (hret : ∀ (pc nx : Nat) (o : AI) (ls : AL) (st : List Value), okb j pc o nx = true → sx o nx ls st zE fE = some (.inr (.inr (v', zE, fE))) → Sm p l e R s m args below meth c j B b tK L xs cA D z0 Q pc ls st zE fE) :
    ∀ (n pc : Nat) (ls : AL) (st : List Value) (z : AZ) (f : AH), runa (calla d N) (cd j) n pc ls st z f = some (v', zE, fE) → z0.1 ≤ z.1 ∧ z0.2 ≤ z.2 → Sm p l e R s m args below meth c j B b tK L xs cA D z0 Q pc ls st z f := by
  intro n
  induction n with
  | zero => intro pc ls st z f h; cases h
  | succ n ih =>
    intro pc ls st z f h h0
    have hz := runa_z (fun j as z f v z1 f1 h => calla_z d N j as z f v z1 f1 h) (n + 1) pc ls st z f v' zE fE h
    simp only [runa] at h
    cases h1 : cd j pc with
    | none => rw [h1] at h; cases h
    | some q =>
      obtain ⟨o, nx⟩ := q
      have hok := cd_ok h1
      rw [h1] at h
      simp only at h
      cases h2 : sx o nx ls st z f with
      | none => rw [h2] at h; cases h
      | some q =>
        rw [h2] at h
        rcases q with ⟨pc', ls', st', z', f'⟩ | ⟨a, as, nx', ls', r'⟩ | ⟨v1, z', f'⟩
        · have a1 := sx_z h2
          have a2 := runa_z (fun j as z f v z1 f1 h => calla_z d N j as z f v z1 f1 h) n _ _ _ _ _ _ _ _ h
          exact sim_next C hok h2 h0 (by omega) (by omega) (by omega) (by omega) (by omega) (ih _ _ _ _ _ h ⟨Nat.le_trans h0.1 a1.1, Nat.le_trans h0.2 a1.2⟩)
        · simp only at h
          cases h3 : calla d N a as z f with
          | none => rw [h3] at h; cases h
          | some q =>
            obtain ⟨v1, z', f'⟩ := q
            rw [h3] at h
            have a1 := calla_z d N a as z f v1 z' f' h3
            have a2 := runa_z (fun j as z f v z1 f1 h => calla_z d N j as z f v z1 f1 h) n _ _ _ _ _ _ _ _ h
            have K := ih _ _ _ _ _ h ⟨Nat.le_trans h0.1 a1.1, Nat.le_trans h0.2 a1.2⟩
            obtain ⟨e1, e2, n1, c1, t1, g1, g2, g3, g4⟩ := sx_call h2
            subst e1
            subst e2
            have hcont : (cdT.map Prod.fst).contains a = true ∧ c1.toNat = mL a := by
              rcases g4 with ⟨rfl, -⟩ | rfl
              · exact okb79 hok
              · exact okb80 hok
            have hM := IH a as z f v1 z' f' h3 (by omega) hcont.1 (by rw [← hcont.2]; exact g2)
            rcases g4 with ⟨rfl, g5⟩ | rfl
            · exact m_79 C hok g1 g3 g5 hM h0 a1 hf hl (by omega) (by omega) K
            · exact m_80 C hok g1 g3 hM h0 a1 hf hl (by omega) (by omega) K
        · obtain ⟨e1, e2, -⟩ := sx_ret h2
          cases h
          subst e1
          subst e2
          exact hret pc nx o ls st hok h2
theorem sim_ret {pc nx : Nat} {o : AI} {ls : AL} {st : List Value} {z : AZ} {f : AH} {v : Option Value} (C : Cx p s m args meth c j B b tK L xs cA D) (ho : okb j pc o nx = true) (h : sx o nx ls st z f = some (.inr (.inr (v, z, f)))) : Sm p l e R s m args below meth c j B b tK L xs cA D z0 (MQ below (Qm B b tK L xs cA D v z f) args s (z.1 - z0.1) (z.2 - z0.2) (fun q => B ≤ q)) pc ls st z f := by
  obtain ⟨hx, hb, hml, hown, hts, hK, hini, hlocks, hrt⟩ := C
  obtain ⟨-, -, a, b', c', t, h⟩ := sx_ret h
  intro H locs la hR hS hL
  have hq : ∀ w : Option Value, w = v.map (tv (adr B b tK)) → ∀ t : State, t.heap = H → s.WarmedH t.vm → Qm B b tK L xs cA D v z f args s (.returned w) t := fun w hw t ht _ => ⟨by rw [hw], by rw [ht]; exact hR, hS.F ht⟩
  rcases h with ⟨rfl, x, rfl, rfl⟩ | ⟨rfl, x, rfl, rfl⟩ | ⟨rfl, x, rfl, rfl⟩ | ⟨rfl, rfl, rfl⟩ | ⟨rfl, x, rfl, rfl, hxx⟩
  · have ho := Bool.and_eq_true_iff.mp (show (decide (decode (mB j) pc = .ok (.ireturn, 1)) && decide (mR j = some .int)) = true from ho)
    exact W.iret hx hb (by rw [hrt]; exact of_decide_eq_true ho.2) (hq _ rfl) hS.2.2 (of_decide_eq_true ho.1)
  · have ho := Bool.and_eq_true_iff.mp (show (decide (decode (mB j) pc = .ok (.lreturn, 1)) && decide (mR j = some .long)) = true from ho)
    exact W.lret hx hb (by rw [hrt]; exact of_decide_eq_true ho.2) (hq _ rfl) hS.2.2 (of_decide_eq_true ho.1)
  · have ho := Bool.and_eq_true_iff.mp (show (decide (decode (mB j) pc = .ok (.areturn, 1)) && decide (mR j = some (.object "BumpMap$Land"))) = true from ho)
    exact W.aret hx hb (by rw [hrt]; exact of_decide_eq_true ho.2) (Or.inl ⟨_, rfl⟩) (Or.inr ⟨_, rfl⟩) (hq _ rfl) hS.2.2 (of_decide_eq_true ho.1)
  · have ho := Bool.and_eq_true_iff.mp (show (decide (decode (mB j) pc = .ok (.return_, 1)) && decide (mR j = none)) = true from ho)
    exact W.vret hx hb (by rw [hrt]; exact of_decide_eq_true ho.2) (hq _ rfl) hS.2.2 (of_decide_eq_true ho.1)
  · have ho := Bool.and_eq_true_iff.mp (show (decide (decode (mB j) pc = .ok (.ireturn, 1)) && decide (mR j = some .boolean)) = true from ho)
    exact W.zret hx hb (by rw [hrt]; exact of_decide_eq_true ho.2) (by rcases hxx with rfl | rfl <;> rfl) (hq _ rfl) hS.2.2 (of_decide_eq_true ho.1)
end
theorem en_args (ad : Nat → Nat) : ∀ (as : List Value) (i : Nat) (q : Nat × Value), q ∈ lp ad i (en as) → q ∈ lv_args i (as.map (tv ad))
  | [], _, _, h => by cases h
  | v :: as, i, q, h => by
    have key : ∀ (w : Value), v = w → w.category = 1 → en (w :: as) = some w :: en as → q ∈ lv_args i ((v :: as).map (tv ad)) := by
      intro w e hc he
      subst e
      rw [he] at h
      rcases List.mem_cons.mp h with h | h
      · rw [h]
        exact List.mem_cons_self
      · refine List.mem_cons_of_mem _ ?_
        rw [if_neg (by rw [tv_cat, hc]; decide)]
        exact en_args ad as (i + 1) q h
    cases v with
    | long x =>
      rcases List.mem_cons.mp h with h | h
      · rw [h]
        exact List.mem_cons_self
      · exact List.mem_cons_of_mem _ (en_args ad as (i + 2) q h)
    | double x =>
      rcases List.mem_cons.mp h with h | h
      · rw [h]
        exact List.mem_cons_self
      · exact List.mem_cons_of_mem _ (en_args ad as (i + 2) q h)
    | int x => exact key _ rfl rfl rfl
    | float x => exact key _ rfl rfl rfl
    | null => exact key _ rfl rfl rfl
    | ref x => exact key _ rfl rfl rfl
    | retAddr x => exact key _ rfl rfl rfl
theorem sl_len (ad : Nat → Nat) : ∀ (as : List Value), (lg_sl (as.map (tv ad))).length = (en as).length
  | [] => rfl
  | v :: as => by
    have ih := sl_len ad as
    cases v <;> simp [lg_sl, en, tv, Value.category] at ih ⊢ <;> omega
theorem entry_LvR {ad : Nat → Nat} {as : List Value} {n : Nat} (h : (en as).length ≤ n) : LvR ad (en as) ((lg_sl (as.map (tv ad)) ++ List.replicate (n - (lg_sl (as.map (tv ad))).length) Slot.unset).toArray) n := by
  have h1 := lv_entry (as.map (tv ad)) (n := n) (by rw [sl_len]; exact h)
  exact ⟨h1.1, h1.2.1, fun q hq => h1.2.2 q (en_args ad as 0 q hq)⟩
/-- THE SOUNDNESS of the abstract machine -/
theorem sound (l : Launch) {B b tK L : Nat} {xs : Nat → Int32} {cA : Nat → ClassId} {D : va_G} : ∀ (d N a : Nat) (as : List Value) (z : AZ) (f : AH) (v : Option Value) (z1 : AZ) (f1 : AH), calla d N a as z f = some (v, z1, f1) → z1.1 ≤ 600000 → (cdT.map Prod.fst).contains a = true → (en as).length ≤ mL a → MetA l B b tK L xs cA D d a as z f v z1 f1 := by
  intro d
  induction d with
  | zero => intro N a as z f v z1 f1 h; cases h
  | succ d ih =>
    intro N a as z f v z1 f1 h hm hcd hen
    obtain ⟨c1, c2, c3, c4⟩ := cd_use hcd
    refine Met.ofW (cc := mB a) (maxL := mL a) (ret := mR a) c4 rfl ?_
    intro p e s m args below meth c s₁ BB hml hv
    obtain ⟨rfl, hR, hK⟩ := hv
    have hx := BB.exec
    have hb := BB.bytes
    have hr := BB.returns
    have hts0 := atoms_spec (ws := wsM a) BB.pre
    have hts : ∀ w ∈ GW, w.before ((as.map (tv (adr B b tK))).toArray) s = true := fun w hw => hts0 w (List.mem_cons_of_mem _ hw)
    have hown : s.vm.findClass (clsN (mC a)) = some m.cls := by rw [← c2]; exact findClass_of_methodNamed BB.named
    have hin : (mY a).name = "<init>" → meth.name = "<init>" := fun h => (name_of_methodNamed BB.named BB.method).1.trans h
    have C : Cx p s m ((as.map (tv (adr B b tK))).toArray) meth c a B b tK L xs cA D := ⟨hx, hb, hml, hown, hts, hK, hin, BB.notSynchronized, hr⟩
    rw [lg_entry_eq]
    have K := run_sm (l := l) (e := e) (below := below) (R := rmM (d + 1) (z1.1 - z.1) (z1.2 - z.2)) (z0 := z) (Q := MQ below (Qm B b tK L xs cA D v z1 f1) ((as.map (tv (adr B b tK))).toArray) s (z1.1 - z.1) (z1.2 - z.2) (fun q => B ≤ q)) C (fun a as z f v z1 f1 h => ih N a as z f v z1 f1 h) (Nat.le_refl _) (by show 100 * d + 100 ≤ 100 * (d + 1); omega) (Nat.le_refl _) (Nat.le_refl _) hm (fun pc nx o ls st ho hs => sim_ret C ho hs) N 0 (en as) [] z f h ⟨Nat.le_refl _, Nat.le_refl _⟩
    have K2 := K s.heap [] _ hR va_S.rf (entry_LvR hen)
    rw [Nat.sub_self, Nat.sub_self] at K2
    exact K2


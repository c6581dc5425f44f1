/-! one instruction of the abstract machine is one of the machine's: those without cells -/
def Cx (p : Program) (s : State) (m : MethodId) (args : Array Value) (meth : Method) (c : Code) (j B b tK L : Nat) (xs : Nat → Int32) (cA : Nat → ClassId) (D : va_G) : Prop :=
  p.tables.exec = Jvm.exec ∧ c.code = mB j ∧ c.maxLocals = mL j ∧ s.vm.findClass (clsN (mC j)) = some m.cls ∧ (∀ w ∈ GW, w.before args s = true) ∧ Ks B b tK L xs cA D s ∧ ((mY j).name = "<init>" → meth.name = "<init>") ∧ meth.locks = false ∧ meth.sig.returnType = mR j
/-- from every heap that the abstract one tells, the machine comes to Q -/
def Sm (p : Program) (l : Launch) (e : Env) (R : Room) (s : State) (m : MethodId) (args : Array Value) (below : List Frame) (meth : Method) (c : Code) (j B b tK L : Nat) (xs : Nat → Int32) (cA : Nat → ClassId) (D : va_G) (z0 : AZ) (Q : State → Prop) (pc : Nat) (ls : AL) (st : List Value) (z : AZ) (f : AH) : Prop :=
  ∀ (H : Heap) (locs : List Loc) (la : Array Slot), Rp B b tK L xs cA D z f H → va_S (fun q => B ≤ q) s.heap H locs → LvR (adr B b tK) ls la (mL j) → W p l e R s m args below meth c H locs (z.1 - z0.1) (z.2 - z0.2) Q (F0 m pc la (st.map (tv (adr B b tK))))
theorem dk_spec {j pc n nx : Nat} {i : Instr} (h : dk j pc i n nx = true) : decode (mB j) pc = .ok (i, n) ∧ nx = pc + n := by
  simp only [dk, Bool.and_eq_true, decide_eq_true_eq] at h
  exact h
theorem dj_spec {j pc nx : Nat} {i : Instr} (h : dj j pc i nx = true) : decode (mB j) pc = .ok (i, 3) ∧ nx = pc + 3 := by
  simp only [dj, Bool.and_eq_true, decide_eq_true_eq] at h
  exact h
theorem dl_spec {j pc a nx : Nat} {i : Fin 4 → Instr} {i2 : Nat → Instr} (h : dl j pc a i i2 nx = true) : (∃ k : Fin 4, (k : Nat) = a ∧ decode (mB j) pc = .ok (i k, 1) ∧ nx = pc + 1) ∨ (decode (mB j) pc = .ok (i2 a, 2) ∧ nx = pc + 2) := by
  unfold dl at h
  split at h
  · exact Or.inl ⟨_, rfl, dk_spec h⟩
  · exact Or.inr (dk_spec h)
section
variable {p : Program} {l : Launch} {e : Env} {R : Room} {s : State} {m : MethodId} {args : Array Value} {below : List Frame} {meth : Method} {c : Code} {j B b tK L : Nat} {xs : Nat → Int32} {cA : Nat → ClassId} {D : va_G} {z0 : AZ} {Q : State → Prop} {pc nx : Nat} {ls : AL} {r : List Value} {z : AZ} {f : AH} {a w : Nat} {k : Int} {t : List Nat}
theorem m_10 {x y : Int32} (C : Cx p s m args meth c j B b tK L xs cA D) (ho : okb j pc (10, a, w, k, t) nx = true) (kk : Sm p l e R s m args below meth c j B b tK L xs cA D z0 Q nx ls (.int (x + y) :: r) z f) : Sm p l e R s m args below meth c j B b tK L xs cA D z0 Q pc ls (.int y :: .int x :: r) z f := by
  obtain ⟨hx, hb, -⟩ := C
  obtain ⟨hd, rfl⟩ := dk_spec ho
  intro H locs la hR hS hL
  exact lv_iadd hx hb hd (kk H locs la hR hS hL)
theorem m_11 {x y : Int32} (C : Cx p s m args meth c j B b tK L xs cA D) (ho : okb j pc (11, a, w, k, t) nx = true) (kk : Sm p l e R s m args below meth c j B b tK L xs cA D z0 Q nx ls (.int (x - y) :: r) z f) : Sm p l e R s m args below meth c j B b tK L xs cA D z0 Q pc ls (.int y :: .int x :: r) z f := by
  obtain ⟨hx, hb, -⟩ := C
  obtain ⟨hd, rfl⟩ := dk_spec ho
  intro H locs la hR hS hL
  exact lv_isub hx hb hd (kk H locs la hR hS hL)
theorem m_12 {x y : Int32} (C : Cx p s m args meth c j B b tK L xs cA D) (ho : okb j pc (12, a, w, k, t) nx = true) (kk : Sm p l e R s m args below meth c j B b tK L xs cA D z0 Q nx ls (.int (x * y) :: r) z f) : Sm p l e R s m args below meth c j B b tK L xs cA D z0 Q pc ls (.int y :: .int x :: r) z f := by
  obtain ⟨hx, hb, -⟩ := C
  obtain ⟨hd, rfl⟩ := dk_spec ho
  intro H locs la hR hS hL
  exact lv_imul hx hb hd (kk H locs la hR hS hL)
theorem m_15 {x y : Int32} (C : Cx p s m args meth c j B b tK L xs cA D) (ho : okb j pc (15, a, w, k, t) nx = true) (kk : Sm p l e R s m args below meth c j B b tK L xs cA D z0 Q nx ls (.int (x &&& y) :: r) z f) : Sm p l e R s m args below meth c j B b tK L xs cA D z0 Q pc ls (.int y :: .int x :: r) z f := by
  obtain ⟨hx, hb, -⟩ := C
  obtain ⟨hd, rfl⟩ := dk_spec ho
  intro H locs la hR hS hL
  exact lv_iand hx hb hd (kk H locs la hR hS hL)
theorem m_16 {x y : Int32} (C : Cx p s m args meth c j B b tK L xs cA D) (ho : okb j pc (16, a, w, k, t) nx = true) (kk : Sm p l e R s m args below meth c j B b tK L xs cA D z0 Q nx ls (.int (x ||| y) :: r) z f) : Sm p l e R s m args below meth c j B b tK L xs cA D z0 Q pc ls (.int y :: .int x :: r) z f := by
  obtain ⟨hx, hb, -⟩ := C
  obtain ⟨hd, rfl⟩ := dk_spec ho
  intro H locs la hR hS hL
  exact lv_ior hx hb hd (kk H locs la hR hS hL)
theorem m_17 {x y : Int32} (C : Cx p s m args meth c j B b tK L xs cA D) (ho : okb j pc (17, a, w, k, t) nx = true) (kk : Sm p l e R s m args below meth c j B b tK L xs cA D z0 Q nx ls (.int (x ^^^ y) :: r) z f) : Sm p l e R s m args below meth c j B b tK L xs cA D z0 Q pc ls (.int y :: .int x :: r) z f := by
  obtain ⟨hx, hb, -⟩ := C
  obtain ⟨hd, rfl⟩ := dk_spec ho
  intro H locs la hR hS hL
  exact lv_ixor hx hb hd (kk H locs la hR hS hL)
theorem m_18 {x y : Int32} (C : Cx p s m args meth c j B b tK L xs cA D) (ho : okb j pc (18, a, w, k, t) nx = true) (kk : Sm p l e R s m args below meth c j B b tK L xs cA D z0 Q nx ls (.int (x <<< (y &&& 31)) :: r) z f) : Sm p l e R s m args below meth c j B b tK L xs cA D z0 Q pc ls (.int y :: .int x :: r) z f := by
  obtain ⟨hx, hb, -⟩ := C
  obtain ⟨hd, rfl⟩ := dk_spec ho
  intro H locs la hR hS hL
  exact lv_ishl hx hb hd (kk H locs la hR hS hL)
theorem m_19 {x y : Int32} (C : Cx p s m args meth c j B b tK L xs cA D) (ho : okb j pc (19, a, w, k, t) nx = true) (kk : Sm p l e R s m args below meth c j B b tK L xs cA D z0 Q nx ls (.int (x >>> (y &&& 31)) :: r) z f) : Sm p l e R s m args below meth c j B b tK L xs cA D z0 Q pc ls (.int y :: .int x :: r) z f := by
  obtain ⟨hx, hb, -⟩ := C
  obtain ⟨hd, rfl⟩ := dk_spec ho
  intro H locs la hR hS hL
  exact lv_ishr hx hb hd (kk H locs la hR hS hL)
theorem m_20 {x y : Int32} (C : Cx p s m args meth c j B b tK L xs cA D) (ho : okb j pc (20, a, w, k, t) nx = true) (kk : Sm p l e R s m args below meth c j B b tK L xs cA D z0 Q nx ls (.int ((x.toUInt32 >>> (y.toUInt32 &&& Int32.toUInt32 31)).toInt32) :: r) z f) : Sm p l e R s m args below meth c j B b tK L xs cA D z0 Q pc ls (.int y :: .int x :: r) z f := by
  obtain ⟨hx, hb, -⟩ := C
  obtain ⟨hd, rfl⟩ := dk_spec ho
  intro H locs la hR hS hL
  exact lv_iushr hx hb hd rfl (kk H locs la hR hS hL)
theorem m_13 {x y : Int32} (C : Cx p s m args meth c j B b tK L xs cA D) (ho : okb j pc (13, a, w, k, t) nx = true) (hy : ¬ y = 0) (kk : Sm p l e R s m args below meth c j B b tK L xs cA D z0 Q nx ls (.int (x / y) :: r) z f) : Sm p l e R s m args below meth c j B b tK L xs cA D z0 Q pc ls (.int y :: .int x :: r) z f := by
  obtain ⟨hx, hb, -⟩ := C
  obtain ⟨hd, rfl⟩ := dk_spec ho
  intro H locs la hR hS hL
  exact lv_idiv hx hb hd hy (kk H locs la hR hS hL)
theorem m_14 {x y : Int32} (C : Cx p s m args meth c j B b tK L xs cA D) (ho : okb j pc (14, a, w, k, t) nx = true) (hy : ¬ y = 0) (kk : Sm p l e R s m args below meth c j B b tK L xs cA D z0 Q nx ls (.int (x - x / y * y) :: r) z f) : Sm p l e R s m args below meth c j B b tK L xs cA D z0 Q pc ls (.int y :: .int x :: r) z f := by
  obtain ⟨hx, hb, -⟩ := C
  obtain ⟨hd, rfl⟩ := dk_spec ho
  intro H locs la hR hS hL
  exact lv_irem hx hb hd hy (kk H locs la hR hS hL)
theorem m_21 {x y : Int64} (C : Cx p s m args meth c j B b tK L xs cA D) (ho : okb j pc (21, a, w, k, t) nx = true) (kk : Sm p l e R s m args below meth c j B b tK L xs cA D z0 Q nx ls (.long (x + y) :: r) z f) : Sm p l e R s m args below meth c j B b tK L xs cA D z0 Q pc ls (.long y :: .long x :: r) z f := by
  obtain ⟨hx, hb, -⟩ := C
  obtain ⟨hd, rfl⟩ := dk_spec ho
  intro H locs la hR hS hL
  exact lv_ladd hx hb hd (kk H locs la hR hS hL)
theorem m_22 {x y : Int64} (C : Cx p s m args meth c j B b tK L xs cA D) (ho : okb j pc (22, a, w, k, t) nx = true) (kk : Sm p l e R s m args below meth c j B b tK L xs cA D z0 Q nx ls (.long (x * y) :: r) z f) : Sm p l e R s m args below meth c j B b tK L xs cA D z0 Q pc ls (.long y :: .long x :: r) z f := by
  obtain ⟨hx, hb, -⟩ := C
  obtain ⟨hd, rfl⟩ := dk_spec ho
  intro H locs la hR hS hL
  exact lv_lmul hx hb hd (kk H locs la hR hS hL)
theorem m_23 {x y : Int64} (C : Cx p s m args meth c j B b tK L xs cA D) (ho : okb j pc (23, a, w, k, t) nx = true) (hy : ¬ y = 0) (kk : Sm p l e R s m args below meth c j B b tK L xs cA D z0 Q nx ls (.long (x / y) :: r) z f) : Sm p l e R s m args below meth c j B b tK L xs cA D z0 Q pc ls (.long y :: .long x :: r) z f := by
  obtain ⟨hx, hb, -⟩ := C
  obtain ⟨hd, rfl⟩ := dk_spec ho
  intro H locs la hR hS hL
  exact lv_ldiv hx hb hd hy (kk H locs la hR hS hL)
theorem m_24 {x y : Int64} (C : Cx p s m args meth c j B b tK L xs cA D) (ho : okb j pc (24, a, w, k, t) nx = true) (hy : ¬ y = 0) (kk : Sm p l e R s m args below meth c j B b tK L xs cA D z0 Q nx ls (.long (x - x / y * y) :: r) z f) : Sm p l e R s m args below meth c j B b tK L xs cA D z0 Q pc ls (.long y :: .long x :: r) z f := by
  obtain ⟨hx, hb, -⟩ := C
  obtain ⟨hd, rfl⟩ := dk_spec ho
  intro H locs la hR hS hL
  exact lv_lrem hx hb hd hy (kk H locs la hR hS hL)
theorem cmp_eq (x y : Int64) : (if x < y then (-1 : Int32) else if x = y then 0 else 1) = lg_cmp x y := by
  unfold lg_cmp
  simp only [gt_iff_lt, Int64.lt_iff_toInt_lt, ← Int64.toInt_inj]
  by_cases h1 : x.toInt < y.toInt
  · rw [if_pos h1, if_neg (by omega), if_neg (by omega)]
  · by_cases h2 : x.toInt = y.toInt
    · rw [if_neg h1, if_pos h2, if_neg (by omega), if_pos h2]
    · rw [if_neg h1, if_neg h2, if_pos (by omega)]
theorem m_25 {x y : Int64} (C : Cx p s m args meth c j B b tK L xs cA D) (ho : okb j pc (25, a, w, k, t) nx = true) (kk : Sm p l e R s m args below meth c j B b tK L xs cA D z0 Q nx ls (.int (if x < y then -1 else if x = y then 0 else 1) :: r) z f) : Sm p l e R s m args below meth c j B b tK L xs cA D z0 Q pc ls (.long y :: .long x :: r) z f := by
  obtain ⟨hx, hb, -⟩ := C
  obtain ⟨hd, rfl⟩ := dk_spec ho
  intro H locs la hR hS hL
  exact W.lcmp hx hb hd (by rw [← cmp_eq]; exact kk H locs la hR hS hL)
theorem m_26 {x : Int32} (C : Cx p s m args meth c j B b tK L xs cA D) (ho : okb j pc (26, a, w, k, t) nx = true) (kk : Sm p l e R s m args below meth c j B b tK L xs cA D z0 Q nx ls (.long x.toInt64 :: r) z f) : Sm p l e R s m args below meth c j B b tK L xs cA D z0 Q pc ls (.int x :: r) z f := by
  obtain ⟨hx, hb, -⟩ := C
  obtain ⟨hd, rfl⟩ := dk_spec ho
  intro H locs la hR hS hL
  exact lv_i2l hx hb hd rfl (kk H locs la hR hS hL)
theorem m_27 {x : Int64} (C : Cx p s m args meth c j B b tK L xs cA D) (ho : okb j pc (27, a, w, k, t) nx = true) (kk : Sm p l e R s m args below meth c j B b tK L xs cA D z0 Q nx ls (.int x.toInt32 :: r) z f) : Sm p l e R s m args below meth c j B b tK L xs cA D z0 Q pc ls (.long x :: r) z f := by
  obtain ⟨hx, hb, -⟩ := C
  obtain ⟨hd, rfl⟩ := dk_spec ho
  intro H locs la hR hS hL
  exact lv_l2i hx hb hd rfl (kk H locs la hR hS hL)
theorem m_28 {x : Int32} (C : Cx p s m args meth c j B b tK L xs cA D) (ho : okb j pc (28, a, w, k, t) nx = true) (kk : Sm p l e R s m args below meth c j B b tK L xs cA D z0 Q nx ls (.int x.toInt8.toInt32 :: r) z f) : Sm p l e R s m args below meth c j B b tK L xs cA D z0 Q pc ls (.int x :: r) z f := by
  obtain ⟨hx, hb, -⟩ := C
  obtain ⟨hd, rfl⟩ := dk_spec ho
  intro H locs la hR hS hL
  exact lv_i2b hx hb hd rfl (kk H locs la hR hS hL)
theorem m_30 {x : Int32} (C : Cx p s m args meth c j B b tK L xs cA D) (ho : okb j pc (30, a, w, k, t) nx = true) (kk : Sm p l e R s m args below meth c j B b tK L xs cA D z0 Q nx ls (.int x :: .int x :: r) z f) : Sm p l e R s m args below meth c j B b tK L xs cA D z0 Q pc ls (.int x :: r) z f := by
  obtain ⟨hx, hb, -⟩ := C
  obtain ⟨hd, rfl⟩ := dk_spec ho
  intro H locs la hR hS hL
  exact lv_dup hx hb hd rfl (kk H locs la hR hS hL)
theorem m_30r {x : Nat} (C : Cx p s m args meth c j B b tK L xs cA D) (ho : okb j pc (30, a, w, k, t) nx = true) (kk : Sm p l e R s m args below meth c j B b tK L xs cA D z0 Q nx ls (.ref x :: .ref x :: r) z f) : Sm p l e R s m args below meth c j B b tK L xs cA D z0 Q pc ls (.ref x :: r) z f := by
  obtain ⟨hx, hb, -⟩ := C
  obtain ⟨hd, rfl⟩ := dk_spec ho
  intro H locs la hR hS hL
  exact lv_dup hx hb hd rfl (kk H locs la hR hS hL)
theorem m_31 {y : Int32} {x : Nat} (C : Cx p s m args meth c j B b tK L xs cA D) (ho : okb j pc (31, a, w, k, t) nx = true) (kk : Sm p l e R s m args below meth c j B b tK L xs cA D z0 Q nx ls (.int y :: .ref x :: .int y :: .ref x :: r) z f) : Sm p l e R s m args below meth c j B b tK L xs cA D z0 Q pc ls (.int y :: .ref x :: r) z f := by
  obtain ⟨hx, hb, -⟩ := C
  obtain ⟨hd, rfl⟩ := dk_spec ho
  intro H locs la hR hS hL
  exact lv_dup2_11 hx hb hd rfl rfl (kk H locs la hR hS hL)
theorem m_32 {x : Int32} (C : Cx p s m args meth c j B b tK L xs cA D) (ho : okb j pc (32, a, w, k, t) nx = true) (kk : Sm p l e R s m args below meth c j B b tK L xs cA D z0 Q nx ls r z f) : Sm p l e R s m args below meth c j B b tK L xs cA D z0 Q pc ls (.int x :: r) z f := by
  obtain ⟨hx, hb, -⟩ := C
  obtain ⟨hd, rfl⟩ := dk_spec ho
  intro H locs la hR hS hL
  exact lv_pop hx hb hd rfl (kk H locs la hR hS hL)
theorem m_40 {x : Int32} (C : Cx p s m args meth c j B b tK L xs cA D) (ho : okb j pc (40, a, w, k, t) nx = true) (k1 : x = 0 → Sm p l e R s m args below meth c j B b tK L xs cA D z0 Q a ls r z f) (k2 : ¬ x = 0 → Sm p l e R s m args below meth c j B b tK L xs cA D z0 Q nx ls r z f) : Sm p l e R s m args below meth c j B b tK L xs cA D z0 Q pc ls (.int x :: r) z f := by
  obtain ⟨hx, hb, -⟩ := C
  obtain ⟨hd, rfl⟩ := dj_spec ho
  intro H locs la hR hS hL
  exact lv_if_eq hx hb hd (by omega) (fun q => k1 q H locs la hR hS hL) (fun q => k2 q H locs la hR hS hL)
theorem m_41 {x : Int32} (C : Cx p s m args meth c j B b tK L xs cA D) (ho : okb j pc (41, a, w, k, t) nx = true) (k1 : x = 0 → Sm p l e R s m args below meth c j B b tK L xs cA D z0 Q nx ls r z f) (k2 : ¬ x = 0 → Sm p l e R s m args below meth c j B b tK L xs cA D z0 Q a ls r z f) : Sm p l e R s m args below meth c j B b tK L xs cA D z0 Q pc ls (.int x :: r) z f := by
  obtain ⟨hx, hb, -⟩ := C
  obtain ⟨hd, rfl⟩ := dj_spec ho
  intro H locs la hR hS hL
  exact lv_if_ne hx hb hd (by omega) (fun q => k2 q H locs la hR hS hL) (fun q => k1 q H locs la hR hS hL)
theorem m_42 {x : Int32} (C : Cx p s m args meth c j B b tK L xs cA D) (ho : okb j pc (42, a, w, k, t) nx = true) (k1 : x < 0 → Sm p l e R s m args below meth c j B b tK L xs cA D z0 Q a ls r z f) (k2 : ¬ x < 0 → Sm p l e R s m args below meth c j B b tK L xs cA D z0 Q nx ls r z f) : Sm p l e R s m args below meth c j B b tK L xs cA D z0 Q pc ls (.int x :: r) z f := by
  obtain ⟨hx, hb, -⟩ := C
  obtain ⟨hd, rfl⟩ := dj_spec ho
  intro H locs la hR hS hL
  exact lv_if_lt hx hb hd (by omega) (fun q => k1 q H locs la hR hS hL) (fun q => k2 q H locs la hR hS hL)
theorem m_43 {x : Int32} (C : Cx p s m args meth c j B b tK L xs cA D) (ho : okb j pc (43, a, w, k, t) nx = true) (k1 : x < 0 → Sm p l e R s m args below meth c j B b tK L xs cA D z0 Q nx ls r z f) (k2 : ¬ x < 0 → Sm p l e R s m args below meth c j B b tK L xs cA D z0 Q a ls r z f) : Sm p l e R s m args below meth c j B b tK L xs cA D z0 Q pc ls (.int x :: r) z f := by
  obtain ⟨hx, hb, -⟩ := C
  obtain ⟨hd, rfl⟩ := dj_spec ho
  intro H locs la hR hS hL
  exact lv_if_ge hx hb hd (by omega) (fun q => k2 (Int32.not_lt.mpr q) H locs la hR hS hL) (fun q => k1 (Int32.not_le.mp q) H locs la hR hS hL)
theorem m_44 {x : Int32} (C : Cx p s m args meth c j B b tK L xs cA D) (ho : okb j pc (44, a, w, k, t) nx = true) (k1 : 0 < x → Sm p l e R s m args below meth c j B b tK L xs cA D z0 Q a ls r z f) (k2 : ¬ 0 < x → Sm p l e R s m args below meth c j B b tK L xs cA D z0 Q nx ls r z f) : Sm p l e R s m args below meth c j B b tK L xs cA D z0 Q pc ls (.int x :: r) z f := by
  obtain ⟨hx, hb, -⟩ := C
  obtain ⟨hd, rfl⟩ := dj_spec ho
  intro H locs la hR hS hL
  exact lv_if_gt hx hb hd (by omega) (fun q => k1 q H locs la hR hS hL) (fun q => k2 q H locs la hR hS hL)
theorem m_45 {x : Int32} (C : Cx p s m args meth c j B b tK L xs cA D) (ho : okb j pc (45, a, w, k, t) nx = true) (k1 : 0 < x → Sm p l e R s m args below meth c j B b tK L xs cA D z0 Q nx ls r z f) (k2 : ¬ 0 < x → Sm p l e R s m args below meth c j B b tK L xs cA D z0 Q a ls r z f) : Sm p l e R s m args below meth c j B b tK L xs cA D z0 Q pc ls (.int x :: r) z f := by
  obtain ⟨hx, hb, -⟩ := C
  obtain ⟨hd, rfl⟩ := dj_spec ho
  intro H locs la hR hS hL
  exact lv_if_le hx hb hd (by omega) (fun q => k2 (Int32.not_lt.mpr q) H locs la hR hS hL) (fun q => k1 (Int32.not_le.mp q) H locs la hR hS hL)
theorem m_46 {x y : Int32} (C : Cx p s m args meth c j B b tK L xs cA D) (ho : okb j pc (46, a, w, k, t) nx = true) (k1 : x = y → Sm p l e R s m args below meth c j B b tK L xs cA D z0 Q a ls r z f) (k2 : ¬ x = y → Sm p l e R s m args below meth c j B b tK L xs cA D z0 Q nx ls r z f) : Sm p l e R s m args below meth c j B b tK L xs cA D z0 Q pc ls (.int y :: .int x :: r) z f := by
  obtain ⟨hx, hb, -⟩ := C
  obtain ⟨hd, rfl⟩ := dj_spec ho
  intro H locs la hR hS hL
  exact lv_icmp_eq hx hb hd (by omega) (fun q => k1 q H locs la hR hS hL) (fun q => k2 q H locs la hR hS hL)
theorem m_47 {x y : Int32} (C : Cx p s m args meth c j B b tK L xs cA D) (ho : okb j pc (47, a, w, k, t) nx = true) (k1 : x = y → Sm p l e R s m args below meth c j B b tK L xs cA D z0 Q nx ls r z f) (k2 : ¬ x = y → Sm p l e R s m args below meth c j B b tK L xs cA D z0 Q a ls r z f) : Sm p l e R s m args below meth c j B b tK L xs cA D z0 Q pc ls (.int y :: .int x :: r) z f := by
  obtain ⟨hx, hb, -⟩ := C
  obtain ⟨hd, rfl⟩ := dj_spec ho
  intro H locs la hR hS hL
  exact lv_icmp_ne hx hb hd (by omega) (fun q => k2 q H locs la hR hS hL) (fun q => k1 q H locs la hR hS hL)
theorem m_48 {x y : Int32} (C : Cx p s m args meth c j B b tK L xs cA D) (ho : okb j pc (48, a, w, k, t) nx = true) (k1 : x < y → Sm p l e R s m args below meth c j B b tK L xs cA D z0 Q a ls r z f) (k2 : ¬ x < y → Sm p l e R s m args below meth c j B b tK L xs cA D z0 Q nx ls r z f) : Sm p l e R s m args below meth c j B b tK L xs cA D z0 Q pc ls (.int y :: .int x :: r) z f := by
  obtain ⟨hx, hb, -⟩ := C
  obtain ⟨hd, rfl⟩ := dj_spec ho
  intro H locs la hR hS hL
  exact lv_icmp_lt hx hb hd (by omega) (fun q => k1 q H locs la hR hS hL) (fun q => k2 q H locs la hR hS hL)
theorem m_49 {x y : Int32} (C : Cx p s m args meth c j B b tK L xs cA D) (ho : okb j pc (49, a, w, k, t) nx = true) (k1 : x < y → Sm p l e R s m args below meth c j B b tK L xs cA D z0 Q nx ls r z f) (k2 : ¬ x < y → Sm p l e R s m args below meth c j B b tK L xs cA D z0 Q a ls r z f) : Sm p l e R s m args below meth c j B b tK L xs cA D z0 Q pc ls (.int y :: .int x :: r) z f := by
  obtain ⟨hx, hb, -⟩ := C
  obtain ⟨hd, rfl⟩ := dj_spec ho
  intro H locs la hR hS hL
  exact lv_icmp_ge hx hb hd (by omega) (fun q => k2 (Int32.not_lt.mpr q) H locs la hR hS hL) (fun q => k1 (Int32.not_le.mp q) H locs la hR hS hL)
theorem m_50 {x y : Int32} (C : Cx p s m args meth c j B b tK L xs cA D) (ho : okb j pc (50, a, w, k, t) nx = true) (k1 : y < x → Sm p l e R s m args below meth c j B b tK L xs cA D z0 Q a ls r z f) (k2 : ¬ y < x → Sm p l e R s m args below meth c j B b tK L xs cA D z0 Q nx ls r z f) : Sm p l e R s m args below meth c j B b tK L xs cA D z0 Q pc ls (.int y :: .int x :: r) z f := by
  obtain ⟨hx, hb, -⟩ := C
  obtain ⟨hd, rfl⟩ := dj_spec ho
  intro H locs la hR hS hL
  exact lv_icmp_gt hx hb hd (by omega) (fun q => k1 q H locs la hR hS hL) (fun q => k2 q H locs la hR hS hL)
theorem m_51 {x y : Int32} (C : Cx p s m args meth c j B b tK L xs cA D) (ho : okb j pc (51, a, w, k, t) nx = true) (k1 : y < x → Sm p l e R s m args below meth c j B b tK L xs cA D z0 Q nx ls r z f) (k2 : ¬ y < x → Sm p l e R s m args below meth c j B b tK L xs cA D z0 Q a ls r z f) : Sm p l e R s m args below meth c j B b tK L xs cA D z0 Q pc ls (.int y :: .int x :: r) z f := by
  obtain ⟨hx, hb, -⟩ := C
  obtain ⟨hd, rfl⟩ := dj_spec ho
  intro H locs la hR hS hL
  exact lv_icmp_le hx hb hd (by omega) (fun q => k2 (Int32.not_lt.mpr q) H locs la hR hS hL) (fun q => k1 (Int32.not_le.mp q) H locs la hR hS hL)
theorem m_52 (C : Cx p s m args meth c j B b tK L xs cA D) (ho : okb j pc (52, a, w, k, t) nx = true) (kk : Sm p l e R s m args below meth c j B b tK L xs cA D z0 Q a (ls.take w) r z f) : Sm p l e R s m args below meth c j B b tK L xs cA D z0 Q pc ls r z f := by
  obtain ⟨hx, hb, -⟩ := C
  have hd : decode (mB j) pc = .ok (.goto ((a : Int) - pc), 3) := of_decide_eq_true ho
  intro H locs la hR hS hL
  exact lv_goto hx hb hd (by omega) (kk H locs la hR hS (hL.sub (take_get ls w)))
theorem m_53 {x : Nat} (C : Cx p s m args meth c j B b tK L xs cA D) (ho : okb j pc (53, a, w, k, t) nx = true) (kk : Sm p l e R s m args below meth c j B b tK L xs cA D z0 Q a ls r z f) : Sm p l e R s m args below meth c j B b tK L xs cA D z0 Q pc ls (.ref x :: r) z f := by
  obtain ⟨hx, hb, -⟩ := C
  obtain ⟨hd, rfl⟩ := dj_spec ho
  intro H locs la hR hS hL
  exact lv_ifnonnull hx hb hd (by omega) (kk H locs la hR hS hL)
theorem m_53n (C : Cx p s m args meth c j B b tK L xs cA D) (ho : okb j pc (53, a, w, k, t) nx = true) (kk : Sm p l e R s m args below meth c j B b tK L xs cA D z0 Q nx ls r z f) : Sm p l e R s m args below meth c j B b tK L xs cA D z0 Q pc ls (.null :: r) z f := by
  obtain ⟨hx, hb, -⟩ := C
  obtain ⟨hd, rfl⟩ := dj_spec ho
  intro H locs la hR hS hL
  exact lv_ifnonnullN hx hb hd (kk H locs la hR hS hL)
theorem m_2 {x : Int32} (C : Cx p s m args meth c j B b tK L xs cA D) (ho : okb j pc (2, a, w, k, t) nx = true) (hl : lget ls a = some (.int x)) (kk : Sm p l e R s m args below meth c j B b tK L xs cA D z0 Q nx ls (.int x :: r) z f) : Sm p l e R s m args below meth c j B b tK L xs cA D z0 Q pc ls r z f := by
  obtain ⟨hx, hb, -⟩ := C
  intro H locs la hR hS hL
  have h1 := hL.get hl
  rcases dl_spec ho with ⟨k4, e4, hd, rfl⟩ | ⟨hd, rfl⟩
  · exact lv_iload_n hx hb hd e4 h1 (kk H locs la hR hS hL)
  · exact lv_iload hx hb hd h1 (kk H locs la hR hS hL)
theorem m_3 {x : Int64} (C : Cx p s m args meth c j B b tK L xs cA D) (ho : okb j pc (3, a, w, k, t) nx = true) (hl : lget ls a = some (.long x)) (kk : Sm p l e R s m args below meth c j B b tK L xs cA D z0 Q nx ls (.long x :: r) z f) : Sm p l e R s m args below meth c j B b tK L xs cA D z0 Q pc ls r z f := by
  obtain ⟨hx, hb, -⟩ := C
  intro H locs la hR hS hL
  have h1 := hL.get hl
  rcases dl_spec ho with ⟨k4, e4, hd, rfl⟩ | ⟨hd, rfl⟩
  · exact lv_lload_n hx hb hd e4 h1 (kk H locs la hR hS hL)
  · exact lv_lload hx hb hd h1 (kk H locs la hR hS hL)
theorem m_4 {x : Nat} (C : Cx p s m args meth c j B b tK L xs cA D) (ho : okb j pc (4, a, w, k, t) nx = true) (hl : lget ls a = some (.ref x)) (kk : Sm p l e R s m args below meth c j B b tK L xs cA D z0 Q nx ls (.ref x :: r) z f) : Sm p l e R s m args below meth c j B b tK L xs cA D z0 Q pc ls r z f := by
  obtain ⟨hx, hb, -⟩ := C
  intro H locs la hR hS hL
  have h1 := hL.get hl
  rcases dl_spec ho with ⟨k4, e4, hd, rfl⟩ | ⟨hd, rfl⟩
  · exact lv_aload_n hx hb hd e4 h1 (kk H locs la hR hS hL)
  · exact lv_aload hx hb hd h1 (kk H locs la hR hS hL)
theorem m_5 {x : Int32} (C : Cx p s m args meth c j B b tK L xs cA D) (ho : okb j pc (5, a, w, k, t) nx = true) (kk : Sm p l e R s m args below meth c j B b tK L xs cA D z0 Q nx (lset ls a (.int x)) r z f) : Sm p l e R s m args below meth c j B b tK L xs cA D z0 Q pc ls (.int x :: r) z f := by
  obtain ⟨hx, hb, -⟩ := C
  have ho := Bool.and_eq_true_iff.mp (show (dl j pc a .istore_n .istore nx && decide (a < mL j)) = true from ho)
  have ha := of_decide_eq_true ho.2
  intro H locs la hR hS hL
  rcases dl_spec ho.1 with ⟨k4, e4, hd, rfl⟩ | ⟨hd, rfl⟩
  · exact lv_istore_n hx hb hd e4 hL ha rfl (fun la' h' => kk H locs la' hR hS (LvR.set1 h'))
  · exact lv_istore hx hb hd hL ha rfl (fun la' h' => kk H locs la' hR hS (LvR.set1 h'))
theorem m_7 {x : Nat} (C : Cx p s m args meth c j B b tK L xs cA D) (ho : okb j pc (7, a, w, k, t) nx = true) (kk : Sm p l e R s m args below meth c j B b tK L xs cA D z0 Q nx (lset ls a (.ref x)) r z f) : Sm p l e R s m args below meth c j B b tK L xs cA D z0 Q pc ls (.ref x :: r) z f := by
  obtain ⟨hx, hb, -⟩ := C
  have ho := Bool.and_eq_true_iff.mp (show (dl j pc a .astore_n .astore nx && decide (a < mL j)) = true from ho)
  have ha := of_decide_eq_true ho.2
  intro H locs la hR hS hL
  rcases dl_spec ho.1 with ⟨k4, e4, hd, rfl⟩ | ⟨hd, rfl⟩
  · exact lv_astore_n hx hb hd e4 hL ha rfl (fun la' h' => kk H locs la' hR hS (LvR.set1 h'))
  · exact lv_astore hx hb hd hL ha rfl (fun la' h' => kk H locs la' hR hS (LvR.set1 h'))
theorem m_6 {x : Int64} (C : Cx p s m args meth c j B b tK L xs cA D) (ho : okb j pc (6, a, w, k, t) nx = true) (kk : Sm p l e R s m args below meth c j B b tK L xs cA D z0 Q nx (lclr (lset ls a (.long x)) (a + 1)) r z f) : Sm p l e R s m args below meth c j B b tK L xs cA D z0 Q pc ls (.long x :: r) z f := by
  obtain ⟨hx, hb, -⟩ := C
  have ho := Bool.and_eq_true_iff.mp (show (dl j pc a .lstore_n .lstore nx && decide (a + 1 < mL j)) = true from ho)
  have ha := of_decide_eq_true ho.2
  intro H locs la hR hS hL
  rcases dl_spec ho.1 with ⟨k4, e4, hd, rfl⟩ | ⟨hd, rfl⟩
  · exact lv_lstore_n hx hb hd e4 hL ha rfl (fun la' h' => kk H locs la' hR hS (LvR.set2 h'))
  · exact lv_lstore hx hb hd hL ha rfl (fun la' h' => kk H locs la' hR hS (LvR.set2 h'))
theorem m_8 {x : Int32} (C : Cx p s m args meth c j B b tK L xs cA D) (ho : okb j pc (8, a, w, k, t) nx = true) (hl : lget ls a = some (.int x)) (kk : Sm p l e R s m args below meth c j B b tK L xs cA D z0 Q nx (lset ls a (.int (x + Int32.ofInt k))) r z f) : Sm p l e R s m args below meth c j B b tK L xs cA D z0 Q pc ls r z f := by
  obtain ⟨hx, hb, -⟩ := C
  have ho := Bool.and_eq_true_iff.mp (show (dk j pc (.iinc a k) 3 nx && decide (a < mL j)) = true from ho)
  obtain ⟨hd, rfl⟩ := dk_spec ho.1
  intro H locs la hR hS hL
  have h1 := lp_in (ad := adr B b tK) ls 0 a _ hl
  rw [Nat.zero_add] at h1
  obtain ⟨q, hq⟩ := List.getElem?_of_mem h1
  exact lv_iinc hx hb hd hL hq rfl (of_decide_eq_true ho.2) rfl (fun la' h' => kk H locs la' hR hS (LvR.set1 h'))
theorem m_0 (C : Cx p s m args meth c j B b tK L xs cA D) (ho : okb j pc (0, a, w, k, t) nx = true) (kk : Sm p l e R s m args below meth c j B b tK L xs cA D z0 Q nx ls (.int (Int32.ofInt k) :: r) z f) : Sm p l e R s m args below meth c j B b tK L xs cA D z0 Q pc ls r z f := by
  obtain ⟨hx, hb, -, hown, hts, -⟩ := C
  intro H locs la hR hS hL
  have K := kk H locs la hR hS hL
  have kin : (ksT.map Prod.fst).contains (mC j, w, k) = true → (Cond.constant (clsN (mC j)) w (Int32.ofInt k)).before args s = true := by
    intro h
    obtain ⟨q, hq, e⟩ := List.mem_map.mp (List.contains_iff_mem.mp h)
    have h2 := List.all_eq_true.mp ksT_ok q hq
    obtain ⟨q1, q2⟩ := q
    cases e
    exact hts _ (gw_in (wAt_mem h2) rfl)
  match a, ho with
  | 1, ho => obtain ⟨hd, rfl⟩ := dk_spec ho; exact lv_iconst hx hb hd rfl K
  | 2, ho =>
    have ho := Bool.and_eq_true_iff.mp (show (dk j pc (.bipush k) 2 nx && decide ((Int8.ofInt k).toInt32 = Int32.ofInt k)) = true from ho)
    obtain ⟨hd, rfl⟩ := dk_spec ho.1; exact lv_bipush hx hb hd (of_decide_eq_true ho.2) K
  | 3, ho =>
    have ho := Bool.and_eq_true_iff.mp (show (dk j pc (.sipush k) 3 nx && decide ((Int16.ofInt k).toInt32 = Int32.ofInt k)) = true from ho)
    obtain ⟨hd, rfl⟩ := dk_spec ho.1; exact lv_sipush hx hb hd (of_decide_eq_true ho.2) K
  | 4, ho =>
    have ho := Bool.and_eq_true_iff.mp (show (dk j pc (.ldc w) 2 nx && (ksT.map Prod.fst).contains (mC j, w, k)) = true from ho)
    obtain ⟨hd, rfl⟩ := dk_spec ho.1; exact lv_ldc hx hb hown (kin ho.2) hd K
  | 5, ho =>
    have ho := Bool.and_eq_true_iff.mp (show (dk j pc (.ldc_w w) 3 nx && (ksT.map Prod.fst).contains (mC j, w, k)) = true from ho)
    obtain ⟨hd, rfl⟩ := dk_spec ho.1; exact lv_ldcw hx hb hown (kin ho.2) hd K
  | 0, ho => cases ho
  | n + 6, ho => cases ho
theorem m_1 (C : Cx p s m args meth c j B b tK L xs cA D) (ho : okb j pc (1, a, w, k, t) nx = true) (kk : Sm p l e R s m args below meth c j B b tK L xs cA D z0 Q nx ls (.long (Int64.ofInt k) :: r) z f) : Sm p l e R s m args below meth c j B b tK L xs cA D z0 Q pc ls r z f := by
  obtain ⟨hx, hb, -, hown, hts, -⟩ := C
  intro H locs la hR hS hL
  have K := kk H locs la hR hS hL
  have kin : (klT.map Prod.fst).contains (mC j, w, k) = true → (Cond.constantLong (clsN (mC j)) w (Int64.ofInt k)).before args s = true := by
    intro h
    obtain ⟨q, hq, e⟩ := List.mem_map.mp (List.contains_iff_mem.mp h)
    have h2 := List.all_eq_true.mp klT_ok q hq
    obtain ⟨q1, q2⟩ := q
    cases e
    exact hts _ (gw_in (wAt_mem h2) rfl)
  match a, ho with
  | 1, ho =>
    rcases Bool.or_eq_true_iff.mp (show ((decide (k = 0) && dk j pc (.lconst 0) 1 nx) || (decide (k = 1) && dk j pc (.lconst 1) 1 nx)) = true from ho) with ho | ho
    · have ho := Bool.and_eq_true_iff.mp ho
      have e := of_decide_eq_true ho.1
      subst e
      obtain ⟨hd, rfl⟩ := dk_spec ho.2; exact lv_lconst hx hb hd rfl K
    · have ho := Bool.and_eq_true_iff.mp ho
      have e := of_decide_eq_true ho.1
      subst e
      obtain ⟨hd, rfl⟩ := dk_spec ho.2; exact lv_lconst hx hb hd rfl K
  | 2, ho =>
    have ho := Bool.and_eq_true_iff.mp (show (dk j pc (.ldc2_w w) 3 nx && (klT.map Prod.fst).contains (mC j, w, k)) = true from ho)
    obtain ⟨hd, rfl⟩ := dk_spec ho.1; exact lv_ldc2 hx hb hown (kin ho.2) hd K
  | 0, ho => cases ho
  | n + 3, ho => cases ho
theorem m_54 {x : Int32} (C : Cx p s m args meth c j B b tK L xs cA D) (ho : okb j pc (54, a, w, k, t) nx = true) (kk : Sm p l e R s m args below meth c j B b tK L xs cA D z0 Q (sw k t a x) ls r z f) : Sm p l e R s m args below meth c j B b tK L xs cA D z0 Q pc ls (.int x :: r) z f := by
  obtain ⟨hx, hb, -⟩ := C
  intro H locs la hR hS hL
  have K := kk H locs la hR hS hL
  have ho : (match decode (mB j) pc with
    | .ok (.tableswitch d lo hi offs, _) => decide (d = (a : Int) - pc) && decide (lo = k) && decide (hi = k + t.length - 1) && decide (offs.toList = t.map (fun q : Nat => (q : Int) - (pc : Int)))
    | _ => false) = true := ho
  split at ho
  · rename_i d lo hi offs n hd
    simp only [Bool.and_eq_true, decide_eq_true_eq] at ho
    obtain ⟨⟨⟨e1, e2⟩, e3⟩, e4⟩ := ho
    unfold sw at K
    split at K
    · rename_i q
      refine lv_tableOut hx hb hd (by omega) (by omega) K
    · rename_i q
      have hlt : (x.toInt - k).toNat < t.length := by omega
      refine lv_tableIn (off := ((t.getD (x.toInt - k).toNat 0 : Nat) : Int) - pc) hx hb hd (by omega) (by omega) ?_ (by omega) K
      rw [e2, ← Array.getElem?_toList, e4, List.getElem?_map, List.getElem?_eq_getElem hlt, List.getD_eq_getElem?_getD, List.getElem?_eq_getElem hlt]
      rfl
  · cases ho
end

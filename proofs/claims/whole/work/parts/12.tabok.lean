/-! the tables' rows stand where the tables say -/
def wAt (p : Nat) (w : Cond) : Bool := decide (lw_tbl[p]? = some w)
theorem wAt_mem {p : Nat} {w : Cond} (h : wAt p w = true) : w ∈ lw_tbl := List.mem_of_getElem? (of_decide_eq_true h)
def flB (q : (Nat × Nat × Nat × Nat) × Nat) : Bool := wAt q.2 (.fieldLink (clsN q.1.1) q.1.2.1 (clsN q.1.2.2.1) (TF q.1.2.2.1 q.1.2.2.2).2.1 (TF q.1.2.2.1 q.1.2.2.2).2.2.1) && decide (q.1.2.2.2 < (kds q.1.2.2.1).length)
set_option maxRecDepth 100000 in
theorem flT_ok : flT.all flB = true := by decide +kernel
def mlB (q : (Nat × Nat × Nat × Nat) × (Nat × Nat × Nat × Nat)) : Bool :=
  wAt q.2.2.2.2 (.initialized (mY q.1.2.2.1).cls) && match q.1.2.2.2 with
  | 0 => wAt q.2.1 (.methodLink (clsN q.1.1) q.1.2.1 (mY q.1.2.2.1)) && wAt q.2.2.1 (.instanceMethod (mY q.1.2.2.1)) && wAt q.2.2.2.1 (.selects (mY q.1.2.2.1).cls (mY q.1.2.2.1) (mY q.1.2.2.1))
  | 1 => wAt q.2.1 (.methodLink (clsN q.1.1) q.1.2.1 (mY q.1.2.2.1)) && wAt q.2.2.1 (.static (mY q.1.2.2.1))
  | 2 => wAt q.2.1 (.methodLink (clsN q.1.1) q.1.2.1 (mY q.1.2.2.1)) && wAt q.2.2.1 (.instanceMethod (mY q.1.2.2.1)) && decide ((mY q.1.2.2.1).name = "<init>")
  | 4 => wAt q.2.1 (.methodLinkNest (clsN q.1.1) q.1.2.1 (mY q.1.2.2.1) "BumpMap") && wAt q.2.2.1 (.static (mY q.1.2.2.1))
  | 5 => wAt q.2.1 (.methodLinkNest (clsN q.1.1) q.1.2.1 (mY q.1.2.2.1) "BumpMap") && wAt q.2.2.1 (.instanceMethod (mY q.1.2.2.1)) && decide ((mY q.1.2.2.1).name = "<init>")
  | _ => false
-- BEGIN ml
theorem mlT_ok_0 : mlT_0.all mlB = true := by decide +kernel
theorem mlT_ok_1 : mlT_1.all mlB = true := by decide +kernel
theorem mlT_ok_2 : mlT_2.all mlB = true := by decide +kernel
theorem mlT_ok_3 : mlT_3.all mlB = true := by decide +kernel
theorem mlT_ok_4 : mlT_4.all mlB = true := by decide +kernel
theorem mlT_ok_5 : mlT_5.all mlB = true := by decide +kernel
theorem mlT_ok_6 : mlT_6.all mlB = true := by decide +kernel
theorem mlT_ok_7 : mlT_7.all mlB = true := by decide +kernel
theorem mlT_ok_8 : mlT_8.all mlB = true := by decide +kernel
theorem mlT_ok_9 : mlT_9.all mlB = true := by decide +kernel
theorem mlT_ok_10 : mlT_10.all mlB = true := by decide +kernel
theorem mlT_ok_11 : mlT_11.all mlB = true := by decide +kernel
theorem mlT_ok_12 : mlT_12.all mlB = true := by decide +kernel
theorem mlT_ok_13 : mlT_13.all mlB = true := by decide +kernel
theorem mlT_ok_14 : mlT_14.all mlB = true := by decide +kernel
theorem mlT_ok_15 : mlT_15.all mlB = true := by decide +kernel
theorem mlT_ok_16 : mlT_16.all mlB = true := by decide +kernel
theorem mlT_ok_17 : mlT_17.all mlB = true := by decide +kernel
theorem mlT_ok_18 : mlT_18.all mlB = true := by decide +kernel
theorem mlT_ok_19 : mlT_19.all mlB = true := by decide +kernel
theorem mlT_ok_20 : mlT_20.all mlB = true := by decide +kernel
theorem mlT_ok_21 : mlT_21.all mlB = true := by decide +kernel
theorem mlT_ok_22 : mlT_22.all mlB = true := by decide +kernel
theorem mlT_ok_23 : mlT_23.all mlB = true := by decide +kernel
theorem mlT_ok_24 : mlT_24.all mlB = true := by decide +kernel
theorem mlT_ok_25 : mlT_25.all mlB = true := by decide +kernel
theorem mlT_ok_26 : mlT_26.all mlB = true := by decide +kernel
theorem mlT_ok : mlT.all mlB = true := by
  simp only [mlT, List.all_append, Bool.and_eq_true]
  exact ⟨mlT_ok_0, mlT_ok_1, mlT_ok_2, mlT_ok_3, mlT_ok_4, mlT_ok_5, mlT_ok_6, mlT_ok_7, mlT_ok_8, mlT_ok_9, mlT_ok_10, mlT_ok_11, mlT_ok_12, mlT_ok_13, mlT_ok_14, mlT_ok_15, mlT_ok_16, mlT_ok_17, mlT_ok_18, mlT_ok_19, mlT_ok_20, mlT_ok_21, mlT_ok_22, mlT_ok_23, mlT_ok_24, mlT_ok_25, mlT_ok_26⟩
-- END ml
def cdB (q : Nat × Nat) : Bool := wAt q.2 (.code (mY q.1) (mB q.1) (mL q.1) (mR q.1)) && decide ((mY q.1).cls = clsN (mC q.1)) && decide ((mY q.1).cls ≠ "java/lang/invoke/MethodHandle" ∧ (mY q.1).cls ≠ "java/lang/invoke/VarHandle") && _root_.Jvm.plainName (mY q.1).cls
-- BEGIN cd
theorem cdT_ok_0 : cdT_0.all cdB = true := by decide +kernel
theorem cdT_ok_1 : cdT_1.all cdB = true := by decide +kernel
theorem cdT_ok_2 : cdT_2.all cdB = true := by decide +kernel
theorem cdT_ok_3 : cdT_3.all cdB = true := by decide +kernel
theorem cdT_ok_4 : cdT_4.all cdB = true := by decide +kernel
theorem cdT_ok_5 : cdT_5.all cdB = true := by decide +kernel
theorem cdT_ok_6 : cdT_6.all cdB = true := by decide +kernel
theorem cdT_ok_7 : cdT_7.all cdB = true := by decide +kernel
theorem cdT_ok_8 : cdT_8.all cdB = true := by decide +kernel
theorem cdT_ok_9 : cdT_9.all cdB = true := by decide +kernel
theorem cdT_ok_10 : cdT_10.all cdB = true := by decide +kernel
theorem cdT_ok_11 : cdT_11.all cdB = true := by decide +kernel
theorem cdT_ok_12 : cdT_12.all cdB = true := by decide +kernel
theorem cdT_ok_13 : cdT_13.all cdB = true := by decide +kernel
theorem cdT_ok_14 : cdT_14.all cdB = true := by decide +kernel
theorem cdT_ok_15 : cdT_15.all cdB = true := by decide +kernel
theorem cdT_ok_16 : cdT_16.all cdB = true := by decide +kernel
theorem cdT_ok_17 : cdT_17.all cdB = true := by decide +kernel
theorem cdT_ok_18 : cdT_18.all cdB = true := by decide +kernel
theorem cdT_ok_19 : cdT_19.all cdB = true := by decide +kernel
theorem cdT_ok_20 : cdT_20.all cdB = true := by decide +kernel
theorem cdT_ok_21 : cdT_21.all cdB = true := by decide +kernel
theorem cdT_ok_22 : cdT_22.all cdB = true := by decide +kernel
theorem cdT_ok_23 : cdT_23.all cdB = true := by decide +kernel
theorem cdT_ok : cdT.all cdB = true := by
  simp only [cdT, List.all_append, Bool.and_eq_true]
  exact ⟨cdT_ok_0, cdT_ok_1, cdT_ok_2, cdT_ok_3, cdT_ok_4, cdT_ok_5, cdT_ok_6, cdT_ok_7, cdT_ok_8, cdT_ok_9, cdT_ok_10, cdT_ok_11, cdT_ok_12, cdT_ok_13, cdT_ok_14, cdT_ok_15, cdT_ok_16, cdT_ok_17, cdT_ok_18, cdT_ok_19, cdT_ok_20, cdT_ok_21, cdT_ok_22, cdT_ok_23⟩
-- END cd
def clB (q : (Nat × Nat × Nat) × Nat) : Bool := wAt q.2 (.classLink (clsN q.1.1) q.1.2.1 (clsN q.1.2.2))
theorem clT_ok : clT.all clB = true := by decide +kernel
def ksB (q : (Nat × Nat × Int) × Nat) : Bool := wAt q.2 (.constant (clsN q.1.1) q.1.2.1 (Int32.ofInt q.1.2.2))
theorem ksT_ok : ksT.all ksB = true := by decide +kernel
def klB (q : (Nat × Nat × Int) × Nat) : Bool := wAt q.2 (.constantLong (clsN q.1.1) q.1.2.1 (Int64.ofInt q.1.2.2))
theorem klT_ok : klT.all klB = true := by decide +kernel
def lkB (y : MethodName) (q : (Nat × Nat) × Nat) : Bool := wAt q.2 (.methodLink (clsN q.1.1) q.1.2 y)
theorem cpT_ok : cpT.all (lkB arraycopyName) = true := by decide +kernel
theorem oiT_ok : oiT.all (lkB Lib.objectInit) = true := by decide +kernel
theorem mxT_ok : mxT.all (lkB Lib.Math.max.name) = true := by decide +kernel
theorem miT_ok : miT.all (lkB Lib.Math.min.name) = true := by decide +kernel
def isB (q : Nat × Nat × Nat) : Bool := wAt q.2.1 (.instantiable (clsN q.1) (kds q.1).length) && wAt q.2.2 (.initialized (clsN q.1))
theorem isT_ok : isT.all isB = true := by decide +kernel
def laB (q : Nat × Nat × Nat) : Bool := wAt q.2.2 (u_lay (clsN q.1) (TF q.1) q.2.1)
set_option maxRecDepth 100000 in
theorem laT_ok : laT.all laB = true := by decide +kernel
def neB (q : Nat × Nat × Nat × Nat) : Bool := wAt q.2.2.2 (.methodLinkNest (clsN q.1) q.2.1 (mY q.2.2.1) "BumpMap")
theorem neT_ok : neT.all neB = true := by decide +kernel
theorem w_ai : Cond.arrayClass .int ∈ lw_tbl := wAt_mem (p := 134) (by decide +kernel)
theorem w_al : Cond.arrayClass .long ∈ lw_tbl := wAt_mem (p := 205) (by decide +kernel)
theorem w_az : Cond.arrayClass .boolean ∈ lw_tbl := wAt_mem (p := 1057) (by decide +kernel)
theorem w_oc : Cond.arrayOver (.object "BumpMap$Cells") ∈ lw_tbl := wAt_mem (p := 87) (by decide +kernel)
theorem w_od : Cond.arrayOver (.object "BumpMap$Drive") ∈ lw_tbl := wAt_mem (p := 174) (by decide +kernel)
theorem w_gs : Cond.fieldLinkNest "BumpMap$Reader" 66 "BumpMap" "KIND_LETTERS" "[I" "BumpMap" ∈ lw_tbl := wAt_mem (p := 455) (by decide +kernel)
theorem w_oi : Cond.instanceMethod Lib.objectInit ∈ lw_tbl := wAt_mem (p := 84) (by decide +kernel)
theorem w_ob : Cond.code Lib.objectInit ⟨#[0xb1]⟩ 1 none ∈ lw_tbl := wAt_mem (p := 85) (by decide +kernel)
theorem w_mx : Cond.static Lib.Math.max.name ∈ lw_tbl := wAt_mem (p := 259) (by decide +kernel)
theorem w_mxc : Cond.code Lib.Math.max.name Lib.Math.max.code 2 (some .int) ∈ lw_tbl := wAt_mem (p := 260) (by decide +kernel)
theorem w_mi : Cond.static Lib.Math.min.name ∈ lw_tbl := wAt_mem (p := 350) (by decide +kernel)
theorem w_mic : Cond.code Lib.Math.min.name Lib.Math.min.code 2 (some .int) ∈ lw_tbl := wAt_mem (p := 351) (by decide +kernel)
theorem w_mt : Cond.initialized "java/lang/Math" ∈ lw_tbl := wAt_mem (p := 72) (by decide +kernel)
theorem w_sy : Cond.initialized "java/lang/System" ∈ lw_tbl := wAt_mem (p := 75) (by decide +kernel)
theorem w_ac : Cond.static arraycopyName ∈ lw_tbl := wAt_mem (p := 401) (by decide +kernel)
theorem w_nt : Cond.native arraycopyName ∈ lw_tbl := wAt_mem (p := 402) (by decide +kernel)

/-! does the abstract instruction say what the bytes say? -/
def dk (j pc : Nat) (i : Instr) (n nx : Nat) : Bool := decide (decode (mB j) pc = .ok (i, n)) && decide (nx = pc + n)
def dj (j pc : Nat) (i : Instr) (nx : Nat) : Bool := decide (decode (mB j) pc = .ok (i, 3)) && decide (nx = pc + 3)
def dl (j pc a : Nat) (i : Fin 4 → Instr) (i2 : Nat → Instr) (nx : Nat) : Bool := if h : a < 4 then dk j pc (i ⟨a, h⟩) 1 nx else dk j pc (i2 a) 2 nx
def okb (j pc : Nat) (o : AI) (nx : Nat) : Bool := match o with
  | (0, w, b, c, _) => match w with
    | 1 => dk j pc (.iconst c) 1 nx
    | 2 => dk j pc (.bipush c) 2 nx && decide ((Int8.ofInt c).toInt32 = Int32.ofInt c)
    | 3 => dk j pc (.sipush c) 3 nx && decide ((Int16.ofInt c).toInt32 = Int32.ofInt c)
    | 4 => dk j pc (.ldc b) 2 nx && (ksT.map Prod.fst).contains (mC j, b, c)
    | 5 => dk j pc (.ldc_w b) 3 nx && (ksT.map Prod.fst).contains (mC j, b, c)
    | _ => false
  | (1, w, b, c, _) => match w with
    | 1 => (decide (c = 0) && dk j pc (.lconst 0) 1 nx) || (decide (c = 1) && dk j pc (.lconst 1) 1 nx)
    | 2 => dk j pc (.ldc2_w b) 3 nx && (klT.map Prod.fst).contains (mC j, b, c)
    | _ => false
  | (2, a, _, _, _) => dl j pc a .iload_n .iload nx
  | (3, a, _, _, _) => dl j pc a .lload_n .lload nx
  | (4, a, _, _, _) => dl j pc a .aload_n .aload nx
  | (5, a, _, _, _) => dl j pc a .istore_n .istore nx && decide (a < mL j)
  | (6, a, _, _, _) => dl j pc a .lstore_n .lstore nx && decide (a + 1 < mL j)
  | (7, a, _, _, _) => dl j pc a .astore_n .astore nx && decide (a < mL j)
  | (8, a, _, c, _) => dk j pc (.iinc a c) 3 nx && decide (a < mL j)
  | (10, _, _, _, _) => dk j pc .iadd 1 nx
  | (11, _, _, _, _) => dk j pc .isub 1 nx
  | (12, _, _, _, _) => dk j pc .imul 1 nx
  | (13, _, _, _, _) => dk j pc .idiv 1 nx
  | (14, _, _, _, _) => dk j pc .irem 1 nx
  | (15, _, _, _, _) => dk j pc .iand 1 nx
  | (16, _, _, _, _) => dk j pc .ior 1 nx
  | (17, _, _, _, _) => dk j pc .ixor 1 nx
  | (18, _, _, _, _) => dk j pc .ishl 1 nx
  | (19, _, _, _, _) => dk j pc .ishr 1 nx
  | (20, _, _, _, _) => dk j pc .iushr 1 nx
  | (21, _, _, _, _) => dk j pc .ladd 1 nx
  | (22, _, _, _, _) => dk j pc .lmul 1 nx
  | (23, _, _, _, _) => dk j pc .ldiv 1 nx
  | (24, _, _, _, _) => dk j pc .lrem 1 nx
  | (25, _, _, _, _) => dk j pc .lcmp 1 nx
  | (26, _, _, _, _) => dk j pc .i2l 1 nx
  | (27, _, _, _, _) => dk j pc .l2i 1 nx
  | (28, _, _, _, _) => dk j pc .i2b 1 nx
  | (30, _, _, _, _) => dk j pc .dup 1 nx
  | (31, _, _, _, _) => dk j pc .dup2 1 nx
  | (32, _, _, _, _) => dk j pc .pop 1 nx
  | (40, a, _, _, _) => dj j pc (.ifCond .eq ((a : Int) - pc)) nx
  | (41, a, _, _, _) => dj j pc (.ifCond .ne ((a : Int) - pc)) nx
  | (42, a, _, _, _) => dj j pc (.ifCond .lt ((a : Int) - pc)) nx
  | (43, a, _, _, _) => dj j pc (.ifCond .ge ((a : Int) - pc)) nx
  | (44, a, _, _, _) => dj j pc (.ifCond .gt ((a : Int) - pc)) nx
  | (45, a, _, _, _) => dj j pc (.ifCond .le ((a : Int) - pc)) nx
  | (46, a, _, _, _) => dj j pc (.if_icmp .eq ((a : Int) - pc)) nx
  | (47, a, _, _, _) => dj j pc (.if_icmp .ne ((a : Int) - pc)) nx
  | (48, a, _, _, _) => dj j pc (.if_icmp .lt ((a : Int) - pc)) nx
  | (49, a, _, _, _) => dj j pc (.if_icmp .ge ((a : Int) - pc)) nx
  | (50, a, _, _, _) => dj j pc (.if_icmp .gt ((a : Int) - pc)) nx
  | (51, a, _, _, _) => dj j pc (.if_icmp .le ((a : Int) - pc)) nx
  | (52, a, _, _, _) => decide (decode (mB j) pc = .ok (.goto ((a : Int) - pc), 3))
  | (53, a, _, _, _) => dj j pc (.ifnonnull ((a : Int) - pc)) nx
  | (54, a, _, c, t) => match decode (mB j) pc with
    | .ok (.tableswitch d lo hi offs, _) => decide (d = (a : Int) - pc) && decide (lo = c) && decide (hi = c + t.length - 1) && decide (offs.toList = t.map (fun q : Nat => (q : Int) - (pc : Int)))
    | _ => false
  | (60, a, b, c, _) => dk j pc (.getfield c.toNat) 3 nx && (flT.map Prod.fst).contains (mC j, c.toNat, a, b)
  | (61, a, b, c, _) => dk j pc (.putfield c.toNat) 3 nx && (flT.map Prod.fst).contains (mC j, c.toNat, a, b) && ((TF a b).2.2.2 == false || (decide ((mY j).name = "<init>") && decide (a = mC j)))
  | (62, _, _, _, _) => dk j pc (.getstatic 66) 3 nx && decide (mC j = 5)
  | (63, _, _, _, _) => dk j pc .arraylength 1 nx
  | (64, _, _, _, _) => dk j pc .iaload 1 nx
  | (65, _, _, _, _) => dk j pc .iastore 1 nx
  | (66, _, _, _, _) => dk j pc .laload 1 nx
  | (67, _, _, _, _) => dk j pc .lastore 1 nx
  | (68, _, _, _, _) => dk j pc .aaload 1 nx
  | (69, _, _, _, _) => dk j pc .aastore 1 nx
  | (70, _, _, _, _) => dk j pc .baload 1 nx
  | (71, _, _, _, _) => dk j pc .bastore 1 nx
  | (72, a, _, _, _) => match a with
    | 0 => dk j pc (.newarray .int) 2 nx
    | 1 => dk j pc (.newarray .long) 2 nx
    | 2 => dk j pc (.newarray .boolean) 2 nx
    | _ => false
  | (73, a, _, c, _) => match a with
    | 3 => dk j pc (.anewarray c.toNat) 3 nx && (clT.map Prod.fst).contains (mC j, c.toNat, 0)
    | 4 => dk j pc (.anewarray c.toNat) 3 nx && (clT.map Prod.fst).contains (mC j, c.toNat, 2)
    | _ => false
  | (74, a, _, c, _) => dk j pc (.new c.toNat) 3 nx && (clT.map Prod.fst).contains (mC j, c.toNat, a) && decide (a < 11)
  | (79, a, n, c, t) => match t with
    | [ix] => decide (c.toNat = mL a) && decide (mL a ≤ 60) && (cdT.map Prod.fst).contains a && decide (nx = pc + 3) && decide ((parseMethodDescriptor (mY a).desc).map (fun d => d.parameters.length + 1) = some n) &&
      ((decide (decode (mB j) pc = .ok (.invokevirtual ix, 3)) && (mlT.map Prod.fst).contains (mC j, ix, a, 0)) ||
       (decide (decode (mB j) pc = .ok (.invokespecial ix, 3)) && decide (mR a = none) && ((mlT.map Prod.fst).contains (mC j, ix, a, 2) || (mlT.map Prod.fst).contains (mC j, ix, a, 5) && (neT.map fun q => (q.1, q.2.1, q.2.2.1)).contains (mC j, ix, a))))
    | _ => false
  | (80, a, n, c, t) => match t with
    | [ix] => decide (c.toNat = mL a) && decide (mL a ≤ 60) && (cdT.map Prod.fst).contains a && decide (nx = pc + 3) && decide ((parseMethodDescriptor (mY a).desc).map (fun d => d.parameters.length) = some n) && decide (decode (mB j) pc = .ok (.invokestatic ix, 3)) && ((mlT.map Prod.fst).contains (mC j, ix, a, 1) || (mlT.map Prod.fst).contains (mC j, ix, a, 4) && (neT.map fun q => (q.1, q.2.1, q.2.2.1)).contains (mC j, ix, a))
    | _ => false
  | (81, _, _, c, _) => dk j pc (.invokestatic c.toNat) 3 nx && (cpT.map Prod.fst).contains (mC j, c.toNat)
  | (82, _, _, c, _) => dk j pc (.invokespecial c.toNat) 3 nx && (oiT.map Prod.fst).contains (mC j, c.toNat)
  | (83, _, _, c, _) => dk j pc (.invokestatic c.toNat) 3 nx && (mxT.map Prod.fst).contains (mC j, c.toNat)
  | (84, _, _, c, _) => dk j pc (.invokestatic c.toNat) 3 nx && (miT.map Prod.fst).contains (mC j, c.toNat)
  | (90, _, _, _, _) => decide (decode (mB j) pc = .ok (.ireturn, 1)) && decide (mR j = some .int)
  | (91, _, _, _, _) => decide (decode (mB j) pc = .ok (.lreturn, 1)) && decide (mR j = some .long)
  | (92, _, _, _, _) => decide (decode (mB j) pc = .ok (.areturn, 1)) && decide (mR j = some (.object "BumpMap$Land"))
  | (93, _, _, _, _) => decide (decode (mB j) pc = .ok (.return_, 1)) && decide (mR j = none)
  | (94, _, _, _, _) => decide (decode (mB j) pc = .ok (.ireturn, 1)) && decide (mR j = some .boolean)
  | _ => false

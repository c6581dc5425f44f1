/-! the abstract machine -/
abbrev AE : Type := (Nat × vp_A) ⊕ (Nat × List Value)
abbrev AH : Type := Nat → AE
abbrev AZ : Type := Nat × Nat
abbrev AL : Type := List (Option Value)
abbrev AR : Type := Option Value × AZ × AH
abbrev AI : Type := Nat × Nat × Nat × Int × List Nat
abbrev iA (n : Nat) (g : Nat → Int32) : AE := .inl (0, n, .inl g)
abbrev lA (n : Nat) (g : Nat → Int64) : AE := .inl (1, n, .inr (.inl g))
abbrev zA (n : Nat) (g : Nat → Int32) : AE := .inl (2, n, .inl g)
abbrev rA (t n : Nat) (g : Nat → Option Nat) : AE := .inl (t, n, .inr (.inr (.inr (.inr g))))
abbrev cA9 (n : Nat) (g : Nat → Int32) : AE := .inl (9, n, .inl g)
abbrev oB (c : Nat) (fs : List Value) : AE := .inr (c, fs)
abbrev vd : AE := .inr (99, [])
/-- locals: reading, storing -/
def nl : Option Value → Option Value
  | some (.long _) => none
  | some (.double _) => none
  | o => o
def lget : AL → Nat → Option Value
  | [], _ => none
  | a :: _, 0 => a
  | _ :: r, n + 1 => lget r n
def lset : AL → Nat → Value → AL
  | [], 0, v => [some v]
  | [], n + 1, v => none :: lset [] n v
  | _ :: r, 0, v => some v :: r
  | a :: r, 1, v => nl a :: lset r 0 v
  | a :: r, n + 2, v => a :: lset r (n + 1) v
def lclr : AL → Nat → AL
  | [], 0 => [none]
  | [], _ + 1 => []
  | _ :: r, 0 => none :: r
  | a :: r, n + 1 => a :: lclr r n
def en : List Value → AL
  | [] => []
  | .long x :: r => some (.long x) :: none :: en r
  | .double x :: r => some (.double x) :: none :: en r
  | v :: r => some v :: en r
def ps : Option Value → List Value → List Value
  | some v, st => v :: st
  | none, st => st
/-- what may be put into a field: the kind of its type (0 int, 1 boolean, 2 long, 3 reference) -/
def okf : Nat → Value → Bool
  | 0, .int _ => true
  | 1, .int x => x == 0 || x == 1
  | 2, .long _ => true
  | 3, .ref _ => true
  | _, _ => false
/-- a new object's fields, by the kinds of their types -/
def dfv : Nat → Value
  | 0 => .int 0
  | 1 => .int 0
  | 2 => .long 0
  | _ => .null
/-- the kinds of the fields of each class -/
def kds : Nat → List Nat
  | 0 => [3, 1, 0]
  | 1 => [3, 3]
  | 2 => [3, 3, 1, 0, 0, 0]
  | 3 => [3, 3, 3, 3, 0, 0]
  | 4 => [3, 3, 1, 3, 3, 3, 0]
  | 5 => [3, 3, 0]
  | 6 => [3, 3]
  | 7 => [3, 3]
  | 8 => [0, 3, 3, 3]
  | 9 => [3, 3, 3, 3, 3, 3, 3, 3, 3, 3, 3, 3, 3, 3, 0, 0, 2, 2, 0]
  | 10 => [0, 3, 0, 2, 2, 3, 3, 3, 3, 3, 0, 0, 0, 3, 0, 0, 0, 0, 0, 3, 3, 3, 3, 3, 3, 3, 3, 3, 3, 3, 0, 0, 0, 0, 3, 3, 3, 2]
  | _ => []
def kdf (c k : Nat) : Nat := (kds c).getD k 9
/-- the first of n values off the stack, the deepest first -/
def popn : Nat → List Value → List Value → Option (List Value × List Value)
  | 0, acc, st => some (acc, st)
  | n + 1, acc, v :: st => popn n (v :: acc) st
  | _ + 1, _, [] => none
/-- reading and writing of cells -/
abbrev inb (i : Int32) (n : Nat) : Prop := ¬ (i < 0 ∨ n ≤ i.toNatClampNeg)
def gf (e : AE) (ci j : Nat) : Option Value := match e with
  | .inr (c, fs) => if c = ci then fs[j]? else none
  | _ => none
def pf (e : AE) (ci j : Nat) (v : Value) : Option AE := match e with
  | .inr (c, fs) => if c = ci ∧ okf (kdf ci j) v = true ∧ j < fs.length then some (.inr (ci, fs.set j v)) else none
  | _ => none
def al (e : AE) : Option Value := match e with
  | .inl (_, n, _) => some (.int (Int32.ofNat n))
  | _ => none
def ia (e : AE) (i : Int32) : Option Value := match e with
  | .inl (t, n, .inl g) => if (t = 0 ∨ t = 9) ∧ inb i n then some (.int (g i.toNatClampNeg)) else none
  | _ => none
def is (e : AE) (i x : Int32) : Option AE := match e with
  | .inl (t, n, .inl g) => if t = 0 ∧ inb i n then some (.inl (0, n, .inl (upd g i.toNatClampNeg x))) else none
  | _ => none
def la (e : AE) (i : Int32) : Option Value := match e with
  | .inl (t, n, .inr (.inl g)) => if t = 1 ∧ inb i n then some (.long (g i.toNatClampNeg)) else none
  | _ => none
def lst (e : AE) (i : Int32) (x : Int64) : Option AE := match e with
  | .inl (t, n, .inr (.inl g)) => if t = 1 ∧ inb i n then some (.inl (1, n, .inr (.inl (vp_updL g i.toNatClampNeg x)))) else none
  | _ => none
def qa (e : AE) (i : Int32) : Option Value := match e with
  | .inl (t, n, .inr (.inr (.inr (.inr g)))) => if (t = 3 ∨ t = 4) ∧ inb i n then (g i.toNatClampNeg).map .ref else none
  | _ => none
def qs (e w : AE) (i : Int32) (y : Nat) : Option AE := match e, w with
  | .inl (t, n, .inr (.inr (.inr (.inr g)))), .inr (c, _) => if (t = 3 ∧ c = 0 ∨ t = 4 ∧ c = 2) ∧ inb i n then some (.inl (t, n, .inr (.inr (.inr (.inr (va_up g i.toNatClampNeg (some y))))))) else none
  | _, _ => none
def za (e : AE) (i : Int32) : Option Value := match e with
  | .inl (t, n, .inl g) => if t = 2 ∧ inb i n then some (.int (g i.toNatClampNeg)) else none
  | _ => none
def zs (e : AE) (i x : Int32) : Option AE := match e with
  | .inl (t, n, .inl g) => if t = 2 ∧ (x = 0 ∨ x = 1) ∧ inb i n then some (.inl (2, n, .inl (upd g i.toNatClampNeg x))) else none
  | _ => none
def cpy (e w : AE) (sp dp n : Int32) : Option AE := match e, w with
  | .inl (t0, n0, .inl g0), .inl (t1, n1, .inl g1) => if t0 = 0 ∧ t1 = 0 ∧ ¬ sp < 0 ∧ ¬ dp < 0 ∧ ¬ n < 0 ∧ sp.toNatClampNeg + n.toNatClampNeg ≤ n0 ∧ dp.toNatClampNeg + n.toNatClampNeg ≤ n1 then some (.inl (0, n1, .inl (va_cpy g0 g1 sp.toNatClampNeg dp.toNatClampNeg n.toNatClampNeg))) else none
  | _, _ => none
def sw (c : Int) (tb : List Nat) (t : Nat) (x : Int32) : Nat := if x.toInt < c ∨ c + tb.length ≤ x.toInt then t else tb.getD (x.toInt - c).toNat 0
def rce (e : AE) (j : Nat) : Bool := match e with
  | .inr (c, _) => c == j / 100
  | _ => false
def rcv (f : AH) (as : List Value) (j : Nat) : Bool := match as with
  | .ref x :: _ => rce (f x) j
  | _ => false
abbrev SX : Type := (Nat × AL × List Value × AZ × AH) ⊕ ((Nat × List Value × Nat × AL × List Value) ⊕ AR)
abbrev gn (pc : Nat) (ls : AL) (st : List Value) (z : AZ) (f : AH) : Option SX := some (.inl (pc, ls, st, z, f))
abbrev cn (j : Nat) (as : List Value) (nx : Nat) (ls : AL) (st : List Value) : Option SX := some (.inr (.inl (j, as, nx, ls, st)))
abbrev rn (v : Option Value) (z : AZ) (f : AH) : Option SX := some (.inr (.inr (v, z, f)))
def gv (o : Option Value) (nx : Nat) (ls : AL) (st : List Value) (z : AZ) (f : AH) : Option SX := match o with
  | some v => gn nx ls (v :: st) z f
  | none => none
def gu (o : Option AE) (a nx : Nat) (ls : AL) (st : List Value) (z : AZ) (f : AH) : Option SX := match o with
  | some e => gn nx ls st z (va_up f a e)
  | none => none
/-- one instruction: it goes on, calls, or returns -/
def sx (o : AI) (nx : Nat) (ls : AL) (st : List Value) (z : AZ) (f : AH) : Option SX :=
  match o with
  | (0, _, _, c, _) => gn nx ls (.int (Int32.ofInt c) :: st) z f
  | (1, _, _, c, _) => gn nx ls (.long (Int64.ofInt c) :: st) z f
  | (2, a, _, _, _) => match lget ls a with
    | some (.int x) => gn nx ls (.int x :: st) z f
    | _ => none
  | (3, a, _, _, _) => match lget ls a with
    | some (.long x) => gn nx ls (.long x :: st) z f
    | _ => none
  | (4, a, _, _, _) => match lget ls a with
    | some (.ref x) => gn nx ls (.ref x :: st) z f
    | _ => none
  | (5, a, _, _, _) => match st with
    | .int x :: r => gn nx (lset ls a (.int x)) r z f
    | _ => none
  | (6, a, _, _, _) => match st with
    | .long x :: r => gn nx (lclr (lset ls a (.long x)) (a + 1)) r z f
    | _ => none
  | (7, a, _, _, _) => match st with
    | .ref x :: r => gn nx (lset ls a (.ref x)) r z f
    | _ => none
  | (8, a, _, c, _) => match lget ls a with
    | some (.int x) => gn nx (lset ls a (.int (x + Int32.ofInt c))) st z f
    | _ => none
  | (10, _, _, _, _) => match st with
    | .int y :: .int x :: r => gn nx ls (.int (x + y) :: r) z f
    | _ => none
  | (11, _, _, _, _) => match st with
    | .int y :: .int x :: r => gn nx ls (.int (x - y) :: r) z f
    | _ => none
  | (12, _, _, _, _) => match st with
    | .int y :: .int x :: r => gn nx ls (.int (x * y) :: r) z f
    | _ => none
  | (13, _, _, _, _) => match st with
    | .int y :: .int x :: r => if y = 0 then none else gn nx ls (.int (x / y) :: r) z f
    | _ => none
  | (14, _, _, _, _) => match st with
    | .int y :: .int x :: r => if y = 0 then none else gn nx ls (.int (x - x / y * y) :: r) z f
    | _ => none
  | (15, _, _, _, _) => match st with
    | .int y :: .int x :: r => gn nx ls (.int (x &&& y) :: r) z f
    | _ => none
  | (16, _, _, _, _) => match st with
    | .int y :: .int x :: r => gn nx ls (.int (x ||| y) :: r) z f
    | _ => none
  | (17, _, _, _, _) => match st with
    | .int y :: .int x :: r => gn nx ls (.int (x ^^^ y) :: r) z f
    | _ => none
  | (18, _, _, _, _) => match st with
    | .int y :: .int x :: r => gn nx ls (.int (x <<< (y &&& 31)) :: r) z f
    | _ => none
  | (19, _, _, _, _) => match st with
    | .int y :: .int x :: r => gn nx ls (.int (x >>> (y &&& 31)) :: r) z f
    | _ => none
  | (20, _, _, _, _) => match st with
    | .int y :: .int x :: r => gn nx ls (.int ((x.toUInt32 >>> (y.toUInt32 &&& Int32.toUInt32 31)).toInt32) :: r) z f
    | _ => none
  | (21, _, _, _, _) => match st with
    | .long y :: .long x :: r => gn nx ls (.long (x + y) :: r) z f
    | _ => none
  | (22, _, _, _, _) => match st with
    | .long y :: .long x :: r => gn nx ls (.long (x * y) :: r) z f
    | _ => none
  | (23, _, _, _, _) => match st with
    | .long y :: .long x :: r => if y = 0 then none else gn nx ls (.long (x / y) :: r) z f
    | _ => none
  | (24, _, _, _, _) => match st with
    | .long y :: .long x :: r => if y = 0 then none else gn nx ls (.long (x - x / y * y) :: r) z f
    | _ => none
  | (25, _, _, _, _) => match st with
    | .long y :: .long x :: r => gn nx ls (.int (if x < y then -1 else if x = y then 0 else 1) :: r) z f
    | _ => none
  | (26, _, _, _, _) => match st with
    | .int x :: r => gn nx ls (.long x.toInt64 :: r) z f
    | _ => none
  | (27, _, _, _, _) => match st with
    | .long x :: r => gn nx ls (.int x.toInt32 :: r) z f
    | _ => none
  | (28, _, _, _, _) => match st with
    | .int x :: r => gn nx ls (.int x.toInt8.toInt32 :: r) z f
    | _ => none
  | (30, _, _, _, _) => match st with
    | .int x :: r => gn nx ls (.int x :: .int x :: r) z f
    | .ref x :: r => gn nx ls (.ref x :: .ref x :: r) z f
    | _ => none
  | (31, _, _, _, _) => match st with
    | .int y :: .ref x :: r => gn nx ls (.int y :: .ref x :: .int y :: .ref x :: r) z f
    | _ => none
  | (32, _, _, _, _) => match st with
    | .int _ :: r => gn nx ls r z f
    | _ => none
  | (40, t, _, _, _) => match st with
    | .int x :: r => if x = 0 then gn t ls r z f else gn nx ls r z f
    | _ => none
  | (41, t, _, _, _) => match st with
    | .int x :: r => if x = 0 then gn nx ls r z f else gn t ls r z f
    | _ => none
  | (42, t, _, _, _) => match st with
    | .int x :: r => if x < 0 then gn t ls r z f else gn nx ls r z f
    | _ => none
  | (43, t, _, _, _) => match st with
    | .int x :: r => if x < 0 then gn nx ls r z f else gn t ls r z f
    | _ => none
  | (44, t, _, _, _) => match st with
    | .int x :: r => if 0 < x then gn t ls r z f else gn nx ls r z f
    | _ => none
  | (45, t, _, _, _) => match st with
    | .int x :: r => if 0 < x then gn nx ls r z f else gn t ls r z f
    | _ => none
  | (46, t, _, _, _) => match st with
    | .int y :: .int x :: r => if x = y then gn t ls r z f else gn nx ls r z f
    | _ => none
  | (47, t, _, _, _) => match st with
    | .int y :: .int x :: r => if x = y then gn nx ls r z f else gn t ls r z f
    | _ => none
  | (48, t, _, _, _) => match st with
    | .int y :: .int x :: r => if x < y then gn t ls r z f else gn nx ls r z f
    | _ => none
  | (49, t, _, _, _) => match st with
    | .int y :: .int x :: r => if x < y then gn nx ls r z f else gn t ls r z f
    | _ => none
  | (50, t, _, _, _) => match st with
    | .int y :: .int x :: r => if y < x then gn t ls r z f else gn nx ls r z f
    | _ => none
  | (51, t, _, _, _) => match st with
    | .int y :: .int x :: r => if y < x then gn nx ls r z f else gn t ls r z f
    | _ => none
  | (52, t, b, _, _) => gn t (ls.take b) st z f
  | (53, t, _, _, _) => match st with
    | .ref _ :: r => gn t ls r z f
    | .null :: r => gn nx ls r z f
    | _ => none
  | (54, t, _, c, tb) => match st with
    | .int x :: r => gn (sw c tb t x) ls r z f
    | _ => none
  | (60, ci, j, _, _) => match st with
    | .ref a :: r => gv (gf (f a) ci j) nx ls r z f
    | _ => none
  | (61, ci, j, _, _) => match st with
    | v :: .ref a :: r => gu (pf (f a) ci j v) a nx ls r z f
    | _ => none
  | (62, _, _, _, _) => gn nx ls (.ref 1000001 :: st) z f
  | (63, _, _, _, _) => match st with
    | .ref a :: r => gv (al (f a)) nx ls r z f
    | _ => none
  | (64, _, _, _, _) => match st with
    | .int i :: .ref a :: r => gv (ia (f a) i) nx ls r z f
    | _ => none
  | (65, _, _, _, _) => match st with
    | .int x :: .int i :: .ref a :: r => gu (is (f a) i x) a nx ls r z f
    | _ => none
  | (66, _, _, _, _) => match st with
    | .int i :: .ref a :: r => gv (la (f a) i) nx ls r z f
    | _ => none
  | (67, _, _, _, _) => match st with
    | .long x :: .int i :: .ref a :: r => gu (lst (f a) i x) a nx ls r z f
    | _ => none
  | (68, _, _, _, _) => match st with
    | .int i :: .ref a :: r => gv (qa (f a) i) nx ls r z f
    | _ => none
  | (69, _, _, _, _) => match st with
    | .ref y :: .int i :: .ref a :: r => gu (qs (f a) (f y) i y) a nx ls r z f
    | _ => none
  | (70, _, _, _, _) => match st with
    | .int i :: .ref a :: r => gv (za (f a) i) nx ls r z f
    | _ => none
  | (71, _, _, _, _) => match st with
    | .int x :: .int i :: .ref a :: r => gu (zs (f a) i x) a nx ls r z f
    | _ => none
  | (72, t, _, _, _) => match st with
    | .int n :: r => if n < 0 ∨ 65536 < n.toNatClampNeg then none else gn nx ls (.ref z.1 :: r) (z.1 + 1, z.2 + n.toNatClampNeg) (va_up f z.1 (.inl (t, n.toNatClampNeg, if t = 1 then .inr (.inl fun _ => 0) else .inl fun _ => 0)))
    | _ => none
  | (73, t, _, _, _) => match st with
    | .int n :: r => if n < 0 ∨ 65536 < n.toNatClampNeg then none else gn nx ls (.ref z.1 :: r) (z.1 + 1, z.2 + n.toNatClampNeg) (va_up f z.1 (.inl (t, n.toNatClampNeg, .inr (.inr (.inr (.inr fun _ => none))))))
    | _ => none
  | (74, ci, _, _, _) => gn nx ls (.ref z.1 :: st) (z.1 + 1, z.2 + (kds ci).length) (va_up f z.1 (.inr (ci, (kds ci).map dfv)))
  | (79, j, n, c, _) => match popn n [] st with
    | some (as, r) => if (en as).length ≤ c.toNat ∧ r.length < 5 ∧ rcv f as j = true then cn j as nx ls r else none
    | none => none
  | (80, j, n, c, _) => match popn n [] st with
    | some (as, r) => if (en as).length ≤ c.toNat ∧ r.length < 5 then cn j as nx ls r else none
    | none => none
  | (81, _, _, _, _) => match st with
    | .int n :: .int dp :: .ref b :: .int sp :: .ref a :: r => if r.length < 5 then gu (cpy (f a) (f b) sp dp n) b nx ls r z f else none
    | _ => none
  | (82, _, _, _, _) => match st with
    | .ref _ :: r => if r.length < 5 then gn nx ls r z f else none
    | _ => none
  | (83, _, _, _, _) => match st with
    | .int y :: .int x :: r => if r.length < 5 then gn nx ls (.int (if x < y then y else x) :: r) z f else none
    | _ => none
  | (84, _, _, _, _) => match st with
    | .int y :: .int x :: r => if r.length < 5 then gn nx ls (.int (if y < x then y else x) :: r) z f else none
    | _ => none
  | (90, _, _, _, _) => match st with
    | [.int x] => rn (some (.int x)) z f
    | _ => none
  | (91, _, _, _, _) => match st with
    | [.long x] => rn (some (.long x)) z f
    | _ => none
  | (92, _, _, _, _) => match st with
    | [.ref x] => rn (some (.ref x)) z f
    | _ => none
  | (93, _, _, _, _) => match st with
    | [] => rn (none) z f
    | _ => none
  | (94, _, _, _, _) => match st with
    | [.int x] => if x = 0 ∨ x = 1 then rn (some (.int x)) z f else none
    | _ => none
  | _ => none
def runa (cal : Nat → List Value → AZ → AH → Option AR) (code : Nat → Option (AI × Nat)) : Nat → Nat → AL → List Value → AZ → AH → Option AR
  | 0, _, _, _, _, _ => none
  | n + 1, pc, ls, st, z, f => match code pc with
    | none => none
    | some (o, nx) => match sx o nx ls st z f with
      | none => none
      | some (.inl (pc', ls', st', z', f')) => runa cal code n pc' ls' st' z' f'
      | some (.inr (.inl (j, as, nx', ls', r))) => match cal j as z f with
        | none => none
        | some (v, z', f') => runa cal code n nx' ls' (ps v r) z' f'
      | some (.inr (.inr r)) => some r

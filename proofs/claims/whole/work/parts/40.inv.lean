/-! the invariant that ties the class's state to the model's (printed by wip/gen40.py) -/
def bI (t : Bool) : Int32 := if t = true then nI 1 else nI 0
def szI (t : Bool) (n : Nat) : Int32 := if t = true then nI n else -9
def I_told (s18 s15 : Int32) (v16 v17 : Int64) (g32 : Nat → Int32) (a0 a2 : Int32) (b3 b4 : Int64) (e68 : Nat → Int32) : Prop := s18 = a0 ∧ s15 = a2 ∧ v16 = b3 ∧ v17 = b4 ∧ ∀ f, f < 6 → g32 f = e68 f
def I_cells (B : Nat → Bool) (n : Nat → Nat) (ct cn : Nat → Int32) (cc : Nat → Nat → Int32) (e69 e70 e72 e73 : Nat → Int32) : Prop :=
  (∀ c, c < 10 → ct c = bI (B c) ∧ cn c = nI (n c) ∧ n c ≤ cap c ∧ (B c = false → n c = 0)) ∧
  (∀ r, r < 6 → e69 r = szI (B r) (n r) ∧ ∀ k, k < n r → e70 (40 * r + k) = cc r k) ∧
  (∀ t, t < 4 → e72 t = szI (B (6 + t)) (n (6 + t)) ∧ ∀ k, k < n (6 + t) → e73 (80 * t + k) = cc (6 + t) k)
def I_land (P N W : Nat) (K O T J : Nat → Nat) (l : Nat) (s14 : Int32) (q0 q1 : Nat) (li : Nat → Nat → Int32) (la : Nat → Nat → Nat → Int32) (sf0 sl0 : Nat → Int32) (a e74 : Nat → Int32) : Prop :=
  LB P N W K O T J ∧ l < 2 ∧ q0 = l ∧ q1 = 1 - l ∧ CLn (li l) (la l) P N K O T J ∧ s14 = nI W ∧ MLn a e74 P N W K O T J ∧ SEn sf0 sl0 N (fe W K J) K O T
/-- a drive's own facts; what the class holds of it -/
def DV (P N : Nat) (K O T : Nat → Nat) (m : Nat) (r f p : Nat → Nat) : Prop := m ≤ 40 ∧ (P = 0 → p 0 = 0 ∧ m = 0) ∧ (0 < P → p 0 < P) ∧ ∀ k, k < m → r k < N ∧ f k < 10 ∧ ldm K O T (r k) (p k) = some (p (k + 1))
def DC (di dr df : Nat → Int32) (m : Nat) (r f p : Nat → Nat) : Prop := di 3 = nI (p 0) ∧ di 4 = nI (p m) ∧ di 5 = nI m ∧ ∀ k, k < m → dr k = nI (r k) ∧ df k = nI (f k)
def DM (a17 a18 : Int32) (e75 e76 e77 : Nat → Int32) (m : Nat) (r f p : Nat → Nat) : Prop := a17 = nI (p 0) ∧ a18 = nI m ∧ ∀ k, k < m → e75 k = nI (r k) ∧ e76 k = nI (f k) ∧ e77 (k + 1) = nI (p (k + 1))
def DK (e78 : Nat → Int32) (k m : Nat) (r f p : Nat → Nat) : Prop := e78 (82 * k) = nI m ∧ e78 (82 * k + 1) = nI (p 0) ∧ ∀ j, j < m → e78 (82 * k + 2 + j) = nI (10 * r j + f j) ∧ e78 (82 * k + 42 + j) = nI (p (j + 1))
def I_drv (P N : Nat) (K O T : Nat → Nat) (Ds : Nat → Nat) (Dr Df Dp : Nat → Nat → Nat) (KB : Nat → Bool) (di dr df : Nat → Nat → Int32) (a17 a18 : Int32) (e75 e76 e77 e78 : Nat → Int32) : Prop :=
  DV P N K O T (Ds 0) (Dr 0) (Df 0) (Dp 0) ∧ DC (di 0) (dr 0) (df 0) (Ds 0) (Dr 0) (Df 0) (Dp 0) ∧ DM a17 a18 e75 e76 e77 (Ds 0) (Dr 0) (Df 0) (Dp 0) ∧
  ∀ k, k < 3 → di (1 + k) 2 = bI (KB k) ∧ (KB k = false → e78 (82 * k) = -9) ∧ (KB k = true → 0 < P ∧ DV P N K O T (Ds (1 + k)) (Dr (1 + k)) (Df (1 + k)) (Dp (1 + k)) ∧ DC (di (1 + k)) (dr (1 + k)) (df (1 + k)) (Ds (1 + k)) (Dr (1 + k)) (Df (1 + k)) (Dp (1 + k)) ∧ DK e78 k (Ds (1 + k)) (Dr (1 + k)) (Df (1 + k)) (Dp (1 + k)))
def I_z (z : AZ) (q7 q8 q9 q10 : Nat) : Prop := (z.1 = 89 ∧ z.2 ≤ 100000 ∧ q7 = 0 ∧ q10 = 0) ∨ (z.1 = 93 ∧ z.2 ≤ 110000 ∧ q7 = 1 ∧ q10 = 1 ∧ ((q8 = 0 ∧ q9 = 1) ∨ (q8 = 1 ∧ q9 = 0)))
def I_q (q3 q4 q5 q6 : Nat) : Prop := ((q3 = 0 ∧ q4 = 1) ∨ (q3 = 1 ∧ q4 = 0)) ∧ ((q5 = 0 ∧ q6 = 1) ∨ (q5 = 1 ∧ q6 = 0))
def I_seen (t : Nat) (a30 : Int32) (e84 : Nat → Int32) : Prop := ∃ m, a30 = nI m ∧ m ≤ 1000 * t ∧ ∀ i, i < 16384 → ∃ j, j ≤ m ∧ e84 i = nI j
def RL (t : Nat) (z : AZ) (s : Nat → Int32) (v : Nat → Int64) (g : Nat → Nat → Int32) (w : Nat → Nat → Int64) (q : Nat → Nat) (ct : Nat → Int32) (cn : Nat → Int32) (cc : Nat → Nat → Int32) (di : Nat → Nat → Int32) (dr : Nat → Nat → Int32) (df : Nat → Nat → Int32) (li : Nat → Nat → Int32) (la : Nat → Nat → Nat → Int32) (sf : Nat → Nat → Int32) (sl : Nat → Nat → Int32) (a : Nat → Int32) (b : Nat → Int64) (e : Nat → Nat → Int32) (o : Nat → Nat → Int64) (B : Nat → Bool) (n : Nat → Nat) (P N W : Nat) (K O T J : Nat → Nat) (l : Nat) (Ds : Nat → Nat) (Dr Df Dp : Nat → Nat → Nat) (KB : Nat → Bool) : Prop :=
  I_told (s 18) (s 15) (v 16) (v 17) (g 32) (a 0) (a 2) (b 3) (b 4) (e 68) ∧ I_cells B n ct cn cc (e 69) (e 70) (e 72) (e 73) ∧ I_land P N W K O T J l (s 14) (q 0) (q 1) li la (sf 0) (sl 0) a (e 74) ∧
  I_drv P N K O T Ds Dr Df Dp KB di dr df (a 17) (a 18) (e 75) (e 76) (e 77) (e 78) ∧ I_z z (q 7) (q 8) (q 9) (q 10) ∧ I_q (q 3) (q 4) (q 5) (q 6) ∧ I_seen t (a 30) (e 84)
def INV (t : Nat) (z : AZ) (C : CT) (M : MT) : Prop := ∃ (B : Nat → Bool) (n : Nat → Nat) (P N W : Nat) (K O T J : Nat → Nat) (l : Nat) (Ds : Nat → Nat) (Dr Df Dp : Nat → Nat → Nat) (KB : Nat → Bool), RL t z (C.1) (C.2.1) (C.2.2.1) (C.2.2.2.1) (C.2.2.2.2.1) (C.2.2.2.2.2.1) (C.2.2.2.2.2.2.1) (C.2.2.2.2.2.2.2.1) (C.2.2.2.2.2.2.2.2.1) (C.2.2.2.2.2.2.2.2.2.1) (C.2.2.2.2.2.2.2.2.2.2.1) (C.2.2.2.2.2.2.2.2.2.2.2.1) (C.2.2.2.2.2.2.2.2.2.2.2.2.1) (C.2.2.2.2.2.2.2.2.2.2.2.2.2.1) (C.2.2.2.2.2.2.2.2.2.2.2.2.2.2) (M.1) (M.2.1) (M.2.2.1) (M.2.2.2) B n P N W K O T J l Ds Dr Df Dp KB
/-- one call: the class answers, then the model answers the same, and the invariant holds anew -/
def OKm (x : Int32) (t : Nat) (X : Nat × (Nat → Int32)) (C : CT) : Option Value → AZ → AH → Prop := fun r z f => ∃ M : MT, r = some (.int x) ∧ f = Hp X C M ∧ INV (t + 1) z C M
def OKc (d jm : Nat) (as : List Value) (t : Nat) (X : Nat × (Nat → Int32)) (M : MT) : Option Value → AZ → AH → Prop := fun r z f => ∃ (x : Int32) (C : CT), r = some (.int x) ∧ f = Hp X C M ∧ Cw d jm (.ref 67 :: as) z (Hp X C M) (OKm x t X C)
def OPI (d jc jm : Nat) (as : List Value) (t : Nat) (z : AZ) (X : Nat × (Nat → Int32)) (C : CT) (M : MT) : Prop :=
  Cw d jc (.ref 0 :: as) z (Hp X C M) (OKc d jm as t X M)
def OLm (x : Int64) (t : Nat) (X : Nat × (Nat → Int32)) (C : CT) : Option Value → AZ → AH → Prop := fun r z f => ∃ M : MT, r = some (.long x) ∧ f = Hp X C M ∧ INV (t + 1) z C M
def OLc (d jm : Nat) (as : List Value) (t : Nat) (X : Nat × (Nat → Int32)) (M : MT) : Option Value → AZ → AH → Prop := fun r z f => ∃ (x : Int64) (C : CT), r = some (.long x) ∧ f = Hp X C M ∧ Cw d jm (.ref 67 :: as) z (Hp X C M) (OLm x t X C)
def OPL (d jc jm : Nat) (as : List Value) (t : Nat) (z : AZ) (X : Nat × (Nat → Int32)) (C : CT) (M : MT) : Prop :=
  Cw d jc (.ref 0 :: as) z (Hp X C M) (OLc d jm as t X M)
theorem okm {x : Int32} {t : Nat} {X : Nat × (Nat → Int32)} {C : CT} {M : MT} {z : AZ} (h : INV (t + 1) z C M) : OKm x t X C (some (.int x)) z (Hp X C M) := ⟨M, rfl, rfl, h⟩
theorem okc {x : Int32} {d jm t : Nat} {as : List Value} {X : Nat × (Nat → Int32)} {C : CT} {M : MT} {z : AZ} (h : Cw d jm (.ref 67 :: as) z (Hp X C M) (OKm x t X C)) : OKc d jm as t X M (some (.int x)) z (Hp X C M) := ⟨x, C, rfl, rfl, h⟩
theorem olm {x : Int64} {t : Nat} {X : Nat × (Nat → Int32)} {C : CT} {M : MT} {z : AZ} (h : INV (t + 1) z C M) : OLm x t X C (some (.long x)) z (Hp X C M) := ⟨M, rfl, rfl, h⟩
theorem olc {x : Int64} {d jm t : Nat} {as : List Value} {X : Nat × (Nat → Int32)} {C : CT} {M : MT} {z : AZ} (h : Cw d jm (.ref 67 :: as) z (Hp X C M) (OLm x t X C)) : OLc d jm as t X M (some (.long x)) z (Hp X C M) := ⟨x, C, rfl, rfl, h⟩
section
variable {t : Nat} {z : AZ} {s : Nat → Int32} {v : Nat → Int64} {g : Nat → Nat → Int32} {w : Nat → Nat → Int64} {q : Nat → Nat} {ct : Nat → Int32} {cn : Nat → Int32} {cc : Nat → Nat → Int32} {di : Nat → Nat → Int32} {dr : Nat → Nat → Int32} {df : Nat → Nat → Int32} {li : Nat → Nat → Int32} {la : Nat → Nat → Nat → Int32} {sf : Nat → Nat → Int32} {sl : Nat → Nat → Int32} {a : Nat → Int32} {b : Nat → Int64} {e : Nat → Nat → Int32} {o : Nat → Nat → Int64} {B : Nat → Bool} {n : Nat → Nat} {P N W : Nat} {K O T J : Nat → Nat} {l : Nat} {Ds : Nat → Nat} {Dr Df Dp : Nat → Nat → Nat} {KB : Nat → Bool}
theorem seen_up {t : Nat} {x : Int32} {y : Nat → Int32} (h : I_seen t x y) : I_seen (t + 1) x y := by
  obtain ⟨m, h1, h2, h3⟩ := h
  exact ⟨m, h1, by omega, h3⟩
theorem rl_inv (h : RL (t) z (s) (v) (g) (w) (q) (ct) (cn) (cc) (di) (dr) (df) (li) (la) (sf) (sl) (a) (b) (e) (o) B n P N W K O T J l Ds Dr Df Dp KB) : INV t z (s, v, g, w, q, ct, cn, cc, di, dr, df, li, la, sf, sl) (a, b, e, o) := ⟨B, n, P, N, W, K, O, T, J, l, Ds, Dr, Df, Dp, KB, h⟩
theorem rl_t (h : RL (t) z (s) (v) (g) (w) (q) (ct) (cn) (cc) (di) (dr) (df) (li) (la) (sf) (sl) (a) (b) (e) (o) B n P N W K O T J l Ds Dr Df Dp KB) : RL (t + 1) z (s) (v) (g) (w) (q) (ct) (cn) (cc) (di) (dr) (df) (li) (la) (sf) (sl) (a) (b) (e) (o) B n P N W K O T J l Ds Dr Df Dp KB := by
  obtain ⟨h1, h2, h3, h4, h5, h6, h7⟩ := h
  exact ⟨h1, h2, h3, h4, h5, h6, seen_up h7⟩
theorem rl_ask {x : Int32} (h : RL (t) z (s) (v) (g) (w) (q) (ct) (cn) (cc) (di) (dr) (df) (li) (la) (sf) (sl) (a) (b) (e) (o) B n P N W K O T J l Ds Dr Df Dp KB) : RL (t + 1) z (va_up s 15 x) (v) (g) (w) (q) (ct) (cn) (cc) (di) (dr) (df) (li) (la) (sf) (sl) (va_up a 2 x) (b) (e) (o) B n P N W K O T J l Ds Dr Df Dp KB := by
  obtain ⟨⟨h1, h11, h12, h13, h14⟩, h2, h3, h4, h5, h6, h7⟩ := h
  exact ⟨⟨h1, rfl, h12, h13, h14⟩, h2, h3, h4, h5, h6, seen_up h7⟩
theorem rl_found {k : Nat} (hk : k < 6) (h : RL (t) z (s) (v) (g) (w) (q) (ct) (cn) (cc) (di) (dr) (df) (li) (la) (sf) (sl) (a) (b) (e) (o) B n P N W K O T J l Ds Dr Df Dp KB) : RL (t + 1) z (va_up s 18 (nI k)) (v) (va_up g 32 (upd (g 32) k (g 32 k + nI 1))) (w) (q) (ct) (cn) (cc) (di) (dr) (df) (li) (la) (sf) (sl) (va_up a 0 (nI k)) (b) (va_up e 68 (upd (e 68) k (e 68 k + nI 1))) (o) B n P N W K O T J l Ds Dr Df Dp KB := by
  obtain ⟨⟨h1, h11, h12, h13, h14⟩, h2, h3, h4, h5, h6, h7⟩ := h
  refine ⟨⟨rfl, h11, h12, h13, fun f hf => ?_⟩, h2, h3, h4, h5, h6, seen_up h7⟩
  show upd (g 32) k (g 32 k + nI 1) f = upd (e 68) k (e 68 k + nI 1) f
  rw [h14 k hk]
  unfold upd
  split
  · rfl
  · exact h14 f hf
end

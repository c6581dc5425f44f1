/-! printed by wip/gen25.py: writes, and the step rules over the canonical heap -/
section
variable {X : Nat × (Nat → Int32)} {C : CT} {M : MT} {s : Nat → Int32} {v : Nat → Int64} {g : Nat → Nat → Int32} {w : Nat → Nat → Int64} {q : Nat → Nat} {ct : Nat → Int32} {cn : Nat → Int32} {cc : Nat → Nat → Int32} {di : Nat → Nat → Int32} {dr : Nat → Nat → Int32} {df : Nat → Nat → Int32} {li : Nat → Nat → Int32} {la : Nat → Nat → Nat → Int32} {sf : Nat → Nat → Int32} {sl : Nat → Nat → Int32} {a : Nat → Int32} {b : Nat → Int64} {e : Nat → Nat → Int32} {o : Nat → Nat → Int64}
variable {x : Int32} {y : Int64} {m n : Nat} {G : Nat → Int32} {G6 : Nat → Int64}
theorem hu_9_14 : va_up (Hp X (s, v, g, w, q, ct, cn, cc, di, dr, df, li, la, sf, sl) M) 0 (oB 9 [.ref 1, .ref 2, .ref 3, .ref 9, .ref 12, .ref 13, .ref 16, .ref 19, .ref 22, .ref 25, .ref 31, .ref 32, .ref (lo (q 0)), tvl (q 7), .int x, .int (s 15), .long (v 16), .long (v 17), .int (s 18)]) = Hp X (va_up s 14 (x), v, g, w, q, ct, cn, cc, di, dr, df, li, la, sf, sl) M := hp_up (by decide) rfl
theorem hu_9_15 : va_up (Hp X (s, v, g, w, q, ct, cn, cc, di, dr, df, li, la, sf, sl) M) 0 (oB 9 [.ref 1, .ref 2, .ref 3, .ref 9, .ref 12, .ref 13, .ref 16, .ref 19, .ref 22, .ref 25, .ref 31, .ref 32, .ref (lo (q 0)), tvl (q 7), .int (s 14), .int x, .long (v 16), .long (v 17), .int (s 18)]) = Hp X (va_up s 15 (x), v, g, w, q, ct, cn, cc, di, dr, df, li, la, sf, sl) M := hp_up (by decide) rfl
theorem hu_9_18 : va_up (Hp X (s, v, g, w, q, ct, cn, cc, di, dr, df, li, la, sf, sl) M) 0 (oB 9 [.ref 1, .ref 2, .ref 3, .ref 9, .ref 12, .ref 13, .ref 16, .ref 19, .ref 22, .ref 25, .ref 31, .ref 32, .ref (lo (q 0)), tvl (q 7), .int (s 14), .int (s 15), .long (v 16), .long (v 17), .int x]) = Hp X (va_up s 18 (x), v, g, w, q, ct, cn, cc, di, dr, df, li, la, sf, sl) M := hp_up (by decide) rfl
theorem hu_9_16 : va_up (Hp X (s, v, g, w, q, ct, cn, cc, di, dr, df, li, la, sf, sl) M) 0 (oB 9 [.ref 1, .ref 2, .ref 3, .ref 9, .ref 12, .ref 13, .ref 16, .ref 19, .ref 22, .ref 25, .ref 31, .ref 32, .ref (lo (q 0)), tvl (q 7), .int (s 14), .int (s 15), .long y, .long (v 17), .int (s 18)]) = Hp X (s, vp_updL v 16 y, g, w, q, ct, cn, cc, di, dr, df, li, la, sf, sl) M := hp_up (by decide) rfl
theorem hu_9_17 : va_up (Hp X (s, v, g, w, q, ct, cn, cc, di, dr, df, li, la, sf, sl) M) 0 (oB 9 [.ref 1, .ref 2, .ref 3, .ref 9, .ref 12, .ref 13, .ref 16, .ref 19, .ref 22, .ref 25, .ref 31, .ref 32, .ref (lo (q 0)), tvl (q 7), .int (s 14), .int (s 15), .long (v 16), .long y, .int (s 18)]) = Hp X (s, vp_updL v 17 y, g, w, q, ct, cn, cc, di, dr, df, li, la, sf, sl) M := hp_up (by decide) rfl
theorem hu_9_12 : va_up (Hp X (s, v, g, w, q, ct, cn, cc, di, dr, df, li, la, sf, sl) M) 0 (oB 9 [.ref 1, .ref 2, .ref 3, .ref 9, .ref 12, .ref 13, .ref 16, .ref 19, .ref 22, .ref 25, .ref 31, .ref 32, .ref (lo n), tvl (q 7), .int (s 14), .int (s 15), .long (v 16), .long (v 17), .int (s 18)]) = Hp X (s, v, g, w, va_up q 0 n, ct, cn, cc, di, dr, df, li, la, sf, sl) M := hp_up (by decide) rfl
theorem hu_9_13 : va_up (Hp X (s, v, g, w, q, ct, cn, cc, di, dr, df, li, la, sf, sl) M) 0 (oB 9 [.ref 1, .ref 2, .ref 3, .ref 9, .ref 12, .ref 13, .ref 16, .ref 19, .ref 22, .ref 25, .ref 31, .ref 32, .ref (lo (q 0)), .ref 89, .int (s 14), .int (s 15), .long (v 16), .long (v 17), .int (s 18)]) = Hp X (s, v, g, w, va_up q 7 1, ct, cn, cc, di, dr, df, li, la, sf, sl) M := hp_up (by decide) rfl
theorem hu_5_0 : va_up (Hp X (s, v, g, w, q, ct, cn, cc, di, dr, df, li, la, sf, sl) M) 3 (oB 5 [.ref (lo n), svl (q 2), .int (s 20)]) = Hp X (s, v, g, w, va_up q 1 n, ct, cn, cc, di, dr, df, li, la, sf, sl) M := hp_up (by decide) rfl
theorem hu_5_1 (hn : n ≠ 99) : va_up (Hp X (s, v, g, w, q, ct, cn, cc, di, dr, df, li, la, sf, sl) M) 3 (oB 5 [.ref (lo (q 1)), .ref (co n), .int (s 20)]) = Hp X (s, v, g, w, va_up q 2 n, ct, cn, cc, di, dr, df, li, la, sf, sl) M := hp_up (by decide) (by have h1 : svl n = .ref (co n) := if_neg hn; rw [← h1]; rfl)
theorem hu_5_2 : va_up (Hp X (s, v, g, w, q, ct, cn, cc, di, dr, df, li, la, sf, sl) M) 3 (oB 5 [.ref (lo (q 1)), svl (q 2), .int x]) = Hp X (va_up s 20 (x), v, g, w, q, ct, cn, cc, di, dr, df, li, la, sf, sl) M := hp_up (by decide) rfl
theorem hu_7_0 : va_up (Hp X (s, v, g, w, q, ct, cn, cc, di, dr, df, li, la, sf, sl) M) 19 (oB 7 [.ref (tao n), .ref (tao (q 4))]) = Hp X (s, v, g, w, va_up q 3 n, ct, cn, cc, di, dr, df, li, la, sf, sl) M := hp_up (by decide) rfl
theorem hu_7_1 : va_up (Hp X (s, v, g, w, q, ct, cn, cc, di, dr, df, li, la, sf, sl) M) 19 (oB 7 [.ref (tao (q 3)), .ref (tao n)]) = Hp X (s, v, g, w, va_up q 4 n, ct, cn, cc, di, dr, df, li, la, sf, sl) M := hp_up (by decide) rfl
theorem hu_1_0 : va_up (Hp X (s, v, g, w, q, ct, cn, cc, di, dr, df, li, la, sf, sl) M) 22 (oB 1 [.ref (cst n), .ref (cst (q 6))]) = Hp X (s, v, g, w, va_up q 5 n, ct, cn, cc, di, dr, df, li, la, sf, sl) M := hp_up (by decide) rfl
theorem hu_1_1 : va_up (Hp X (s, v, g, w, q, ct, cn, cc, di, dr, df, li, la, sf, sl) M) 22 (oB 1 [.ref (cst (q 5)), .ref (cst n)]) = Hp X (s, v, g, w, va_up q 6 n, ct, cn, cc, di, dr, df, li, la, sf, sl) M := hp_up (by decide) rfl
theorem hu_4_2 : va_up (Hp X (s, v, g, w, q, ct, cn, cc, di, dr, df, li, la, sf, sl) M) 25 (oB 4 [.ref 26, .ref 27, .int x, .ref 28, .ref 29, .ref 30, .int (s 22)]) = Hp X (va_up s 21 (x), v, g, w, q, ct, cn, cc, di, dr, df, li, la, sf, sl) M := hp_up (by decide) rfl
theorem hu_4_6 : va_up (Hp X (s, v, g, w, q, ct, cn, cc, di, dr, df, li, la, sf, sl) M) 25 (oB 4 [.ref 26, .ref 27, .int (s 21), .ref 28, .ref 29, .ref 30, .int x]) = Hp X (va_up s 22 (x), v, g, w, q, ct, cn, cc, di, dr, df, li, la, sf, sl) M := hp_up (by decide) rfl
theorem hu_to {q' : Nat → Nat} {s' : Nat → Int32} {g' : Nat → Nat → Int32} {k : Nat} {E : AE} (hk : k < 93) (hq : q 10 ≠ 0) (hq' : q' 10 ≠ 0) (he : (hpl (s, v, g, w, va_up q 10 1, ct, cn, cc, di, dr, df, li, la, sf, sl) M).set k E = hpl (s', v, g', w, va_up q' 10 1, ct, cn, cc, di, dr, df, li, la, sf, sl) M) : va_up (Hp X (s, v, g, w, q, ct, cn, cc, di, dr, df, li, la, sf, sl) M) k E = Hp X (s', v, g', w, q', ct, cn, cc, di, dr, df, li, la, sf, sl) M := by
  have e1 : hpl (s, v, g, w, va_up q 10 1, ct, cn, cc, di, dr, df, li, la, sf, sl) M = hpl (s, v, g, w, q, ct, cn, cc, di, dr, df, li, la, sf, sl) M := by
    simp only [hpl, hpa, if_neg hq]
    rfl
  have e2 : hpl (s', v, g', w, va_up q' 10 1, ct, cn, cc, di, dr, df, li, la, sf, sl) M = hpl (s', v, g', w, q', ct, cn, cc, di, dr, df, li, la, sf, sl) M := by
    simp only [hpl, hpa, if_neg hq']
    rfl
  exact hp_up hk (by rw [← e1, he, e2])
theorem hu_8_0 (hq : q 10 ≠ 0) : va_up (Hp X (s, v, g, w, q, ct, cn, cc, di, dr, df, li, la, sf, sl) M) 89 (oB 8 [.int x, .ref 90, .ref (tor (q 8)), .ref (tor (q 9))]) = Hp X (va_up s 23 (x), v, g, w, q, ct, cn, cc, di, dr, df, li, la, sf, sl) M := hu_to (by decide) hq (by first | exact hq | (rw [up_n _ _ (by decide)]; exact hq)) rfl
theorem hu_8_2 (hq : q 10 ≠ 0) : va_up (Hp X (s, v, g, w, q, ct, cn, cc, di, dr, df, li, la, sf, sl) M) 89 (oB 8 [.int (s 23), .ref 90, .ref (tor n), .ref (tor (q 9))]) = Hp X (s, v, g, w, va_up q 8 n, ct, cn, cc, di, dr, df, li, la, sf, sl) M := hu_to (by decide) hq (by first | exact hq | (rw [up_n _ _ (by decide)]; exact hq)) rfl
theorem hu_8_3 (hq : q 10 ≠ 0) : va_up (Hp X (s, v, g, w, q, ct, cn, cc, di, dr, df, li, la, sf, sl) M) 89 (oB 8 [.int (s 23), .ref 90, .ref (tor (q 8)), .ref (tor n)]) = Hp X (s, v, g, w, va_up q 9 n, ct, cn, cc, di, dr, df, li, la, sf, sl) M := hu_to (by decide) hq (by first | exact hq | (rw [up_n _ _ (by decide)]; exact hq)) rfl
theorem hu_90 (hq : q 10 ≠ 0) : va_up (Hp X (s, v, g, w, q, ct, cn, cc, di, dr, df, li, la, sf, sl) M) 90 (iA 1024 G) = Hp X (s, v, va_up g 90 G, w, q, ct, cn, cc, di, dr, df, li, la, sf, sl) M := hu_to (by decide) hq (by first | exact hq | (rw [up_n _ _ (by decide)]; exact hq)) rfl
theorem hu_tor {c : Nat} (h : c < 2) (hq : q 10 ≠ 0) : va_up (Hp X (s, v, g, w, q, ct, cn, cc, di, dr, df, li, la, sf, sl) M) (tor c) (iA 1024 G) = Hp X (s, v, va_up g (91 + c) G, w, q, ct, cn, cc, di, dr, df, li, la, sf, sl) M := match c, h with
  | 0, _ => hu_to (by decide) hq hq rfl
  | 1, _ => hu_to (by decide) hq hq rfl
  | c + 2, h => absurd h (by omega)
theorem hu_0_1 {c : Nat} (h : c < 10) : va_up (Hp X (s, v, g, w, q, ct, cn, cc, di, dr, df, li, la, sf, sl) M) (co c) (oB 0 [.ref (cv c), .int x, .int (cn c)]) = Hp X (s, v, g, w, q, va_up ct c (x), cn, cc, di, dr, df, li, la, sf, sl) M := match c, h with
  | 0, _ => hp_up (by decide) rfl
  | 1, _ => hp_up (by decide) rfl
  | 2, _ => hp_up (by decide) rfl
  | 3, _ => hp_up (by decide) rfl
  | 4, _ => hp_up (by decide) rfl
  | 5, _ => hp_up (by decide) rfl
  | 6, _ => hp_up (by decide) rfl
  | 7, _ => hp_up (by decide) rfl
  | 8, _ => hp_up (by decide) rfl
  | 9, _ => hp_up (by decide) rfl
  | c + 10, h => absurd h (by omega)
theorem hu_0_2 {c : Nat} (h : c < 10) : va_up (Hp X (s, v, g, w, q, ct, cn, cc, di, dr, df, li, la, sf, sl) M) (co c) (oB 0 [.ref (cv c), .int (ct c), .int x]) = Hp X (s, v, g, w, q, ct, va_up cn c (x), cc, di, dr, df, li, la, sf, sl) M := match c, h with
  | 0, _ => hp_up (by decide) rfl
  | 1, _ => hp_up (by decide) rfl
  | 2, _ => hp_up (by decide) rfl
  | 3, _ => hp_up (by decide) rfl
  | 4, _ => hp_up (by decide) rfl
  | 5, _ => hp_up (by decide) rfl
  | 6, _ => hp_up (by decide) rfl
  | 7, _ => hp_up (by decide) rfl
  | 8, _ => hp_up (by decide) rfl
  | 9, _ => hp_up (by decide) rfl
  | c + 10, h => absurd h (by omega)
theorem hu_cv {c : Nat} (h : c < 10) : va_up (Hp X (s, v, g, w, q, ct, cn, cc, di, dr, df, li, la, sf, sl) M) (cv c) (iA (cap c) G) = Hp X (s, v, g, w, q, ct, cn, va_up cc c G, di, dr, df, li, la, sf, sl) M := match c, h with
  | 0, _ => hp_up (by decide) rfl
  | 1, _ => hp_up (by decide) rfl
  | 2, _ => hp_up (by decide) rfl
  | 3, _ => hp_up (by decide) rfl
  | 4, _ => hp_up (by decide) rfl
  | 5, _ => hp_up (by decide) rfl
  | 6, _ => hp_up (by decide) rfl
  | 7, _ => hp_up (by decide) rfl
  | 8, _ => hp_up (by decide) rfl
  | 9, _ => hp_up (by decide) rfl
  | c + 10, h => absurd h (by omega)
theorem hu_2_2 {c : Nat} (h : c < 4) : va_up (Hp X (s, v, g, w, q, ct, cn, cc, di, dr, df, li, la, sf, sl) M) (dob c) (oB 2 [.ref (dro c), .ref (dfo c), .int x, .int (di c 3), .int (di c 4), .int (di c 5)]) = Hp X (s, v, g, w, q, ct, cn, cc, va_up di c (va_up (di c) 2 (x)), dr, df, li, la, sf, sl) M := match c, h with
  | 0, _ => hp_up (by decide) rfl
  | 1, _ => hp_up (by decide) rfl
  | 2, _ => hp_up (by decide) rfl
  | 3, _ => hp_up (by decide) rfl
  | c + 4, h => absurd h (by omega)
theorem hu_2_3 {c : Nat} (h : c < 4) : va_up (Hp X (s, v, g, w, q, ct, cn, cc, di, dr, df, li, la, sf, sl) M) (dob c) (oB 2 [.ref (dro c), .ref (dfo c), .int (di c 2), .int x, .int (di c 4), .int (di c 5)]) = Hp X (s, v, g, w, q, ct, cn, cc, va_up di c (va_up (di c) 3 (x)), dr, df, li, la, sf, sl) M := match c, h with
  | 0, _ => hp_up (by decide) rfl
  | 1, _ => hp_up (by decide) rfl
  | 2, _ => hp_up (by decide) rfl
  | 3, _ => hp_up (by decide) rfl
  | c + 4, h => absurd h (by omega)
theorem hu_2_4 {c : Nat} (h : c < 4) : va_up (Hp X (s, v, g, w, q, ct, cn, cc, di, dr, df, li, la, sf, sl) M) (dob c) (oB 2 [.ref (dro c), .ref (dfo c), .int (di c 2), .int (di c 3), .int x, .int (di c 5)]) = Hp X (s, v, g, w, q, ct, cn, cc, va_up di c (va_up (di c) 4 (x)), dr, df, li, la, sf, sl) M := match c, h with
  | 0, _ => hp_up (by decide) rfl
  | 1, _ => hp_up (by decide) rfl
  | 2, _ => hp_up (by decide) rfl
  | 3, _ => hp_up (by decide) rfl
  | c + 4, h => absurd h (by omega)
theorem hu_2_5 {c : Nat} (h : c < 4) : va_up (Hp X (s, v, g, w, q, ct, cn, cc, di, dr, df, li, la, sf, sl) M) (dob c) (oB 2 [.ref (dro c), .ref (dfo c), .int (di c 2), .int (di c 3), .int (di c 4), .int x]) = Hp X (s, v, g, w, q, ct, cn, cc, va_up di c (va_up (di c) 5 (x)), dr, df, li, la, sf, sl) M := match c, h with
  | 0, _ => hp_up (by decide) rfl
  | 1, _ => hp_up (by decide) rfl
  | 2, _ => hp_up (by decide) rfl
  | 3, _ => hp_up (by decide) rfl
  | c + 4, h => absurd h (by omega)
theorem hu_dr {c : Nat} (h : c < 4) : va_up (Hp X (s, v, g, w, q, ct, cn, cc, di, dr, df, li, la, sf, sl) M) (dro c) (iA 40 G) = Hp X (s, v, g, w, q, ct, cn, cc, di, va_up dr c G, df, li, la, sf, sl) M := match c, h with
  | 0, _ => hp_up (by decide) rfl
  | 1, _ => hp_up (by decide) rfl
  | 2, _ => hp_up (by decide) rfl
  | 3, _ => hp_up (by decide) rfl
  | c + 4, h => absurd h (by omega)
theorem hu_df {c : Nat} (h : c < 4) : va_up (Hp X (s, v, g, w, q, ct, cn, cc, di, dr, df, li, la, sf, sl) M) (dfo c) (iA 40 G) = Hp X (s, v, g, w, q, ct, cn, cc, di, dr, va_up df c G, li, la, sf, sl) M := match c, h with
  | 0, _ => hp_up (by decide) rfl
  | 1, _ => hp_up (by decide) rfl
  | 2, _ => hp_up (by decide) rfl
  | 3, _ => hp_up (by decide) rfl
  | c + 4, h => absurd h (by omega)
theorem hu_3_4 {c : Nat} (h : c < 2) : va_up (Hp X (s, v, g, w, q, ct, cn, cc, di, dr, df, li, la, sf, sl) M) (lo c) (oB 3 [.ref (lao c 0), .ref (lao c 1), .ref (lao c 2), .ref (lao c 3), .int x, .int (li c 1)]) = Hp X (s, v, g, w, q, ct, cn, cc, di, dr, df, va_up li c (va_up (li c) 0 (x)), la, sf, sl) M := match c, h with
  | 0, _ => hp_up (by decide) rfl
  | 1, _ => hp_up (by decide) rfl
  | c + 2, h => absurd h (by omega)
theorem hu_3_5 {c : Nat} (h : c < 2) : va_up (Hp X (s, v, g, w, q, ct, cn, cc, di, dr, df, li, la, sf, sl) M) (lo c) (oB 3 [.ref (lao c 0), .ref (lao c 1), .ref (lao c 2), .ref (lao c 3), .int (li c 0), .int x]) = Hp X (s, v, g, w, q, ct, cn, cc, di, dr, df, va_up li c (va_up (li c) 1 (x)), la, sf, sl) M := match c, h with
  | 0, _ => hp_up (by decide) rfl
  | 1, _ => hp_up (by decide) rfl
  | c + 2, h => absurd h (by omega)
theorem hu_la0 {c : Nat} (h : c < 2) : va_up (Hp X (s, v, g, w, q, ct, cn, cc, di, dr, df, li, la, sf, sl) M) (lao c 0) (iA 10 G) = Hp X (s, v, g, w, q, ct, cn, cc, di, dr, df, li, va_up la c (va_up (la c) 0 G), sf, sl) M := match c, h with
  | 0, _ => hp_up (by decide) rfl
  | 1, _ => hp_up (by decide) rfl
  | c + 2, h => absurd h (by omega)
theorem hu_la1 {c : Nat} (h : c < 2) : va_up (Hp X (s, v, g, w, q, ct, cn, cc, di, dr, df, li, la, sf, sl) M) (lao c 1) (iA 10 G) = Hp X (s, v, g, w, q, ct, cn, cc, di, dr, df, li, va_up la c (va_up (la c) 1 G), sf, sl) M := match c, h with
  | 0, _ => hp_up (by decide) rfl
  | 1, _ => hp_up (by decide) rfl
  | c + 2, h => absurd h (by omega)
theorem hu_la2 {c : Nat} (h : c < 2) : va_up (Hp X (s, v, g, w, q, ct, cn, cc, di, dr, df, li, la, sf, sl) M) (lao c 2) (iA 10 G) = Hp X (s, v, g, w, q, ct, cn, cc, di, dr, df, li, va_up la c (va_up (la c) 2 G), sf, sl) M := match c, h with
  | 0, _ => hp_up (by decide) rfl
  | 1, _ => hp_up (by decide) rfl
  | c + 2, h => absurd h (by omega)
theorem hu_la3 {c : Nat} (h : c < 2) : va_up (Hp X (s, v, g, w, q, ct, cn, cc, di, dr, df, li, la, sf, sl) M) (lao c 3) (iA 10 G) = Hp X (s, v, g, w, q, ct, cn, cc, di, dr, df, li, va_up la c (va_up (la c) 3 G), sf, sl) M := match c, h with
  | 0, _ => hp_up (by decide) rfl
  | 1, _ => hp_up (by decide) rfl
  | c + 2, h => absurd h (by omega)
theorem hu_sf {c : Nat} (h : c < 2) : va_up (Hp X (s, v, g, w, q, ct, cn, cc, di, dr, df, li, la, sf, sl) M) (sfo c) (iA 10 G) = Hp X (s, v, g, w, q, ct, cn, cc, di, dr, df, li, la, va_up sf c G, sl) M := match c, h with
  | 0, _ => hp_up (by decide) rfl
  | 1, _ => hp_up (by decide) rfl
  | c + 2, h => absurd h (by omega)
theorem hu_sl {c : Nat} (h : c < 2) : va_up (Hp X (s, v, g, w, q, ct, cn, cc, di, dr, df, li, la, sf, sl) M) (slo c) (iA 70 G) = Hp X (s, v, g, w, q, ct, cn, cc, di, dr, df, li, la, sf, va_up sl c G) M := match c, h with
  | 0, _ => hp_up (by decide) rfl
  | 1, _ => hp_up (by decide) rfl
  | c + 2, h => absurd h (by omega)
theorem hu_ta {c : Nat} (h : c < 2) : va_up (Hp X (s, v, g, w, q, ct, cn, cc, di, dr, df, li, la, sf, sl) M) (tao c) (lA 7 G6) = Hp X (s, v, g, va_up w c G6, q, ct, cn, cc, di, dr, df, li, la, sf, sl) M := match c, h with
  | 0, _ => hp_up (by decide) rfl
  | 1, _ => hp_up (by decide) rfl
  | c + 2, h => absurd h (by omega)
theorem hu_cs {c : Nat} (h : c < 2) : va_up (Hp X (s, v, g, w, q, ct, cn, cc, di, dr, df, li, la, sf, sl) M) (cst c) (iA 7 G) = Hp X (s, v, va_up g c G, w, q, ct, cn, cc, di, dr, df, li, la, sf, sl) M := match c, h with
  | 0, _ => hp_up (by decide) rfl
  | 1, _ => hp_up (by decide) rfl
  | c + 2, h => absurd h (by omega)
theorem hu_26 : va_up (Hp X (s, v, g, w, q, ct, cn, cc, di, dr, df, li, la, sf, sl) M) 26 (iA 7 G) = Hp X (s, v, va_up g 26 G, w, q, ct, cn, cc, di, dr, df, li, la, sf, sl) M := hp_up (by decide) rfl
theorem hu_27 : va_up (Hp X (s, v, g, w, q, ct, cn, cc, di, dr, df, li, la, sf, sl) M) 27 (iA 7 G) = Hp X (s, v, va_up g 27 G, w, q, ct, cn, cc, di, dr, df, li, la, sf, sl) M := hp_up (by decide) rfl
theorem hu_28 : va_up (Hp X (s, v, g, w, q, ct, cn, cc, di, dr, df, li, la, sf, sl) M) 28 (iA 128 G) = Hp X (s, v, va_up g 28 G, w, q, ct, cn, cc, di, dr, df, li, la, sf, sl) M := hp_up (by decide) rfl
theorem hu_29 : va_up (Hp X (s, v, g, w, q, ct, cn, cc, di, dr, df, li, la, sf, sl) M) 29 (iA 128 G) = Hp X (s, v, va_up g 29 G, w, q, ct, cn, cc, di, dr, df, li, la, sf, sl) M := hp_up (by decide) rfl
theorem hu_30 : va_up (Hp X (s, v, g, w, q, ct, cn, cc, di, dr, df, li, la, sf, sl) M) 30 (iA 128 G) = Hp X (s, v, va_up g 30 G, w, q, ct, cn, cc, di, dr, df, li, la, sf, sl) M := hp_up (by decide) rfl
theorem hu_31 : va_up (Hp X (s, v, g, w, q, ct, cn, cc, di, dr, df, li, la, sf, sl) M) 31 (iA 40 G) = Hp X (s, v, va_up g 31 G, w, q, ct, cn, cc, di, dr, df, li, la, sf, sl) M := hp_up (by decide) rfl
theorem hu_32 : va_up (Hp X (s, v, g, w, q, ct, cn, cc, di, dr, df, li, la, sf, sl) M) 32 (iA 6 G) = Hp X (s, v, va_up g 32 G, w, q, ct, cn, cc, di, dr, df, li, la, sf, sl) M := hp_up (by decide) rfl
theorem hu_10_0 : va_up (Hp X C (a, b, e, o)) 67 (oB 10 [.int x, .ref 68, .int (a 2), .long (b 3), .long (b 4), .ref 69, .ref 70, .ref 71, .ref 72, .ref 73, .int (a 10), .int (a 11), .int (a 12), .ref 74, .int (a 14), .int (a 15), .int (a 16), .int (a 17), .int (a 18), .ref 75, .ref 76, .ref 77, .ref 78, .ref 79, .ref 80, .ref 81, .ref 82, .ref 83, .ref 84, .ref 85, .int (a 30), .int (a 31), .int (a 32), .int (a 33), .ref 86, .ref 87, .ref 88, .long (b 37)]) = Hp X C (va_up a 0 (x), b, e, o) := hp_up (by decide) rfl
theorem hu_10_2 : va_up (Hp X C (a, b, e, o)) 67 (oB 10 [.int (a 0), .ref 68, .int x, .long (b 3), .long (b 4), .ref 69, .ref 70, .ref 71, .ref 72, .ref 73, .int (a 10), .int (a 11), .int (a 12), .ref 74, .int (a 14), .int (a 15), .int (a 16), .int (a 17), .int (a 18), .ref 75, .ref 76, .ref 77, .ref 78, .ref 79, .ref 80, .ref 81, .ref 82, .ref 83, .ref 84, .ref 85, .int (a 30), .int (a 31), .int (a 32), .int (a 33), .ref 86, .ref 87, .ref 88, .long (b 37)]) = Hp X C (va_up a 2 (x), b, e, o) := hp_up (by decide) rfl
theorem hu_10_10 : va_up (Hp X C (a, b, e, o)) 67 (oB 10 [.int (a 0), .ref 68, .int (a 2), .long (b 3), .long (b 4), .ref 69, .ref 70, .ref 71, .ref 72, .ref 73, .int x, .int (a 11), .int (a 12), .ref 74, .int (a 14), .int (a 15), .int (a 16), .int (a 17), .int (a 18), .ref 75, .ref 76, .ref 77, .ref 78, .ref 79, .ref 80, .ref 81, .ref 82, .ref 83, .ref 84, .ref 85, .int (a 30), .int (a 31), .int (a 32), .int (a 33), .ref 86, .ref 87, .ref 88, .long (b 37)]) = Hp X C (va_up a 10 (x), b, e, o) := hp_up (by decide) rfl
theorem hu_10_11 : va_up (Hp X C (a, b, e, o)) 67 (oB 10 [.int (a 0), .ref 68, .int (a 2), .long (b 3), .long (b 4), .ref 69, .ref 70, .ref 71, .ref 72, .ref 73, .int (a 10), .int x, .int (a 12), .ref 74, .int (a 14), .int (a 15), .int (a 16), .int (a 17), .int (a 18), .ref 75, .ref 76, .ref 77, .ref 78, .ref 79, .ref 80, .ref 81, .ref 82, .ref 83, .ref 84, .ref 85, .int (a 30), .int (a 31), .int (a 32), .int (a 33), .ref 86, .ref 87, .ref 88, .long (b 37)]) = Hp X C (va_up a 11 (x), b, e, o) := hp_up (by decide) rfl
theorem hu_10_12 : va_up (Hp X C (a, b, e, o)) 67 (oB 10 [.int (a 0), .ref 68, .int (a 2), .long (b 3), .long (b 4), .ref 69, .ref 70, .ref 71, .ref 72, .ref 73, .int (a 10), .int (a 11), .int x, .ref 74, .int (a 14), .int (a 15), .int (a 16), .int (a 17), .int (a 18), .ref 75, .ref 76, .ref 77, .ref 78, .ref 79, .ref 80, .ref 81, .ref 82, .ref 83, .ref 84, .ref 85, .int (a 30), .int (a 31), .int (a 32), .int (a 33), .ref 86, .ref 87, .ref 88, .long (b 37)]) = Hp X C (va_up a 12 (x), b, e, o) := hp_up (by decide) rfl
theorem hu_10_14 : va_up (Hp X C (a, b, e, o)) 67 (oB 10 [.int (a 0), .ref 68, .int (a 2), .long (b 3), .long (b 4), .ref 69, .ref 70, .ref 71, .ref 72, .ref 73, .int (a 10), .int (a 11), .int (a 12), .ref 74, .int x, .int (a 15), .int (a 16), .int (a 17), .int (a 18), .ref 75, .ref 76, .ref 77, .ref 78, .ref 79, .ref 80, .ref 81, .ref 82, .ref 83, .ref 84, .ref 85, .int (a 30), .int (a 31), .int (a 32), .int (a 33), .ref 86, .ref 87, .ref 88, .long (b 37)]) = Hp X C (va_up a 14 (x), b, e, o) := hp_up (by decide) rfl
theorem hu_10_15 : va_up (Hp X C (a, b, e, o)) 67 (oB 10 [.int (a 0), .ref 68, .int (a 2), .long (b 3), .long (b 4), .ref 69, .ref 70, .ref 71, .ref 72, .ref 73, .int (a 10), .int (a 11), .int (a 12), .ref 74, .int (a 14), .int x, .int (a 16), .int (a 17), .int (a 18), .ref 75, .ref 76, .ref 77, .ref 78, .ref 79, .ref 80, .ref 81, .ref 82, .ref 83, .ref 84, .ref 85, .int (a 30), .int (a 31), .int (a 32), .int (a 33), .ref 86, .ref 87, .ref 88, .long (b 37)]) = Hp X C (va_up a 15 (x), b, e, o) := hp_up (by decide) rfl
theorem hu_10_16 : va_up (Hp X C (a, b, e, o)) 67 (oB 10 [.int (a 0), .ref 68, .int (a 2), .long (b 3), .long (b 4), .ref 69, .ref 70, .ref 71, .ref 72, .ref 73, .int (a 10), .int (a 11), .int (a 12), .ref 74, .int (a 14), .int (a 15), .int x, .int (a 17), .int (a 18), .ref 75, .ref 76, .ref 77, .ref 78, .ref 79, .ref 80, .ref 81, .ref 82, .ref 83, .ref 84, .ref 85, .int (a 30), .int (a 31), .int (a 32), .int (a 33), .ref 86, .ref 87, .ref 88, .long (b 37)]) = Hp X C (va_up a 16 (x), b, e, o) := hp_up (by decide) rfl
theorem hu_10_17 : va_up (Hp X C (a, b, e, o)) 67 (oB 10 [.int (a 0), .ref 68, .int (a 2), .long (b 3), .long (b 4), .ref 69, .ref 70, .ref 71, .ref 72, .ref 73, .int (a 10), .int (a 11), .int (a 12), .ref 74, .int (a 14), .int (a 15), .int (a 16), .int x, .int (a 18), .ref 75, .ref 76, .ref 77, .ref 78, .ref 79, .ref 80, .ref 81, .ref 82, .ref 83, .ref 84, .ref 85, .int (a 30), .int (a 31), .int (a 32), .int (a 33), .ref 86, .ref 87, .ref 88, .long (b 37)]) = Hp X C (va_up a 17 (x), b, e, o) := hp_up (by decide) rfl
theorem hu_10_18 : va_up (Hp X C (a, b, e, o)) 67 (oB 10 [.int (a 0), .ref 68, .int (a 2), .long (b 3), .long (b 4), .ref 69, .ref 70, .ref 71, .ref 72, .ref 73, .int (a 10), .int (a 11), .int (a 12), .ref 74, .int (a 14), .int (a 15), .int (a 16), .int (a 17), .int x, .ref 75, .ref 76, .ref 77, .ref 78, .ref 79, .ref 80, .ref 81, .ref 82, .ref 83, .ref 84, .ref 85, .int (a 30), .int (a 31), .int (a 32), .int (a 33), .ref 86, .ref 87, .ref 88, .long (b 37)]) = Hp X C (va_up a 18 (x), b, e, o) := hp_up (by decide) rfl
theorem hu_10_30 : va_up (Hp X C (a, b, e, o)) 67 (oB 10 [.int (a 0), .ref 68, .int (a 2), .long (b 3), .long (b 4), .ref 69, .ref 70, .ref 71, .ref 72, .ref 73, .int (a 10), .int (a 11), .int (a 12), .ref 74, .int (a 14), .int (a 15), .int (a 16), .int (a 17), .int (a 18), .ref 75, .ref 76, .ref 77, .ref 78, .ref 79, .ref 80, .ref 81, .ref 82, .ref 83, .ref 84, .ref 85, .int x, .int (a 31), .int (a 32), .int (a 33), .ref 86, .ref 87, .ref 88, .long (b 37)]) = Hp X C (va_up a 30 (x), b, e, o) := hp_up (by decide) rfl
theorem hu_10_31 : va_up (Hp X C (a, b, e, o)) 67 (oB 10 [.int (a 0), .ref 68, .int (a 2), .long (b 3), .long (b 4), .ref 69, .ref 70, .ref 71, .ref 72, .ref 73, .int (a 10), .int (a 11), .int (a 12), .ref 74, .int (a 14), .int (a 15), .int (a 16), .int (a 17), .int (a 18), .ref 75, .ref 76, .ref 77, .ref 78, .ref 79, .ref 80, .ref 81, .ref 82, .ref 83, .ref 84, .ref 85, .int (a 30), .int x, .int (a 32), .int (a 33), .ref 86, .ref 87, .ref 88, .long (b 37)]) = Hp X C (va_up a 31 (x), b, e, o) := hp_up (by decide) rfl
theorem hu_10_32 : va_up (Hp X C (a, b, e, o)) 67 (oB 10 [.int (a 0), .ref 68, .int (a 2), .long (b 3), .long (b 4), .ref 69, .ref 70, .ref 71, .ref 72, .ref 73, .int (a 10), .int (a 11), .int (a 12), .ref 74, .int (a 14), .int (a 15), .int (a 16), .int (a 17), .int (a 18), .ref 75, .ref 76, .ref 77, .ref 78, .ref 79, .ref 80, .ref 81, .ref 82, .ref 83, .ref 84, .ref 85, .int (a 30), .int (a 31), .int x, .int (a 33), .ref 86, .ref 87, .ref 88, .long (b 37)]) = Hp X C (va_up a 32 (x), b, e, o) := hp_up (by decide) rfl
theorem hu_10_33 : va_up (Hp X C (a, b, e, o)) 67 (oB 10 [.int (a 0), .ref 68, .int (a 2), .long (b 3), .long (b 4), .ref 69, .ref 70, .ref 71, .ref 72, .ref 73, .int (a 10), .int (a 11), .int (a 12), .ref 74, .int (a 14), .int (a 15), .int (a 16), .int (a 17), .int (a 18), .ref 75, .ref 76, .ref 77, .ref 78, .ref 79, .ref 80, .ref 81, .ref 82, .ref 83, .ref 84, .ref 85, .int (a 30), .int (a 31), .int (a 32), .int x, .ref 86, .ref 87, .ref 88, .long (b 37)]) = Hp X C (va_up a 33 (x), b, e, o) := hp_up (by decide) rfl
theorem hu_10_3 : va_up (Hp X C (a, b, e, o)) 67 (oB 10 [.int (a 0), .ref 68, .int (a 2), .long y, .long (b 4), .ref 69, .ref 70, .ref 71, .ref 72, .ref 73, .int (a 10), .int (a 11), .int (a 12), .ref 74, .int (a 14), .int (a 15), .int (a 16), .int (a 17), .int (a 18), .ref 75, .ref 76, .ref 77, .ref 78, .ref 79, .ref 80, .ref 81, .ref 82, .ref 83, .ref 84, .ref 85, .int (a 30), .int (a 31), .int (a 32), .int (a 33), .ref 86, .ref 87, .ref 88, .long (b 37)]) = Hp X C (a, vp_updL b 3 y, e, o) := hp_up (by decide) rfl
theorem hu_10_4 : va_up (Hp X C (a, b, e, o)) 67 (oB 10 [.int (a 0), .ref 68, .int (a 2), .long (b 3), .long y, .ref 69, .ref 70, .ref 71, .ref 72, .ref 73, .int (a 10), .int (a 11), .int (a 12), .ref 74, .int (a 14), .int (a 15), .int (a 16), .int (a 17), .int (a 18), .ref 75, .ref 76, .ref 77, .ref 78, .ref 79, .ref 80, .ref 81, .ref 82, .ref 83, .ref 84, .ref 85, .int (a 30), .int (a 31), .int (a 32), .int (a 33), .ref 86, .ref 87, .ref 88, .long (b 37)]) = Hp X C (a, vp_updL b 4 y, e, o) := hp_up (by decide) rfl
theorem hu_10_37 : va_up (Hp X C (a, b, e, o)) 67 (oB 10 [.int (a 0), .ref 68, .int (a 2), .long (b 3), .long (b 4), .ref 69, .ref 70, .ref 71, .ref 72, .ref 73, .int (a 10), .int (a 11), .int (a 12), .ref 74, .int (a 14), .int (a 15), .int (a 16), .int (a 17), .int (a 18), .ref 75, .ref 76, .ref 77, .ref 78, .ref 79, .ref 80, .ref 81, .ref 82, .ref 83, .ref 84, .ref 85, .int (a 30), .int (a 31), .int (a 32), .int (a 33), .ref 86, .ref 87, .ref 88, .long y]) = Hp X C (a, vp_updL b 37 y, e, o) := hp_up (by decide) rfl
theorem hu_68 : va_up (Hp X C (a, b, e, o)) 68 (iA 6 G) = Hp X C (a, b, va_up e 68 G, o) := hp_up (by decide) rfl
theorem hu_69 : va_up (Hp X C (a, b, e, o)) 69 (iA 6 G) = Hp X C (a, b, va_up e 69 G, o) := hp_up (by decide) rfl
theorem hu_70 : va_up (Hp X C (a, b, e, o)) 70 (iA 240 G) = Hp X C (a, b, va_up e 70 G, o) := hp_up (by decide) rfl
theorem hu_71 : va_up (Hp X C (a, b, e, o)) 71 (iA 40 G) = Hp X C (a, b, va_up e 71 G, o) := hp_up (by decide) rfl
theorem hu_72 : va_up (Hp X C (a, b, e, o)) 72 (iA 4 G) = Hp X C (a, b, va_up e 72 G, o) := hp_up (by decide) rfl
theorem hu_73 : va_up (Hp X C (a, b, e, o)) 73 (iA 320 G) = Hp X C (a, b, va_up e 73 G, o) := hp_up (by decide) rfl
theorem hu_74 : va_up (Hp X C (a, b, e, o)) 74 (iA 80 G) = Hp X C (a, b, va_up e 74 G, o) := hp_up (by decide) rfl
theorem hu_75 : va_up (Hp X C (a, b, e, o)) 75 (iA 40 G) = Hp X C (a, b, va_up e 75 G, o) := hp_up (by decide) rfl
theorem hu_76 : va_up (Hp X C (a, b, e, o)) 76 (iA 40 G) = Hp X C (a, b, va_up e 76 G, o) := hp_up (by decide) rfl
theorem hu_77 : va_up (Hp X C (a, b, e, o)) 77 (iA 41 G) = Hp X C (a, b, va_up e 77 G, o) := hp_up (by decide) rfl
theorem hu_78 : va_up (Hp X C (a, b, e, o)) 78 (iA 246 G) = Hp X C (a, b, va_up e 78 G, o) := hp_up (by decide) rfl
theorem hu_81 : va_up (Hp X C (a, b, e, o)) 81 (iA 7 G) = Hp X C (a, b, va_up e 81 G, o) := hp_up (by decide) rfl
theorem hu_82 : va_up (Hp X C (a, b, e, o)) 82 (iA 7 G) = Hp X C (a, b, va_up e 82 G, o) := hp_up (by decide) rfl
theorem hu_83 : va_up (Hp X C (a, b, e, o)) 83 (iA 1280 G) = Hp X C (a, b, va_up e 83 G, o) := hp_up (by decide) rfl
theorem hu_84 : va_up (Hp X C (a, b, e, o)) 84 (iA 16384 G) = Hp X C (a, b, va_up e 84 G, o) := hp_up (by decide) rfl
theorem hu_85 : va_up (Hp X C (a, b, e, o)) 85 (iA 16384 G) = Hp X C (a, b, va_up e 85 G, o) := hp_up (by decide) rfl
theorem hu_86 : va_up (Hp X C (a, b, e, o)) 86 (iA 7168 G) = Hp X C (a, b, va_up e 86 G, o) := hp_up (by decide) rfl
theorem hu_87 : va_up (Hp X C (a, b, e, o)) 87 (iA 7168 G) = Hp X C (a, b, va_up e 87 G, o) := hp_up (by decide) rfl
theorem hu_88 : va_up (Hp X C (a, b, e, o)) 88 (zA 49 G) = Hp X C (a, b, va_up e 88 G, o) := hp_up (by decide) rfl
theorem hu_79 : va_up (Hp X C (a, b, e, o)) 79 (lA 7 G6) = Hp X C (a, b, e, va_up o 79 G6) := hp_up (by decide) rfl
theorem hu_80 : va_up (Hp X C (a, b, e, o)) 80 (lA 7 G6) = Hp X C (a, b, e, va_up o 80 G6) := hp_up (by decide) rfl
variable {d i nx : Nat} {ls : AL} {r : List Value} {z : AZ} {Q : Option Value → AZ → AH → Prop} {c0 : Int} {t0 : List Nat} {a0 b0 k : Nat}
theorem h60_9_0 : ExP d i (60, 9, 0, c0, t0) nx ls (.ref 0 :: r) z (Hp X (s, v, g, w, q, ct, cn, cc, di, dr, df, li, la, sf, sl) M) Q ↔ Wp d i nx ls (.ref 1 :: r) z (Hp X (s, v, g, w, q, ct, cn, cc, di, dr, df, li, la, sf, sl) M) Q := by rw [r_60, hq_0]; exact Iff.rfl
theorem h60_9_1 : ExP d i (60, 9, 1, c0, t0) nx ls (.ref 0 :: r) z (Hp X (s, v, g, w, q, ct, cn, cc, di, dr, df, li, la, sf, sl) M) Q ↔ Wp d i nx ls (.ref 2 :: r) z (Hp X (s, v, g, w, q, ct, cn, cc, di, dr, df, li, la, sf, sl) M) Q := by rw [r_60, hq_0]; exact Iff.rfl
theorem h60_9_2 : ExP d i (60, 9, 2, c0, t0) nx ls (.ref 0 :: r) z (Hp X (s, v, g, w, q, ct, cn, cc, di, dr, df, li, la, sf, sl) M) Q ↔ Wp d i nx ls (.ref 3 :: r) z (Hp X (s, v, g, w, q, ct, cn, cc, di, dr, df, li, la, sf, sl) M) Q := by rw [r_60, hq_0]; exact Iff.rfl
theorem h60_9_3 : ExP d i (60, 9, 3, c0, t0) nx ls (.ref 0 :: r) z (Hp X (s, v, g, w, q, ct, cn, cc, di, dr, df, li, la, sf, sl) M) Q ↔ Wp d i nx ls (.ref (dob 0) :: r) z (Hp X (s, v, g, w, q, ct, cn, cc, di, dr, df, li, la, sf, sl) M) Q := by rw [r_60, hq_0]; exact Iff.rfl
theorem h60_9_4 : ExP d i (60, 9, 4, c0, t0) nx ls (.ref 0 :: r) z (Hp X (s, v, g, w, q, ct, cn, cc, di, dr, df, li, la, sf, sl) M) Q ↔ Wp d i nx ls (.ref 12 :: r) z (Hp X (s, v, g, w, q, ct, cn, cc, di, dr, df, li, la, sf, sl) M) Q := by rw [r_60, hq_0]; exact Iff.rfl
theorem h60_9_5 : ExP d i (60, 9, 5, c0, t0) nx ls (.ref 0 :: r) z (Hp X (s, v, g, w, q, ct, cn, cc, di, dr, df, li, la, sf, sl) M) Q ↔ Wp d i nx ls (.ref (so 0) :: r) z (Hp X (s, v, g, w, q, ct, cn, cc, di, dr, df, li, la, sf, sl) M) Q := by rw [r_60, hq_0]; exact Iff.rfl
theorem h60_9_6 : ExP d i (60, 9, 6, c0, t0) nx ls (.ref 0 :: r) z (Hp X (s, v, g, w, q, ct, cn, cc, di, dr, df, li, la, sf, sl) M) Q ↔ Wp d i nx ls (.ref (so 1) :: r) z (Hp X (s, v, g, w, q, ct, cn, cc, di, dr, df, li, la, sf, sl) M) Q := by rw [r_60, hq_0]; exact Iff.rfl
theorem h60_9_7 : ExP d i (60, 9, 7, c0, t0) nx ls (.ref 0 :: r) z (Hp X (s, v, g, w, q, ct, cn, cc, di, dr, df, li, la, sf, sl) M) Q ↔ Wp d i nx ls (.ref 19 :: r) z (Hp X (s, v, g, w, q, ct, cn, cc, di, dr, df, li, la, sf, sl) M) Q := by rw [r_60, hq_0]; exact Iff.rfl
theorem h60_9_8 : ExP d i (60, 9, 8, c0, t0) nx ls (.ref 0 :: r) z (Hp X (s, v, g, w, q, ct, cn, cc, di, dr, df, li, la, sf, sl) M) Q ↔ Wp d i nx ls (.ref 22 :: r) z (Hp X (s, v, g, w, q, ct, cn, cc, di, dr, df, li, la, sf, sl) M) Q := by rw [r_60, hq_0]; exact Iff.rfl
theorem h60_9_9 : ExP d i (60, 9, 9, c0, t0) nx ls (.ref 0 :: r) z (Hp X (s, v, g, w, q, ct, cn, cc, di, dr, df, li, la, sf, sl) M) Q ↔ Wp d i nx ls (.ref 25 :: r) z (Hp X (s, v, g, w, q, ct, cn, cc, di, dr, df, li, la, sf, sl) M) Q := by rw [r_60, hq_0]; exact Iff.rfl
theorem h60_9_10 : ExP d i (60, 9, 10, c0, t0) nx ls (.ref 0 :: r) z (Hp X (s, v, g, w, q, ct, cn, cc, di, dr, df, li, la, sf, sl) M) Q ↔ Wp d i nx ls (.ref 31 :: r) z (Hp X (s, v, g, w, q, ct, cn, cc, di, dr, df, li, la, sf, sl) M) Q := by rw [r_60, hq_0]; exact Iff.rfl
theorem h60_9_11 : ExP d i (60, 9, 11, c0, t0) nx ls (.ref 0 :: r) z (Hp X (s, v, g, w, q, ct, cn, cc, di, dr, df, li, la, sf, sl) M) Q ↔ Wp d i nx ls (.ref 32 :: r) z (Hp X (s, v, g, w, q, ct, cn, cc, di, dr, df, li, la, sf, sl) M) Q := by rw [r_60, hq_0]; exact Iff.rfl
theorem h60_9_12 : ExP d i (60, 9, 12, c0, t0) nx ls (.ref 0 :: r) z (Hp X (s, v, g, w, q, ct, cn, cc, di, dr, df, li, la, sf, sl) M) Q ↔ Wp d i nx ls (.ref (lo (q 0)) :: r) z (Hp X (s, v, g, w, q, ct, cn, cc, di, dr, df, li, la, sf, sl) M) Q := by rw [r_60, hq_0]; exact Iff.rfl
theorem h60_9_13 : ExP d i (60, 9, 13, c0, t0) nx ls (.ref 0 :: r) z (Hp X (s, v, g, w, q, ct, cn, cc, di, dr, df, li, la, sf, sl) M) Q ↔ Wp d i nx ls (tvl (q 7) :: r) z (Hp X (s, v, g, w, q, ct, cn, cc, di, dr, df, li, la, sf, sl) M) Q := by rw [r_60, hq_0]; exact Iff.rfl
theorem h60_9_14 : ExP d i (60, 9, 14, c0, t0) nx ls (.ref 0 :: r) z (Hp X (s, v, g, w, q, ct, cn, cc, di, dr, df, li, la, sf, sl) M) Q ↔ Wp d i nx ls (.int (s 14) :: r) z (Hp X (s, v, g, w, q, ct, cn, cc, di, dr, df, li, la, sf, sl) M) Q := by rw [r_60, hq_0]; exact Iff.rfl
theorem h60_9_15 : ExP d i (60, 9, 15, c0, t0) nx ls (.ref 0 :: r) z (Hp X (s, v, g, w, q, ct, cn, cc, di, dr, df, li, la, sf, sl) M) Q ↔ Wp d i nx ls (.int (s 15) :: r) z (Hp X (s, v, g, w, q, ct, cn, cc, di, dr, df, li, la, sf, sl) M) Q := by rw [r_60, hq_0]; exact Iff.rfl
theorem h60_9_16 : ExP d i (60, 9, 16, c0, t0) nx ls (.ref 0 :: r) z (Hp X (s, v, g, w, q, ct, cn, cc, di, dr, df, li, la, sf, sl) M) Q ↔ Wp d i nx ls (.long (v 16) :: r) z (Hp X (s, v, g, w, q, ct, cn, cc, di, dr, df, li, la, sf, sl) M) Q := by rw [r_60, hq_0]; exact Iff.rfl
theorem h60_9_17 : ExP d i (60, 9, 17, c0, t0) nx ls (.ref 0 :: r) z (Hp X (s, v, g, w, q, ct, cn, cc, di, dr, df, li, la, sf, sl) M) Q ↔ Wp d i nx ls (.long (v 17) :: r) z (Hp X (s, v, g, w, q, ct, cn, cc, di, dr, df, li, la, sf, sl) M) Q := by rw [r_60, hq_0]; exact Iff.rfl
theorem h60_9_18 : ExP d i (60, 9, 18, c0, t0) nx ls (.ref 0 :: r) z (Hp X (s, v, g, w, q, ct, cn, cc, di, dr, df, li, la, sf, sl) M) Q ↔ Wp d i nx ls (.int (s 18) :: r) z (Hp X (s, v, g, w, q, ct, cn, cc, di, dr, df, li, la, sf, sl) M) Q := by rw [r_60, hq_0]; exact Iff.rfl
theorem h60_10_0 : ExP d i (60, 10, 0, c0, t0) nx ls (.ref 67 :: r) z (Hp X C (a, b, e, o)) Q ↔ Wp d i nx ls (.int (a 0) :: r) z (Hp X C (a, b, e, o)) Q := by rw [r_60, hq_67]; exact Iff.rfl
theorem h60_10_1 : ExP d i (60, 10, 1, c0, t0) nx ls (.ref 67 :: r) z (Hp X C (a, b, e, o)) Q ↔ Wp d i nx ls (.ref 68 :: r) z (Hp X C (a, b, e, o)) Q := by rw [r_60, hq_67]; exact Iff.rfl
theorem h60_10_2 : ExP d i (60, 10, 2, c0, t0) nx ls (.ref 67 :: r) z (Hp X C (a, b, e, o)) Q ↔ Wp d i nx ls (.int (a 2) :: r) z (Hp X C (a, b, e, o)) Q := by rw [r_60, hq_67]; exact Iff.rfl
theorem h60_10_3 : ExP d i (60, 10, 3, c0, t0) nx ls (.ref 67 :: r) z (Hp X C (a, b, e, o)) Q ↔ Wp d i nx ls (.long (b 3) :: r) z (Hp X C (a, b, e, o)) Q := by rw [r_60, hq_67]; exact Iff.rfl
theorem h60_10_4 : ExP d i (60, 10, 4, c0, t0) nx ls (.ref 67 :: r) z (Hp X C (a, b, e, o)) Q ↔ Wp d i nx ls (.long (b 4) :: r) z (Hp X C (a, b, e, o)) Q := by rw [r_60, hq_67]; exact Iff.rfl
theorem h60_10_5 : ExP d i (60, 10, 5, c0, t0) nx ls (.ref 67 :: r) z (Hp X C (a, b, e, o)) Q ↔ Wp d i nx ls (.ref 69 :: r) z (Hp X C (a, b, e, o)) Q := by rw [r_60, hq_67]; exact Iff.rfl
theorem h60_10_6 : ExP d i (60, 10, 6, c0, t0) nx ls (.ref 67 :: r) z (Hp X C (a, b, e, o)) Q ↔ Wp d i nx ls (.ref 70 :: r) z (Hp X C (a, b, e, o)) Q := by rw [r_60, hq_67]; exact Iff.rfl
theorem h60_10_7 : ExP d i (60, 10, 7, c0, t0) nx ls (.ref 67 :: r) z (Hp X C (a, b, e, o)) Q ↔ Wp d i nx ls (.ref 71 :: r) z (Hp X C (a, b, e, o)) Q := by rw [r_60, hq_67]; exact Iff.rfl
theorem h60_10_8 : ExP d i (60, 10, 8, c0, t0) nx ls (.ref 67 :: r) z (Hp X C (a, b, e, o)) Q ↔ Wp d i nx ls (.ref 72 :: r) z (Hp X C (a, b, e, o)) Q := by rw [r_60, hq_67]; exact Iff.rfl
theorem h60_10_9 : ExP d i (60, 10, 9, c0, t0) nx ls (.ref 67 :: r) z (Hp X C (a, b, e, o)) Q ↔ Wp d i nx ls (.ref 73 :: r) z (Hp X C (a, b, e, o)) Q := by rw [r_60, hq_67]; exact Iff.rfl
theorem h60_10_10 : ExP d i (60, 10, 10, c0, t0) nx ls (.ref 67 :: r) z (Hp X C (a, b, e, o)) Q ↔ Wp d i nx ls (.int (a 10) :: r) z (Hp X C (a, b, e, o)) Q := by rw [r_60, hq_67]; exact Iff.rfl
theorem h60_10_11 : ExP d i (60, 10, 11, c0, t0) nx ls (.ref 67 :: r) z (Hp X C (a, b, e, o)) Q ↔ Wp d i nx ls (.int (a 11) :: r) z (Hp X C (a, b, e, o)) Q := by rw [r_60, hq_67]; exact Iff.rfl
theorem h60_10_12 : ExP d i (60, 10, 12, c0, t0) nx ls (.ref 67 :: r) z (Hp X C (a, b, e, o)) Q ↔ Wp d i nx ls (.int (a 12) :: r) z (Hp X C (a, b, e, o)) Q := by rw [r_60, hq_67]; exact Iff.rfl
theorem h60_10_13 : ExP d i (60, 10, 13, c0, t0) nx ls (.ref 67 :: r) z (Hp X C (a, b, e, o)) Q ↔ Wp d i nx ls (.ref 74 :: r) z (Hp X C (a, b, e, o)) Q := by rw [r_60, hq_67]; exact Iff.rfl
theorem h60_10_14 : ExP d i (60, 10, 14, c0, t0) nx ls (.ref 67 :: r) z (Hp X C (a, b, e, o)) Q ↔ Wp d i nx ls (.int (a 14) :: r) z (Hp X C (a, b, e, o)) Q := by rw [r_60, hq_67]; exact Iff.rfl
theorem h60_10_15 : ExP d i (60, 10, 15, c0, t0) nx ls (.ref 67 :: r) z (Hp X C (a, b, e, o)) Q ↔ Wp d i nx ls (.int (a 15) :: r) z (Hp X C (a, b, e, o)) Q := by rw [r_60, hq_67]; exact Iff.rfl
theorem h60_10_16 : ExP d i (60, 10, 16, c0, t0) nx ls (.ref 67 :: r) z (Hp X C (a, b, e, o)) Q ↔ Wp d i nx ls (.int (a 16) :: r) z (Hp X C (a, b, e, o)) Q := by rw [r_60, hq_67]; exact Iff.rfl
theorem h60_10_17 : ExP d i (60, 10, 17, c0, t0) nx ls (.ref 67 :: r) z (Hp X C (a, b, e, o)) Q ↔ Wp d i nx ls (.int (a 17) :: r) z (Hp X C (a, b, e, o)) Q := by rw [r_60, hq_67]; exact Iff.rfl
theorem h60_10_18 : ExP d i (60, 10, 18, c0, t0) nx ls (.ref 67 :: r) z (Hp X C (a, b, e, o)) Q ↔ Wp d i nx ls (.int (a 18) :: r) z (Hp X C (a, b, e, o)) Q := by rw [r_60, hq_67]; exact Iff.rfl
theorem h60_10_19 : ExP d i (60, 10, 19, c0, t0) nx ls (.ref 67 :: r) z (Hp X C (a, b, e, o)) Q ↔ Wp d i nx ls (.ref 75 :: r) z (Hp X C (a, b, e, o)) Q := by rw [r_60, hq_67]; exact Iff.rfl
theorem h60_10_20 : ExP d i (60, 10, 20, c0, t0) nx ls (.ref 67 :: r) z (Hp X C (a, b, e, o)) Q ↔ Wp d i nx ls (.ref 76 :: r) z (Hp X C (a, b, e, o)) Q := by rw [r_60, hq_67]; exact Iff.rfl
theorem h60_10_21 : ExP d i (60, 10, 21, c0, t0) nx ls (.ref 67 :: r) z (Hp X C (a, b, e, o)) Q ↔ Wp d i nx ls (.ref 77 :: r) z (Hp X C (a, b, e, o)) Q := by rw [r_60, hq_67]; exact Iff.rfl
theorem h60_10_22 : ExP d i (60, 10, 22, c0, t0) nx ls (.ref 67 :: r) z (Hp X C (a, b, e, o)) Q ↔ Wp d i nx ls (.ref 78 :: r) z (Hp X C (a, b, e, o)) Q := by rw [r_60, hq_67]; exact Iff.rfl
theorem h60_10_23 : ExP d i (60, 10, 23, c0, t0) nx ls (.ref 67 :: r) z (Hp X C (a, b, e, o)) Q ↔ Wp d i nx ls (.ref 79 :: r) z (Hp X C (a, b, e, o)) Q := by rw [r_60, hq_67]; exact Iff.rfl
theorem h60_10_24 : ExP d i (60, 10, 24, c0, t0) nx ls (.ref 67 :: r) z (Hp X C (a, b, e, o)) Q ↔ Wp d i nx ls (.ref 80 :: r) z (Hp X C (a, b, e, o)) Q := by rw [r_60, hq_67]; exact Iff.rfl
theorem h60_10_25 : ExP d i (60, 10, 25, c0, t0) nx ls (.ref 67 :: r) z (Hp X C (a, b, e, o)) Q ↔ Wp d i nx ls (.ref 81 :: r) z (Hp X C (a, b, e, o)) Q := by rw [r_60, hq_67]; exact Iff.rfl
theorem h60_10_26 : ExP d i (60, 10, 26, c0, t0) nx ls (.ref 67 :: r) z (Hp X C (a, b, e, o)) Q ↔ Wp d i nx ls (.ref 82 :: r) z (Hp X C (a, b, e, o)) Q := by rw [r_60, hq_67]; exact Iff.rfl
theorem h60_10_27 : ExP d i (60, 10, 27, c0, t0) nx ls (.ref 67 :: r) z (Hp X C (a, b, e, o)) Q ↔ Wp d i nx ls (.ref 83 :: r) z (Hp X C (a, b, e, o)) Q := by rw [r_60, hq_67]; exact Iff.rfl
theorem h60_10_28 : ExP d i (60, 10, 28, c0, t0) nx ls (.ref 67 :: r) z (Hp X C (a, b, e, o)) Q ↔ Wp d i nx ls (.ref 84 :: r) z (Hp X C (a, b, e, o)) Q := by rw [r_60, hq_67]; exact Iff.rfl
theorem h60_10_29 : ExP d i (60, 10, 29, c0, t0) nx ls (.ref 67 :: r) z (Hp X C (a, b, e, o)) Q ↔ Wp d i nx ls (.ref 85 :: r) z (Hp X C (a, b, e, o)) Q := by rw [r_60, hq_67]; exact Iff.rfl
theorem h60_10_30 : ExP d i (60, 10, 30, c0, t0) nx ls (.ref 67 :: r) z (Hp X C (a, b, e, o)) Q ↔ Wp d i nx ls (.int (a 30) :: r) z (Hp X C (a, b, e, o)) Q := by rw [r_60, hq_67]; exact Iff.rfl
theorem h60_10_31 : ExP d i (60, 10, 31, c0, t0) nx ls (.ref 67 :: r) z (Hp X C (a, b, e, o)) Q ↔ Wp d i nx ls (.int (a 31) :: r) z (Hp X C (a, b, e, o)) Q := by rw [r_60, hq_67]; exact Iff.rfl
theorem h60_10_32 : ExP d i (60, 10, 32, c0, t0) nx ls (.ref 67 :: r) z (Hp X C (a, b, e, o)) Q ↔ Wp d i nx ls (.int (a 32) :: r) z (Hp X C (a, b, e, o)) Q := by rw [r_60, hq_67]; exact Iff.rfl
theorem h60_10_33 : ExP d i (60, 10, 33, c0, t0) nx ls (.ref 67 :: r) z (Hp X C (a, b, e, o)) Q ↔ Wp d i nx ls (.int (a 33) :: r) z (Hp X C (a, b, e, o)) Q := by rw [r_60, hq_67]; exact Iff.rfl
theorem h60_10_34 : ExP d i (60, 10, 34, c0, t0) nx ls (.ref 67 :: r) z (Hp X C (a, b, e, o)) Q ↔ Wp d i nx ls (.ref 86 :: r) z (Hp X C (a, b, e, o)) Q := by rw [r_60, hq_67]; exact Iff.rfl
theorem h60_10_35 : ExP d i (60, 10, 35, c0, t0) nx ls (.ref 67 :: r) z (Hp X C (a, b, e, o)) Q ↔ Wp d i nx ls (.ref 87 :: r) z (Hp X C (a, b, e, o)) Q := by rw [r_60, hq_67]; exact Iff.rfl
theorem h60_10_36 : ExP d i (60, 10, 36, c0, t0) nx ls (.ref 67 :: r) z (Hp X C (a, b, e, o)) Q ↔ Wp d i nx ls (.ref 88 :: r) z (Hp X C (a, b, e, o)) Q := by rw [r_60, hq_67]; exact Iff.rfl
theorem h60_10_37 : ExP d i (60, 10, 37, c0, t0) nx ls (.ref 67 :: r) z (Hp X C (a, b, e, o)) Q ↔ Wp d i nx ls (.long (b 37) :: r) z (Hp X C (a, b, e, o)) Q := by rw [r_60, hq_67]; exact Iff.rfl
theorem h60_5_0 : ExP d i (60, 5, 0, c0, t0) nx ls (.ref 3 :: r) z (Hp X (s, v, g, w, q, ct, cn, cc, di, dr, df, li, la, sf, sl) M) Q ↔ Wp d i nx ls (.ref (lo (q 1)) :: r) z (Hp X (s, v, g, w, q, ct, cn, cc, di, dr, df, li, la, sf, sl) M) Q := by rw [r_60, hq_3]; exact Iff.rfl
theorem h60_5_1 : ExP d i (60, 5, 1, c0, t0) nx ls (.ref 3 :: r) z (Hp X (s, v, g, w, q, ct, cn, cc, di, dr, df, li, la, sf, sl) M) Q ↔ Wp d i nx ls (svl (q 2) :: r) z (Hp X (s, v, g, w, q, ct, cn, cc, di, dr, df, li, la, sf, sl) M) Q := by rw [r_60, hq_3]; exact Iff.rfl
theorem h60_5_2 : ExP d i (60, 5, 2, c0, t0) nx ls (.ref 3 :: r) z (Hp X (s, v, g, w, q, ct, cn, cc, di, dr, df, li, la, sf, sl) M) Q ↔ Wp d i nx ls (.int (s 20) :: r) z (Hp X (s, v, g, w, q, ct, cn, cc, di, dr, df, li, la, sf, sl) M) Q := by rw [r_60, hq_3]; exact Iff.rfl
theorem h60_7_0 : ExP d i (60, 7, 0, c0, t0) nx ls (.ref 19 :: r) z (Hp X (s, v, g, w, q, ct, cn, cc, di, dr, df, li, la, sf, sl) M) Q ↔ Wp d i nx ls (.ref (tao (q 3)) :: r) z (Hp X (s, v, g, w, q, ct, cn, cc, di, dr, df, li, la, sf, sl) M) Q := by rw [r_60, hq_19]; exact Iff.rfl
theorem h60_7_1 : ExP d i (60, 7, 1, c0, t0) nx ls (.ref 19 :: r) z (Hp X (s, v, g, w, q, ct, cn, cc, di, dr, df, li, la, sf, sl) M) Q ↔ Wp d i nx ls (.ref (tao (q 4)) :: r) z (Hp X (s, v, g, w, q, ct, cn, cc, di, dr, df, li, la, sf, sl) M) Q := by rw [r_60, hq_19]; exact Iff.rfl
theorem h60_1_0 : ExP d i (60, 1, 0, c0, t0) nx ls (.ref 22 :: r) z (Hp X (s, v, g, w, q, ct, cn, cc, di, dr, df, li, la, sf, sl) M) Q ↔ Wp d i nx ls (.ref (cst (q 5)) :: r) z (Hp X (s, v, g, w, q, ct, cn, cc, di, dr, df, li, la, sf, sl) M) Q := by rw [r_60, hq_22]; exact Iff.rfl
theorem h60_1_1 : ExP d i (60, 1, 1, c0, t0) nx ls (.ref 22 :: r) z (Hp X (s, v, g, w, q, ct, cn, cc, di, dr, df, li, la, sf, sl) M) Q ↔ Wp d i nx ls (.ref (cst (q 6)) :: r) z (Hp X (s, v, g, w, q, ct, cn, cc, di, dr, df, li, la, sf, sl) M) Q := by rw [r_60, hq_22]; exact Iff.rfl
theorem h60_4_0 : ExP d i (60, 4, 0, c0, t0) nx ls (.ref 25 :: r) z (Hp X (s, v, g, w, q, ct, cn, cc, di, dr, df, li, la, sf, sl) M) Q ↔ Wp d i nx ls (.ref 26 :: r) z (Hp X (s, v, g, w, q, ct, cn, cc, di, dr, df, li, la, sf, sl) M) Q := by rw [r_60, hq_25]; exact Iff.rfl
theorem h60_4_1 : ExP d i (60, 4, 1, c0, t0) nx ls (.ref 25 :: r) z (Hp X (s, v, g, w, q, ct, cn, cc, di, dr, df, li, la, sf, sl) M) Q ↔ Wp d i nx ls (.ref 27 :: r) z (Hp X (s, v, g, w, q, ct, cn, cc, di, dr, df, li, la, sf, sl) M) Q := by rw [r_60, hq_25]; exact Iff.rfl
theorem h60_4_2 : ExP d i (60, 4, 2, c0, t0) nx ls (.ref 25 :: r) z (Hp X (s, v, g, w, q, ct, cn, cc, di, dr, df, li, la, sf, sl) M) Q ↔ Wp d i nx ls (.int (s 21) :: r) z (Hp X (s, v, g, w, q, ct, cn, cc, di, dr, df, li, la, sf, sl) M) Q := by rw [r_60, hq_25]; exact Iff.rfl
theorem h60_4_3 : ExP d i (60, 4, 3, c0, t0) nx ls (.ref 25 :: r) z (Hp X (s, v, g, w, q, ct, cn, cc, di, dr, df, li, la, sf, sl) M) Q ↔ Wp d i nx ls (.ref 28 :: r) z (Hp X (s, v, g, w, q, ct, cn, cc, di, dr, df, li, la, sf, sl) M) Q := by rw [r_60, hq_25]; exact Iff.rfl
theorem h60_4_4 : ExP d i (60, 4, 4, c0, t0) nx ls (.ref 25 :: r) z (Hp X (s, v, g, w, q, ct, cn, cc, di, dr, df, li, la, sf, sl) M) Q ↔ Wp d i nx ls (.ref 29 :: r) z (Hp X (s, v, g, w, q, ct, cn, cc, di, dr, df, li, la, sf, sl) M) Q := by rw [r_60, hq_25]; exact Iff.rfl
theorem h60_4_5 : ExP d i (60, 4, 5, c0, t0) nx ls (.ref 25 :: r) z (Hp X (s, v, g, w, q, ct, cn, cc, di, dr, df, li, la, sf, sl) M) Q ↔ Wp d i nx ls (.ref 30 :: r) z (Hp X (s, v, g, w, q, ct, cn, cc, di, dr, df, li, la, sf, sl) M) Q := by rw [r_60, hq_25]; exact Iff.rfl
theorem h60_4_6 : ExP d i (60, 4, 6, c0, t0) nx ls (.ref 25 :: r) z (Hp X (s, v, g, w, q, ct, cn, cc, di, dr, df, li, la, sf, sl) M) Q ↔ Wp d i nx ls (.int (s 22) :: r) z (Hp X (s, v, g, w, q, ct, cn, cc, di, dr, df, li, la, sf, sl) M) Q := by rw [r_60, hq_25]; exact Iff.rfl
theorem h60_8_0 (hq : q 10 ≠ 0) : ExP d i (60, 8, 0, c0, t0) nx ls (.ref 89 :: r) z (Hp X (s, v, g, w, q, ct, cn, cc, di, dr, df, li, la, sf, sl) M) Q ↔ Wp d i nx ls (.int (s 23) :: r) z (Hp X (s, v, g, w, q, ct, cn, cc, di, dr, df, li, la, sf, sl) M) Q := by rw [r_60, hq_89 hq]; exact Iff.rfl
theorem h60_8_1 (hq : q 10 ≠ 0) : ExP d i (60, 8, 1, c0, t0) nx ls (.ref 89 :: r) z (Hp X (s, v, g, w, q, ct, cn, cc, di, dr, df, li, la, sf, sl) M) Q ↔ Wp d i nx ls (.ref 90 :: r) z (Hp X (s, v, g, w, q, ct, cn, cc, di, dr, df, li, la, sf, sl) M) Q := by rw [r_60, hq_89 hq]; exact Iff.rfl
theorem h60_8_2 (hq : q 10 ≠ 0) : ExP d i (60, 8, 2, c0, t0) nx ls (.ref 89 :: r) z (Hp X (s, v, g, w, q, ct, cn, cc, di, dr, df, li, la, sf, sl) M) Q ↔ Wp d i nx ls (.ref (tor (q 8)) :: r) z (Hp X (s, v, g, w, q, ct, cn, cc, di, dr, df, li, la, sf, sl) M) Q := by rw [r_60, hq_89 hq]; exact Iff.rfl
theorem h60_8_3 (hq : q 10 ≠ 0) : ExP d i (60, 8, 3, c0, t0) nx ls (.ref 89 :: r) z (Hp X (s, v, g, w, q, ct, cn, cc, di, dr, df, li, la, sf, sl) M) Q ↔ Wp d i nx ls (.ref (tor (q 9)) :: r) z (Hp X (s, v, g, w, q, ct, cn, cc, di, dr, df, li, la, sf, sl) M) Q := by rw [r_60, hq_89 hq]; exact Iff.rfl
theorem h60_0_0 {c : Nat} (h : c < 10) : ExP d i (60, 0, 0, c0, t0) nx ls (.ref (co c) :: r) z (Hp X (s, v, g, w, q, ct, cn, cc, di, dr, df, li, la, sf, sl) M) Q ↔ Wp d i nx ls (.ref (cv c) :: r) z (Hp X (s, v, g, w, q, ct, cn, cc, di, dr, df, li, la, sf, sl) M) Q := by rw [r_60, hq_co h]; exact Iff.rfl
theorem h60_0_1 {c : Nat} (h : c < 10) : ExP d i (60, 0, 1, c0, t0) nx ls (.ref (co c) :: r) z (Hp X (s, v, g, w, q, ct, cn, cc, di, dr, df, li, la, sf, sl) M) Q ↔ Wp d i nx ls (.int (ct c) :: r) z (Hp X (s, v, g, w, q, ct, cn, cc, di, dr, df, li, la, sf, sl) M) Q := by rw [r_60, hq_co h]; exact Iff.rfl
theorem h60_0_2 {c : Nat} (h : c < 10) : ExP d i (60, 0, 2, c0, t0) nx ls (.ref (co c) :: r) z (Hp X (s, v, g, w, q, ct, cn, cc, di, dr, df, li, la, sf, sl) M) Q ↔ Wp d i nx ls (.int (cn c) :: r) z (Hp X (s, v, g, w, q, ct, cn, cc, di, dr, df, li, la, sf, sl) M) Q := by rw [r_60, hq_co h]; exact Iff.rfl
theorem h60_2_0 {c : Nat} (h : c < 4) : ExP d i (60, 2, 0, c0, t0) nx ls (.ref (dob c) :: r) z (Hp X (s, v, g, w, q, ct, cn, cc, di, dr, df, li, la, sf, sl) M) Q ↔ Wp d i nx ls (.ref (dro c) :: r) z (Hp X (s, v, g, w, q, ct, cn, cc, di, dr, df, li, la, sf, sl) M) Q := by rw [r_60, hq_do h]; exact Iff.rfl
theorem h60_2_1 {c : Nat} (h : c < 4) : ExP d i (60, 2, 1, c0, t0) nx ls (.ref (dob c) :: r) z (Hp X (s, v, g, w, q, ct, cn, cc, di, dr, df, li, la, sf, sl) M) Q ↔ Wp d i nx ls (.ref (dfo c) :: r) z (Hp X (s, v, g, w, q, ct, cn, cc, di, dr, df, li, la, sf, sl) M) Q := by rw [r_60, hq_do h]; exact Iff.rfl
theorem h60_2_2 {c : Nat} (h : c < 4) : ExP d i (60, 2, 2, c0, t0) nx ls (.ref (dob c) :: r) z (Hp X (s, v, g, w, q, ct, cn, cc, di, dr, df, li, la, sf, sl) M) Q ↔ Wp d i nx ls (.int (di c 2) :: r) z (Hp X (s, v, g, w, q, ct, cn, cc, di, dr, df, li, la, sf, sl) M) Q := by rw [r_60, hq_do h]; exact Iff.rfl
theorem h60_2_3 {c : Nat} (h : c < 4) : ExP d i (60, 2, 3, c0, t0) nx ls (.ref (dob c) :: r) z (Hp X (s, v, g, w, q, ct, cn, cc, di, dr, df, li, la, sf, sl) M) Q ↔ Wp d i nx ls (.int (di c 3) :: r) z (Hp X (s, v, g, w, q, ct, cn, cc, di, dr, df, li, la, sf, sl) M) Q := by rw [r_60, hq_do h]; exact Iff.rfl
theorem h60_2_4 {c : Nat} (h : c < 4) : ExP d i (60, 2, 4, c0, t0) nx ls (.ref (dob c) :: r) z (Hp X (s, v, g, w, q, ct, cn, cc, di, dr, df, li, la, sf, sl) M) Q ↔ Wp d i nx ls (.int (di c 4) :: r) z (Hp X (s, v, g, w, q, ct, cn, cc, di, dr, df, li, la, sf, sl) M) Q := by rw [r_60, hq_do h]; exact Iff.rfl
theorem h60_2_5 {c : Nat} (h : c < 4) : ExP d i (60, 2, 5, c0, t0) nx ls (.ref (dob c) :: r) z (Hp X (s, v, g, w, q, ct, cn, cc, di, dr, df, li, la, sf, sl) M) Q ↔ Wp d i nx ls (.int (di c 5) :: r) z (Hp X (s, v, g, w, q, ct, cn, cc, di, dr, df, li, la, sf, sl) M) Q := by rw [r_60, hq_do h]; exact Iff.rfl
theorem h60_3_0 {c : Nat} (h : c < 2) : ExP d i (60, 3, 0, c0, t0) nx ls (.ref (lo c) :: r) z (Hp X (s, v, g, w, q, ct, cn, cc, di, dr, df, li, la, sf, sl) M) Q ↔ Wp d i nx ls (.ref (lao c 0) :: r) z (Hp X (s, v, g, w, q, ct, cn, cc, di, dr, df, li, la, sf, sl) M) Q := by rw [r_60, hq_lo h]; exact Iff.rfl
theorem h60_3_1 {c : Nat} (h : c < 2) : ExP d i (60, 3, 1, c0, t0) nx ls (.ref (lo c) :: r) z (Hp X (s, v, g, w, q, ct, cn, cc, di, dr, df, li, la, sf, sl) M) Q ↔ Wp d i nx ls (.ref (lao c 1) :: r) z (Hp X (s, v, g, w, q, ct, cn, cc, di, dr, df, li, la, sf, sl) M) Q := by rw [r_60, hq_lo h]; exact Iff.rfl
theorem h60_3_2 {c : Nat} (h : c < 2) : ExP d i (60, 3, 2, c0, t0) nx ls (.ref (lo c) :: r) z (Hp X (s, v, g, w, q, ct, cn, cc, di, dr, df, li, la, sf, sl) M) Q ↔ Wp d i nx ls (.ref (lao c 2) :: r) z (Hp X (s, v, g, w, q, ct, cn, cc, di, dr, df, li, la, sf, sl) M) Q := by rw [r_60, hq_lo h]; exact Iff.rfl
theorem h60_3_3 {c : Nat} (h : c < 2) : ExP d i (60, 3, 3, c0, t0) nx ls (.ref (lo c) :: r) z (Hp X (s, v, g, w, q, ct, cn, cc, di, dr, df, li, la, sf, sl) M) Q ↔ Wp d i nx ls (.ref (lao c 3) :: r) z (Hp X (s, v, g, w, q, ct, cn, cc, di, dr, df, li, la, sf, sl) M) Q := by rw [r_60, hq_lo h]; exact Iff.rfl
theorem h60_3_4 {c : Nat} (h : c < 2) : ExP d i (60, 3, 4, c0, t0) nx ls (.ref (lo c) :: r) z (Hp X (s, v, g, w, q, ct, cn, cc, di, dr, df, li, la, sf, sl) M) Q ↔ Wp d i nx ls (.int (li c 0) :: r) z (Hp X (s, v, g, w, q, ct, cn, cc, di, dr, df, li, la, sf, sl) M) Q := by rw [r_60, hq_lo h]; exact Iff.rfl
theorem h60_3_5 {c : Nat} (h : c < 2) : ExP d i (60, 3, 5, c0, t0) nx ls (.ref (lo c) :: r) z (Hp X (s, v, g, w, q, ct, cn, cc, di, dr, df, li, la, sf, sl) M) Q ↔ Wp d i nx ls (.int (li c 1) :: r) z (Hp X (s, v, g, w, q, ct, cn, cc, di, dr, df, li, la, sf, sl) M) Q := by rw [r_60, hq_lo h]; exact Iff.rfl
theorem h60_6_0 {c : Nat} (h : c < 2) : ExP d i (60, 6, 0, c0, t0) nx ls (.ref (so c) :: r) z (Hp X (s, v, g, w, q, ct, cn, cc, di, dr, df, li, la, sf, sl) M) Q ↔ Wp d i nx ls (.ref (sfo c) :: r) z (Hp X (s, v, g, w, q, ct, cn, cc, di, dr, df, li, la, sf, sl) M) Q := by rw [r_60, hq_so h]; exact Iff.rfl
theorem h60_6_1 {c : Nat} (h : c < 2) : ExP d i (60, 6, 1, c0, t0) nx ls (.ref (so c) :: r) z (Hp X (s, v, g, w, q, ct, cn, cc, di, dr, df, li, la, sf, sl) M) Q ↔ Wp d i nx ls (.ref (slo c) :: r) z (Hp X (s, v, g, w, q, ct, cn, cc, di, dr, df, li, la, sf, sl) M) Q := by rw [r_60, hq_so h]; exact Iff.rfl
theorem h61_9_14 : ExP d i (61, 9, 14, c0, t0) nx ls (.int x :: .ref 0 :: r) z (Hp X (s, v, g, w, q, ct, cn, cc, di, dr, df, li, la, sf, sl) M) Q ↔ Wp d i nx ls (r) z (Hp X (va_up s 14 (x), v, g, w, q, ct, cn, cc, di, dr, df, li, la, sf, sl) M) Q := by
  rw [r_61, hq_0, ← hu_9_14]
  exact Iff.rfl
theorem h61_9_15 : ExP d i (61, 9, 15, c0, t0) nx ls (.int x :: .ref 0 :: r) z (Hp X (s, v, g, w, q, ct, cn, cc, di, dr, df, li, la, sf, sl) M) Q ↔ Wp d i nx ls (r) z (Hp X (va_up s 15 (x), v, g, w, q, ct, cn, cc, di, dr, df, li, la, sf, sl) M) Q := by
  rw [r_61, hq_0, ← hu_9_15]
  exact Iff.rfl
theorem h61_9_18 : ExP d i (61, 9, 18, c0, t0) nx ls (.int x :: .ref 0 :: r) z (Hp X (s, v, g, w, q, ct, cn, cc, di, dr, df, li, la, sf, sl) M) Q ↔ Wp d i nx ls (r) z (Hp X (va_up s 18 (x), v, g, w, q, ct, cn, cc, di, dr, df, li, la, sf, sl) M) Q := by
  rw [r_61, hq_0, ← hu_9_18]
  exact Iff.rfl
theorem h61_9_16 : ExP d i (61, 9, 16, c0, t0) nx ls (.long y :: .ref 0 :: r) z (Hp X (s, v, g, w, q, ct, cn, cc, di, dr, df, li, la, sf, sl) M) Q ↔ Wp d i nx ls (r) z (Hp X (s, vp_updL v 16 y, g, w, q, ct, cn, cc, di, dr, df, li, la, sf, sl) M) Q := by
  rw [r_61, hq_0, ← hu_9_16]
  exact Iff.rfl
theorem h61_9_17 : ExP d i (61, 9, 17, c0, t0) nx ls (.long y :: .ref 0 :: r) z (Hp X (s, v, g, w, q, ct, cn, cc, di, dr, df, li, la, sf, sl) M) Q ↔ Wp d i nx ls (r) z (Hp X (s, vp_updL v 17 y, g, w, q, ct, cn, cc, di, dr, df, li, la, sf, sl) M) Q := by
  rw [r_61, hq_0, ← hu_9_17]
  exact Iff.rfl
theorem h61_9_12 : ExP d i (61, 9, 12, c0, t0) nx ls (.ref (lo n) :: .ref 0 :: r) z (Hp X (s, v, g, w, q, ct, cn, cc, di, dr, df, li, la, sf, sl) M) Q ↔ Wp d i nx ls (r) z (Hp X (s, v, g, w, va_up q 0 n, ct, cn, cc, di, dr, df, li, la, sf, sl) M) Q := by
  rw [r_61, hq_0, ← hu_9_12]
  exact Iff.rfl
theorem h61_9_13 : ExP d i (61, 9, 13, c0, t0) nx ls (.ref 89 :: .ref 0 :: r) z (Hp X (s, v, g, w, q, ct, cn, cc, di, dr, df, li, la, sf, sl) M) Q ↔ Wp d i nx ls (r) z (Hp X (s, v, g, w, va_up q 7 1, ct, cn, cc, di, dr, df, li, la, sf, sl) M) Q := by
  rw [r_61, hq_0, ← hu_9_13]
  exact Iff.rfl
theorem h61_5_0 : ExP d i (61, 5, 0, c0, t0) nx ls (.ref (lo n) :: .ref 3 :: r) z (Hp X (s, v, g, w, q, ct, cn, cc, di, dr, df, li, la, sf, sl) M) Q ↔ Wp d i nx ls (r) z (Hp X (s, v, g, w, va_up q 1 n, ct, cn, cc, di, dr, df, li, la, sf, sl) M) Q := by
  rw [r_61, hq_3, ← hu_5_0]
  exact Iff.rfl
theorem h61_5_1 (hn : n ≠ 99) : ExP d i (61, 5, 1, c0, t0) nx ls (.ref (co n) :: .ref 3 :: r) z (Hp X (s, v, g, w, q, ct, cn, cc, di, dr, df, li, la, sf, sl) M) Q ↔ Wp d i nx ls (r) z (Hp X (s, v, g, w, va_up q 2 n, ct, cn, cc, di, dr, df, li, la, sf, sl) M) Q := by
  rw [r_61, hq_3, ← hu_5_1 hn]
  exact Iff.rfl
theorem h61_5_2 : ExP d i (61, 5, 2, c0, t0) nx ls (.int x :: .ref 3 :: r) z (Hp X (s, v, g, w, q, ct, cn, cc, di, dr, df, li, la, sf, sl) M) Q ↔ Wp d i nx ls (r) z (Hp X (va_up s 20 (x), v, g, w, q, ct, cn, cc, di, dr, df, li, la, sf, sl) M) Q := by
  rw [r_61, hq_3, ← hu_5_2]
  exact Iff.rfl
theorem h61_7_0 : ExP d i (61, 7, 0, c0, t0) nx ls (.ref (tao n) :: .ref 19 :: r) z (Hp X (s, v, g, w, q, ct, cn, cc, di, dr, df, li, la, sf, sl) M) Q ↔ Wp d i nx ls (r) z (Hp X (s, v, g, w, va_up q 3 n, ct, cn, cc, di, dr, df, li, la, sf, sl) M) Q := by
  rw [r_61, hq_19, ← hu_7_0]
  exact Iff.rfl
theorem h61_7_1 : ExP d i (61, 7, 1, c0, t0) nx ls (.ref (tao n) :: .ref 19 :: r) z (Hp X (s, v, g, w, q, ct, cn, cc, di, dr, df, li, la, sf, sl) M) Q ↔ Wp d i nx ls (r) z (Hp X (s, v, g, w, va_up q 4 n, ct, cn, cc, di, dr, df, li, la, sf, sl) M) Q := by
  rw [r_61, hq_19, ← hu_7_1]
  exact Iff.rfl
theorem h61_1_0 : ExP d i (61, 1, 0, c0, t0) nx ls (.ref (cst n) :: .ref 22 :: r) z (Hp X (s, v, g, w, q, ct, cn, cc, di, dr, df, li, la, sf, sl) M) Q ↔ Wp d i nx ls (r) z (Hp X (s, v, g, w, va_up q 5 n, ct, cn, cc, di, dr, df, li, la, sf, sl) M) Q := by
  rw [r_61, hq_22, ← hu_1_0]
  exact Iff.rfl
theorem h61_1_1 : ExP d i (61, 1, 1, c0, t0) nx ls (.ref (cst n) :: .ref 22 :: r) z (Hp X (s, v, g, w, q, ct, cn, cc, di, dr, df, li, la, sf, sl) M) Q ↔ Wp d i nx ls (r) z (Hp X (s, v, g, w, va_up q 6 n, ct, cn, cc, di, dr, df, li, la, sf, sl) M) Q := by
  rw [r_61, hq_22, ← hu_1_1]
  exact Iff.rfl
theorem h61_4_2_0 : ExP d i (61, 4, 2, c0, t0) nx ls (.int (nI 0) :: .ref 25 :: r) z (Hp X (s, v, g, w, q, ct, cn, cc, di, dr, df, li, la, sf, sl) M) Q ↔ Wp d i nx ls (r) z (Hp X (va_up s 21 (nI 0), v, g, w, q, ct, cn, cc, di, dr, df, li, la, sf, sl) M) Q := by
  rw [r_61, hq_25, ← hu_4_2]
  exact Iff.rfl
theorem h61_4_2_1 : ExP d i (61, 4, 2, c0, t0) nx ls (.int (nI 1) :: .ref 25 :: r) z (Hp X (s, v, g, w, q, ct, cn, cc, di, dr, df, li, la, sf, sl) M) Q ↔ Wp d i nx ls (r) z (Hp X (va_up s 21 (nI 1), v, g, w, q, ct, cn, cc, di, dr, df, li, la, sf, sl) M) Q := by
  rw [r_61, hq_25, ← hu_4_2]
  exact Iff.rfl
theorem h61_4_6 : ExP d i (61, 4, 6, c0, t0) nx ls (.int x :: .ref 25 :: r) z (Hp X (s, v, g, w, q, ct, cn, cc, di, dr, df, li, la, sf, sl) M) Q ↔ Wp d i nx ls (r) z (Hp X (va_up s 22 (x), v, g, w, q, ct, cn, cc, di, dr, df, li, la, sf, sl) M) Q := by
  rw [r_61, hq_25, ← hu_4_6]
  exact Iff.rfl
theorem h61_8_0 (hq : q 10 ≠ 0) : ExP d i (61, 8, 0, c0, t0) nx ls (.int x :: .ref 89 :: r) z (Hp X (s, v, g, w, q, ct, cn, cc, di, dr, df, li, la, sf, sl) M) Q ↔ Wp d i nx ls (r) z (Hp X (va_up s 23 (x), v, g, w, q, ct, cn, cc, di, dr, df, li, la, sf, sl) M) Q := by
  rw [r_61, hq_89 hq, ← hu_8_0 hq]
  exact Iff.rfl
theorem h61_8_2 (hq : q 10 ≠ 0) : ExP d i (61, 8, 2, c0, t0) nx ls (.ref (tor n) :: .ref 89 :: r) z (Hp X (s, v, g, w, q, ct, cn, cc, di, dr, df, li, la, sf, sl) M) Q ↔ Wp d i nx ls (r) z (Hp X (s, v, g, w, va_up q 8 n, ct, cn, cc, di, dr, df, li, la, sf, sl) M) Q := by
  rw [r_61, hq_89 hq, ← hu_8_2 hq]
  exact Iff.rfl
theorem h61_8_3 (hq : q 10 ≠ 0) : ExP d i (61, 8, 3, c0, t0) nx ls (.ref (tor n) :: .ref 89 :: r) z (Hp X (s, v, g, w, q, ct, cn, cc, di, dr, df, li, la, sf, sl) M) Q ↔ Wp d i nx ls (r) z (Hp X (s, v, g, w, va_up q 9 n, ct, cn, cc, di, dr, df, li, la, sf, sl) M) Q := by
  rw [r_61, hq_89 hq, ← hu_8_3 hq]
  exact Iff.rfl
theorem h61_0_1_0 {c : Nat} (h : c < 10) : ExP d i (61, 0, 1, c0, t0) nx ls (.int (nI 0) :: .ref (co c) :: r) z (Hp X (s, v, g, w, q, ct, cn, cc, di, dr, df, li, la, sf, sl) M) Q ↔ Wp d i nx ls (r) z (Hp X (s, v, g, w, q, va_up ct c (nI 0), cn, cc, di, dr, df, li, la, sf, sl) M) Q := by
  rw [r_61, hq_co h, ← hu_0_1 h]
  exact Iff.rfl
theorem h61_0_1_1 {c : Nat} (h : c < 10) : ExP d i (61, 0, 1, c0, t0) nx ls (.int (nI 1) :: .ref (co c) :: r) z (Hp X (s, v, g, w, q, ct, cn, cc, di, dr, df, li, la, sf, sl) M) Q ↔ Wp d i nx ls (r) z (Hp X (s, v, g, w, q, va_up ct c (nI 1), cn, cc, di, dr, df, li, la, sf, sl) M) Q := by
  rw [r_61, hq_co h, ← hu_0_1 h]
  exact Iff.rfl
theorem h61_0_2 {c : Nat} (h : c < 10) : ExP d i (61, 0, 2, c0, t0) nx ls (.int x :: .ref (co c) :: r) z (Hp X (s, v, g, w, q, ct, cn, cc, di, dr, df, li, la, sf, sl) M) Q ↔ Wp d i nx ls (r) z (Hp X (s, v, g, w, q, ct, va_up cn c (x), cc, di, dr, df, li, la, sf, sl) M) Q := by
  rw [r_61, hq_co h, ← hu_0_2 h]
  exact Iff.rfl
theorem h61_2_2_0 {c : Nat} (h : c < 4) : ExP d i (61, 2, 2, c0, t0) nx ls (.int (nI 0) :: .ref (dob c) :: r) z (Hp X (s, v, g, w, q, ct, cn, cc, di, dr, df, li, la, sf, sl) M) Q ↔ Wp d i nx ls (r) z (Hp X (s, v, g, w, q, ct, cn, cc, va_up di c (va_up (di c) 2 (nI 0)), dr, df, li, la, sf, sl) M) Q := by
  rw [r_61, hq_do h, ← hu_2_2 h]
  exact Iff.rfl
theorem h61_2_2_1 {c : Nat} (h : c < 4) : ExP d i (61, 2, 2, c0, t0) nx ls (.int (nI 1) :: .ref (dob c) :: r) z (Hp X (s, v, g, w, q, ct, cn, cc, di, dr, df, li, la, sf, sl) M) Q ↔ Wp d i nx ls (r) z (Hp X (s, v, g, w, q, ct, cn, cc, va_up di c (va_up (di c) 2 (nI 1)), dr, df, li, la, sf, sl) M) Q := by
  rw [r_61, hq_do h, ← hu_2_2 h]
  exact Iff.rfl
theorem h61_2_3 {c : Nat} (h : c < 4) : ExP d i (61, 2, 3, c0, t0) nx ls (.int x :: .ref (dob c) :: r) z (Hp X (s, v, g, w, q, ct, cn, cc, di, dr, df, li, la, sf, sl) M) Q ↔ Wp d i nx ls (r) z (Hp X (s, v, g, w, q, ct, cn, cc, va_up di c (va_up (di c) 3 (x)), dr, df, li, la, sf, sl) M) Q := by
  rw [r_61, hq_do h, ← hu_2_3 h]
  exact Iff.rfl
theorem h61_2_4 {c : Nat} (h : c < 4) : ExP d i (61, 2, 4, c0, t0) nx ls (.int x :: .ref (dob c) :: r) z (Hp X (s, v, g, w, q, ct, cn, cc, di, dr, df, li, la, sf, sl) M) Q ↔ Wp d i nx ls (r) z (Hp X (s, v, g, w, q, ct, cn, cc, va_up di c (va_up (di c) 4 (x)), dr, df, li, la, sf, sl) M) Q := by
  rw [r_61, hq_do h, ← hu_2_4 h]
  exact Iff.rfl
theorem h61_2_5 {c : Nat} (h : c < 4) : ExP d i (61, 2, 5, c0, t0) nx ls (.int x :: .ref (dob c) :: r) z (Hp X (s, v, g, w, q, ct, cn, cc, di, dr, df, li, la, sf, sl) M) Q ↔ Wp d i nx ls (r) z (Hp X (s, v, g, w, q, ct, cn, cc, va_up di c (va_up (di c) 5 (x)), dr, df, li, la, sf, sl) M) Q := by
  rw [r_61, hq_do h, ← hu_2_5 h]
  exact Iff.rfl
theorem h61_3_4 {c : Nat} (h : c < 2) : ExP d i (61, 3, 4, c0, t0) nx ls (.int x :: .ref (lo c) :: r) z (Hp X (s, v, g, w, q, ct, cn, cc, di, dr, df, li, la, sf, sl) M) Q ↔ Wp d i nx ls (r) z (Hp X (s, v, g, w, q, ct, cn, cc, di, dr, df, va_up li c (va_up (li c) 0 (x)), la, sf, sl) M) Q := by
  rw [r_61, hq_lo h, ← hu_3_4 h]
  exact Iff.rfl
theorem h61_3_5 {c : Nat} (h : c < 2) : ExP d i (61, 3, 5, c0, t0) nx ls (.int x :: .ref (lo c) :: r) z (Hp X (s, v, g, w, q, ct, cn, cc, di, dr, df, li, la, sf, sl) M) Q ↔ Wp d i nx ls (r) z (Hp X (s, v, g, w, q, ct, cn, cc, di, dr, df, va_up li c (va_up (li c) 1 (x)), la, sf, sl) M) Q := by
  rw [r_61, hq_lo h, ← hu_3_5 h]
  exact Iff.rfl
theorem h61_10_0 : ExP d i (61, 10, 0, c0, t0) nx ls (.int x :: .ref 67 :: r) z (Hp X C (a, b, e, o)) Q ↔ Wp d i nx ls (r) z (Hp X C (va_up a 0 (x), b, e, o)) Q := by
  rw [r_61, hq_67, ← hu_10_0]
  exact Iff.rfl
theorem h61_10_2 : ExP d i (61, 10, 2, c0, t0) nx ls (.int x :: .ref 67 :: r) z (Hp X C (a, b, e, o)) Q ↔ Wp d i nx ls (r) z (Hp X C (va_up a 2 (x), b, e, o)) Q := by
  rw [r_61, hq_67, ← hu_10_2]
  exact Iff.rfl
theorem h61_10_10 : ExP d i (61, 10, 10, c0, t0) nx ls (.int x :: .ref 67 :: r) z (Hp X C (a, b, e, o)) Q ↔ Wp d i nx ls (r) z (Hp X C (va_up a 10 (x), b, e, o)) Q := by
  rw [r_61, hq_67, ← hu_10_10]
  exact Iff.rfl
theorem h61_10_11 : ExP d i (61, 10, 11, c0, t0) nx ls (.int x :: .ref 67 :: r) z (Hp X C (a, b, e, o)) Q ↔ Wp d i nx ls (r) z (Hp X C (va_up a 11 (x), b, e, o)) Q := by
  rw [r_61, hq_67, ← hu_10_11]
  exact Iff.rfl
theorem h61_10_12 : ExP d i (61, 10, 12, c0, t0) nx ls (.int x :: .ref 67 :: r) z (Hp X C (a, b, e, o)) Q ↔ Wp d i nx ls (r) z (Hp X C (va_up a 12 (x), b, e, o)) Q := by
  rw [r_61, hq_67, ← hu_10_12]
  exact Iff.rfl
theorem h61_10_14 : ExP d i (61, 10, 14, c0, t0) nx ls (.int x :: .ref 67 :: r) z (Hp X C (a, b, e, o)) Q ↔ Wp d i nx ls (r) z (Hp X C (va_up a 14 (x), b, e, o)) Q := by
  rw [r_61, hq_67, ← hu_10_14]
  exact Iff.rfl
theorem h61_10_15 : ExP d i (61, 10, 15, c0, t0) nx ls (.int x :: .ref 67 :: r) z (Hp X C (a, b, e, o)) Q ↔ Wp d i nx ls (r) z (Hp X C (va_up a 15 (x), b, e, o)) Q := by
  rw [r_61, hq_67, ← hu_10_15]
  exact Iff.rfl
theorem h61_10_16 : ExP d i (61, 10, 16, c0, t0) nx ls (.int x :: .ref 67 :: r) z (Hp X C (a, b, e, o)) Q ↔ Wp d i nx ls (r) z (Hp X C (va_up a 16 (x), b, e, o)) Q := by
  rw [r_61, hq_67, ← hu_10_16]
  exact Iff.rfl
theorem h61_10_17 : ExP d i (61, 10, 17, c0, t0) nx ls (.int x :: .ref 67 :: r) z (Hp X C (a, b, e, o)) Q ↔ Wp d i nx ls (r) z (Hp X C (va_up a 17 (x), b, e, o)) Q := by
  rw [r_61, hq_67, ← hu_10_17]
  exact Iff.rfl
theorem h61_10_18 : ExP d i (61, 10, 18, c0, t0) nx ls (.int x :: .ref 67 :: r) z (Hp X C (a, b, e, o)) Q ↔ Wp d i nx ls (r) z (Hp X C (va_up a 18 (x), b, e, o)) Q := by
  rw [r_61, hq_67, ← hu_10_18]
  exact Iff.rfl
theorem h61_10_30 : ExP d i (61, 10, 30, c0, t0) nx ls (.int x :: .ref 67 :: r) z (Hp X C (a, b, e, o)) Q ↔ Wp d i nx ls (r) z (Hp X C (va_up a 30 (x), b, e, o)) Q := by
  rw [r_61, hq_67, ← hu_10_30]
  exact Iff.rfl
theorem h61_10_31 : ExP d i (61, 10, 31, c0, t0) nx ls (.int x :: .ref 67 :: r) z (Hp X C (a, b, e, o)) Q ↔ Wp d i nx ls (r) z (Hp X C (va_up a 31 (x), b, e, o)) Q := by
  rw [r_61, hq_67, ← hu_10_31]
  exact Iff.rfl
theorem h61_10_32 : ExP d i (61, 10, 32, c0, t0) nx ls (.int x :: .ref 67 :: r) z (Hp X C (a, b, e, o)) Q ↔ Wp d i nx ls (r) z (Hp X C (va_up a 32 (x), b, e, o)) Q := by
  rw [r_61, hq_67, ← hu_10_32]
  exact Iff.rfl
theorem h61_10_33 : ExP d i (61, 10, 33, c0, t0) nx ls (.int x :: .ref 67 :: r) z (Hp X C (a, b, e, o)) Q ↔ Wp d i nx ls (r) z (Hp X C (va_up a 33 (x), b, e, o)) Q := by
  rw [r_61, hq_67, ← hu_10_33]
  exact Iff.rfl
theorem h61_10_3 : ExP d i (61, 10, 3, c0, t0) nx ls (.long y :: .ref 67 :: r) z (Hp X C (a, b, e, o)) Q ↔ Wp d i nx ls (r) z (Hp X C (a, vp_updL b 3 y, e, o)) Q := by
  rw [r_61, hq_67, ← hu_10_3]
  exact Iff.rfl
theorem h61_10_4 : ExP d i (61, 10, 4, c0, t0) nx ls (.long y :: .ref 67 :: r) z (Hp X C (a, b, e, o)) Q ↔ Wp d i nx ls (r) z (Hp X C (a, vp_updL b 4 y, e, o)) Q := by
  rw [r_61, hq_67, ← hu_10_4]
  exact Iff.rfl
theorem h61_10_37 : ExP d i (61, 10, 37, c0, t0) nx ls (.long y :: .ref 67 :: r) z (Hp X C (a, b, e, o)) Q ↔ Wp d i nx ls (r) z (Hp X C (a, vp_updL b 37 y, e, o)) Q := by
  rw [r_61, hq_67, ← hu_10_37]
  exact Iff.rfl
theorem cap_le (c : Nat) : cap c ≤ 65536 := by unfold cap; split <;> omega
theorem h64_26 (hk : k < 7) : ExP d i (64, a0, b0, c0, t0) nx ls (.int (nI k) :: .ref 26 :: r) z (Hp X (s, v, g, w, q, ct, cn, cc, di, dr, df, li, la, sf, sl) M) Q ↔ Wp d i nx ls (.int (g 26 k) :: r) z (Hp X (s, v, g, w, q, ct, cn, cc, di, dr, df, li, la, sf, sl) M) Q := by rw [r_64, hq_26, ia_n hk (by decide)]; exact Iff.rfl
theorem h65_26 (hk : k < 7) : ExP d i (65, a0, b0, c0, t0) nx ls (.int x :: .int (nI k) :: .ref 26 :: r) z (Hp X (s, v, g, w, q, ct, cn, cc, di, dr, df, li, la, sf, sl) M) Q ↔ Wp d i nx ls (r) z (Hp X (s, v, va_up g 26 (upd (g 26) k (x)), w, q, ct, cn, cc, di, dr, df, li, la, sf, sl) M) Q := by
  rw [r_65, hq_26, is_n hk (by decide), ← hu_26]
  exact Iff.rfl
theorem h63_26 : ExP d i (63, a0, b0, c0, t0) nx ls (.ref 26 :: r) z (Hp X (s, v, g, w, q, ct, cn, cc, di, dr, df, li, la, sf, sl) M) Q ↔ Wp d i nx ls (.int (nI (7)) :: r) z (Hp X (s, v, g, w, q, ct, cn, cc, di, dr, df, li, la, sf, sl) M) Q := by rw [r_63, hq_26]; exact Iff.rfl
theorem h64_27 (hk : k < 7) : ExP d i (64, a0, b0, c0, t0) nx ls (.int (nI k) :: .ref 27 :: r) z (Hp X (s, v, g, w, q, ct, cn, cc, di, dr, df, li, la, sf, sl) M) Q ↔ Wp d i nx ls (.int (g 27 k) :: r) z (Hp X (s, v, g, w, q, ct, cn, cc, di, dr, df, li, la, sf, sl) M) Q := by rw [r_64, hq_27, ia_n hk (by decide)]; exact Iff.rfl
theorem h65_27 (hk : k < 7) : ExP d i (65, a0, b0, c0, t0) nx ls (.int x :: .int (nI k) :: .ref 27 :: r) z (Hp X (s, v, g, w, q, ct, cn, cc, di, dr, df, li, la, sf, sl) M) Q ↔ Wp d i nx ls (r) z (Hp X (s, v, va_up g 27 (upd (g 27) k (x)), w, q, ct, cn, cc, di, dr, df, li, la, sf, sl) M) Q := by
  rw [r_65, hq_27, is_n hk (by decide), ← hu_27]
  exact Iff.rfl
theorem h63_27 : ExP d i (63, a0, b0, c0, t0) nx ls (.ref 27 :: r) z (Hp X (s, v, g, w, q, ct, cn, cc, di, dr, df, li, la, sf, sl) M) Q ↔ Wp d i nx ls (.int (nI (7)) :: r) z (Hp X (s, v, g, w, q, ct, cn, cc, di, dr, df, li, la, sf, sl) M) Q := by rw [r_63, hq_27]; exact Iff.rfl
theorem h64_28 (hk : k < 128) : ExP d i (64, a0, b0, c0, t0) nx ls (.int (nI k) :: .ref 28 :: r) z (Hp X (s, v, g, w, q, ct, cn, cc, di, dr, df, li, la, sf, sl) M) Q ↔ Wp d i nx ls (.int (g 28 k) :: r) z (Hp X (s, v, g, w, q, ct, cn, cc, di, dr, df, li, la, sf, sl) M) Q := by rw [r_64, hq_28, ia_n hk (by decide)]; exact Iff.rfl
theorem h65_28 (hk : k < 128) : ExP d i (65, a0, b0, c0, t0) nx ls (.int x :: .int (nI k) :: .ref 28 :: r) z (Hp X (s, v, g, w, q, ct, cn, cc, di, dr, df, li, la, sf, sl) M) Q ↔ Wp d i nx ls (r) z (Hp X (s, v, va_up g 28 (upd (g 28) k (x)), w, q, ct, cn, cc, di, dr, df, li, la, sf, sl) M) Q := by
  rw [r_65, hq_28, is_n hk (by decide), ← hu_28]
  exact Iff.rfl
theorem h63_28 : ExP d i (63, a0, b0, c0, t0) nx ls (.ref 28 :: r) z (Hp X (s, v, g, w, q, ct, cn, cc, di, dr, df, li, la, sf, sl) M) Q ↔ Wp d i nx ls (.int (nI (128)) :: r) z (Hp X (s, v, g, w, q, ct, cn, cc, di, dr, df, li, la, sf, sl) M) Q := by rw [r_63, hq_28]; exact Iff.rfl
theorem h64_29 (hk : k < 128) : ExP d i (64, a0, b0, c0, t0) nx ls (.int (nI k) :: .ref 29 :: r) z (Hp X (s, v, g, w, q, ct, cn, cc, di, dr, df, li, la, sf, sl) M) Q ↔ Wp d i nx ls (.int (g 29 k) :: r) z (Hp X (s, v, g, w, q, ct, cn, cc, di, dr, df, li, la, sf, sl) M) Q := by rw [r_64, hq_29, ia_n hk (by decide)]; exact Iff.rfl
theorem h65_29 (hk : k < 128) : ExP d i (65, a0, b0, c0, t0) nx ls (.int x :: .int (nI k) :: .ref 29 :: r) z (Hp X (s, v, g, w, q, ct, cn, cc, di, dr, df, li, la, sf, sl) M) Q ↔ Wp d i nx ls (r) z (Hp X (s, v, va_up g 29 (upd (g 29) k (x)), w, q, ct, cn, cc, di, dr, df, li, la, sf, sl) M) Q := by
  rw [r_65, hq_29, is_n hk (by decide), ← hu_29]
  exact Iff.rfl
theorem h63_29 : ExP d i (63, a0, b0, c0, t0) nx ls (.ref 29 :: r) z (Hp X (s, v, g, w, q, ct, cn, cc, di, dr, df, li, la, sf, sl) M) Q ↔ Wp d i nx ls (.int (nI (128)) :: r) z (Hp X (s, v, g, w, q, ct, cn, cc, di, dr, df, li, la, sf, sl) M) Q := by rw [r_63, hq_29]; exact Iff.rfl
theorem h64_30 (hk : k < 128) : ExP d i (64, a0, b0, c0, t0) nx ls (.int (nI k) :: .ref 30 :: r) z (Hp X (s, v, g, w, q, ct, cn, cc, di, dr, df, li, la, sf, sl) M) Q ↔ Wp d i nx ls (.int (g 30 k) :: r) z (Hp X (s, v, g, w, q, ct, cn, cc, di, dr, df, li, la, sf, sl) M) Q := by rw [r_64, hq_30, ia_n hk (by decide)]; exact Iff.rfl
theorem h65_30 (hk : k < 128) : ExP d i (65, a0, b0, c0, t0) nx ls (.int x :: .int (nI k) :: .ref 30 :: r) z (Hp X (s, v, g, w, q, ct, cn, cc, di, dr, df, li, la, sf, sl) M) Q ↔ Wp d i nx ls (r) z (Hp X (s, v, va_up g 30 (upd (g 30) k (x)), w, q, ct, cn, cc, di, dr, df, li, la, sf, sl) M) Q := by
  rw [r_65, hq_30, is_n hk (by decide), ← hu_30]
  exact Iff.rfl
theorem h63_30 : ExP d i (63, a0, b0, c0, t0) nx ls (.ref 30 :: r) z (Hp X (s, v, g, w, q, ct, cn, cc, di, dr, df, li, la, sf, sl) M) Q ↔ Wp d i nx ls (.int (nI (128)) :: r) z (Hp X (s, v, g, w, q, ct, cn, cc, di, dr, df, li, la, sf, sl) M) Q := by rw [r_63, hq_30]; exact Iff.rfl
theorem h64_31 (hk : k < 40) : ExP d i (64, a0, b0, c0, t0) nx ls (.int (nI k) :: .ref 31 :: r) z (Hp X (s, v, g, w, q, ct, cn, cc, di, dr, df, li, la, sf, sl) M) Q ↔ Wp d i nx ls (.int (g 31 k) :: r) z (Hp X (s, v, g, w, q, ct, cn, cc, di, dr, df, li, la, sf, sl) M) Q := by rw [r_64, hq_31, ia_n hk (by decide)]; exact Iff.rfl
theorem h65_31 (hk : k < 40) : ExP d i (65, a0, b0, c0, t0) nx ls (.int x :: .int (nI k) :: .ref 31 :: r) z (Hp X (s, v, g, w, q, ct, cn, cc, di, dr, df, li, la, sf, sl) M) Q ↔ Wp d i nx ls (r) z (Hp X (s, v, va_up g 31 (upd (g 31) k (x)), w, q, ct, cn, cc, di, dr, df, li, la, sf, sl) M) Q := by
  rw [r_65, hq_31, is_n hk (by decide), ← hu_31]
  exact Iff.rfl
theorem h63_31 : ExP d i (63, a0, b0, c0, t0) nx ls (.ref 31 :: r) z (Hp X (s, v, g, w, q, ct, cn, cc, di, dr, df, li, la, sf, sl) M) Q ↔ Wp d i nx ls (.int (nI (40)) :: r) z (Hp X (s, v, g, w, q, ct, cn, cc, di, dr, df, li, la, sf, sl) M) Q := by rw [r_63, hq_31]; exact Iff.rfl
theorem h64_32 (hk : k < 6) : ExP d i (64, a0, b0, c0, t0) nx ls (.int (nI k) :: .ref 32 :: r) z (Hp X (s, v, g, w, q, ct, cn, cc, di, dr, df, li, la, sf, sl) M) Q ↔ Wp d i nx ls (.int (g 32 k) :: r) z (Hp X (s, v, g, w, q, ct, cn, cc, di, dr, df, li, la, sf, sl) M) Q := by rw [r_64, hq_32, ia_n hk (by decide)]; exact Iff.rfl
theorem h65_32 (hk : k < 6) : ExP d i (65, a0, b0, c0, t0) nx ls (.int x :: .int (nI k) :: .ref 32 :: r) z (Hp X (s, v, g, w, q, ct, cn, cc, di, dr, df, li, la, sf, sl) M) Q ↔ Wp d i nx ls (r) z (Hp X (s, v, va_up g 32 (upd (g 32) k (x)), w, q, ct, cn, cc, di, dr, df, li, la, sf, sl) M) Q := by
  rw [r_65, hq_32, is_n hk (by decide), ← hu_32]
  exact Iff.rfl
theorem h63_32 : ExP d i (63, a0, b0, c0, t0) nx ls (.ref 32 :: r) z (Hp X (s, v, g, w, q, ct, cn, cc, di, dr, df, li, la, sf, sl) M) Q ↔ Wp d i nx ls (.int (nI (6)) :: r) z (Hp X (s, v, g, w, q, ct, cn, cc, di, dr, df, li, la, sf, sl) M) Q := by rw [r_63, hq_32]; exact Iff.rfl
theorem h64_68 (hk : k < 6) : ExP d i (64, a0, b0, c0, t0) nx ls (.int (nI k) :: .ref 68 :: r) z (Hp X C (a, b, e, o)) Q ↔ Wp d i nx ls (.int (e 68 k) :: r) z (Hp X C (a, b, e, o)) Q := by rw [r_64, hq_68, ia_n hk (by decide)]; exact Iff.rfl
theorem h65_68 (hk : k < 6) : ExP d i (65, a0, b0, c0, t0) nx ls (.int x :: .int (nI k) :: .ref 68 :: r) z (Hp X C (a, b, e, o)) Q ↔ Wp d i nx ls (r) z (Hp X C (a, b, va_up e 68 (upd (e 68) k (x)), o)) Q := by
  rw [r_65, hq_68, is_n hk (by decide), ← hu_68]
  exact Iff.rfl
theorem h63_68 : ExP d i (63, a0, b0, c0, t0) nx ls (.ref 68 :: r) z (Hp X C (a, b, e, o)) Q ↔ Wp d i nx ls (.int (nI (6)) :: r) z (Hp X C (a, b, e, o)) Q := by rw [r_63, hq_68]; exact Iff.rfl
theorem h64_69 (hk : k < 6) : ExP d i (64, a0, b0, c0, t0) nx ls (.int (nI k) :: .ref 69 :: r) z (Hp X C (a, b, e, o)) Q ↔ Wp d i nx ls (.int (e 69 k) :: r) z (Hp X C (a, b, e, o)) Q := by rw [r_64, hq_69, ia_n hk (by decide)]; exact Iff.rfl
theorem h65_69 (hk : k < 6) : ExP d i (65, a0, b0, c0, t0) nx ls (.int x :: .int (nI k) :: .ref 69 :: r) z (Hp X C (a, b, e, o)) Q ↔ Wp d i nx ls (r) z (Hp X C (a, b, va_up e 69 (upd (e 69) k (x)), o)) Q := by
  rw [r_65, hq_69, is_n hk (by decide), ← hu_69]
  exact Iff.rfl
theorem h63_69 : ExP d i (63, a0, b0, c0, t0) nx ls (.ref 69 :: r) z (Hp X C (a, b, e, o)) Q ↔ Wp d i nx ls (.int (nI (6)) :: r) z (Hp X C (a, b, e, o)) Q := by rw [r_63, hq_69]; exact Iff.rfl
theorem h64_70 (hk : k < 240) : ExP d i (64, a0, b0, c0, t0) nx ls (.int (nI k) :: .ref 70 :: r) z (Hp X C (a, b, e, o)) Q ↔ Wp d i nx ls (.int (e 70 k) :: r) z (Hp X C (a, b, e, o)) Q := by rw [r_64, hq_70, ia_n hk (by decide)]; exact Iff.rfl
theorem h65_70 (hk : k < 240) : ExP d i (65, a0, b0, c0, t0) nx ls (.int x :: .int (nI k) :: .ref 70 :: r) z (Hp X C (a, b, e, o)) Q ↔ Wp d i nx ls (r) z (Hp X C (a, b, va_up e 70 (upd (e 70) k (x)), o)) Q := by
  rw [r_65, hq_70, is_n hk (by decide), ← hu_70]
  exact Iff.rfl
theorem h63_70 : ExP d i (63, a0, b0, c0, t0) nx ls (.ref 70 :: r) z (Hp X C (a, b, e, o)) Q ↔ Wp d i nx ls (.int (nI (240)) :: r) z (Hp X C (a, b, e, o)) Q := by rw [r_63, hq_70]; exact Iff.rfl
theorem h64_71 (hk : k < 40) : ExP d i (64, a0, b0, c0, t0) nx ls (.int (nI k) :: .ref 71 :: r) z (Hp X C (a, b, e, o)) Q ↔ Wp d i nx ls (.int (e 71 k) :: r) z (Hp X C (a, b, e, o)) Q := by rw [r_64, hq_71, ia_n hk (by decide)]; exact Iff.rfl
theorem h65_71 (hk : k < 40) : ExP d i (65, a0, b0, c0, t0) nx ls (.int x :: .int (nI k) :: .ref 71 :: r) z (Hp X C (a, b, e, o)) Q ↔ Wp d i nx ls (r) z (Hp X C (a, b, va_up e 71 (upd (e 71) k (x)), o)) Q := by
  rw [r_65, hq_71, is_n hk (by decide), ← hu_71]
  exact Iff.rfl
theorem h63_71 : ExP d i (63, a0, b0, c0, t0) nx ls (.ref 71 :: r) z (Hp X C (a, b, e, o)) Q ↔ Wp d i nx ls (.int (nI (40)) :: r) z (Hp X C (a, b, e, o)) Q := by rw [r_63, hq_71]; exact Iff.rfl
theorem h64_72 (hk : k < 4) : ExP d i (64, a0, b0, c0, t0) nx ls (.int (nI k) :: .ref 72 :: r) z (Hp X C (a, b, e, o)) Q ↔ Wp d i nx ls (.int (e 72 k) :: r) z (Hp X C (a, b, e, o)) Q := by rw [r_64, hq_72, ia_n hk (by decide)]; exact Iff.rfl
theorem h65_72 (hk : k < 4) : ExP d i (65, a0, b0, c0, t0) nx ls (.int x :: .int (nI k) :: .ref 72 :: r) z (Hp X C (a, b, e, o)) Q ↔ Wp d i nx ls (r) z (Hp X C (a, b, va_up e 72 (upd (e 72) k (x)), o)) Q := by
  rw [r_65, hq_72, is_n hk (by decide), ← hu_72]
  exact Iff.rfl
theorem h63_72 : ExP d i (63, a0, b0, c0, t0) nx ls (.ref 72 :: r) z (Hp X C (a, b, e, o)) Q ↔ Wp d i nx ls (.int (nI (4)) :: r) z (Hp X C (a, b, e, o)) Q := by rw [r_63, hq_72]; exact Iff.rfl
theorem h64_73 (hk : k < 320) : ExP d i (64, a0, b0, c0, t0) nx ls (.int (nI k) :: .ref 73 :: r) z (Hp X C (a, b, e, o)) Q ↔ Wp d i nx ls (.int (e 73 k) :: r) z (Hp X C (a, b, e, o)) Q := by rw [r_64, hq_73, ia_n hk (by decide)]; exact Iff.rfl
theorem h65_73 (hk : k < 320) : ExP d i (65, a0, b0, c0, t0) nx ls (.int x :: .int (nI k) :: .ref 73 :: r) z (Hp X C (a, b, e, o)) Q ↔ Wp d i nx ls (r) z (Hp X C (a, b, va_up e 73 (upd (e 73) k (x)), o)) Q := by
  rw [r_65, hq_73, is_n hk (by decide), ← hu_73]
  exact Iff.rfl
theorem h63_73 : ExP d i (63, a0, b0, c0, t0) nx ls (.ref 73 :: r) z (Hp X C (a, b, e, o)) Q ↔ Wp d i nx ls (.int (nI (320)) :: r) z (Hp X C (a, b, e, o)) Q := by rw [r_63, hq_73]; exact Iff.rfl
theorem h64_74 (hk : k < 80) : ExP d i (64, a0, b0, c0, t0) nx ls (.int (nI k) :: .ref 74 :: r) z (Hp X C (a, b, e, o)) Q ↔ Wp d i nx ls (.int (e 74 k) :: r) z (Hp X C (a, b, e, o)) Q := by rw [r_64, hq_74, ia_n hk (by decide)]; exact Iff.rfl
theorem h65_74 (hk : k < 80) : ExP d i (65, a0, b0, c0, t0) nx ls (.int x :: .int (nI k) :: .ref 74 :: r) z (Hp X C (a, b, e, o)) Q ↔ Wp d i nx ls (r) z (Hp X C (a, b, va_up e 74 (upd (e 74) k (x)), o)) Q := by
  rw [r_65, hq_74, is_n hk (by decide), ← hu_74]
  exact Iff.rfl
theorem h63_74 : ExP d i (63, a0, b0, c0, t0) nx ls (.ref 74 :: r) z (Hp X C (a, b, e, o)) Q ↔ Wp d i nx ls (.int (nI (80)) :: r) z (Hp X C (a, b, e, o)) Q := by rw [r_63, hq_74]; exact Iff.rfl
theorem h64_75 (hk : k < 40) : ExP d i (64, a0, b0, c0, t0) nx ls (.int (nI k) :: .ref 75 :: r) z (Hp X C (a, b, e, o)) Q ↔ Wp d i nx ls (.int (e 75 k) :: r) z (Hp X C (a, b, e, o)) Q := by rw [r_64, hq_75, ia_n hk (by decide)]; exact Iff.rfl
theorem h65_75 (hk : k < 40) : ExP d i (65, a0, b0, c0, t0) nx ls (.int x :: .int (nI k) :: .ref 75 :: r) z (Hp X C (a, b, e, o)) Q ↔ Wp d i nx ls (r) z (Hp X C (a, b, va_up e 75 (upd (e 75) k (x)), o)) Q := by
  rw [r_65, hq_75, is_n hk (by decide), ← hu_75]
  exact Iff.rfl
theorem h63_75 : ExP d i (63, a0, b0, c0, t0) nx ls (.ref 75 :: r) z (Hp X C (a, b, e, o)) Q ↔ Wp d i nx ls (.int (nI (40)) :: r) z (Hp X C (a, b, e, o)) Q := by rw [r_63, hq_75]; exact Iff.rfl
theorem h64_76 (hk : k < 40) : ExP d i (64, a0, b0, c0, t0) nx ls (.int (nI k) :: .ref 76 :: r) z (Hp X C (a, b, e, o)) Q ↔ Wp d i nx ls (.int (e 76 k) :: r) z (Hp X C (a, b, e, o)) Q := by rw [r_64, hq_76, ia_n hk (by decide)]; exact Iff.rfl
theorem h65_76 (hk : k < 40) : ExP d i (65, a0, b0, c0, t0) nx ls (.int x :: .int (nI k) :: .ref 76 :: r) z (Hp X C (a, b, e, o)) Q ↔ Wp d i nx ls (r) z (Hp X C (a, b, va_up e 76 (upd (e 76) k (x)), o)) Q := by
  rw [r_65, hq_76, is_n hk (by decide), ← hu_76]
  exact Iff.rfl
theorem h63_76 : ExP d i (63, a0, b0, c0, t0) nx ls (.ref 76 :: r) z (Hp X C (a, b, e, o)) Q ↔ Wp d i nx ls (.int (nI (40)) :: r) z (Hp X C (a, b, e, o)) Q := by rw [r_63, hq_76]; exact Iff.rfl
theorem h64_77 (hk : k < 41) : ExP d i (64, a0, b0, c0, t0) nx ls (.int (nI k) :: .ref 77 :: r) z (Hp X C (a, b, e, o)) Q ↔ Wp d i nx ls (.int (e 77 k) :: r) z (Hp X C (a, b, e, o)) Q := by rw [r_64, hq_77, ia_n hk (by decide)]; exact Iff.rfl
theorem h65_77 (hk : k < 41) : ExP d i (65, a0, b0, c0, t0) nx ls (.int x :: .int (nI k) :: .ref 77 :: r) z (Hp X C (a, b, e, o)) Q ↔ Wp d i nx ls (r) z (Hp X C (a, b, va_up e 77 (upd (e 77) k (x)), o)) Q := by
  rw [r_65, hq_77, is_n hk (by decide), ← hu_77]
  exact Iff.rfl
theorem h63_77 : ExP d i (63, a0, b0, c0, t0) nx ls (.ref 77 :: r) z (Hp X C (a, b, e, o)) Q ↔ Wp d i nx ls (.int (nI (41)) :: r) z (Hp X C (a, b, e, o)) Q := by rw [r_63, hq_77]; exact Iff.rfl
theorem h64_78 (hk : k < 246) : ExP d i (64, a0, b0, c0, t0) nx ls (.int (nI k) :: .ref 78 :: r) z (Hp X C (a, b, e, o)) Q ↔ Wp d i nx ls (.int (e 78 k) :: r) z (Hp X C (a, b, e, o)) Q := by rw [r_64, hq_78, ia_n hk (by decide)]; exact Iff.rfl
theorem h65_78 (hk : k < 246) : ExP d i (65, a0, b0, c0, t0) nx ls (.int x :: .int (nI k) :: .ref 78 :: r) z (Hp X C (a, b, e, o)) Q ↔ Wp d i nx ls (r) z (Hp X C (a, b, va_up e 78 (upd (e 78) k (x)), o)) Q := by
  rw [r_65, hq_78, is_n hk (by decide), ← hu_78]
  exact Iff.rfl
theorem h63_78 : ExP d i (63, a0, b0, c0, t0) nx ls (.ref 78 :: r) z (Hp X C (a, b, e, o)) Q ↔ Wp d i nx ls (.int (nI (246)) :: r) z (Hp X C (a, b, e, o)) Q := by rw [r_63, hq_78]; exact Iff.rfl
theorem h64_81 (hk : k < 7) : ExP d i (64, a0, b0, c0, t0) nx ls (.int (nI k) :: .ref 81 :: r) z (Hp X C (a, b, e, o)) Q ↔ Wp d i nx ls (.int (e 81 k) :: r) z (Hp X C (a, b, e, o)) Q := by rw [r_64, hq_81, ia_n hk (by decide)]; exact Iff.rfl
theorem h65_81 (hk : k < 7) : ExP d i (65, a0, b0, c0, t0) nx ls (.int x :: .int (nI k) :: .ref 81 :: r) z (Hp X C (a, b, e, o)) Q ↔ Wp d i nx ls (r) z (Hp X C (a, b, va_up e 81 (upd (e 81) k (x)), o)) Q := by
  rw [r_65, hq_81, is_n hk (by decide), ← hu_81]
  exact Iff.rfl
theorem h63_81 : ExP d i (63, a0, b0, c0, t0) nx ls (.ref 81 :: r) z (Hp X C (a, b, e, o)) Q ↔ Wp d i nx ls (.int (nI (7)) :: r) z (Hp X C (a, b, e, o)) Q := by rw [r_63, hq_81]; exact Iff.rfl
theorem h64_82 (hk : k < 7) : ExP d i (64, a0, b0, c0, t0) nx ls (.int (nI k) :: .ref 82 :: r) z (Hp X C (a, b, e, o)) Q ↔ Wp d i nx ls (.int (e 82 k) :: r) z (Hp X C (a, b, e, o)) Q := by rw [r_64, hq_82, ia_n hk (by decide)]; exact Iff.rfl
theorem h65_82 (hk : k < 7) : ExP d i (65, a0, b0, c0, t0) nx ls (.int x :: .int (nI k) :: .ref 82 :: r) z (Hp X C (a, b, e, o)) Q ↔ Wp d i nx ls (r) z (Hp X C (a, b, va_up e 82 (upd (e 82) k (x)), o)) Q := by
  rw [r_65, hq_82, is_n hk (by decide), ← hu_82]
  exact Iff.rfl
theorem h63_82 : ExP d i (63, a0, b0, c0, t0) nx ls (.ref 82 :: r) z (Hp X C (a, b, e, o)) Q ↔ Wp d i nx ls (.int (nI (7)) :: r) z (Hp X C (a, b, e, o)) Q := by rw [r_63, hq_82]; exact Iff.rfl
theorem h64_83 (hk : k < 1280) : ExP d i (64, a0, b0, c0, t0) nx ls (.int (nI k) :: .ref 83 :: r) z (Hp X C (a, b, e, o)) Q ↔ Wp d i nx ls (.int (e 83 k) :: r) z (Hp X C (a, b, e, o)) Q := by rw [r_64, hq_83, ia_n hk (by decide)]; exact Iff.rfl
theorem h65_83 (hk : k < 1280) : ExP d i (65, a0, b0, c0, t0) nx ls (.int x :: .int (nI k) :: .ref 83 :: r) z (Hp X C (a, b, e, o)) Q ↔ Wp d i nx ls (r) z (Hp X C (a, b, va_up e 83 (upd (e 83) k (x)), o)) Q := by
  rw [r_65, hq_83, is_n hk (by decide), ← hu_83]
  exact Iff.rfl
theorem h63_83 : ExP d i (63, a0, b0, c0, t0) nx ls (.ref 83 :: r) z (Hp X C (a, b, e, o)) Q ↔ Wp d i nx ls (.int (nI (1280)) :: r) z (Hp X C (a, b, e, o)) Q := by rw [r_63, hq_83]; exact Iff.rfl
theorem h64_84 (hk : k < 16384) : ExP d i (64, a0, b0, c0, t0) nx ls (.int (nI k) :: .ref 84 :: r) z (Hp X C (a, b, e, o)) Q ↔ Wp d i nx ls (.int (e 84 k) :: r) z (Hp X C (a, b, e, o)) Q := by rw [r_64, hq_84, ia_n hk (by decide)]; exact Iff.rfl
theorem h65_84 (hk : k < 16384) : ExP d i (65, a0, b0, c0, t0) nx ls (.int x :: .int (nI k) :: .ref 84 :: r) z (Hp X C (a, b, e, o)) Q ↔ Wp d i nx ls (r) z (Hp X C (a, b, va_up e 84 (upd (e 84) k (x)), o)) Q := by
  rw [r_65, hq_84, is_n hk (by decide), ← hu_84]
  exact Iff.rfl
theorem h63_84 : ExP d i (63, a0, b0, c0, t0) nx ls (.ref 84 :: r) z (Hp X C (a, b, e, o)) Q ↔ Wp d i nx ls (.int (nI (16384)) :: r) z (Hp X C (a, b, e, o)) Q := by rw [r_63, hq_84]; exact Iff.rfl
theorem h64_85 (hk : k < 16384) : ExP d i (64, a0, b0, c0, t0) nx ls (.int (nI k) :: .ref 85 :: r) z (Hp X C (a, b, e, o)) Q ↔ Wp d i nx ls (.int (e 85 k) :: r) z (Hp X C (a, b, e, o)) Q := by rw [r_64, hq_85, ia_n hk (by decide)]; exact Iff.rfl
theorem h65_85 (hk : k < 16384) : ExP d i (65, a0, b0, c0, t0) nx ls (.int x :: .int (nI k) :: .ref 85 :: r) z (Hp X C (a, b, e, o)) Q ↔ Wp d i nx ls (r) z (Hp X C (a, b, va_up e 85 (upd (e 85) k (x)), o)) Q := by
  rw [r_65, hq_85, is_n hk (by decide), ← hu_85]
  exact Iff.rfl
theorem h63_85 : ExP d i (63, a0, b0, c0, t0) nx ls (.ref 85 :: r) z (Hp X C (a, b, e, o)) Q ↔ Wp d i nx ls (.int (nI (16384)) :: r) z (Hp X C (a, b, e, o)) Q := by rw [r_63, hq_85]; exact Iff.rfl
theorem h64_86 (hk : k < 7168) : ExP d i (64, a0, b0, c0, t0) nx ls (.int (nI k) :: .ref 86 :: r) z (Hp X C (a, b, e, o)) Q ↔ Wp d i nx ls (.int (e 86 k) :: r) z (Hp X C (a, b, e, o)) Q := by rw [r_64, hq_86, ia_n hk (by decide)]; exact Iff.rfl
theorem h65_86 (hk : k < 7168) : ExP d i (65, a0, b0, c0, t0) nx ls (.int x :: .int (nI k) :: .ref 86 :: r) z (Hp X C (a, b, e, o)) Q ↔ Wp d i nx ls (r) z (Hp X C (a, b, va_up e 86 (upd (e 86) k (x)), o)) Q := by
  rw [r_65, hq_86, is_n hk (by decide), ← hu_86]
  exact Iff.rfl
theorem h63_86 : ExP d i (63, a0, b0, c0, t0) nx ls (.ref 86 :: r) z (Hp X C (a, b, e, o)) Q ↔ Wp d i nx ls (.int (nI (7168)) :: r) z (Hp X C (a, b, e, o)) Q := by rw [r_63, hq_86]; exact Iff.rfl
theorem h64_87 (hk : k < 7168) : ExP d i (64, a0, b0, c0, t0) nx ls (.int (nI k) :: .ref 87 :: r) z (Hp X C (a, b, e, o)) Q ↔ Wp d i nx ls (.int (e 87 k) :: r) z (Hp X C (a, b, e, o)) Q := by rw [r_64, hq_87, ia_n hk (by decide)]; exact Iff.rfl
theorem h65_87 (hk : k < 7168) : ExP d i (65, a0, b0, c0, t0) nx ls (.int x :: .int (nI k) :: .ref 87 :: r) z (Hp X C (a, b, e, o)) Q ↔ Wp d i nx ls (r) z (Hp X C (a, b, va_up e 87 (upd (e 87) k (x)), o)) Q := by
  rw [r_65, hq_87, is_n hk (by decide), ← hu_87]
  exact Iff.rfl
theorem h63_87 : ExP d i (63, a0, b0, c0, t0) nx ls (.ref 87 :: r) z (Hp X C (a, b, e, o)) Q ↔ Wp d i nx ls (.int (nI (7168)) :: r) z (Hp X C (a, b, e, o)) Q := by rw [r_63, hq_87]; exact Iff.rfl
theorem h64_cv {c : Nat} (h : c < 10) (hk : k < cap c) : ExP d i (64, a0, b0, c0, t0) nx ls (.int (nI k) :: .ref (cv c) :: r) z (Hp X (s, v, g, w, q, ct, cn, cc, di, dr, df, li, la, sf, sl) M) Q ↔ Wp d i nx ls (.int (cc c k) :: r) z (Hp X (s, v, g, w, q, ct, cn, cc, di, dr, df, li, la, sf, sl) M) Q := by rw [r_64, hq_cv h, ia_n hk (cap_le c)]; exact Iff.rfl
theorem h65_cv {c : Nat} (h : c < 10) (hk : k < cap c) : ExP d i (65, a0, b0, c0, t0) nx ls (.int x :: .int (nI k) :: .ref (cv c) :: r) z (Hp X (s, v, g, w, q, ct, cn, cc, di, dr, df, li, la, sf, sl) M) Q ↔ Wp d i nx ls (r) z (Hp X (s, v, g, w, q, ct, cn, va_up cc c (upd (cc c) k (x)), di, dr, df, li, la, sf, sl) M) Q := by
  rw [r_65, hq_cv h, is_n hk (cap_le c), ← hu_cv h]
  exact Iff.rfl
theorem h63_cv {c : Nat} (h : c < 10) : ExP d i (63, a0, b0, c0, t0) nx ls (.ref (cv c) :: r) z (Hp X (s, v, g, w, q, ct, cn, cc, di, dr, df, li, la, sf, sl) M) Q ↔ Wp d i nx ls (.int (nI (cap c)) :: r) z (Hp X (s, v, g, w, q, ct, cn, cc, di, dr, df, li, la, sf, sl) M) Q := by rw [r_63, hq_cv h]; exact Iff.rfl
theorem h64_dr {c : Nat} (h : c < 4) (hk : k < 40) : ExP d i (64, a0, b0, c0, t0) nx ls (.int (nI k) :: .ref (dro c) :: r) z (Hp X (s, v, g, w, q, ct, cn, cc, di, dr, df, li, la, sf, sl) M) Q ↔ Wp d i nx ls (.int (dr c k) :: r) z (Hp X (s, v, g, w, q, ct, cn, cc, di, dr, df, li, la, sf, sl) M) Q := by rw [r_64, hq_dr h, ia_n hk (by decide)]; exact Iff.rfl
theorem h65_dr {c : Nat} (h : c < 4) (hk : k < 40) : ExP d i (65, a0, b0, c0, t0) nx ls (.int x :: .int (nI k) :: .ref (dro c) :: r) z (Hp X (s, v, g, w, q, ct, cn, cc, di, dr, df, li, la, sf, sl) M) Q ↔ Wp d i nx ls (r) z (Hp X (s, v, g, w, q, ct, cn, cc, di, va_up dr c (upd (dr c) k (x)), df, li, la, sf, sl) M) Q := by
  rw [r_65, hq_dr h, is_n hk (by decide), ← hu_dr h]
  exact Iff.rfl
theorem h63_dr {c : Nat} (h : c < 4) : ExP d i (63, a0, b0, c0, t0) nx ls (.ref (dro c) :: r) z (Hp X (s, v, g, w, q, ct, cn, cc, di, dr, df, li, la, sf, sl) M) Q ↔ Wp d i nx ls (.int (nI (40)) :: r) z (Hp X (s, v, g, w, q, ct, cn, cc, di, dr, df, li, la, sf, sl) M) Q := by rw [r_63, hq_dr h]; exact Iff.rfl
theorem h64_df {c : Nat} (h : c < 4) (hk : k < 40) : ExP d i (64, a0, b0, c0, t0) nx ls (.int (nI k) :: .ref (dfo c) :: r) z (Hp X (s, v, g, w, q, ct, cn, cc, di, dr, df, li, la, sf, sl) M) Q ↔ Wp d i nx ls (.int (df c k) :: r) z (Hp X (s, v, g, w, q, ct, cn, cc, di, dr, df, li, la, sf, sl) M) Q := by rw [r_64, hq_df h, ia_n hk (by decide)]; exact Iff.rfl
theorem h65_df {c : Nat} (h : c < 4) (hk : k < 40) : ExP d i (65, a0, b0, c0, t0) nx ls (.int x :: .int (nI k) :: .ref (dfo c) :: r) z (Hp X (s, v, g, w, q, ct, cn, cc, di, dr, df, li, la, sf, sl) M) Q ↔ Wp d i nx ls (r) z (Hp X (s, v, g, w, q, ct, cn, cc, di, dr, va_up df c (upd (df c) k (x)), li, la, sf, sl) M) Q := by
  rw [r_65, hq_df h, is_n hk (by decide), ← hu_df h]
  exact Iff.rfl
theorem h63_df {c : Nat} (h : c < 4) : ExP d i (63, a0, b0, c0, t0) nx ls (.ref (dfo c) :: r) z (Hp X (s, v, g, w, q, ct, cn, cc, di, dr, df, li, la, sf, sl) M) Q ↔ Wp d i nx ls (.int (nI (40)) :: r) z (Hp X (s, v, g, w, q, ct, cn, cc, di, dr, df, li, la, sf, sl) M) Q := by rw [r_63, hq_df h]; exact Iff.rfl
theorem h64_la0 {c : Nat} (h : c < 2) (hk : k < 10) : ExP d i (64, a0, b0, c0, t0) nx ls (.int (nI k) :: .ref (lao c 0) :: r) z (Hp X (s, v, g, w, q, ct, cn, cc, di, dr, df, li, la, sf, sl) M) Q ↔ Wp d i nx ls (.int (la c 0 k) :: r) z (Hp X (s, v, g, w, q, ct, cn, cc, di, dr, df, li, la, sf, sl) M) Q := by rw [r_64, hq_la0 h, ia_n hk (by decide)]; exact Iff.rfl
theorem h65_la0 {c : Nat} (h : c < 2) (hk : k < 10) : ExP d i (65, a0, b0, c0, t0) nx ls (.int x :: .int (nI k) :: .ref (lao c 0) :: r) z (Hp X (s, v, g, w, q, ct, cn, cc, di, dr, df, li, la, sf, sl) M) Q ↔ Wp d i nx ls (r) z (Hp X (s, v, g, w, q, ct, cn, cc, di, dr, df, li, va_up la c (va_up (la c) 0 (upd (la c 0) k (x))), sf, sl) M) Q := by
  rw [r_65, hq_la0 h, is_n hk (by decide), ← hu_la0 h]
  exact Iff.rfl
theorem h63_la0 {c : Nat} (h : c < 2) : ExP d i (63, a0, b0, c0, t0) nx ls (.ref (lao c 0) :: r) z (Hp X (s, v, g, w, q, ct, cn, cc, di, dr, df, li, la, sf, sl) M) Q ↔ Wp d i nx ls (.int (nI (10)) :: r) z (Hp X (s, v, g, w, q, ct, cn, cc, di, dr, df, li, la, sf, sl) M) Q := by rw [r_63, hq_la0 h]; exact Iff.rfl
theorem h64_la1 {c : Nat} (h : c < 2) (hk : k < 10) : ExP d i (64, a0, b0, c0, t0) nx ls (.int (nI k) :: .ref (lao c 1) :: r) z (Hp X (s, v, g, w, q, ct, cn, cc, di, dr, df, li, la, sf, sl) M) Q ↔ Wp d i nx ls (.int (la c 1 k) :: r) z (Hp X (s, v, g, w, q, ct, cn, cc, di, dr, df, li, la, sf, sl) M) Q := by rw [r_64, hq_la1 h, ia_n hk (by decide)]; exact Iff.rfl
theorem h65_la1 {c : Nat} (h : c < 2) (hk : k < 10) : ExP d i (65, a0, b0, c0, t0) nx ls (.int x :: .int (nI k) :: .ref (lao c 1) :: r) z (Hp X (s, v, g, w, q, ct, cn, cc, di, dr, df, li, la, sf, sl) M) Q ↔ Wp d i nx ls (r) z (Hp X (s, v, g, w, q, ct, cn, cc, di, dr, df, li, va_up la c (va_up (la c) 1 (upd (la c 1) k (x))), sf, sl) M) Q := by
  rw [r_65, hq_la1 h, is_n hk (by decide), ← hu_la1 h]
  exact Iff.rfl
theorem h63_la1 {c : Nat} (h : c < 2) : ExP d i (63, a0, b0, c0, t0) nx ls (.ref (lao c 1) :: r) z (Hp X (s, v, g, w, q, ct, cn, cc, di, dr, df, li, la, sf, sl) M) Q ↔ Wp d i nx ls (.int (nI (10)) :: r) z (Hp X (s, v, g, w, q, ct, cn, cc, di, dr, df, li, la, sf, sl) M) Q := by rw [r_63, hq_la1 h]; exact Iff.rfl
theorem h64_la2 {c : Nat} (h : c < 2) (hk : k < 10) : ExP d i (64, a0, b0, c0, t0) nx ls (.int (nI k) :: .ref (lao c 2) :: r) z (Hp X (s, v, g, w, q, ct, cn, cc, di, dr, df, li, la, sf, sl) M) Q ↔ Wp d i nx ls (.int (la c 2 k) :: r) z (Hp X (s, v, g, w, q, ct, cn, cc, di, dr, df, li, la, sf, sl) M) Q := by rw [r_64, hq_la2 h, ia_n hk (by decide)]; exact Iff.rfl
theorem h65_la2 {c : Nat} (h : c < 2) (hk : k < 10) : ExP d i (65, a0, b0, c0, t0) nx ls (.int x :: .int (nI k) :: .ref (lao c 2) :: r) z (Hp X (s, v, g, w, q, ct, cn, cc, di, dr, df, li, la, sf, sl) M) Q ↔ Wp d i nx ls (r) z (Hp X (s, v, g, w, q, ct, cn, cc, di, dr, df, li, va_up la c (va_up (la c) 2 (upd (la c 2) k (x))), sf, sl) M) Q := by
  rw [r_65, hq_la2 h, is_n hk (by decide), ← hu_la2 h]
  exact Iff.rfl
theorem h63_la2 {c : Nat} (h : c < 2) : ExP d i (63, a0, b0, c0, t0) nx ls (.ref (lao c 2) :: r) z (Hp X (s, v, g, w, q, ct, cn, cc, di, dr, df, li, la, sf, sl) M) Q ↔ Wp d i nx ls (.int (nI (10)) :: r) z (Hp X (s, v, g, w, q, ct, cn, cc, di, dr, df, li, la, sf, sl) M) Q := by rw [r_63, hq_la2 h]; exact Iff.rfl
theorem h64_la3 {c : Nat} (h : c < 2) (hk : k < 10) : ExP d i (64, a0, b0, c0, t0) nx ls (.int (nI k) :: .ref (lao c 3) :: r) z (Hp X (s, v, g, w, q, ct, cn, cc, di, dr, df, li, la, sf, sl) M) Q ↔ Wp d i nx ls (.int (la c 3 k) :: r) z (Hp X (s, v, g, w, q, ct, cn, cc, di, dr, df, li, la, sf, sl) M) Q := by rw [r_64, hq_la3 h, ia_n hk (by decide)]; exact Iff.rfl
theorem h65_la3 {c : Nat} (h : c < 2) (hk : k < 10) : ExP d i (65, a0, b0, c0, t0) nx ls (.int x :: .int (nI k) :: .ref (lao c 3) :: r) z (Hp X (s, v, g, w, q, ct, cn, cc, di, dr, df, li, la, sf, sl) M) Q ↔ Wp d i nx ls (r) z (Hp X (s, v, g, w, q, ct, cn, cc, di, dr, df, li, va_up la c (va_up (la c) 3 (upd (la c 3) k (x))), sf, sl) M) Q := by
  rw [r_65, hq_la3 h, is_n hk (by decide), ← hu_la3 h]
  exact Iff.rfl
theorem h63_la3 {c : Nat} (h : c < 2) : ExP d i (63, a0, b0, c0, t0) nx ls (.ref (lao c 3) :: r) z (Hp X (s, v, g, w, q, ct, cn, cc, di, dr, df, li, la, sf, sl) M) Q ↔ Wp d i nx ls (.int (nI (10)) :: r) z (Hp X (s, v, g, w, q, ct, cn, cc, di, dr, df, li, la, sf, sl) M) Q := by rw [r_63, hq_la3 h]; exact Iff.rfl
theorem h64_sf {c : Nat} (h : c < 2) (hk : k < 10) : ExP d i (64, a0, b0, c0, t0) nx ls (.int (nI k) :: .ref (sfo c) :: r) z (Hp X (s, v, g, w, q, ct, cn, cc, di, dr, df, li, la, sf, sl) M) Q ↔ Wp d i nx ls (.int (sf c k) :: r) z (Hp X (s, v, g, w, q, ct, cn, cc, di, dr, df, li, la, sf, sl) M) Q := by rw [r_64, hq_sf h, ia_n hk (by decide)]; exact Iff.rfl
theorem h65_sf {c : Nat} (h : c < 2) (hk : k < 10) : ExP d i (65, a0, b0, c0, t0) nx ls (.int x :: .int (nI k) :: .ref (sfo c) :: r) z (Hp X (s, v, g, w, q, ct, cn, cc, di, dr, df, li, la, sf, sl) M) Q ↔ Wp d i nx ls (r) z (Hp X (s, v, g, w, q, ct, cn, cc, di, dr, df, li, la, va_up sf c (upd (sf c) k (x)), sl) M) Q := by
  rw [r_65, hq_sf h, is_n hk (by decide), ← hu_sf h]
  exact Iff.rfl
theorem h63_sf {c : Nat} (h : c < 2) : ExP d i (63, a0, b0, c0, t0) nx ls (.ref (sfo c) :: r) z (Hp X (s, v, g, w, q, ct, cn, cc, di, dr, df, li, la, sf, sl) M) Q ↔ Wp d i nx ls (.int (nI (10)) :: r) z (Hp X (s, v, g, w, q, ct, cn, cc, di, dr, df, li, la, sf, sl) M) Q := by rw [r_63, hq_sf h]; exact Iff.rfl
theorem h64_sl {c : Nat} (h : c < 2) (hk : k < 70) : ExP d i (64, a0, b0, c0, t0) nx ls (.int (nI k) :: .ref (slo c) :: r) z (Hp X (s, v, g, w, q, ct, cn, cc, di, dr, df, li, la, sf, sl) M) Q ↔ Wp d i nx ls (.int (sl c k) :: r) z (Hp X (s, v, g, w, q, ct, cn, cc, di, dr, df, li, la, sf, sl) M) Q := by rw [r_64, hq_sl h, ia_n hk (by decide)]; exact Iff.rfl
theorem h65_sl {c : Nat} (h : c < 2) (hk : k < 70) : ExP d i (65, a0, b0, c0, t0) nx ls (.int x :: .int (nI k) :: .ref (slo c) :: r) z (Hp X (s, v, g, w, q, ct, cn, cc, di, dr, df, li, la, sf, sl) M) Q ↔ Wp d i nx ls (r) z (Hp X (s, v, g, w, q, ct, cn, cc, di, dr, df, li, la, sf, va_up sl c (upd (sl c) k (x))) M) Q := by
  rw [r_65, hq_sl h, is_n hk (by decide), ← hu_sl h]
  exact Iff.rfl
theorem h63_sl {c : Nat} (h : c < 2) : ExP d i (63, a0, b0, c0, t0) nx ls (.ref (slo c) :: r) z (Hp X (s, v, g, w, q, ct, cn, cc, di, dr, df, li, la, sf, sl) M) Q ↔ Wp d i nx ls (.int (nI (70)) :: r) z (Hp X (s, v, g, w, q, ct, cn, cc, di, dr, df, li, la, sf, sl) M) Q := by rw [r_63, hq_sl h]; exact Iff.rfl
theorem h64_cs {c : Nat} (h : c < 2) (hk : k < 7) : ExP d i (64, a0, b0, c0, t0) nx ls (.int (nI k) :: .ref (cst c) :: r) z (Hp X (s, v, g, w, q, ct, cn, cc, di, dr, df, li, la, sf, sl) M) Q ↔ Wp d i nx ls (.int (g c k) :: r) z (Hp X (s, v, g, w, q, ct, cn, cc, di, dr, df, li, la, sf, sl) M) Q := by rw [r_64, hq_cs h, ia_n hk (by decide)]; exact Iff.rfl
theorem h65_cs {c : Nat} (h : c < 2) (hk : k < 7) : ExP d i (65, a0, b0, c0, t0) nx ls (.int x :: .int (nI k) :: .ref (cst c) :: r) z (Hp X (s, v, g, w, q, ct, cn, cc, di, dr, df, li, la, sf, sl) M) Q ↔ Wp d i nx ls (r) z (Hp X (s, v, va_up g c (upd (g c) k (x)), w, q, ct, cn, cc, di, dr, df, li, la, sf, sl) M) Q := by
  rw [r_65, hq_cs h, is_n hk (by decide), ← hu_cs h]
  exact Iff.rfl
theorem h63_cs {c : Nat} (h : c < 2) : ExP d i (63, a0, b0, c0, t0) nx ls (.ref (cst c) :: r) z (Hp X (s, v, g, w, q, ct, cn, cc, di, dr, df, li, la, sf, sl) M) Q ↔ Wp d i nx ls (.int (nI (7)) :: r) z (Hp X (s, v, g, w, q, ct, cn, cc, di, dr, df, li, la, sf, sl) M) Q := by rw [r_63, hq_cs h]; exact Iff.rfl
theorem h64_90 (hq : q 10 ≠ 0) (hk : k < 1024) : ExP d i (64, a0, b0, c0, t0) nx ls (.int (nI k) :: .ref 90 :: r) z (Hp X (s, v, g, w, q, ct, cn, cc, di, dr, df, li, la, sf, sl) M) Q ↔ Wp d i nx ls (.int (g 90 k) :: r) z (Hp X (s, v, g, w, q, ct, cn, cc, di, dr, df, li, la, sf, sl) M) Q := by rw [r_64, hq_90 hq, ia_n hk (by decide)]; exact Iff.rfl
theorem h65_90 (hq : q 10 ≠ 0) (hk : k < 1024) : ExP d i (65, a0, b0, c0, t0) nx ls (.int x :: .int (nI k) :: .ref 90 :: r) z (Hp X (s, v, g, w, q, ct, cn, cc, di, dr, df, li, la, sf, sl) M) Q ↔ Wp d i nx ls (r) z (Hp X (s, v, va_up g 90 (upd (g 90) k (x)), w, q, ct, cn, cc, di, dr, df, li, la, sf, sl) M) Q := by
  rw [r_65, hq_90 hq, is_n hk (by decide), ← hu_90 hq]
  exact Iff.rfl
theorem h63_90 (hq : q 10 ≠ 0) : ExP d i (63, a0, b0, c0, t0) nx ls (.ref 90 :: r) z (Hp X (s, v, g, w, q, ct, cn, cc, di, dr, df, li, la, sf, sl) M) Q ↔ Wp d i nx ls (.int (nI (1024)) :: r) z (Hp X (s, v, g, w, q, ct, cn, cc, di, dr, df, li, la, sf, sl) M) Q := by rw [r_63, hq_90 hq]; exact Iff.rfl
theorem h64_to {c : Nat} (h : c < 2) (hq : q 10 ≠ 0) (hk : k < 1024) : ExP d i (64, a0, b0, c0, t0) nx ls (.int (nI k) :: .ref (tor c) :: r) z (Hp X (s, v, g, w, q, ct, cn, cc, di, dr, df, li, la, sf, sl) M) Q ↔ Wp d i nx ls (.int (g (91 + c) k) :: r) z (Hp X (s, v, g, w, q, ct, cn, cc, di, dr, df, li, la, sf, sl) M) Q := by rw [r_64, hq_to h hq, ia_n hk (by decide)]; exact Iff.rfl
theorem h65_to {c : Nat} (h : c < 2) (hq : q 10 ≠ 0) (hk : k < 1024) : ExP d i (65, a0, b0, c0, t0) nx ls (.int x :: .int (nI k) :: .ref (tor c) :: r) z (Hp X (s, v, g, w, q, ct, cn, cc, di, dr, df, li, la, sf, sl) M) Q ↔ Wp d i nx ls (r) z (Hp X (s, v, va_up g (91 + c) (upd (g (91 + c)) k (x)), w, q, ct, cn, cc, di, dr, df, li, la, sf, sl) M) Q := by
  rw [r_65, hq_to h hq, is_n hk (by decide), ← hu_tor h hq]
  exact Iff.rfl
theorem h63_to {c : Nat} (h : c < 2) (hq : q 10 ≠ 0) : ExP d i (63, a0, b0, c0, t0) nx ls (.ref (tor c) :: r) z (Hp X (s, v, g, w, q, ct, cn, cc, di, dr, df, li, la, sf, sl) M) Q ↔ Wp d i nx ls (.int (nI (1024)) :: r) z (Hp X (s, v, g, w, q, ct, cn, cc, di, dr, df, li, la, sf, sl) M) Q := by rw [r_63, hq_to h hq]; exact Iff.rfl
theorem h66_ta {c : Nat} (h : c < 2) (hk : k < 7) : ExP d i (66, a0, b0, c0, t0) nx ls (.int (nI k) :: .ref (tao c) :: r) z (Hp X (s, v, g, w, q, ct, cn, cc, di, dr, df, li, la, sf, sl) M) Q ↔ Wp d i nx ls (.long (w c k) :: r) z (Hp X (s, v, g, w, q, ct, cn, cc, di, dr, df, li, la, sf, sl) M) Q := by rw [r_66, hq_ta h, la_n hk (by decide)]; exact Iff.rfl
theorem h67_ta {c : Nat} (h : c < 2) (hk : k < 7) : ExP d i (67, a0, b0, c0, t0) nx ls (.long y :: .int (nI k) :: .ref (tao c) :: r) z (Hp X (s, v, g, w, q, ct, cn, cc, di, dr, df, li, la, sf, sl) M) Q ↔ Wp d i nx ls (r) z (Hp X (s, v, g, va_up w c (vp_updL (w c) k y), q, ct, cn, cc, di, dr, df, li, la, sf, sl) M) Q := by
  rw [r_67, hq_ta h, lst_n hk (by decide), ← hu_ta h]
  exact Iff.rfl
theorem h66_79 (hk : k < 7) : ExP d i (66, a0, b0, c0, t0) nx ls (.int (nI k) :: .ref 79 :: r) z (Hp X C (a, b, e, o)) Q ↔ Wp d i nx ls (.long (o 79 k) :: r) z (Hp X C (a, b, e, o)) Q := by rw [r_66, hq_79, la_n hk (by decide)]; exact Iff.rfl
theorem h67_79 (hk : k < 7) : ExP d i (67, a0, b0, c0, t0) nx ls (.long y :: .int (nI k) :: .ref 79 :: r) z (Hp X C (a, b, e, o)) Q ↔ Wp d i nx ls (r) z (Hp X C (a, b, e, va_up o 79 (vp_updL (o 79) k y))) Q := by
  rw [r_67, hq_79, lst_n hk (by decide), ← hu_79]
  exact Iff.rfl
theorem h66_80 (hk : k < 7) : ExP d i (66, a0, b0, c0, t0) nx ls (.int (nI k) :: .ref 80 :: r) z (Hp X C (a, b, e, o)) Q ↔ Wp d i nx ls (.long (o 80 k) :: r) z (Hp X C (a, b, e, o)) Q := by rw [r_66, hq_80, la_n hk (by decide)]; exact Iff.rfl
theorem h67_80 (hk : k < 7) : ExP d i (67, a0, b0, c0, t0) nx ls (.long y :: .int (nI k) :: .ref 80 :: r) z (Hp X C (a, b, e, o)) Q ↔ Wp d i nx ls (r) z (Hp X C (a, b, e, va_up o 80 (vp_updL (o 80) k y))) Q := by
  rw [r_67, hq_80, lst_n hk (by decide), ← hu_80]
  exact Iff.rfl
theorem h70_88 (hk : k < 49) : ExP d i (70, a0, b0, c0, t0) nx ls (.int (nI k) :: .ref 88 :: r) z (Hp X C (a, b, e, o)) Q ↔ Wp d i nx ls (.int (e 88 k) :: r) z (Hp X C (a, b, e, o)) Q := by rw [r_70, hq_88, za_n hk (by decide)]; exact Iff.rfl
theorem h71_88_0 (hk : k < 49) : ExP d i (71, a0, b0, c0, t0) nx ls (.int (nI 0) :: .int (nI k) :: .ref 88 :: r) z (Hp X C (a, b, e, o)) Q ↔ Wp d i nx ls (r) z (Hp X C (a, b, va_up e 88 (upd (e 88) k (nI 0)), o)) Q := by
  rw [r_71, hq_88, zs_n (by decide) hk (by decide), ← hu_88]
  exact Iff.rfl
theorem h71_88_1 (hk : k < 49) : ExP d i (71, a0, b0, c0, t0) nx ls (.int (nI 1) :: .int (nI k) :: .ref 88 :: r) z (Hp X C (a, b, e, o)) Q ↔ Wp d i nx ls (r) z (Hp X C (a, b, va_up e 88 (upd (e 88) k (nI 1)), o)) Q := by
  rw [r_71, hq_88, zs_n (by decide) hk (by decide), ← hu_88]
  exact Iff.rfl
theorem h64_L (hk : k < 6) : ExP d i (64, a0, b0, c0, t0) nx ls (.int (nI k) :: .ref 1000001 :: r) z (Hp X C M) Q ↔ Wp d i nx ls (.int (letters k) :: r) z (Hp X C M) Q := by rw [r_64, hq_L, ia_9 hk (by decide)]; exact Iff.rfl
theorem h63_L : ExP d i (63, a0, b0, c0, t0) nx ls (.ref 1000001 :: r) z (Hp X C M) Q ↔ Wp d i nx ls (.int (nI 6) :: r) z (Hp X C M) Q := by rw [r_63, hq_L]; exact Iff.rfl
theorem h64_X (hk : k < X.1) (hX : X.1 ≤ 65536) : ExP d i (64, a0, b0, c0, t0) nx ls (.int (nI k) :: .ref 1000000 :: r) z (Hp X C M) Q ↔ Wp d i nx ls (.int (X.2 k) :: r) z (Hp X C M) Q := by rw [r_64, hq_X, ia_9 hk hX]; exact Iff.rfl
theorem h63_X : ExP d i (63, a0, b0, c0, t0) nx ls (.ref 1000000 :: r) z (Hp X C M) Q ↔ Wp d i nx ls (.int (nI X.1) :: r) z (Hp X C M) Q := by rw [r_63, hq_X]; exact Iff.rfl
theorem h68_1 (hk : k < 6) : ExP d i (68, a0, b0, c0, t0) nx ls (.int (nI k) :: .ref 1 :: r) z (Hp X (s, v, g, w, q, ct, cn, cc, di, dr, df, li, la, sf, sl) M) Q ↔ Wp d i nx ls (.ref (co k) :: r) z (Hp X (s, v, g, w, q, ct, cn, cc, di, dr, df, li, la, sf, sl) M) Q := by
  rw [r_68, hq_1, qa_n (by decide) hk (by decide), if_pos hk]
  exact Iff.rfl
theorem h63_1 : ExP d i (63, a0, b0, c0, t0) nx ls (.ref 1 :: r) z (Hp X (s, v, g, w, q, ct, cn, cc, di, dr, df, li, la, sf, sl) M) Q ↔ Wp d i nx ls (.int (nI 6) :: r) z (Hp X (s, v, g, w, q, ct, cn, cc, di, dr, df, li, la, sf, sl) M) Q := by rw [r_63, hq_1]; exact Iff.rfl
theorem h68_2 (hk : k < 4) : ExP d i (68, a0, b0, c0, t0) nx ls (.int (nI k) :: .ref 2 :: r) z (Hp X (s, v, g, w, q, ct, cn, cc, di, dr, df, li, la, sf, sl) M) Q ↔ Wp d i nx ls (.ref (co (6 + k)) :: r) z (Hp X (s, v, g, w, q, ct, cn, cc, di, dr, df, li, la, sf, sl) M) Q := by
  rw [r_68, hq_2, qa_n (by decide) hk (by decide), if_pos hk]
  exact Iff.rfl
theorem h63_2 : ExP d i (63, a0, b0, c0, t0) nx ls (.ref 2 :: r) z (Hp X (s, v, g, w, q, ct, cn, cc, di, dr, df, li, la, sf, sl) M) Q ↔ Wp d i nx ls (.int (nI 4) :: r) z (Hp X (s, v, g, w, q, ct, cn, cc, di, dr, df, li, la, sf, sl) M) Q := by rw [r_63, hq_2]; exact Iff.rfl
theorem h68_12 (hk : k < 3) : ExP d i (68, a0, b0, c0, t0) nx ls (.int (nI k) :: .ref 12 :: r) z (Hp X (s, v, g, w, q, ct, cn, cc, di, dr, df, li, la, sf, sl) M) Q ↔ Wp d i nx ls (.ref (dob (1 + k)) :: r) z (Hp X (s, v, g, w, q, ct, cn, cc, di, dr, df, li, la, sf, sl) M) Q := by
  rw [r_68, hq_12, qa_n (by decide) hk (by decide), if_pos hk]
  exact Iff.rfl
theorem h63_12 : ExP d i (63, a0, b0, c0, t0) nx ls (.ref 12 :: r) z (Hp X (s, v, g, w, q, ct, cn, cc, di, dr, df, li, la, sf, sl) M) Q ↔ Wp d i nx ls (.int (nI 3) :: r) z (Hp X (s, v, g, w, q, ct, cn, cc, di, dr, df, li, la, sf, sl) M) Q := by rw [r_63, hq_12]; exact Iff.rfl
theorem h81_cc {c j : Nat} (h : c < 10) (hj : j < 10) {p1 p2 : Nat} (hs : p1 + k ≤ cap c) (hd : p2 + k ≤ cap j) : ExP d i (81, a0, b0, c0, t0) nx ls [.int (nI k), .int (nI p2), .ref (cv j), .int (nI p1), .ref (cv c)] z (Hp X (s, v, g, w, q, ct, cn, cc, di, dr, df, li, la, sf, sl) M) Q ↔ Wp d i nx ls ([]) z (Hp X (s, v, g, w, q, ct, cn, va_up cc j (va_cpy (cc c) (cc j) p1 p2 k), di, dr, df, li, la, sf, sl) M) Q := by
  rw [s_81, hq_cv h, hq_cv hj, cpy_n (cap_le _) (cap_le _) hs hd, ← hu_cv hj]
  exact Iff.rfl
theorem h81_tc {j : Nat} (hj : j < 10) {p1 p2 : Nat} (hs : p1 + k ≤ 40) (hd : p2 + k ≤ cap j) : ExP d i (81, a0, b0, c0, t0) nx ls [.int (nI k), .int (nI p2), .ref (cv j), .int (nI p1), .ref 31] z (Hp X (s, v, g, w, q, ct, cn, cc, di, dr, df, li, la, sf, sl) M) Q ↔ Wp d i nx ls ([]) z (Hp X (s, v, g, w, q, ct, cn, va_up cc j (va_cpy (g 31) (cc j) p1 p2 k), di, dr, df, li, la, sf, sl) M) Q := by
  rw [s_81, hq_31, hq_cv hj, cpy_n (by decide) (cap_le _) hs hd, ← hu_cv hj]
  exact Iff.rfl
theorem h81_fc {c j : Nat} (h : c < 4) (hj : j < 10) {p1 p2 : Nat} (hs : p1 + k ≤ 40) (hd : p2 + k ≤ cap j) : ExP d i (81, a0, b0, c0, t0) nx ls [.int (nI k), .int (nI p2), .ref (cv j), .int (nI p1), .ref (dfo c)] z (Hp X (s, v, g, w, q, ct, cn, cc, di, dr, df, li, la, sf, sl) M) Q ↔ Wp d i nx ls ([]) z (Hp X (s, v, g, w, q, ct, cn, va_up cc j (va_cpy (df c) (cc j) p1 p2 k), di, dr, df, li, la, sf, sl) M) Q := by
  rw [s_81, hq_df h, hq_cv hj, cpy_n (by decide) (cap_le _) hs hd, ← hu_cv hj]
  exact Iff.rfl
theorem h81_rr {c j : Nat} (h : c < 4) (hj : j < 4) {p1 p2 : Nat} (hs : p1 + k ≤ 40) (hd : p2 + k ≤ 40) : ExP d i (81, a0, b0, c0, t0) nx ls [.int (nI k), .int (nI p2), .ref (dro j), .int (nI p1), .ref (dro c)] z (Hp X (s, v, g, w, q, ct, cn, cc, di, dr, df, li, la, sf, sl) M) Q ↔ Wp d i nx ls ([]) z (Hp X (s, v, g, w, q, ct, cn, cc, di, va_up dr j (va_cpy (dr c) (dr j) p1 p2 k), df, li, la, sf, sl) M) Q := by
  rw [s_81, hq_dr h, hq_dr hj, cpy_n (by decide) (by decide) hs hd, ← hu_dr hj]
  exact Iff.rfl
theorem h81_ff {c j : Nat} (h : c < 4) (hj : j < 4) {p1 p2 : Nat} (hs : p1 + k ≤ 40) (hd : p2 + k ≤ 40) : ExP d i (81, a0, b0, c0, t0) nx ls [.int (nI k), .int (nI p2), .ref (dfo j), .int (nI p1), .ref (dfo c)] z (Hp X (s, v, g, w, q, ct, cn, cc, di, dr, df, li, la, sf, sl) M) Q ↔ Wp d i nx ls ([]) z (Hp X (s, v, g, w, q, ct, cn, cc, di, dr, va_up df j (va_cpy (df c) (df j) p1 p2 k), li, la, sf, sl) M) Q := by
  rw [s_81, hq_df h, hq_df hj, cpy_n (by decide) (by decide) hs hd, ← hu_df hj]
  exact Iff.rfl
end

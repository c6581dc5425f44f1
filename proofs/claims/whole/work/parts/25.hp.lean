/-! printed by wip/gen25.py: the canonical heap: every state of class and model as registers -/
abbrev CT : Type := (Nat → Int32) × (Nat → Int64) × (Nat → Nat → Int32) × (Nat → Nat → Int64) × (Nat → Nat) × (Nat → Int32) × (Nat → Int32) × (Nat → Nat → Int32) × (Nat → Nat → Int32) × (Nat → Nat → Int32) × (Nat → Nat → Int32) × (Nat → Nat → Int32) × (Nat → Nat → Nat → Int32) × (Nat → Nat → Int32) × (Nat → Nat → Int32)
abbrev MT : Type := (Nat → Int32) × (Nat → Int64) × (Nat → Nat → Int32) × (Nat → Nat → Int64)
/-- addresses: cells (rows 0 to 5, texts 6 to 9), drives (0, kept 1 to 3), lands, senses, tallies, costs, tours -/
def co (c : Nat) : Nat := 38 + 2 * c
def cv (c : Nat) : Nat := 39 + 2 * c
def cap (c : Nat) : Nat := if c < 6 then 40 else 80
def dob (n : Nat) : Nat := if n = 0 then 9 else 55 + 3 * n
def dro (n : Nat) : Nat := dob n + 1
def dfo (n : Nat) : Nat := dob n + 2
def lo (l : Nat) : Nat := if l = 0 then 4 else 33
def lao (l m : Nat) : Nat := lo l + 1 + m
def so (n : Nat) : Nat := 13 + 3 * n
def sfo (n : Nat) : Nat := 14 + 3 * n
def slo (n : Nat) : Nat := 15 + 3 * n
def tao (n : Nat) : Nat := 20 + n
def cst (n : Nat) : Nat := 23 + n
def tor (n : Nat) : Nat := 91 + n
def tvl (n : Nat) : Value := if n = 0 then .null else .ref 89
def svl (n : Nat) : Value := if n = 99 then .null else .ref (co n)
def hpa (s : Nat → Int32) (v : Nat → Int64) (g : Nat → Nat → Int32) (w : Nat → Nat → Int64) (q : Nat → Nat) (ct : Nat → Int32) (cn : Nat → Int32) (cc : Nat → Nat → Int32) (di : Nat → Nat → Int32) (dr : Nat → Nat → Int32) (df : Nat → Nat → Int32) (li : Nat → Nat → Int32) (la : Nat → Nat → Nat → Int32) (sf : Nat → Nat → Int32) (sl : Nat → Nat → Int32) (a : Nat → Int32) (b : Nat → Int64) (e : Nat → Nat → Int32) (o : Nat → Nat → Int64) : List AE := [
  oB 9 [.ref 1, .ref 2, .ref 3, .ref 9, .ref 12, .ref 13, .ref 16, .ref 19, .ref 22, .ref 25, .ref 31, .ref 32, .ref (lo (q 0)), tvl (q 7), .int (s 14), .int (s 15), .long (v 16), .long (v 17), .int (s 18)],
  rA 3 6 (fun k => if k < 6 then some (co k) else none),
  rA 3 4 (fun k => if k < 4 then some (co (6 + k)) else none),
  oB 5 [.ref (lo (q 1)), svl (q 2), .int (s 20)],
  oB 3 [.ref 5, .ref 6, .ref 7, .ref 8, .int (li 0 0), .int (li 0 1)],
  iA 10 (la 0 0),
  iA 10 (la 0 1),
  iA 10 (la 0 2),
  iA 10 (la 0 3),
  oB 2 [.ref 10, .ref 11, .int (di 0 2), .int (di 0 3), .int (di 0 4), .int (di 0 5)],
  iA 40 (dr 0),
  iA 40 (df 0),
  rA 4 3 (fun k => if k < 3 then some (dob (1 + k)) else none),
  oB 6 [.ref 14, .ref 15],
  iA 10 (sf 0),
  iA 70 (sl 0),
  oB 6 [.ref 17, .ref 18],
  iA 10 (sf 1),
  iA 70 (sl 1),
  oB 7 [.ref (tao (q 3)), .ref (tao (q 4))],
  lA 7 (w 0),
  lA 7 (w 1),
  oB 1 [.ref (cst (q 5)), .ref (cst (q 6))],
  iA 7 (g 0),
  iA 7 (g 1),
  oB 4 [.ref 26, .ref 27, .int (s 21), .ref 28, .ref 29, .ref 30, .int (s 22)],
  iA 7 (g 26),
  iA 7 (g 27),
  iA 128 (g 28),
  iA 128 (g 29),
  iA 128 (g 30),
  iA 40 (g 31),
  iA 6 (g 32),
  oB 3 [.ref 34, .ref 35, .ref 36, .ref 37, .int (li 1 0), .int (li 1 1)],
  iA 10 (la 1 0),
  iA 10 (la 1 1),
  iA 10 (la 1 2),
  iA 10 (la 1 3),
  oB 0 [.ref 39, .int (ct 0), .int (cn 0)],
  iA 40 (cc 0),
  oB 0 [.ref 41, .int (ct 1), .int (cn 1)],
  iA 40 (cc 1),
  oB 0 [.ref 43, .int (ct 2), .int (cn 2)],
  iA 40 (cc 2),
  oB 0 [.ref 45, .int (ct 3), .int (cn 3)],
  iA 40 (cc 3),
  oB 0 [.ref 47, .int (ct 4), .int (cn 4)],
  iA 40 (cc 4),
  oB 0 [.ref 49, .int (ct 5), .int (cn 5)],
  iA 40 (cc 5),
  oB 0 [.ref 51, .int (ct 6), .int (cn 6)],
  iA 80 (cc 6),
  oB 0 [.ref 53, .int (ct 7), .int (cn 7)],
  iA 80 (cc 7),
  oB 0 [.ref 55, .int (ct 8), .int (cn 8)],
  iA 80 (cc 8),
  oB 0 [.ref 57, .int (ct 9), .int (cn 9)],
  iA 80 (cc 9),
  oB 2 [.ref 59, .ref 60, .int (di 1 2), .int (di 1 3), .int (di 1 4), .int (di 1 5)],
  iA 40 (dr 1),
  iA 40 (df 1),
  oB 2 [.ref 62, .ref 63, .int (di 2 2), .int (di 2 3), .int (di 2 4), .int (di 2 5)],
  iA 40 (dr 2),
  iA 40 (df 2),
  oB 2 [.ref 65, .ref 66, .int (di 3 2), .int (di 3 3), .int (di 3 4), .int (di 3 5)],
  iA 40 (dr 3),
  iA 40 (df 3),
  oB 10 [.int (a 0), .ref 68, .int (a 2), .long (b 3), .long (b 4), .ref 69, .ref 70, .ref 71, .ref 72, .ref 73, .int (a 10), .int (a 11), .int (a 12), .ref 74, .int (a 14), .int (a 15), .int (a 16), .int (a 17), .int (a 18), .ref 75, .ref 76, .ref 77, .ref 78, .ref 79, .ref 80, .ref 81, .ref 82, .ref 83, .ref 84, .ref 85, .int (a 30), .int (a 31), .int (a 32), .int (a 33), .ref 86, .ref 87, .ref 88, .long (b 37)],
  iA 6 (e 68),
  iA 6 (e 69),
  iA 240 (e 70),
  iA 40 (e 71),
  iA 4 (e 72),
  iA 320 (e 73),
  iA 80 (e 74),
  iA 40 (e 75),
  iA 40 (e 76),
  iA 41 (e 77),
  iA 246 (e 78),
  lA 7 (o 79),
  lA 7 (o 80),
  iA 7 (e 81),
  iA 7 (e 82),
  iA 1280 (e 83),
  iA 16384 (e 84),
  iA 16384 (e 85),
  iA 7168 (e 86),
  iA 7168 (e 87),
  zA 49 (e 88),
  if q 10 = 0 then vd else oB 8 [.int (s 23), .ref 90, .ref (tor (q 8)), .ref (tor (q 9))],
  if q 10 = 0 then vd else iA 1024 (g 90),
  if q 10 = 0 then vd else iA 1024 (g 91),
  if q 10 = 0 then vd else iA 1024 (g 92)]
def hpl (C : CT) (M : MT) : List AE := hpa (C.1) (C.2.1) (C.2.2.1) (C.2.2.2.1) (C.2.2.2.2.1) (C.2.2.2.2.2.1) (C.2.2.2.2.2.2.1) (C.2.2.2.2.2.2.2.1) (C.2.2.2.2.2.2.2.2.1) (C.2.2.2.2.2.2.2.2.2.1) (C.2.2.2.2.2.2.2.2.2.2.1) (C.2.2.2.2.2.2.2.2.2.2.2.1) (C.2.2.2.2.2.2.2.2.2.2.2.2.1) (C.2.2.2.2.2.2.2.2.2.2.2.2.2.1) (C.2.2.2.2.2.2.2.2.2.2.2.2.2.2) (M.1) (M.2.1) (M.2.2.1) (M.2.2.2)
def Hp (X : Nat × (Nat → Int32)) (C : CT) (M : MT) : AH := fun k => if k < 93 then (hpl C M).getD k vd else if k = 1000000 then cA9 X.1 X.2 else if k = 1000001 then cA9 6 letters else vd
theorem hpl_len (C : CT) (M : MT) : (hpl C M).length = 93 := rfl
theorem hp_lt {X : Nat × (Nat → Int32)} {C : CT} {M : MT} {k : Nat} (h : k < 93) : Hp X C M k = (hpl C M).getD k vd := if_pos h
theorem hp_up {X : Nat × (Nat → Int32)} {C C' : CT} {M M' : MT} {k : Nat} {E : AE} (h : k < 93) (he : (hpl C M).set k E = hpl C' M') : va_up (Hp X C M) k E = Hp X C' M' := by
  funext j
  by_cases hj : j = k
  · subst hj
    rw [up_s, hp_lt h, ← he]
    have h1 := hpl_len C M
    simp [List.getD, List.getElem?_set, h1, h]
  · rw [up_n _ _ hj]
    unfold Hp
    by_cases h2 : j < 93
    · rw [if_pos h2, if_pos h2, ← he]
      simp [List.getD, List.getElem?_set, Ne.symm hj]
    · rw [if_neg h2, if_neg h2]
section
variable {X : Nat × (Nat → Int32)} {C : CT} {M : MT} {s : Nat → Int32} {v : Nat → Int64} {g : Nat → Nat → Int32} {w : Nat → Nat → Int64} {q : Nat → Nat} {ct : Nat → Int32} {cn : Nat → Int32} {cc : Nat → Nat → Int32} {di : Nat → Nat → Int32} {dr : Nat → Nat → Int32} {df : Nat → Nat → Int32} {li : Nat → Nat → Int32} {la : Nat → Nat → Nat → Int32} {sf : Nat → Nat → Int32} {sl : Nat → Nat → Int32} {a : Nat → Int32} {b : Nat → Int64} {e : Nat → Nat → Int32} {o : Nat → Nat → Int64}
theorem hq_0 : Hp X (s, v, g, w, q, ct, cn, cc, di, dr, df, li, la, sf, sl) M 0 = oB 9 [.ref 1, .ref 2, .ref 3, .ref 9, .ref 12, .ref 13, .ref 16, .ref 19, .ref 22, .ref 25, .ref 31, .ref 32, .ref (lo (q 0)), tvl (q 7), .int (s 14), .int (s 15), .long (v 16), .long (v 17), .int (s 18)] := rfl
theorem hq_1 : Hp X (s, v, g, w, q, ct, cn, cc, di, dr, df, li, la, sf, sl) M 1 = rA 3 6 (fun k => if k < 6 then some (co k) else none) := rfl
theorem hq_2 : Hp X (s, v, g, w, q, ct, cn, cc, di, dr, df, li, la, sf, sl) M 2 = rA 3 4 (fun k => if k < 4 then some (co (6 + k)) else none) := rfl
theorem hq_3 : Hp X (s, v, g, w, q, ct, cn, cc, di, dr, df, li, la, sf, sl) M 3 = oB 5 [.ref (lo (q 1)), svl (q 2), .int (s 20)] := rfl
theorem hq_12 : Hp X (s, v, g, w, q, ct, cn, cc, di, dr, df, li, la, sf, sl) M 12 = rA 4 3 (fun k => if k < 3 then some (dob (1 + k)) else none) := rfl
theorem hq_19 : Hp X (s, v, g, w, q, ct, cn, cc, di, dr, df, li, la, sf, sl) M 19 = oB 7 [.ref (tao (q 3)), .ref (tao (q 4))] := rfl
theorem hq_20 : Hp X (s, v, g, w, q, ct, cn, cc, di, dr, df, li, la, sf, sl) M 20 = lA 7 (w 0) := rfl
theorem hq_21 : Hp X (s, v, g, w, q, ct, cn, cc, di, dr, df, li, la, sf, sl) M 21 = lA 7 (w 1) := rfl
theorem hq_22 : Hp X (s, v, g, w, q, ct, cn, cc, di, dr, df, li, la, sf, sl) M 22 = oB 1 [.ref (cst (q 5)), .ref (cst (q 6))] := rfl
theorem hq_23 : Hp X (s, v, g, w, q, ct, cn, cc, di, dr, df, li, la, sf, sl) M 23 = iA 7 (g 0) := rfl
theorem hq_24 : Hp X (s, v, g, w, q, ct, cn, cc, di, dr, df, li, la, sf, sl) M 24 = iA 7 (g 1) := rfl
theorem hq_25 : Hp X (s, v, g, w, q, ct, cn, cc, di, dr, df, li, la, sf, sl) M 25 = oB 4 [.ref 26, .ref 27, .int (s 21), .ref 28, .ref 29, .ref 30, .int (s 22)] := rfl
theorem hq_26 : Hp X (s, v, g, w, q, ct, cn, cc, di, dr, df, li, la, sf, sl) M 26 = iA 7 (g 26) := rfl
theorem hq_27 : Hp X (s, v, g, w, q, ct, cn, cc, di, dr, df, li, la, sf, sl) M 27 = iA 7 (g 27) := rfl
theorem hq_28 : Hp X (s, v, g, w, q, ct, cn, cc, di, dr, df, li, la, sf, sl) M 28 = iA 128 (g 28) := rfl
theorem hq_29 : Hp X (s, v, g, w, q, ct, cn, cc, di, dr, df, li, la, sf, sl) M 29 = iA 128 (g 29) := rfl
theorem hq_30 : Hp X (s, v, g, w, q, ct, cn, cc, di, dr, df, li, la, sf, sl) M 30 = iA 128 (g 30) := rfl
theorem hq_31 : Hp X (s, v, g, w, q, ct, cn, cc, di, dr, df, li, la, sf, sl) M 31 = iA 40 (g 31) := rfl
theorem hq_32 : Hp X (s, v, g, w, q, ct, cn, cc, di, dr, df, li, la, sf, sl) M 32 = iA 6 (g 32) := rfl
theorem hq_67 : Hp X C (a, b, e, o) 67 = oB 10 [.int (a 0), .ref 68, .int (a 2), .long (b 3), .long (b 4), .ref 69, .ref 70, .ref 71, .ref 72, .ref 73, .int (a 10), .int (a 11), .int (a 12), .ref 74, .int (a 14), .int (a 15), .int (a 16), .int (a 17), .int (a 18), .ref 75, .ref 76, .ref 77, .ref 78, .ref 79, .ref 80, .ref 81, .ref 82, .ref 83, .ref 84, .ref 85, .int (a 30), .int (a 31), .int (a 32), .int (a 33), .ref 86, .ref 87, .ref 88, .long (b 37)] := rfl
theorem hq_68 : Hp X C (a, b, e, o) 68 = iA 6 (e 68) := rfl
theorem hq_69 : Hp X C (a, b, e, o) 69 = iA 6 (e 69) := rfl
theorem hq_70 : Hp X C (a, b, e, o) 70 = iA 240 (e 70) := rfl
theorem hq_71 : Hp X C (a, b, e, o) 71 = iA 40 (e 71) := rfl
theorem hq_72 : Hp X C (a, b, e, o) 72 = iA 4 (e 72) := rfl
theorem hq_73 : Hp X C (a, b, e, o) 73 = iA 320 (e 73) := rfl
theorem hq_74 : Hp X C (a, b, e, o) 74 = iA 80 (e 74) := rfl
theorem hq_75 : Hp X C (a, b, e, o) 75 = iA 40 (e 75) := rfl
theorem hq_76 : Hp X C (a, b, e, o) 76 = iA 40 (e 76) := rfl
theorem hq_77 : Hp X C (a, b, e, o) 77 = iA 41 (e 77) := rfl
theorem hq_78 : Hp X C (a, b, e, o) 78 = iA 246 (e 78) := rfl
theorem hq_79 : Hp X C (a, b, e, o) 79 = lA 7 (o 79) := rfl
theorem hq_80 : Hp X C (a, b, e, o) 80 = lA 7 (o 80) := rfl
theorem hq_81 : Hp X C (a, b, e, o) 81 = iA 7 (e 81) := rfl
theorem hq_82 : Hp X C (a, b, e, o) 82 = iA 7 (e 82) := rfl
theorem hq_83 : Hp X C (a, b, e, o) 83 = iA 1280 (e 83) := rfl
theorem hq_84 : Hp X C (a, b, e, o) 84 = iA 16384 (e 84) := rfl
theorem hq_85 : Hp X C (a, b, e, o) 85 = iA 16384 (e 85) := rfl
theorem hq_86 : Hp X C (a, b, e, o) 86 = iA 7168 (e 86) := rfl
theorem hq_87 : Hp X C (a, b, e, o) 87 = iA 7168 (e 87) := rfl
theorem hq_88 : Hp X C (a, b, e, o) 88 = zA 49 (e 88) := rfl
theorem hq_89 (hq : q 10 ≠ 0) : Hp X (s, v, g, w, q, ct, cn, cc, di, dr, df, li, la, sf, sl) M 89 = oB 8 [.int (s 23), .ref 90, .ref (tor (q 8)), .ref (tor (q 9))] := if_neg hq
theorem hq_90 (hq : q 10 ≠ 0) : Hp X (s, v, g, w, q, ct, cn, cc, di, dr, df, li, la, sf, sl) M 90 = iA 1024 (g 90) := if_neg hq
theorem hq_91 (hq : q 10 ≠ 0) : Hp X (s, v, g, w, q, ct, cn, cc, di, dr, df, li, la, sf, sl) M 91 = iA 1024 (g 91) := if_neg hq
theorem hq_92 (hq : q 10 ≠ 0) : Hp X (s, v, g, w, q, ct, cn, cc, di, dr, df, li, la, sf, sl) M 92 = iA 1024 (g 92) := if_neg hq
theorem hq_co {c : Nat} (h : c < 10) : Hp X (s, v, g, w, q, ct, cn, cc, di, dr, df, li, la, sf, sl) M (co c) = oB 0 [.ref (cv c), .int (ct c), .int (cn c)] := match c, h with
  | 0, _ => rfl
  | 1, _ => rfl
  | 2, _ => rfl
  | 3, _ => rfl
  | 4, _ => rfl
  | 5, _ => rfl
  | 6, _ => rfl
  | 7, _ => rfl
  | 8, _ => rfl
  | 9, _ => rfl
  | c + 10, h => absurd h (by omega)
theorem hq_cv {c : Nat} (h : c < 10) : Hp X (s, v, g, w, q, ct, cn, cc, di, dr, df, li, la, sf, sl) M (cv c) = iA (cap c) (cc c) := match c, h with
  | 0, _ => rfl
  | 1, _ => rfl
  | 2, _ => rfl
  | 3, _ => rfl
  | 4, _ => rfl
  | 5, _ => rfl
  | 6, _ => rfl
  | 7, _ => rfl
  | 8, _ => rfl
  | 9, _ => rfl
  | c + 10, h => absurd h (by omega)
theorem hq_do {c : Nat} (h : c < 4) : Hp X (s, v, g, w, q, ct, cn, cc, di, dr, df, li, la, sf, sl) M (dob c) = oB 2 [.ref (dro c), .ref (dfo c), .int (di c 2), .int (di c 3), .int (di c 4), .int (di c 5)] := match c, h with
  | 0, _ => rfl
  | 1, _ => rfl
  | 2, _ => rfl
  | 3, _ => rfl
  | c + 4, h => absurd h (by omega)
theorem hq_dr {c : Nat} (h : c < 4) : Hp X (s, v, g, w, q, ct, cn, cc, di, dr, df, li, la, sf, sl) M (dro c) = iA 40 (dr c) := match c, h with
  | 0, _ => rfl
  | 1, _ => rfl
  | 2, _ => rfl
  | 3, _ => rfl
  | c + 4, h => absurd h (by omega)
theorem hq_df {c : Nat} (h : c < 4) : Hp X (s, v, g, w, q, ct, cn, cc, di, dr, df, li, la, sf, sl) M (dfo c) = iA 40 (df c) := match c, h with
  | 0, _ => rfl
  | 1, _ => rfl
  | 2, _ => rfl
  | 3, _ => rfl
  | c + 4, h => absurd h (by omega)
theorem hq_lo {c : Nat} (h : c < 2) : Hp X (s, v, g, w, q, ct, cn, cc, di, dr, df, li, la, sf, sl) M (lo c) = oB 3 [.ref (lao c 0), .ref (lao c 1), .ref (lao c 2), .ref (lao c 3), .int (li c 0), .int (li c 1)] := match c, h with
  | 0, _ => rfl
  | 1, _ => rfl
  | c + 2, h => absurd h (by omega)
theorem hq_la0 {c : Nat} (h : c < 2) : Hp X (s, v, g, w, q, ct, cn, cc, di, dr, df, li, la, sf, sl) M (lao c 0) = iA 10 (la c 0) := match c, h with
  | 0, _ => rfl
  | 1, _ => rfl
  | c + 2, h => absurd h (by omega)
theorem hq_la1 {c : Nat} (h : c < 2) : Hp X (s, v, g, w, q, ct, cn, cc, di, dr, df, li, la, sf, sl) M (lao c 1) = iA 10 (la c 1) := match c, h with
  | 0, _ => rfl
  | 1, _ => rfl
  | c + 2, h => absurd h (by omega)
theorem hq_la2 {c : Nat} (h : c < 2) : Hp X (s, v, g, w, q, ct, cn, cc, di, dr, df, li, la, sf, sl) M (lao c 2) = iA 10 (la c 2) := match c, h with
  | 0, _ => rfl
  | 1, _ => rfl
  | c + 2, h => absurd h (by omega)
theorem hq_la3 {c : Nat} (h : c < 2) : Hp X (s, v, g, w, q, ct, cn, cc, di, dr, df, li, la, sf, sl) M (lao c 3) = iA 10 (la c 3) := match c, h with
  | 0, _ => rfl
  | 1, _ => rfl
  | c + 2, h => absurd h (by omega)
theorem hq_so {c : Nat} (h : c < 2) : Hp X (s, v, g, w, q, ct, cn, cc, di, dr, df, li, la, sf, sl) M (so c) = oB 6 [.ref (sfo c), .ref (slo c)] := match c, h with
  | 0, _ => rfl
  | 1, _ => rfl
  | c + 2, h => absurd h (by omega)
theorem hq_sf {c : Nat} (h : c < 2) : Hp X (s, v, g, w, q, ct, cn, cc, di, dr, df, li, la, sf, sl) M (sfo c) = iA 10 (sf c) := match c, h with
  | 0, _ => rfl
  | 1, _ => rfl
  | c + 2, h => absurd h (by omega)
theorem hq_sl {c : Nat} (h : c < 2) : Hp X (s, v, g, w, q, ct, cn, cc, di, dr, df, li, la, sf, sl) M (slo c) = iA 70 (sl c) := match c, h with
  | 0, _ => rfl
  | 1, _ => rfl
  | c + 2, h => absurd h (by omega)
theorem hq_ta {c : Nat} (h : c < 2) : Hp X (s, v, g, w, q, ct, cn, cc, di, dr, df, li, la, sf, sl) M (tao c) = lA 7 (w c) := match c, h with
  | 0, _ => rfl
  | 1, _ => rfl
  | c + 2, h => absurd h (by omega)
theorem hq_cs {c : Nat} (h : c < 2) : Hp X (s, v, g, w, q, ct, cn, cc, di, dr, df, li, la, sf, sl) M (cst c) = iA 7 (g c) := match c, h with
  | 0, _ => rfl
  | 1, _ => rfl
  | c + 2, h => absurd h (by omega)
theorem hq_to {c : Nat} (h : c < 2) (hq : q 10 ≠ 0) : Hp X (s, v, g, w, q, ct, cn, cc, di, dr, df, li, la, sf, sl) M (tor c) = iA 1024 (g (91 + c)) := match c, h with
  | 0, _ => if_neg hq
  | 1, _ => if_neg hq
  | c + 2, h => absurd h (by omega)
theorem hq_X : Hp X C M 1000000 = cA9 X.1 X.2 := rfl
theorem hq_L : Hp X C M 1000001 = cA9 6 letters := rfl
end

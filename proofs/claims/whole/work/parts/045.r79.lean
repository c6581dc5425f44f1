section
variable {d i nx : Nat} {ls : AL} {r : List Value} {z : AZ} {f : AH} {Q : Option Value → AZ → AH → Prop} {a b : Nat} {c : Int} {t : List Nat}
theorem r_79' {n : Nat} {as st st' : List Value} (h : popn n [] st = some (as, st')) : ExP d i (79, a, n, c, t) nx ls st z f Q ↔ rcv f as a = true ∧ Ca as c st' a d i nx ls z f Q := by
  unfold ExP Ca
  simp only [sx, h]
  by_cases q : (en as).length ≤ c.toNat ∧ st'.length < 5 ∧ rcv f as a = true
  · rw [if_pos q]
    exact ⟨fun h => ⟨q.2.2, ⟨q.1, q.2.1⟩, h⟩, fun h => h.2.2⟩
  · rw [if_neg q]
    exact ⟨fun h => h.elim, fun h => (q ⟨h.2.1.1, h.2.1.2, h.1⟩).elim⟩
theorem r_79_1 {x : Nat} {st : List Value} : ExP d i (79, a, 1, c, t) nx ls (.ref x :: st) z f Q ↔ rce (f x) a = true ∧ Ca [.ref x] c st a d i nx ls z f Q := r_79' (as := [.ref x]) (st' := st) rfl
theorem r_79_2 {x : Nat} {v1 : Value} {st : List Value} : ExP d i (79, a, 2, c, t) nx ls (v1 :: .ref x :: st) z f Q ↔ rce (f x) a = true ∧ Ca [.ref x, v1] c st a d i nx ls z f Q := r_79' (as := [.ref x, v1]) (st' := st) rfl
theorem r_79_3 {x : Nat} {v1 v2 : Value} {st : List Value} : ExP d i (79, a, 3, c, t) nx ls (v2 :: v1 :: .ref x :: st) z f Q ↔ rce (f x) a = true ∧ Ca [.ref x, v1, v2] c st a d i nx ls z f Q := r_79' (as := [.ref x, v1, v2]) (st' := st) rfl
theorem r_79_4 {x : Nat} {v1 v2 v3 : Value} {st : List Value} : ExP d i (79, a, 4, c, t) nx ls (v3 :: v2 :: v1 :: .ref x :: st) z f Q ↔ rce (f x) a = true ∧ Ca [.ref x, v1, v2, v3] c st a d i nx ls z f Q := r_79' (as := [.ref x, v1, v2, v3]) (st' := st) rfl
theorem r_79_5 {x : Nat} {v1 v2 v3 v4 : Value} {st : List Value} : ExP d i (79, a, 5, c, t) nx ls (v4 :: v3 :: v2 :: v1 :: .ref x :: st) z f Q ↔ rce (f x) a = true ∧ Ca [.ref x, v1, v2, v3, v4] c st a d i nx ls z f Q := r_79' (as := [.ref x, v1, v2, v3, v4]) (st' := st) rfl
theorem r_79_6 {x : Nat} {v1 v2 v3 v4 v5 : Value} {st : List Value} : ExP d i (79, a, 6, c, t) nx ls (v5 :: v4 :: v3 :: v2 :: v1 :: .ref x :: st) z f Q ↔ rce (f x) a = true ∧ Ca [.ref x, v1, v2, v3, v4, v5] c st a d i nx ls z f Q := r_79' (as := [.ref x, v1, v2, v3, v4, v5]) (st' := st) rfl
end

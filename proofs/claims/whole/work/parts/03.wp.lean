def calla : Nat → Nat → Nat → List Value → AZ → AH → Option AR
  | 0, _, _, _, _, _ => none
  | d + 1, n, j, as, z, f => runa (calla d n) (cd j) n 0 (en as) [] z f
def Wp (d i pc : Nat) (ls : AL) (st : List Value) (z : AZ) (f : AH) (Q : Option Value → AZ → AH → Prop) : Prop :=
  ∃ (n : Nat) (r : Option Value) (z' : AZ) (f' : AH), runa (calla d n) (cd i) n pc ls st z f = some (r, z', f') ∧ Q r z' f'
def Cw (d j : Nat) (as : List Value) (z : AZ) (f : AH) (Q : Option Value → AZ → AH → Prop) : Prop :=
  ∃ (n : Nat) (r : Option Value) (z' : AZ) (f' : AH), calla d n j as z f = some (r, z', f') ∧ Q r z' f'
theorem cw_wp (d j : Nat) (as : List Value) (z : AZ) (f : AH) (Q : Option Value → AZ → AH → Prop) : Cw (d + 1) j as z f Q ↔ Wp d j 0 (en as) [] z f Q := Iff.rfl
theorem runa_mono {cal cal' : Nat → List Value → AZ → AH → Option AR} {code : Nat → Option (AI × Nat)} (hc : ∀ j as z f r, cal j as z f = some r → cal' j as z f = some r) :
    ∀ (n n' pc : Nat) (ls : AL) (st : List Value) (z : AZ) (f : AH) (r : AR), n ≤ n' → runa cal code n pc ls st z f = some r → runa cal' code n' pc ls st z f = some r := by
  intro n
  induction n with
  | zero => intro n' pc ls st z f r _ h; cases h
  | succ n ih =>
    intro n' pc ls st z f r hn h
    cases n' with
    | zero => omega
    | succ n' =>
      have hn' : n ≤ n' := by omega
      simp only [runa] at h ⊢
      cases h1 : code pc with
      | none => rw [h1] at h; cases h
      | some q =>
        obtain ⟨o, nx⟩ := q
        rw [h1] at h
        simp only at h ⊢
        cases h2 : sx o nx ls st z f with
        | none => rw [h2] at h; cases h
        | some q =>
          rw [h2] at h
          rcases q with ⟨pc', ls', st', z', f'⟩ | ⟨j, as, nx', ls', r'⟩ | q
          · exact ih _ _ _ _ _ _ _ hn' h
          · simp only at h ⊢
            cases h3 : cal j as z f with
            | none => rw [h3] at h; cases h
            | some q =>
              obtain ⟨v, z', f'⟩ := q
              rw [h3] at h
              rw [hc _ _ _ _ _ h3]
              exact ih _ _ _ _ _ _ _ hn' h
          · exact h
theorem calla_mono : ∀ (d n n' j : Nat) (as : List Value) (z : AZ) (f : AH) (r : AR), n ≤ n' → calla d n j as z f = some r → calla d n' j as z f = some r := by
  intro d
  induction d with
  | zero => intro n n' j as z f r _ h; cases h
  | succ d ih => intro n n' j as z f r hn h; exact runa_mono (fun j as z f r h => ih n n' j as z f r hn h) n n' _ _ _ _ _ _ hn h
/-- what an instruction comes to -/
def ExS (d i : Nat) (x : Option SX) (z : AZ) (f : AH) (Q : Option Value → AZ → AH → Prop) : Prop := match x with
  | none => False
  | some (.inl (pc', ls', st', z', f')) => Wp d i pc' ls' st' z' f' Q
  | some (.inr (.inl (j, as, nx', ls', r))) => Cw d j as z f (fun v z' f' => Wp d i nx' ls' (ps v r) z' f' Q)
  | some (.inr (.inr (v, z', f'))) => Q v z' f'
def ExP (d i : Nat) (o : AI) (nx : Nat) (ls : AL) (st : List Value) (z : AZ) (f : AH) (Q : Option Value → AZ → AH → Prop) : Prop := ExS d i (sx o nx ls st z f) z f Q
abbrev WE (d i pc : Nat) (o : AI) (nx : Nat) : Prop := ∀ (ls : AL) (st : List Value) (z : AZ) (f : AH) (Q : Option Value → AZ → AH → Prop), Wp d i pc ls st z f Q ↔ ExP d i o nx ls st z f Q
theorem wp_of {d i pc : Nat} {o : AI} {nx : Nat} (h : cd i pc = some (o, nx)) : WE d i pc o nx := by
  intro ls st z f Q
  constructor
  · rintro ⟨n, r, z', f', h1, h2⟩
    cases n with
    | zero => cases h1
    | succ n =>
      simp only [runa, h] at h1
      unfold ExP
      cases h3 : sx o nx ls st z f with
      | none => rw [h3] at h1; cases h1
      | some q =>
        rw [h3] at h1
        rcases q with ⟨pc', ls', st', z1, f1⟩ | ⟨j, as, nx', ls', r'⟩ | q
        · exact ⟨n + 1, r, z', f', runa_mono (fun _ _ _ _ _ h => h) n (n + 1) _ _ _ _ _ _ (by omega) h1, h2⟩
        · simp only at h1
          cases h4 : calla d (n + 1) j as z f with
          | none => rw [h4] at h1; cases h1
          | some q =>
            obtain ⟨v, z1, f1⟩ := q
            rw [h4] at h1
            exact ⟨n + 1, v, z1, f1, h4, n + 1, r, z', f', runa_mono (fun _ _ _ _ _ h => h) n (n + 1) _ _ _ _ _ _ (by omega) h1, h2⟩
        · cases h1
          exact h2
  · intro h1
    unfold ExP at h1
    cases h3 : sx o nx ls st z f with
    | none => rw [h3] at h1; cases h1
    | some q =>
      rw [h3] at h1
      rcases q with ⟨pc', ls', st', z1, f1⟩ | ⟨j, as, nx', ls', r'⟩ | ⟨v, z1, f1⟩
      · obtain ⟨n, r, z', f', h4, h5⟩ := h1
        refine ⟨n + 1, r, z', f', ?_, h5⟩
        simp only [runa, h, h3]
        exact runa_mono (fun j as z f r h => calla_mono d n (n + 1) j as z f r (by omega) h) n n _ _ _ _ _ _ (by omega) h4
      · obtain ⟨n1, v, z1, f1, h4, n2, r, z', f', h5, h6⟩ := h1
        refine ⟨n1 + n2 + 1, r, z', f', ?_, h6⟩
        simp only [runa, h, h3]
        rw [calla_mono d n1 (n1 + n2 + 1) j as z f _ (by omega) h4]
        exact runa_mono (fun j as z f r h => calla_mono d n2 (n1 + n2 + 1) j as z f r (by omega) h) n2 (n1 + n2) _ _ _ _ _ _ (by omega) h5
      · refine ⟨1, v, z1, f1, ?_, h1⟩
        simp only [runa, h, h3]

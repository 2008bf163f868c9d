/-! THE MACHINE WITHOUT FUEL -/
theorem vh_mono1 : ∀ (n j pc : Nat) (L : vh_L) (st : List Value) (w : vh_W) (r : Option Value × vh_W), vh_run n j pc L st w = some r → vh_run (n + 1) j pc L st w = some r := by
  intro n
  induction n with
  | zero => intro j pc L st w r h; cases h
  | succ n ih =>
    intro j pc L st w r h
    rw [vh_run] at h ⊢
    cases hi : vh_ins j pc with
    | none => rw [hi] at h; cases h
    | some e =>
      rw [hi] at h
      simp only at h ⊢
      cases ha : vh_act j e L st w with
      | none => rw [ha] at h; cases h
      | some z =>
        rw [ha] at h
        cases z with
        | inl q =>
          obtain ⟨pc1, L1, st1, w1⟩ := q
          exact ih _ _ _ _ _ _ h
        | inr q =>
          cases q with
          | inl q => exact h
          | inr q =>
            obtain ⟨k, as, w1, pc1, L1, st1⟩ := q
            simp only at h ⊢
            cases hr : vh_run n k 0 (vh_ent (vh_mxl k) as) [] w1 with
            | none => rw [hr] at h; cases h
            | some r2 =>
              rw [hr] at h
              rw [ih _ _ _ _ _ _ hr]
              obtain ⟨v1, w2⟩ := r2
              exact ih _ _ _ _ _ _ h
theorem vh_monoL {n m j pc : Nat} {L : vh_L} {st : List Value} {w : vh_W} {r : Option Value × vh_W} (hnm : n ≤ m) (h : vh_run n j pc L st w = some r) : vh_run m j pc L st w = some r := by
  induction hnm with
  | refl => exact h
  | step _ ih => exact vh_mono1 _ _ _ _ _ _ _ ih
noncomputable def vh_E (j pc : Nat) (L : vh_L) (st : List Value) (w : vh_W) : vh_R := @dite _ (∃ r, ∃ n, vh_run n j pc L st w = some r) (Classical.propDecidable _) (fun h => some (Classical.choose h)) (fun _ => none)
theorem vh_Ei {j pc : Nat} {L : vh_L} {st : List Value} {w : vh_W} {r : Option Value × vh_W} : vh_E j pc L st w = some r ↔ ∃ n, vh_run n j pc L st w = some r := by
  unfold vh_E
  constructor
  · intro h
    split at h
    · rename_i hh
      cases h
      exact Classical.choose_spec hh
    · cases h
  · rintro ⟨n, h⟩
    have hh : ∃ r, ∃ n, vh_run n j pc L st w = some r := ⟨r, n, h⟩
    rw [dif_pos hh]
    obtain ⟨m, hm⟩ := Classical.choose_spec hh
    have h1 := vh_monoL (Nat.le_max_left n m) h
    have h2 := vh_monoL (Nat.le_max_right n m) hm
    rw [h1] at h2
    exact h2.symm
noncomputable def vh_C (k : Nat) (as : List Value) (w : vh_W) : vh_R := vh_E k 0 (vh_ent (vh_mxl k) as) [] w
def vh_bd (r : vh_R) (f : Option Value → vh_W → vh_R) : vh_R := match r with
  | none => none
  | some (v, w) => f v w
def vh_ps (v : Option Value) (st : List Value) : List Value := v.toList ++ st
theorem vh_ps0 (st : List Value) : vh_ps none st = st := rfl
theorem vh_ps1 (v : Value) (st : List Value) : vh_ps (some v) st = v :: st := rfl
theorem vh_bds (v : Option Value) (w : vh_W) (f : Option Value → vh_W → vh_R) : vh_bd (some (v, w)) f = f v w := rfl
theorem vh_ext {a b : vh_R} (h : ∀ r, a = some r ↔ b = some r) : a = b := by
  cases a with
  | none =>
    cases b with
    | none => rfl
    | some r => exact absurd ((h r).mpr rfl) (by simp)
  | some r => exact ((h r).mp rfl).symm
section VHE
variable {j pc : Nat} {L : vh_L} {st : List Value} {w : vh_W} {e : vh_O}
theorem vh_e1 {pc' : Nat} {L' : vh_L} {st' : List Value} {w' : vh_W} (h1 : vh_ins j pc = some e) (h2 : vh_act j e L st w = some (.inl (pc', L', st', w'))) : vh_E j pc L st w = vh_E j pc' L' st' w' := by
  apply vh_ext
  intro r
  rw [vh_Ei, vh_Ei]
  constructor
  · rintro ⟨n, h⟩
    cases n with
    | zero => cases h
    | succ n =>
      rw [vh_run, h1] at h
      simp only [h2] at h
      exact ⟨n, h⟩
  · rintro ⟨n, h⟩
    refine ⟨n + 1, ?_⟩
    rw [vh_run, h1]
    simp only [h2]
    exact h
theorem vh_e2 {r : Option Value × vh_W} (h1 : vh_ins j pc = some e) (h2 : vh_act j e L st w = some (.inr (.inl r))) : vh_E j pc L st w = some r := by
  rw [vh_Ei]
  refine ⟨1, ?_⟩
  rw [vh_run, h1]
  simp only [h2]
theorem vh_e3 {k : Nat} {as : List Value} {w' : vh_W} {pc' : Nat} {L' : vh_L} {st' : List Value} (h1 : vh_ins j pc = some e) (h2 : vh_act j e L st w = some (.inr (.inr (k, as, w', pc', L', st')))) : vh_E j pc L st w = vh_bd (vh_C k as w') (fun v w => vh_E j pc' L' (vh_ps v st') w) := by
  apply vh_ext
  intro r
  rw [vh_Ei]
  constructor
  · rintro ⟨n, h⟩
    cases n with
    | zero => cases h
    | succ n =>
      rw [vh_run, h1] at h
      simp only [h2] at h
      cases hr : vh_run n k 0 (vh_ent (vh_mxl k) as) [] w' with
      | none => rw [hr] at h; cases h
      | some q =>
        rw [hr] at h
        obtain ⟨v, w2⟩ := q
        have hc : vh_C k as w' = some (v, w2) := vh_Ei.mpr ⟨n, hr⟩
        rw [hc]
        exact vh_Ei.mpr ⟨n, h⟩
  · intro h
    cases hc : vh_C k as w' with
    | none => rw [hc] at h; cases h
    | some q =>
      rw [hc] at h
      obtain ⟨v, w2⟩ := q
      obtain ⟨n1, h3⟩ := vh_Ei.mp hc
      obtain ⟨n2, h4⟩ := vh_Ei.mp (show vh_E j pc' L' (vh_ps v st') w2 = some r from h)
      refine ⟨max n1 n2 + 1, ?_⟩
      rw [vh_run, h1]
      simp only [h2]
      rw [vh_monoL (Nat.le_max_left n1 n2) h3]
      exact vh_monoL (Nat.le_max_right n1 n2) h4
theorem vh_Eif {P : Prop} [Decidable P] {a b : Nat} : vh_E j (if P then a else b) L st w = if P then vh_E j a L st w else vh_E j b L st w := by split <;> rfl
end VHE

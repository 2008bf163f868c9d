/-! DAMAGE THAT COMES HOME -/
def hmN (P Q : Nat → Bool) : List Nat → Option Nat → Option (Nat × Nat)
  | [], _ => none
  | x :: l, w => if P x = true then (if Q x = true then w.map (fun z => (z, x)) else hmN P Q l (some x)) else hmN P Q l w
def adB (key : Nat → Nat) (x y : Nat) : Bool := decide (key x < key y ∨ (key x = key y ∧ x < y))
theorem ad_i {key : Nat → Nat} {x y : Nat} : adB key x y = true ↔ ahd key x y := decide_eq_true_iff
/-- the last of them -/
def Lst (key : Nat → Nat) (R : Nat → Bool) (i : Nat) : Option Nat → Prop
  | none => ∀ x, x < i → ¬ R x = true
  | some x => x < i ∧ R x = true ∧ ∀ y, y < i → R y = true → y = x ∨ ahd key y x
section
variable {key : Nat → Nat} {R P Q : Nat → Bool}
theorem lst_skip {i : Nat} {o : Option Nat} (h : Lst key R i o) (hr : ¬ R i = true) : Lst key R (i + 1) o := by
  cases o with
  | none =>
    intro x hx
    by_cases e : x = i
    · rw [e]; exact hr
    · exact h x (by omega)
  | some x =>
    obtain ⟨h1, h2, h3⟩ := h
    refine ⟨by omega, h2, ?_⟩
    intro y hy hry
    by_cases e : y = i
    · rw [e] at hry; exact absurd hry hr
    · exact h3 y (by omega) hry
theorem lst_none {i : Nat} (h : Lst key R i none) (hr : R i = true) : Lst key R (i + 1) (some i) := by
  refine ⟨by omega, hr, ?_⟩
  intro y hy hry
  by_cases e : y = i
  · exact Or.inl e
  · exact absurd hry (h y (by omega))
theorem lst_new {i x : Nat} (h : Lst key R i (some x)) (hr : R i = true) (ha : ahd key x i) : Lst key R (i + 1) (some i) := by
  obtain ⟨h1, h2, h3⟩ := h
  refine ⟨by omega, hr, ?_⟩
  intro y hy hry
  by_cases e : y = i
  · exact Or.inl e
  · right
    rcases h3 y (by omega) hry with z | z
    · rw [z]; exact ha
    · unfold ahd at *; omega
theorem lst_old {i x : Nat} (h : Lst key R i (some x)) (ha : ¬ ahd key x i) : Lst key R (i + 1) (some x) := by
  obtain ⟨h1, h2, h3⟩ := h
  refine ⟨by omega, h2, ?_⟩
  intro y hy hry
  by_cases e : y = i
  · right; rw [e]; unfold ahd at *; omega
  · exact h3 y (by omega) hry
theorem hm_eq {n : Nat} {L : List Nat} (hL : OrdL key (fun _ => true) n L) {o1 : Option Nat} {o2 : Nat → Option Nat} (h1 : Best key (fun x => P x && Q x) n o1) (h2 : ∀ y, o1 = some y → Lst key (fun u => P u && adB key u y && !Q u) n (o2 y)) : ∀ (T S : List Nat) (w : Option Nat), S ++ T = L → (∀ u ∈ S, P u = true → ¬ Q u = true) → (w = none → ∀ u ∈ S, ¬ P u = true) → (∀ z, w = some z → z ∈ S ∧ P z = true ∧ ∀ u ∈ S, P u = true → u = z ∨ ahd key u z) → hmN P Q T w = o1.bind (fun y => (o2 y).map (fun z => (z, y))) := by
  intro T
  induction T with
  | nil =>
    intro S w hS hq _ _
    rw [List.append_nil] at hS
    cases o1 with
    | none => rfl
    | some y =>
      obtain ⟨a1, a2, a3⟩ := h1
      rw [Bool.and_eq_true] at a2
      exact absurd a2.2 (hq y (by rw [hS]; exact (hL.2.1 y).mpr ⟨a1, rfl⟩) a2.1)
  | cons x T ih =>
    intro S w hS hq hw0 hw1
    have hP := hL.1
    rw [← hS, List.pairwise_append] at hP
    have hP2 := List.pairwise_cons.mp hP.2.1
    have hS' : (S ++ [x]) ++ T = L := by rw [← hS]; simp
    have hxn : x < n := ((hL.2.1 x).mp (by rw [← hS]; simp)).1
    unfold hmN
    by_cases p : P x = true
    · rw [if_pos p]
      by_cases q : Q x = true
      · rw [if_pos q]
        have ho : o1 = some x := by
          cases o1 with
          | none => exact absurd (show (P x && Q x) = true by rw [p, q]; rfl) (h1 x hxn)
          | some y =>
            obtain ⟨a1, a2, a3⟩ := h1
            rw [Bool.and_eq_true] at a2
            have hy : y ∈ S ++ x :: T := by rw [hS]; exact (hL.2.1 y).mpr ⟨a1, rfl⟩
            rcases List.mem_append.mp hy with z | z
            · exact absurd a2.2 (hq y z a2.1)
            · rcases List.mem_cons.mp z with z | z
              · rw [z]
              · have b1 := hP2.1 y z
                rcases a3 x hxn (by show (P x && Q x) = true; rw [p, q]; rfl) with z | z
                · rw [z]
                · unfold ahd at b1 z; omega
        subst ho
        show _ = (o2 x).map (fun z => (z, x))
        have h2 := h2 x rfl
        congr 1
        cases w with
        | none =>
          cases e : o2 x with
          | none => rfl
          | some u =>
            rw [e] at h2
            obtain ⟨a1, a2, a3⟩ := h2
            simp only [Bool.and_eq_true] at a2
            have hu : u ∈ S ++ x :: T := by rw [hS]; exact (hL.2.1 u).mpr ⟨a1, rfl⟩
            have a5 := ad_i.mp a2.1.2
            rcases List.mem_append.mp hu with z | z
            · exact absurd a2.1.1 (hw0 rfl u z)
            · rcases List.mem_cons.mp z with z | z
              · rw [z] at a5; unfold ahd at a5; omega
              · have := hP2.1 u z; unfold ahd at a5 this; omega
        | some z0 =>
          obtain ⟨b1, b2, b3⟩ := hw1 z0 rfl
          have bz := hP.2.2 z0 b1 x (by simp)
          have hz0 : (P z0 && adB key z0 x && !Q z0) = true := by
            have := hq z0 b1 b2
            simp at this
            rw [b2, ad_i.mpr bz, this]; rfl
          have hz0n : z0 < n := ((hL.2.1 z0).mp (by rw [← hS]; simp [b1])).1
          cases e : o2 x with
          | none => rw [e] at h2; exact absurd hz0 (h2 z0 hz0n)
          | some u =>
            rw [e] at h2
            obtain ⟨a1, a2, a3⟩ := h2
            simp only [Bool.and_eq_true] at a2
            have hu : u ∈ S ++ x :: T := by rw [hS]; exact (hL.2.1 u).mpr ⟨a1, rfl⟩
            have a5 := ad_i.mp a2.1.2
            rcases List.mem_append.mp hu with z | z
            · rcases b3 u z a2.1.1 with y | y
              · rw [y]
              · rcases a3 z0 hz0n hz0 with y' | y'
                · rw [y']
                · unfold ahd at y y'; omega
            · rcases List.mem_cons.mp z with z | z
              · rw [z] at a5; unfold ahd at a5; omega
              · have := hP2.1 u z; unfold ahd at a5 this; omega
      · rw [if_neg q]
        apply ih (S ++ [x]) (some x) hS'
        · intro u hu hp
          rcases List.mem_append.mp hu with z | z
          · exact hq u z hp
          · rw [List.mem_singleton.mp z]; exact q
        · intro z; cases z
        · intro z hz
          cases hz
          refine ⟨by simp, p, ?_⟩
          intro u hu _
          rcases List.mem_append.mp hu with z | z
          · exact Or.inr (hP.2.2 u z x (by simp))
          · exact Or.inl (List.mem_singleton.mp z)
    · rw [if_neg p]
      apply ih (S ++ [x]) w hS'
      · intro u hu hp
        rcases List.mem_append.mp hu with z | z
        · exact hq u z hp
        · rw [List.mem_singleton.mp z] at hp; exact absurd hp p
      · intro z u hu
        rcases List.mem_append.mp hu with y | y
        · exact hw0 z u y
        · rw [List.mem_singleton.mp y]; exact p
      · intro z hz
        obtain ⟨b1, b2, b3⟩ := hw1 z hz
        refine ⟨by simp [b1], b2, ?_⟩
        intro u hu hp
        rcases List.mem_append.mp hu with y | y
        · exact b3 u y hp
        · rw [List.mem_singleton.mp y] at hp; exact absurd hp p
end

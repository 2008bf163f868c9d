/-! THE KEYS: sorted log, day by day -/
theorem lgIns_filter {x : Int32 × Int32 × Int32 × Int32} {P : Int32 × Int32 × Int32 × Int32 → Bool} (hP : ∀ y z : Int32 × Int32 × Int32 × Int32, P y = true → P z = true → y.1 = z.1) : ∀ (l : List (Int32 × Int32 × Int32 × Int32)), lgS l → (lgIns x l).filter P = l.filter P ++ (if P x = true then [x] else []) := by
  intro l
  induction l with
  | nil => intro _; unfold lgIns; by_cases h : P x = true <;> simp [h]
  | cons y l ih =>
    intro hs
    have hs' := List.pairwise_cons.mp hs
    unfold lgIns
    by_cases h : x.1 < y.1
    · rw [if_pos h]
      by_cases hp : P x = true
      · have : ∀ z ∈ y :: l, ¬ P z = true := by
          intro z hz hpz
          have e := hP x z hp hpz
          rcases List.mem_cons.mp hz with w | w
          · rw [e, w] at h; exact Int32.lt_irrefl h
          · have := hs'.1 z w
            rw [← e] at this
            exact Int32.lt_irrefl (Int32.lt_of_lt_of_le h this)
        rw [List.filter_cons_of_pos hp, List.filter_eq_nil_iff.mpr this, if_pos hp]
        rfl
      · rw [List.filter_cons_of_neg hp, if_neg hp, List.append_nil]
    · rw [if_neg h]
      by_cases hy : P y = true
      · rw [List.filter_cons_of_pos hy, List.filter_cons_of_pos hy, ih hs'.2]; rfl
      · rw [List.filter_cons_of_neg hy, List.filter_cons_of_neg hy, ih hs'.2]
theorem lgSort_filter {P : Int32 × Int32 × Int32 × Int32 → Bool} (hP : ∀ y z : Int32 × Int32 × Int32 × Int32, P y = true → P z = true → y.1 = z.1) : ∀ (m : Nat) (l : List (Int32 × Int32 × Int32 × Int32)), l.length = m → (lgSort l).filter P = l.filter P := by
  intro m
  induction m with
  | zero => intro l hl; rw [List.length_eq_zero_iff.mp hl]; rfl
  | succ m ih =>
    intro l hl
    rcases List.eq_nil_or_concat l with z | ⟨l1, y, z⟩
    · rw [z] at hl; cases hl
    rw [List.concat_eq_append] at z
    subst z
    rw [lgSort_snoc, lgIns_filter hP _ (lgSort_S l1), ih l1 (by simp at hl; exact hl), List.filter_append]
    congr 1
    by_cases h : P y = true <;> simp [h]
theorem tw_all {α : Type} {P : α → Bool} : ∀ {l : List α}, (∀ x ∈ l, ¬ P x = true) → l.takeWhile P = [] := by
  intro l h
  cases l with
  | nil => rfl
  | cons y l => rw [List.takeWhile_cons, if_neg (h y (by simp))]
/-- up to a day, then the day -/
theorem tw_step {A : Int32} {B : Int32} (hAB : A ≤ B) (hno : ∀ z : Int32, A < z → z ≤ B → z = B) (hne : A < B) : ∀ (s : List (Int32 × Int32 × Int32 × Int32)), lgS s → s.takeWhile (fun x => decide (x.1 ≤ B)) = s.takeWhile (fun x => decide (x.1 ≤ A)) ++ s.filter (fun x => decide (x.1 = B)) := by
  intro s
  induction s with
  | nil => intro _; rfl
  | cons y s ih =>
    intro hs
    have hs' := List.pairwise_cons.mp hs
    have := ih hs'.2
    by_cases h1 : y.1 ≤ A
    · have h2 : y.1 ≤ B := Int32.le_trans h1 hAB
      have h3 : ¬ y.1 = B := fun z => by rw [z] at h1; exact Int32.lt_irrefl (Int32.lt_of_lt_of_le hne h1)
      rw [List.takeWhile_cons, if_pos (decide_eq_true h2), List.takeWhile_cons, if_pos (decide_eq_true h1), List.filter_cons_of_neg (by simpa using h3), this]; rfl
    · have hy : A < y.1 := nle h1
      have tw : ∀ x ∈ y :: s, ¬ (fun x : Int32 × Int32 × Int32 × Int32 => decide (x.1 ≤ A)) x = true := by
        intro x hx hd
        have hd := of_decide_eq_true hd
        rcases List.mem_cons.mp hx with w | w
        · rw [w] at hd; exact h1 hd
        · exact h1 (Int32.le_trans (hs'.1 x w) hd)
      rw [tw_all tw, List.nil_append]
      have tw2 : s.takeWhile (fun x => decide (x.1 ≤ A)) = [] := tw_all (fun x hx => tw x (List.mem_cons_of_mem _ hx))
      rw [tw2, List.nil_append] at this
      by_cases h2 : y.1 ≤ B
      · have e := hno y.1 hy h2
        rw [List.takeWhile_cons, if_pos (decide_eq_true h2), List.filter_cons_of_pos (by simpa using e), this]
      · have h3 : ¬ y.1 = B := fun z => h2 (by rw [z]; exact Int32.le_refl _)
        rw [List.takeWhile_cons, if_neg (by simpa using h2), List.filter_cons_of_neg (by simpa using h3)]
        symm
        apply List.filter_eq_nil_iff.mpr
        intro x hx
        have := hs'.1 x hx
        simp only [decide_eq_true_eq]
        intro z
        rw [z] at this
        exact h2 this

/-! THE SORTED LOG AS A LINE -/
def lgI (t h a b : Nat → Int32) (i : Nat) : Int32 × Int32 × Int32 × Int32 := (t i, h i, a i, b i)
theorem lgIns_insN {t h a b : Nat → Int32} {T : Nat → Nat} {x : Nat} (hx : t x = nI (T x)) (hxb : T x < 2 ^ 31) : ∀ (L : List Nat), (∀ y ∈ L, t y = nI (T y) ∧ T y < 2 ^ 31) → lgIns (lgI t h a b x) (L.map (lgI t h a b)) = (insN T x L).map (lgI t h a b) := by
  intro L
  induction L with
  | nil => intro _; rfl
  | cons y L ih =>
    intro hL
    obtain ⟨hy, hyb⟩ := hL y (by simp)
    have := ih (fun z hz => hL z (List.mem_cons_of_mem _ hz))
    rw [List.map_cons]
    unfold lgIns
    by_cases q : T y ≤ T x
    · rw [if_neg (show ¬ (lgI t h a b x).1 < (lgI t h a b y).1 by show ¬ t x < t y; rw [hx, hy]; exact nI_nlt q hxb), this]
      unfold insN
      rw [List.takeWhile_cons, if_pos (decide_eq_true q), List.dropWhile_cons, if_pos (decide_eq_true q)]
      rfl
    · rw [if_pos (show (lgI t h a b x).1 < (lgI t h a b y).1 by show t x < t y; rw [hx, hy]; exact nI_lt (by omega) hyb)]
      unfold insN
      rw [List.takeWhile_cons, if_neg (by simpa using q), List.dropWhile_cons, if_neg (by simpa using q)]
      rfl
theorem lgSort_ord {t h a b : Nat → Int32} {T : Nat → Nat} : ∀ {n : Nat}, (∀ i, i < n → t i = nI (T i) ∧ T i < 2 ^ 31) → lgSort (lgL n t h a b) = (ordN T (fun _ => true) n).map (lgI t h a b) := by
  intro n
  induction n with
  | zero => intro _; rfl
  | succ n ih =>
    intro hT
    have e : lgL (n + 1) t h a b = lgL n t h a b ++ [lgI t h a b n] := by
      unfold lgL
      rw [List.range_succ, List.map_append]
      rfl
    rw [e, lgSort_snoc, ih (fun i hi => hT i (by omega))]
    have ho := ordN_o (key := T) (P := fun _ => true) n
    rw [lgIns_insN (hT n (by omega)).1 (hT n (by omega)).2 _ (fun y hy => hT y (by have := ((ho.2.1 y).mp hy).1; omega))]
    show _ = (if true = true then _ else _ : List Nat).map _
    rw [if_pos rfl]
/-- the line of some of them -/
theorem ord_filter {T : Nat → Nat} {P : Nat → Bool} {n : Nat} : (ordN T (fun _ => true) n).filter P = ordN T P n := by
  have h1 := ordN_o (key := T) (P := fun _ => true) n
  have h2 := ordN_o (key := T) (P := P) n
  apply ord_uni (h1.1.filter P) h2.1
  intro x
  rw [List.mem_filter, h1.2.1, h2.2.1]
  constructor
  · rintro ⟨⟨z1, -⟩, z2⟩; exact ⟨z1, z2⟩
  · rintro ⟨z1, z2⟩; exact ⟨⟨z1, rfl⟩, z2⟩
theorem tw_filter {B : Int32} : ∀ {s : List (Int32 × Int32 × Int32 × Int32)}, lgS s → s.takeWhile (fun x => decide (x.1 ≤ B)) = s.filter (fun x => decide (x.1 ≤ B)) := by
  intro s
  induction s with
  | nil => intro _; rfl
  | cons y s ih =>
    intro hs
    have hs' := List.pairwise_cons.mp hs
    by_cases q : y.1 ≤ B
    · rw [List.takeWhile_cons, if_pos (decide_eq_true q), List.filter_cons_of_pos (by simpa using q), ih hs'.2]
    · rw [List.takeWhile_cons, if_neg (by simpa using q), List.filter_cons_of_neg (by simpa using q)]
      symm
      apply List.filter_eq_nil_iff.mpr
      intro x hx
      simp only [decide_eq_true_eq]
      intro z
      exact q (Int32.le_trans (hs'.1 x hx) z)

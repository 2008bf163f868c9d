/-! RULES: WHAT IS READ -/
def vlN (T : Nat → Nat) (B : Nat) : Nat → Nat
  | 0 => 0
  | j + 1 => vlN T B j * 10 + (T (B + j) - 48)
def val (N : Nat) (T : Nat → Nat) (q : Nat) : Nat := vlN T (tkB N T q) (tkE N T q - tkB N T q)
def useN (l : List Nat) : Option Nat := if l = wdS 7 then some 0 else if l = wdS 8 then some 1 else if l = wdS 9 then some 2 else if l = wdS 10 then some 3 else if l = wdS 11 then some 4 else none
def rulN (l : List Nat) : Option Nat := if l = wdS 1 then some 0 else if l = wdS 2 then some 1 else if l = wdS 3 then some 2 else if l = wdS 4 then some 3 else if l = wdS 5 then some 4 else if l = wdS 6 then some 5 else none
abbrev pX : Type := (Nat × Nat) ⊕ (Nat × Nat)
abbrev pY : Type := (Nat × Nat) ⊕ (Nat × (Nat → Nat → Nat))
def pNum (N : Nat) (T : Nat → Nat) (mx q : Nat) : pX := if tkK N T q = 2 then (if val N T q ≤ mx then .inr (val N T q, tkE N T q) else .inl (2, tkB N T q)) else .inl (1, tkB N T q)
def gs (G : Nat → Nat → Nat) (h j v : Nat) : Nat → Nat → Nat := fun h' j' => if h' = h ∧ j' = j then v else G h' j'
def rs (G : Nat → Nat → Nat) (h u r : Nat) : Nat → Nat → Nat := fun h' j' => if h' = h ∧ 20 ≤ j' ∧ j' < 25 then (if j' = 20 + u then r else if r ≤ G h j' ∧ G h j' < G h (20 + u) then G h j' + 1 else G h j') else G h' j'
def pFst (N : Nat) (T : Nat → Nat) (h : Nat) : Nat → Nat → Nat → Nat → (Nat → Nat → Nat) → pY
  | 0, _, _, _, _ => .inl (9, 9)
  | f + 1, q, met, r, G => match useN (tkL N T q) with
    | none => .inl (1, tkB N T q)
    | some u => if met.testBit u = true then .inl (3, tkB N T q) else
      (match useN (tkL N T (tkE N T q)) with
      | none => .inr (tkE N T q, rs G h u r)
      | some _ => pFst N T h f (tkE N T q) (met ||| 2 ^ u) (r + 1) (rs G h u r))
def pN1 (N : Nat) (T : Nat → Nat) (h j mx q : Nat) (G : Nat → Nat → Nat) : pY := match pNum N T mx q with
  | .inl e => .inl e
  | .inr (v, q') => .inr (q', gs G h j v)
def pRul (N : Nat) (T : Nat → Nat) (h q : Nat) (G : Nat → Nat → Nat) : pY := match rulN (tkL N T q) with
  | none => .inl (1, tkB N T q)
  | some 0 => pN1 N T h 0 8 (tkE N T q) G
  | some 1 => pN1 N T h 1 50 (tkE N T q) G
  | some 2 => (match useN (tkL N T (tkE N T q)) with
    | none => .inl (1, tkB N T (tkE N T q))
    | some u => pN1 N T h (10 + u) 1000 (tkE N T (tkE N T q)) G)
  | some 3 => pFst N T h 6 (tkE N T q) 0 0 G
  | some 4 => (match pN1 N T h 2 60 (tkE N T q) G with
    | .inl e => .inl e
    | .inr (q', G') => pN1 N T h 3 100 q' G')
  | some _ => (match pNum N T 1 (tkE N T q) with
    | .inl e => .inl e
    | .inr (f, q') => pN1 N T h (4 + f) 500 q' G)
theorem useN_lt {l : List Nat} {u : Nat} (h : useN l = some u) : u < 5 := by
  unfold useN at h
  split at h
  · cases h; decide
  · split at h
    · cases h; decide
    · split at h
      · cases h; decide
      · split at h
        · cases h; decide
        · split at h
          · cases h; decide
          · cases h
theorem rulN_lt {l : List Nat} {u : Nat} (h : rulN l = some u) : u < 6 := by
  unfold rulN at h
  split at h
  · cases h; decide
  · split at h
    · cases h; decide
    · split at h
      · cases h; decide
      · split at h
        · cases h; decide
        · split at h
          · cases h; decide
          · split at h
            · cases h; decide
            · cases h
section
variable {N : Nat} {T : Nat → Nat} {q : Nat}
theorem vl_lt {B : Nat} : ∀ {j : Nat}, (∀ i, i < j → T (B + i) ≤ 57) → vlN T B j < 10 ^ j := by
  intro j
  induction j with
  | zero => intro _; exact Nat.zero_lt_one
  | succ j ih =>
    intro h
    have h1 := ih (fun i hi => h i (by omega))
    have h2 := h j (by omega)
    show vlN T B j * 10 + (T (B + j) - 48) < _
    rw [Nat.pow_succ]
    omega
theorem num_F (h : tkK N T q = 2) : (∀ j, j < tkE N T q - tkB N T q → 48 ≤ T (tkB N T q + j) ∧ T (tkB N T q + j) ≤ 57) ∧ tkE N T q - tkB N T q ≤ 4 := by
  have hf : ¬ N ≤ tkB N T q ∧ ¬ isL (T (tkB N T q)) = true ∧ isF (T (tkB N T q)) = true ∧ rnE T isF (N - tkB N T q) (tkB N T q) - tkB N T q ≤ 4 := by
    unfold tkK at h
    by_cases q0 : N ≤ tkB N T q
    · rw [if_pos q0] at h; cases h
    · rw [if_neg q0] at h
      by_cases q1 : isL (T (tkB N T q)) = true
      · rw [if_pos q1] at h; cases h
      · rw [if_neg q1] at h
        by_cases q2 : isF (T (tkB N T q)) = true
        · rw [if_pos q2] at h
          by_cases q3 : rnE T isF (N - tkB N T q) (tkB N T q) - tkB N T q ≤ 4
          · exact ⟨q0, q1, q2, q3⟩
          · rw [if_neg q3] at h; cases h
        · rw [if_neg q2] at h
          split at h <;> cases h
  have e : tkE N T q = rnE T isF (N - tkB N T q) (tkB N T q) := by
    unfold tkE
    rw [if_neg hf.1, if_neg hf.2.1, if_pos hf.2.2.1]
  rw [e]
  refine ⟨?_, hf.2.2.2⟩
  intro j hj
  exact of_decide_eq_true (rn_all (T := T) (P := isF) (r := N - tkB N T q) (i := tkB N T q) (j := tkB N T q + j) (by omega) (by omega))
theorem val_lt (h : tkK N T q = 2) : val N T q < 10000 := by
  obtain ⟨h1, h2⟩ := num_F h
  have h3 := vl_lt (T := T) (B := tkB N T q) (j := tkE N T q - tkB N T q) (fun i hi => (h1 i hi).2)
  have h4 : 10 ^ (tkE N T q - tkB N T q) ≤ 10 ^ 4 := Nat.pow_le_pow_right (by decide) h2
  unfold val
  omega
theorem name_1 (h : tkL N T q ≠ []) : tkK N T q = 1 := by
  by_cases e : tkK N T q = 1
  · exact e
  · exact absurd (tkL_n e) h
theorem use_1 {u : Nat} (h : useN (tkL N T q) = some u) : tkK N T q = 1 := by
  apply name_1
  intro e
  rw [e] at h
  cases h
theorem rul_1 {u : Nat} (h : rulN (tkL N T q) = some u) : tkK N T q = 1 := by
  apply name_1
  intro e
  rw [e] at h
  cases h
/-- a token that is one lies behind q -/
theorem tk_go (hq : q ≤ N) (h : ¬ tkK N T q = 0) : q < tkE N T q ∧ tkE N T q ≤ N := by
  obtain ⟨b1, b2⟩ := tk_b (T := T) hq
  obtain ⟨c1, c2, c3⟩ := tk_e (T := T) hq
  have := c3 h
  omega
theorem pNum_go {mx v q' : Nat} (hq : q ≤ N) (h : pNum N T mx q = .inr (v, q')) : tkK N T q = 2 ∧ v = val N T q ∧ v ≤ mx ∧ q' = tkE N T q ∧ q < q' ∧ q' ≤ N := by
  unfold pNum at h
  by_cases q0 : tkK N T q = 2
  · rw [if_pos q0] at h
    by_cases q1 : val N T q ≤ mx
    · rw [if_pos q1] at h
      cases h
      have := tk_go (T := T) hq (by omega)
      exact ⟨q0, rfl, q1, rfl, this⟩
    · rw [if_neg q1] at h; cases h
  · rw [if_neg q0] at h; cases h
theorem pN1_go {h j mx q' : Nat} {G G' : Nat → Nat → Nat} (hq : q ≤ N) (e : pN1 N T h j mx q G = .inr (q', G')) : ∃ v, pNum N T mx q = .inr (v, q') ∧ G' = gs G h j v ∧ q < q' ∧ q' ≤ N := by
  unfold pN1 at e
  cases e0 : pNum N T mx q with
  | inl x => rw [e0] at e; cases e
  | inr x =>
    obtain ⟨v, q1⟩ := x
    rw [e0] at e
    cases e
    have := pNum_go hq e0
    exact ⟨v, rfl, rfl, this.2.2.2.2⟩
theorem pFst_go {h : Nat} : ∀ {f q met r : Nat} {G G' : Nat → Nat → Nat} {q' : Nat}, q ≤ N → pFst N T h f q met r G = .inr (q', G') → q < q' ∧ q' ≤ N := by
  intro f
  induction f with
  | zero => intro q met r G G' q' _ e; cases e
  | succ f ih =>
    intro q met r G G' q' hq e
    unfold pFst at e
    cases e0 : useN (tkL N T q) with
    | none => rw [e0] at e; cases e
    | some u =>
      rw [e0] at e
      simp only at e
      have hg := tk_go (T := T) hq (by rw [use_1 e0]; decide)
      by_cases q1 : met.testBit u = true
      · rw [if_pos q1] at e; cases e
      · rw [if_neg q1] at e
        cases e2 : useN (tkL N T (tkE N T q)) with
        | none => rw [e2] at e; cases e; exact hg
        | some u2 =>
          rw [e2] at e
          have := ih hg.2 e
          omega
theorem pRul_go {h q' : Nat} {G G' : Nat → Nat → Nat} (hq : q ≤ N) (e : pRul N T h q G = .inr (q', G')) : q < q' ∧ q' ≤ N := by
  unfold pRul at e
  cases e0 : rulN (tkL N T q) with
  | none => rw [e0] at e; cases e
  | some rl =>
    have hg := tk_go (T := T) hq (by rw [rul_1 e0]; decide)
    have hl := rulN_lt e0
    rw [e0] at e
    rcases (show rl = 0 ∨ rl = 1 ∨ rl = 2 ∨ rl = 3 ∨ rl = 4 ∨ rl = 5 by omega) with rfl | rfl | rfl | rfl | rfl | rfl
    · obtain ⟨v, -, -, h1⟩ := pN1_go hg.2 e; omega
    · obtain ⟨v, -, -, h1⟩ := pN1_go hg.2 e; omega
    · simp only at e
      cases e1 : useN (tkL N T (tkE N T q)) with
      | none => rw [e1] at e; cases e
      | some u =>
        rw [e1] at e
        have hg2 := tk_go (T := T) hg.2 (by rw [use_1 e1]; decide)
        obtain ⟨v, -, -, h1⟩ := pN1_go hg2.2 e; omega
    · have := pFst_go hg.2 e; omega
    · simp only at e
      cases e1 : pN1 N T h 2 60 (tkE N T q) G with
      | inl x => rw [e1] at e; cases e
      | inr x =>
        obtain ⟨q1, G1⟩ := x
        rw [e1] at e
        obtain ⟨v, -, -, h1⟩ := pN1_go hg.2 e1
        obtain ⟨v, -, -, h2⟩ := pN1_go h1.2 e
        omega
    · simp only at e
      cases e1 : pNum N T 1 (tkE N T q) with
      | inl x => rw [e1] at e; cases e
      | inr x =>
        obtain ⟨f, q1⟩ := x
        rw [e1] at e
        have h1 := pNum_go hg.2 e1
        obtain ⟨v, -, -, h2⟩ := pN1_go h1.2.2.2.2.2 e
        omega
end

/-! MASKS -/
def msk (P : Nat → Bool) : Nat → Nat
  | 0 => 0
  | k + 1 => if P k = true then msk P k ||| 2 ^ k else msk P k
theorem msk_lt {P : Nat → Bool} : ∀ {k : Nat}, msk P k < 2 ^ k := by
  intro k
  induction k with
  | zero => exact Nat.zero_lt_one
  | succ k ih =>
    have e : 2 ^ (k + 1) = 2 ^ k + 2 ^ k := by rw [Nat.pow_succ]; omega
    unfold msk
    split
    · exact Nat.or_lt_two_pow (by omega) (by have := Nat.two_pow_pos k; omega)
    · omega
theorem msk_t {P : Nat → Bool} {k : Nat} (h : P k = true) : msk P (k + 1) = msk P k ||| 2 ^ k := if_pos h
theorem msk_f {P : Nat → Bool} {k : Nat} (h : ¬ P k = true) : msk P (k + 1) = msk P k := if_neg h
theorem msk_l {P : Nat → Bool} {k : Nat} (hk : k ≤ 16) : msk P k < 2 ^ 16 := Nat.lt_of_lt_of_le msk_lt (Nat.pow_le_pow_right (by decide) hk)
theorem bitor {M k j : Nat} : (M ||| 2 ^ k).testBit j = (M.testBit j || decide (k = j)) := by rw [Nat.testBit_or, Nat.testBit_two_pow]
theorem msk_bit {P : Nat → Bool} {j : Nat} : ∀ {k : Nat}, (msk P k).testBit j = (decide (j < k) && P j) := by
  intro k
  induction k with
  | zero => rw [show msk P 0 = 0 from rfl, Nat.zero_testBit]; simp
  | succ k ih =>
    unfold msk
    by_cases e : j = k
    · subst e
      by_cases h : P j = true
      · rw [if_pos h, bitor]; simp [h]
      · rw [if_neg h, ih]; simp at h; simp [h]
    · have : decide (j < k + 1) = decide (j < k) := by apply decide_eq_decide.mpr; omega
      rw [this]
      split
      · rw [bitor, ih, show decide (k = j) = false from decide_eq_false (fun z => e z.symm), Bool.or_false]
      · exact ih
theorem mext {a b : Nat} (h : ∀ j, j < 16 → a.testBit j = b.testBit j) (ha : a < 2 ^ 16) (hb : b < 2 ^ 16) : a = b := by
  apply Nat.eq_of_testBit_eq
  intro j
  by_cases hj : j < 16
  · exact h j hj
  · rw [Nat.testBit_lt_two_pow (Nat.lt_of_lt_of_le ha (Nat.pow_le_pow_right (by decide) (by omega))), Nat.testBit_lt_two_pow (Nat.lt_of_lt_of_le hb (Nat.pow_le_pow_right (by decide) (by omega)))]
section
variable {d : Nat} {mi : Nat → Nat → Int32} {ml : Nat → Nat → Int64} {n k h : Nat} {b g : Nat → Nat → Nat}
/-! THERE ON A DAY -/
def thB (p : Nat → Nat) (D : Nat) : Bool := decide (p 8 ≤ D ∧ D < p 9)
theorem th_i {p : Nat → Nat} {D : Nat} : thB p D = true ↔ p 8 ≤ D ∧ D < p 9 := decide_eq_true_iff
theorem can_e {q : Nat} : canI q = -1000000 ↔ (q = 1000 ∨ 2 ^ 31 ≤ q ∧ nI q = -1000000) := by
  unfold canI
  by_cases h : q = 1000
  · rw [if_pos h]; exact ⟨fun _ => Or.inl h, fun _ => rfl⟩
  · rw [if_neg h]
    constructor
    · intro e
      by_cases h2 : q < 2 ^ 31
      · exact absurd e (nmN h2)
      · exact Or.inr ⟨by omega, e⟩
    · rintro (z | z)
      · exact absurd z h
      · exact z.2
theorem s85 {a D : Nat} {p : Nat → Nat} (ha : vh_okk a 1 = true) (h9 : mi a 9 = canI (p 9)) (hp : p 9 = 1000 ∨ p 9 ≤ 364) (hD : D ≤ 364) : vh_C 85 [.ref a, .int (nI D)] (vh_K d mi ml) = some (some (.int (vb (p 9 ≤ D))), vh_K d mi ml) := by
  simp only [c85, e85_0, e85_1, e85_4, e85_6, e85_9, e85_10, e85_13, e85_14, e85_17, e85_18, e85_21, e85_22, ha, h9, not_true_eq_false, not_false_eq_true, if_true, if_false, and_self, vh_bds, vh_ps1, vh_ps0, vb0, vb1, vbz, vbo]
  by_cases q : p 9 = 1000
  · rw [if_pos (can_e.mpr (Or.inl q)), vb_f (by omega)]
  · rw [if_neg (fun z => by rcases can_e.mp z with z | z <;> omega)]
    unfold canI
    rw [if_neg q]
    by_cases h : p 9 ≤ D
    · rw [if_neg (nI_nlt h (by omega)), vb_t h]
    · rw [if_pos (nI_lt (by omega) (by omega)), vb_f h]
theorem s84 {a D : Nat} {p : Nat → Nat} (ha : vh_okk a 1 = true) (h8 : mi a 8 = nI (p 8)) (h9 : mi a 9 = canI (p 9)) (hp8 : p 8 ≤ 364) (hp : p 9 = 1000 ∨ p 9 ≤ 364) (hD : D ≤ 364) : vh_C 84 [.ref a, .int (nI D)] (vh_K d mi ml) = some (some (.int (vb (thB p D = true))), vh_K d mi ml) := by
  simp only [c84, e84_0, e84_1, e84_4, e84_5, e84_8, e84_9, e84_10, e84_13, e84_16, e84_17, e84_20, e84_21, s85 ha h9 hp hD, ha, h8, not_true_eq_false, not_false_eq_true, if_true, if_false, and_self, vh_bds, vh_ps1, vh_ps0, vb0, vb1, vbz, vbo]
  by_cases q : p 8 ≤ D
  · rw [if_neg (nI_nlt q (by omega))]
    by_cases h : p 9 ≤ D
    · rw [if_pos (not_not_intro h), vb_f (fun z => by have := (th_i.mp z).2; omega)]
    · rw [if_neg (not_not_intro h), vb_t (th_i.mpr ⟨q, by omega⟩)]
  · rw [if_pos (nI_lt (by omega) (by omega)), vb_f (fun z => q (th_i.mp z).1)]
theorem s185 {D : Nat} (H : DiM mi n b g) (B : DiB n b g) (hk : k < n) (hD : D ≤ 364) : vh_C 185 [.ref 88, .int (nI k), .int (nI D)] (vh_K d mi ml) = some (some (.int (vb (thB (b k) D = true))), vh_K d mi ml) := by
  have hk6 : k < 16 := by have := B.1; omega
  obtain ⟨a0, a1, a2, a3, a4, a5, a5', a6, a7, a8, a9⟩ := B.2.1 k hk
  simp only [c185, e185_0, e185_1, e185_2, e185_4, e185_7, e185_8, e185_11, e185_12, e185_15, e185_16, e185_17, e185_19, e185_22, e185_23, e185_26, e185_27, e185_28, e185_29, e185_32, e185_33, e185_36, e185_37, s177_8 hk6, H.f8 hk, H.f9 hk, ok88, ok101, rf88_26, ixC hk6, clK (show k < 1000 by omega), not_true_eq_false, not_false_eq_true, if_true, if_false, and_self, vh_bds, vh_ps1, vh_ps0, vb0, vb1, vbz, vbo]
  by_cases q : b k 8 ≤ D
  · rw [if_neg (nI_nlt q (by omega))]
    by_cases z9 : b k 9 = 1000
    · rw [if_pos (can_e.mpr (Or.inl z9)), vb_t (th_i.mpr ⟨q, by omega⟩)]
    · rw [if_neg (fun z => by rcases can_e.mp z with z | z <;> omega)]
      unfold canI
      rw [if_neg z9]
      by_cases h : b k 9 ≤ D
      · rw [if_pos (nI_le h (by omega)), vb_f (fun z => by have := (th_i.mp z).2; omega)]
      · rw [if_neg (nI_ge (by omega) (by omega)), vb_t (th_i.mpr ⟨q, by omega⟩)]
  · rw [if_pos (nI_lt (by omega) (by omega)), vb_f (fun z => q (th_i.mp z).1)]
theorem DiC.th {D : Nat} (H : DiC mi n b g) (B : DiB n b g) (hk : k < n) (hD : D ≤ 364) : vh_C 84 [.ref (47 + k), .int (nI D)] (vh_K d mi ml) = some (some (.int (vb (thB (b k) D = true))), vh_K d mi ml) := by
  have hk6 : k < 16 := by have := B.1; omega
  obtain ⟨a0, a1, a2, a3, a4, a5, a5', a6, a7, a8, a9⟩ := B.2.1 k hk
  exact s84 (okB hk6) (H.f8 hk) (H.f9 hk6) (by omega) (by omega) hD
theorem l83 {D : Nat} (H : DiC mi n b g) (B : DiB n b g) (hD : D ≤ 364) : ∀ j i, i + j = n → vh_E 83 4 [some (.ref 42), some (.int (nI D)), some (.int (nI (msk (fun k => thB (b k) D) i))), some (.int (nI i))] [] (vh_K d mi ml) = some (some (.int (nI (msk (fun k => thB (b k) D) n))), vh_K d mi ml) := by
  have hn := B.1
  intro j
  induction j with
  | zero =>
    intro i hi
    have : i = n := by omega
    subst this
    simp only [e83_0, e83_1, e83_2, e83_3, e83_4, e83_5, e83_6, e83_9, e83_12, e83_13, e83_16, e83_17, e83_18, e83_19, e83_22, e83_25, e83_26, e83_27, e83_28, e83_29, e83_30, e83_31, e83_34, e83_37, e83_38, ok42, H.sz, nI_le (Nat.le_refl i) (show i < 2 ^ 31 by omega), if_true]
  | succ j ih =>
    intro i hi
    have hin : i < n := by omega
    have hi6 : i < 16 := by omega
    have := ih (i + 1) (by omega)
    rw [e83_4]
    simp only [e83_0, e83_1, e83_2, e83_3, e83_5, e83_6, e83_9, e83_12, e83_13, e83_16, e83_17, e83_18, e83_19, e83_22, e83_25, e83_26, e83_27, e83_28, e83_29, e83_30, e83_31, e83_34, e83_37, e83_38, ok42, H.sz, nI_ge hin (show n < 2 ^ 31 by omega), if_false, rf42_1, ok43, Bool.or_true, ixB hi6, clK (show i < 1000 by omega), rfB hi6, okB hi6, H.th B hin hD, sbt (msk_l (P := fun k => thB (b k) D) (show i ≤ 16 by omega)) hi6, nI_1, not_true_eq_false, not_false_eq_true, if_true, if_false, and_self, vh_bds, vh_ps1, vh_ps0, vb0, vb1, vbz, vbo]
    by_cases q : thB (b i) D = true
    · rw [msk_t (P := fun k => thB (b k) D) (k := i) q] at this
      rw [if_neg (not_not_intro q)]
      exact this
    · rw [msk_f (P := fun k => thB (b k) D) (k := i) q] at this
      rw [if_pos q]
      exact this
theorem s83 {D : Nat} (H : DiC mi n b g) (B : DiB n b g) (hD : D ≤ 364) : vh_C 83 [.ref 42, .int (nI D)] (vh_K d mi ml) = some (some (.int (nI (msk (fun k => thB (b k) D) n))), vh_K d mi ml) := by
  have := l83 (d := d) (ml := ml) H B hD n 0 (by omega)
  simp only [c83, e83_0, e83_1, e83_2, e83_3]
  exact this
end

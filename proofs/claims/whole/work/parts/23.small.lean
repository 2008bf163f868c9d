/-! SMALL METHODS -/
theorem nlt {a b : Int32} (h : ¬ a < b) : b ≤ a := Int32.not_lt.mp h
theorem nle {a b : Int32} (h : ¬ a ≤ b) : b < a := Int32.not_le.mp h
theorem s14 {v lo hi : Int32} {w : vh_W} : vh_C 14 [.int v, .int lo, .int hi] w = some (some (.int (vb (lo ≤ v ∧ v ≤ hi))), w) := by
  simp only [c14, e14_0, e14_1, e14_2, e14_5, e14_6, e14_7, e14_10, e14_11, e14_14, e14_15, vbz, vbo]
  by_cases h1 : v < lo
  · rw [if_pos h1, vb_f (fun h => absurd h.1 (Int32.not_le.mpr h1))]
  · rw [if_neg h1]
    by_cases h2 : hi < v
    · rw [if_pos h2, vb_f (fun h => absurd h.2 (Int32.not_le.mpr h2))]
    · rw [if_neg h2, vb_t ⟨nlt h1, nlt h2⟩]
theorem s13 {v : Int32} {w : vh_W} : vh_C 13 [.int v] w = some (some (.int (vb (0 ≤ v ∧ v ≤ 7))), w) := by
  simp only [c13, e13_0, e13_1, e13_2, e13_4, e13_7, s14, vh_bds, vh_ps1, vb1]
theorem s61 {v : Int32} {w : vh_W} : vh_C 61 [.int v] w = some (some (.int (vb (0 ≤ v ∧ v ≤ 3))), w) := by
  simp only [c61, e61_0, e61_1, e61_2, e61_3, e61_6, s14, vh_bds, vh_ps1, vb1]
theorem s111 {v : Int32} {w : vh_W} : vh_C 111 [.int v] w = some (some (.int (vb (0 ≤ v ∧ v ≤ 3))), w) := by
  simp only [c111, e111_0, e111_1, e111_2, e111_3, e111_6, s14, vh_bds, vh_ps1, vb1]
theorem s69 {v : Int32} {w : vh_W} : vh_C 69 [.int v] w = some (some (.int (vb (0 ≤ v ∧ v ≤ 364))), w) := by
  simp only [c69, e69_0, e69_1, e69_2, e69_5, e69_8, s14, vh_bds, vh_ps1, vb1]
theorem s70 {a b : Int32} {w : vh_W} : vh_C 70 [.int a, .int b] w = some (some (.int (vb (0 ≤ a ∧ a < b ∧ b ≤ 96))), w) := by
  simp only [c70, e70_0, e70_1, e70_4, e70_5, e70_6, e70_9, e70_10, e70_12, e70_15, e70_16, e70_19, e70_20, vbz, vbo]
  by_cases h1 : a < 0
  · rw [if_pos h1, vb_f (fun h => absurd h.1 (Int32.not_le.mpr h1))]
  · rw [if_neg h1]
    by_cases h2 : b ≤ a
    · rw [if_pos h2, vb_f (fun h => absurd h.2.1 (Int32.not_lt.mpr h2))]
    · rw [if_neg h2]
      by_cases h3 : 96 < b
      · rw [if_pos h3, vb_f (fun h => absurd h.2.2 (Int32.not_le.mpr h3))]
      · rw [if_neg h3, vb_t ⟨nlt h1, nle h2, nlt h3⟩]
theorem s105 {a b : Int32} {w : vh_W} : vh_C 105 [.int a, .int b] w = some (some (.int (a * 96 + b)), w) := by
  simp only [c105, e105_0, e105_1, e105_3, e105_4, e105_5, e105_6]
theorem s104 {a b q l : Int32} {w : vh_W} : vh_C 104 [.int a, .int b, .int q, .int l] w = some (some (.int (vb ((0 ≤ a ∧ a ≤ 3) ∧ (0 ≤ b ∧ b ≤ 364) ∧ (0 ≤ q ∧ q ≤ l)))), w) := by
  simp only [c104, e104_0, e104_1, e104_4, e104_7, e104_8, e104_11, e104_14, e104_15, e104_16, e104_17, e104_20, e104_23, e104_24, e104_27, e104_28, s61, s69, s14, vh_bds, vh_ps1, vbz, vbo, vb0]
  by_cases h1 : 0 ≤ a ∧ a ≤ 3
  · rw [if_neg (not_not_intro h1)]
    by_cases h2 : 0 ≤ b ∧ b ≤ 364
    · rw [if_neg (not_not_intro h2)]
      by_cases h3 : 0 ≤ q ∧ q ≤ l
      · rw [if_neg (not_not_intro h3), vb_t ⟨h1, h2, h3⟩]
      · rw [if_pos h3, vb_f (fun h => h3 h.2.2)]
    · rw [if_pos h2, vb_f (fun h => h2 h.2.1)]
  · rw [if_pos h1, vb_f (fun h => h1 h.1)]
theorem s15 {d : Nat} {mi : Nat → Nat → Int32} {ml : Nat → Nat → Int64} {f : Int32} : vh_C 15 [.ref 0, .int f] (vh_K d mi ml) = some (some (.int (-1000010 - f)), vh_K d (vh_sA mi 0 (upd (mi 0) 12 f)) ml) := by
  simp only [c15, e15_0, e15_1, e15_2, e15_5, e15_8, e15_9, e15_10, ok0]
theorem s17 {d : Nat} {mi : Nat → Nat → Int32} {ml : Nat → Nat → Int64} {f : Int32} : vh_C 17 [.ref 0, .int f] (vh_K d mi ml) = some (some (.int f), vh_K d (vh_sA mi 0 (upd (mi 0) 12 0)) ml) := by
  simp only [c17, e17_0, e17_1, e17_2, e17_5, e17_6, ok0]
/-- the reference -/
theorem wle {a b : Int32} : a.toInt64 ≤ b.toInt64 ↔ a ≤ b := by
  rw [Int64.le_iff_toInt_le, Int32.le_iff_toInt_le, Int32.toInt_toInt64, Int32.toInt_toInt64]
theorem cmp_lt {x y : Int64} : lg_cmp x y < 0 ↔ x < y := by
  unfold lg_cmp
  by_cases h : x > y
  · rw [if_pos h]
    constructor
    · intro q; exact absurd q (by decide)
    · intro q; exact absurd (Int64.lt_trans h q) (Int64.lt_irrefl)
  · rw [if_neg h]
    by_cases h2 : x = y
    · rw [if_pos h2]
      constructor
      · intro q; exact absurd q (by decide)
      · intro q; rw [h2] at q; exact absurd q (Int64.lt_irrefl)
    · rw [if_neg h2]
      constructor
      · intro _
        exact Int64.lt_of_le_of_ne (Int64.not_lt.mp h) h2
      · intro _; decide
theorem cmp_gt {x y : Int64} : 0 < lg_cmp x y ↔ y < x := by
  unfold lg_cmp
  by_cases h : x > y
  · rw [if_pos h]
    exact ⟨fun _ => h, fun _ => by decide⟩
  · rw [if_neg h]
    by_cases h2 : x = y
    · rw [if_pos h2]
      constructor
      · intro q; exact absurd q (by decide)
      · intro q; exact absurd q h
    · rw [if_neg h2]
      constructor
      · intro q; exact absurd q (by decide)
      · intro q; exact absurd q h
theorem s149 {v lo hi : Int64} {w : vh_W} : vh_C 149 [.long v, .long lo, .long hi] w = some (some (.int (vb (lo ≤ v ∧ v ≤ hi))), w) := by
  simp only [c149, e149_0, e149_1, e149_2, e149_3, e149_6, e149_7, e149_9, e149_10, e149_13, e149_14, e149_17, e149_18, vbz, vbo, cmp_lt, cmp_gt]
  by_cases h1 : v < lo
  · rw [if_pos h1, vb_f (fun h => absurd h.1 (Int64.not_le.mpr h1))]
  · rw [if_neg h1]
    by_cases h2 : hi < v
    · rw [if_pos h2, vb_f (fun h => absurd h.2 (Int64.not_le.mpr h2))]
    · rw [if_neg h2, vb_t ⟨Int64.not_lt.mp h1, Int64.not_lt.mp h2⟩]
/-- 'in' over ints -/
theorem inI {v lo hi : Int32} {a b : Int64} {w : vh_W} (ha : a = lo.toInt64) (hb : b = hi.toInt64) : vh_C 149 [.long v.toInt64, .long a, .long b] w = some (some (.int (vb (lo ≤ v ∧ v ≤ hi))), w) := by
  rw [s149, ha, hb]
  congr 3
  unfold vb
  simp only [wle]
theorem s148 {v : Int32} {w : vh_W} : vh_C 148 [.int v] w = some (some (.int (vb (0 ≤ v ∧ v ≤ 7))), w) := by
  simp only [c148, e148_0, e148_1, e148_2, e148_3, e148_6, e148_9, inI (lo := 0) (hi := 7) (show (0 : Int64) = (0 : Int32).toInt64 from by decide) (show (7 : Int64) = (7 : Int32).toInt64 from by decide), vh_bds, vh_ps1, vb1]
theorem s172 {v : Int32} {w : vh_W} : vh_C 172 [.int v] w = some (some (.int (vb (0 ≤ v ∧ v ≤ 3))), w) := by
  simp only [c172, e172_0, e172_1, e172_2, e172_3, e172_6, e172_9, inI (lo := 0) (hi := 3) (show (0 : Int64) = (0 : Int32).toInt64 from by decide) (show (3 : Int64) = (3 : Int32).toInt64 from by decide), vh_bds, vh_ps1, vb1]
theorem s174 {v : Int32} {w : vh_W} : vh_C 174 [.int v] w = some (some (.int (vb (0 ≤ v ∧ v ≤ 364))), w) := by
  simp only [c174, e174_0, e174_1, e174_2, e174_3, e174_6, e174_9, inI (lo := 0) (hi := 364) (show (0 : Int64) = (0 : Int32).toInt64 from by decide) (show (364 : Int64) = (364 : Int32).toInt64 from by decide), vh_bds, vh_ps1, vb1]
theorem s150 {d : Nat} {mi : Nat → Nat → Int32} {ml : Nat → Nat → Int64} {f : Int32} : vh_C 150 [.ref 88, .int f] (vh_K d mi ml) = some (some (.int (-1000010 - f)), vh_K d (vh_sA mi 88 (upd (mi 88) 1 f)) ml) := by
  simp only [c150, e150_0, e150_1, e150_2, e150_5, e150_7, e150_8, e150_9, ok88]

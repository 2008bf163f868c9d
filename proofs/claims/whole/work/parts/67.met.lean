/-! MEETINGS ASKED -/
theorem retI {x y : Int32} {w : vh_W} (h : x = y) : (some (some (Value.int x), w) : vh_R) = some (some (Value.int y), w) := by rw [h]
section
variable {d : Nat} {mi : Nat → Nat → Int32} {ml : Nat → Nat → Int64} {n : Nat}
/-- what is known of the meetings -/
def MtK (mi : Nat → Nat → Int32) (n : Nat) (va ca : Nat → Int32) : Prop := ∀ k, k < n → (mi 120 k = -1000000 ∨ ∃ g, g < k ∧ mi 120 k = nI g) ∧ (va k = 1 ↔ mi 119 k ≤ mi 117 k + mi 118 k ∧ ∀ g, g < k → mi 120 k = nI g → ca g = 1) ∧ (ca k = 1 ↔ va k = 1 ∧ mi 118 k < mi 117 k)
theorem l205 {va ca : Nat → Int32} {m : Nat} (hn : n ≤ 10) (hm : m < n) (H : MtK mi n va ca) : ∀ (x : Nat), x ≤ m → ∀ F : Bool, vh_E 205 4 [some (.ref 88), some (.int (nI m)), some (.int (vb (F = true))), some (.int (nI x))] [] (vh_K d mi ml) = some (some (.int (vb (F = true ∧ (if x = m then va x = 1 else ca x = 1)))), vh_K d mi ml) := by
  intro x
  induction x using Nat.strongRecOn with
  | ind x ih =>
    intro hx F
    obtain ⟨h1, h2, h3⟩ := H x (by omega)
    have x1 : vh_ixa 117 (nI x) = true := ixa (by rw [kd117]; omega) (by omega)
    have x2 : vh_ixa 118 (nI x) = true := ixa (by rw [kd118]; omega) (by omega)
    have x3 : vh_ixa 119 (nI x) = true := ixa (by rw [kd119]; omega) (by omega)
    have x4 : vh_ixa 120 (nI x) = true := ixa (by rw [kd120]; omega) (by omega)
    have nl : mi 117 x + mi 118 x < mi 119 x ↔ ¬ mi 119 x ≤ mi 117 x + mi 118 x := Int32.not_le.symm
    have nl2 : mi 117 x ≤ mi 118 x ↔ ¬ mi 118 x < mi 117 x := Int32.not_lt.symm
    have step : vh_E 205 4 [some (.ref 88), some (.int (nI m)), some (.int (vb (F = true))), some (.int (nI x))] [] (vh_K d mi ml) = vh_E 205 4 [some (.ref 88), some (.int (nI m)), some (.int (vb ((F && decide (mi 119 x ≤ mi 117 x + mi 118 x) && (decide (x = m) || decide (mi 118 x < mi 117 x))) = true))), some (.int (mi 120 x))] [] (vh_K d mi ml) := by
      rw [e205_4]
      simp only [e205_0, e205_1, e205_2, e205_3, e205_5, e205_7, e205_10, e205_11, e205_14, e205_15, e205_18, e205_19, e205_20, e205_21, e205_24, e205_25, e205_26, e205_27, e205_28, e205_31, e205_32, e205_33, e205_36, e205_37, e205_38, e205_41, e205_42, e205_45, e205_46, e205_47, e205_48, e205_51, e205_52, e205_53, e205_56, e205_57, e205_60, e205_61, e205_62, e205_63, e205_66, e205_67, e205_68, e205_69, e205_72, e205_73, show ¬ nI x = (-1000000 : Int32) from nmN (by omega), ok88, ok117, ok118, ok119, ok120, rf88_48, rf88_49, rf88_50, rf88_51, x1, x2, x3, x4, clK (show x < 1000 by omega), nl, nl2, nI_eq (show x < 2 ^ 31 by omega) (show m < 2 ^ 31 by omega), not_true_eq_false, not_false_eq_true, if_true, if_false, and_self, vh_bds, vh_ps1, vh_ps0, vb0, vb1, vbz, vbo]
      by_cases q1 : F = true
      · rw [if_neg (not_not_intro q1)]
        by_cases q2 : mi 119 x ≤ mi 117 x + mi 118 x
        · rw [if_neg (not_not_intro q2)]
          by_cases q3 : x = m
          · rw [if_pos q3, vb_t (by rw [q1, decide_eq_true q2, decide_eq_true q3]; rfl)]
          · rw [if_neg q3]
            by_cases q4 : mi 118 x < mi 117 x
            · rw [if_neg (not_not_intro q4), vb_t (by rw [q1, decide_eq_true q2, decide_eq_true q4, Bool.or_true]; rfl)]
            · rw [if_pos q4, vb_f (by rw [decide_eq_false q3, decide_eq_false q4]; simp)]
        · rw [if_pos q2, vb_f (by rw [decide_eq_false q2]; simp)]
      · rw [if_pos q1, vb_f (by simp at q1; rw [q1]; simp)]
    rw [step]
    rcases h1 with z | ⟨g, hg, z⟩
    · rw [z]
      simp only [e205_4, e205_5, e205_7, e205_72, e205_73, if_true, vb1]
      refine retI (vbc ?_)
      simp only [Bool.and_eq_true, Bool.or_eq_true, decide_eq_true_eq]
      have hno : ∀ g, g < x → mi 120 x = nI g → ca g = 1 := fun g hg w => by rw [z] at w; exact absurd w.symm (nmN (by omega))
      by_cases q3 : x = m
      · rw [if_pos q3, h2]
        exact ⟨fun w => ⟨w.1.1, w.1.2, hno⟩, fun w => ⟨⟨w.1, w.2.1⟩, Or.inl q3⟩⟩
      · rw [if_neg q3, h3, h2]
        exact ⟨fun w => ⟨w.1.1, ⟨w.1.2, hno⟩, w.2.resolve_left q3⟩, fun w => ⟨⟨w.1, w.2.1.1⟩, Or.inr w.2.2⟩⟩
    · rw [z, ih g hg (by omega) _]
      refine retI (vbc ?_)
      simp only [Bool.and_eq_true, Bool.or_eq_true, decide_eq_true_eq]
      rw [if_neg (show ¬ g = m by omega)]
      have hno : (∀ g, g < x → mi 120 x = nI g → ca g = 1) ↔ ca g = 1 := by
        constructor
        · intro w; exact w g hg z
        · intro w g' hg' w'
          rw [z] at w'
          rw [← (nI_eq (by omega) (by omega)).mp w']; exact w
      by_cases q3 : x = m
      · rw [if_pos q3, h2, hno]
        exact ⟨fun w => ⟨w.1.1.1, w.1.1.2, w.2⟩, fun w => ⟨⟨⟨w.1, w.2.1⟩, Or.inl q3⟩, w.2.2⟩⟩
      · rw [if_neg q3, h3, h2, hno]
        exact ⟨fun w => ⟨w.1.1.1, ⟨w.1.1.2, w.2⟩, w.1.2.resolve_left q3⟩, fun w => ⟨⟨⟨w.1, w.2.1.1⟩, Or.inr w.2.2⟩, w.2.1.2⟩⟩
theorem s205 {va ca : Nat → Int32} {m : Nat} (hn : n ≤ 10) (hm : m < n) (H : MtK mi n va ca) : vh_C 205 [.ref 88, .int (nI m)] (vh_K d mi ml) = some (some (.int (vb (va m = 1))), vh_K d mi ml) := by
  have := l205 (d := d) (ml := ml) hn hm H m (Nat.le_refl _) true
  rw [vb_t rfl] at this
  simp only [c205, e205_0, e205_1, e205_2, e205_3, e205_5, e205_7, e205_10, e205_11, e205_14, e205_15, e205_18, e205_19, e205_20, e205_21, e205_24, e205_25, e205_26, e205_27, e205_28, e205_31, e205_32, e205_33, e205_36, e205_37, e205_38, e205_41, e205_42, e205_45, e205_46, e205_47, e205_48, e205_51, e205_52, e205_53, e205_56, e205_57, e205_60, e205_61, e205_62, e205_63, e205_66, e205_67, e205_68, e205_69, e205_72, e205_73]
  rw [this]
  refine retI (vbc ?_)
  rw [if_pos rfl]
  exact ⟨fun z => z.2, fun z => ⟨rfl, z⟩⟩
end

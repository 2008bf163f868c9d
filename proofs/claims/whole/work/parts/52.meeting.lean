section
variable {d : Nat} {mi : Nat → Nat → Int32} {ml : Nat → Nat → Int64}
theorem s118 {i : Int32} : vh_C 118 [.ref 82, .int i] (vh_K d mi ml) = some (some (.int (vb (0 ≤ i ∧ i < mi 82 3))), vh_K d mi ml) := by
  simp only [c118, e118_0, e118_1, e118_4, e118_5, e118_6, e118_9, e118_12, e118_13, e118_16, e118_17, ok82, not_true_eq_false, not_false_eq_true, if_true, if_false, and_self, vh_bds, vh_ps1, vh_ps0, vb0, vb1, vbz, vbo]
  by_cases h1 : i < 0
  · rw [if_pos h1, vb_f (fun h => absurd h.1 (Int32.not_le.mpr h1))]
  · rw [if_neg h1]
    by_cases h2 : mi 82 3 ≤ i
    · rw [if_pos h2, vb_f (fun h => absurd h.2 (Int32.not_lt.mpr h2))]
    · rw [if_neg h2, vb_t ⟨nlt h1, nle h2⟩]
theorem s119 {n : Nat} (hn : mi 82 3 = nI n) (h10 : n ≤ 10) : vh_C 119 [.ref 82] (vh_K d mi ml) = some (some (.int (vb (n = 10))), vh_K d mi ml) := by
  simp only [c119, e119_0, e119_1, e119_4, e119_6, e119_9, e119_10, e119_13, e119_14, ok82, hn, not_true_eq_false, not_false_eq_true, if_true, if_false, and_self, vh_bds, vh_ps1, vh_ps0, vb0, vb1, vbz, vbo]
  by_cases q : n = 10
  · subst q
    rw [if_neg (by decide), vb_t rfl]
  · rw [if_pos (show nI n < 10 from nI_lt (b := 10) (by omega) (by decide)), vb_f q]
/-- what a meeting must be -/
def mtG (n : Nat) (m y o q hh : Int32) : Prop := (1 ≤ m ∧ m ≤ 99) ∧ (0 ≤ y ∧ y ≤ m) ∧ (0 ≤ o ∧ o ≤ m - y) ∧ (0 ≤ q ∧ q ≤ 99) ∧ (hh = -1000000 ∨ ∃ k, k < n ∧ hh = nI k)
theorem s117a {n : Nat} {m y o q hh : Int32} (hn : mi 82 3 = nI n) (h10 : n ≤ 10) (hg : ¬ mtG n m y o q hh) : vh_C 117 [.ref 0, .int m, .int y, .int o, .int q, .int hh] (vh_K d mi ml) = some (some (.int (-1000001)), vh_K d mi ml) := by
  simp only [c117, e117_0, e117_1, e117_2, e117_4, e117_7, e117_10, e117_11, e117_12, e117_13, e117_16, e117_19, e117_20, e117_21, e117_22, e117_23, e117_24, e117_27, e117_30, e117_32, e117_33, e117_35, e117_36, e117_38, e117_41, e117_44, e117_46, e117_48, e117_51, e117_52, e117_55, e117_57, e117_60, e117_63, e117_65, e117_67, e117_70, e117_73, e117_76, e117_78, e117_81, e117_82, e117_85, e117_86, e117_87, e117_89, e117_91, e117_94, s14, s118, ok0, ok82, rf0_9, hn, not_true_eq_false, not_false_eq_true, if_true, if_false, and_self, vh_bds, vh_ps1, vh_ps0, vb0, vb1, vbz, vbo, Classical.not_not]
  by_cases h1 : 1 ≤ m ∧ m ≤ 99
  · rw [if_neg (not_not_intro h1)]
    by_cases h2 : 0 ≤ y ∧ y ≤ m
    · rw [if_neg (not_not_intro h2)]
      by_cases h3 : 0 ≤ o ∧ o ≤ m - y
      · rw [if_pos h3]
        by_cases h4 : 0 ≤ q ∧ q ≤ 99
        · rw [if_neg (not_not_intro h4)]
          by_cases h5 : hh = -1000000
          · exact absurd ⟨h1, h2, h3, h4, Or.inl h5⟩ hg
          · rw [if_neg h5, if_neg (fun z => hg ⟨h1, h2, h3, h4, Or.inr ((hasN (by omega)).mp z)⟩)]
        · rw [if_pos h4]
      · rw [if_neg h3]
    · rw [if_pos h2]
  · rw [if_pos h1]
theorem s117b {n : Nat} {m y o q hh : Int32} (hn : mi 82 3 = nI n) (h10 : n ≤ 10) (hg : mtG n m y o q hh) : vh_C 117 [.ref 0, .int m, .int y, .int o, .int q, .int hh] (vh_K d mi ml) = (if n = 10 then some (some (.int (-1000003)), vh_K d mi ml) else vh_bd (vh_C 120 [.ref 82, .int y, .int o, .int q, .int hh] (vh_K d mi ml)) (fun v w => vh_E 117 94 [some (.ref 0), some (.int m), some (.int y), some (.int o), some (.int q), some (.int hh)] (vh_ps v []) w)) := by
  obtain ⟨h1, h2, h3, h4, h5⟩ := hg
  simp only [c117, e117_0, e117_1, e117_2, e117_4, e117_7, e117_10, e117_11, e117_12, e117_13, e117_16, e117_19, e117_20, e117_21, e117_22, e117_23, e117_24, e117_27, e117_30, e117_32, e117_33, e117_35, e117_36, e117_38, e117_41, e117_44, e117_46, e117_48, e117_51, e117_52, e117_55, e117_57, e117_60, e117_63, e117_65, e117_66, e117_67, e117_70, e117_73, e117_76, e117_78, e117_81, e117_82, e117_85, e117_86, e117_87, e117_89, e117_91, s14, s118, s119 hn h10, ok0, ok82, rf0_9, hn, h1, h2, h3, h4, not_true_eq_false, not_false_eq_true, if_true, if_false, and_self, vh_bds, vh_ps1, vh_ps0, vb0, vb1, vbz, vbo, Classical.not_not]
  by_cases h6 : hh = -1000000
  · rw [if_pos h6]
    by_cases e : n = 10
    · rw [if_neg (not_not_intro e), if_pos e, e117_94]
    · rw [if_pos e, if_neg e]
  · rw [if_neg h6, if_pos ((hasN (by omega)).mpr (h5.resolve_left h6))]
    by_cases e : n = 10
    · rw [if_neg (not_not_intro e), if_pos e, e117_94]
    · rw [if_pos e, if_neg e]
def mtW (mi : Nat → Nat → Int32) (n : Nat) (v c hh : Int32) : Nat → Nat → Int32 := vh_sA (vh_sA (vh_sA (vh_sA mi 83 (upd (mi 83) n v)) 84 (upd (mi 84) n c)) 85 (upd (mi 85) n hh)) 82 (upd (mi 82) 3 (nI (n + 1)))
def mtV (y o q ok : Int32) : Int32 := if q ≤ y + o then (if ok = 0 then 0 else 1) else 0
def mtC (y o v : Int32) : Int32 := if v = 0 then 0 else if y ≤ o then 0 else 1
theorem l120 {n : Nat} {y o q hh ok : Int32} (hn : mi 82 3 = nI n) (h10 : n < 10) : vh_E 120 26 [some (.ref 82), some (.int y), some (.int o), some (.int q), some (.int hh), some (.int ok)] [] (vh_K d mi ml) = some (some (.int (nI n)), vh_K d (mtW mi n (mtV y o q ok) (mtC y o (mtV y o q ok)) hh) ml) := by
  have hc := clK (show n < 1000 by omega)
  have x1 : vh_ixa 83 (nI n) = true := ixa (by rw [kd83]; omega) (by omega)
  have x2 : vh_ixa 84 (nI n) = true := ixa (by rw [kd84]; omega) (by omega)
  have x3 : vh_ixa 85 (nI n) = true := ixa (by rw [kd85]; omega) (by omega)
  have nl : y + o < q ↔ ¬ q ≤ y + o := Int32.not_le.symm
  simp only [e120_0, e120_1, e120_3, e120_6, e120_9, e120_10, e120_13, e120_15, e120_16, e120_19, e120_20, e120_23, e120_24, e120_26, e120_27, e120_30, e120_31, e120_34, e120_35, e120_36, e120_37, e120_38, e120_41, e120_43, e120_46, e120_47, e120_50, e120_51, e120_52, e120_53, e120_56, e120_57, e120_60, e120_61, e120_64, e120_65, e120_68, e120_69, e120_72, e120_73, e120_74, e120_77, e120_78, e120_81, e120_82, e120_83, e120_84, e120_87, e120_88, e120_91, e120_93, e120_94, e120_95, e120_96, e120_99, e120_100, e120_101, e120_104, e120_105, e120_108, e120_109, e120_110, ok82, ok83, ok84, ok85, rf82_0, rf82_1, rf82_2, hn, hc, x1, x2, x3, sAn, sAs, sAA, ups, upn, bkv_n, hlv_n, ne_eq, Nat.reduceEqDiff, Nat.reduceLT, Nat.reduceLeDiff, or_true, true_or, not_false_eq_true, not_true_eq_false, not_false_eq_true, if_true, if_false, and_self, vh_bds, vh_ps1, vh_ps0, vb0, vb1, vbz, vbo, nI_1, nI_pred, nl]
  unfold mtW mtC mtV
  by_cases h1 : q ≤ y + o
  · rw [if_neg (not_not_intro h1), if_pos h1]
    by_cases h2 : ok = 0
    · rw [if_pos h2, if_pos h2, if_pos rfl]
    · rw [if_neg h2, if_neg h2, if_neg (show ¬ (1 : Int32) = 0 by decide), if_neg (show ¬ (1 : Int32) = 0 by decide)]
      by_cases h3 : y ≤ o
      · rw [if_pos h3, if_pos h3]
      · rw [if_neg h3, if_neg h3]
  · rw [if_pos h1, if_neg h1, if_pos rfl]
theorem s120 {n : Nat} {y o q hh : Int32} (hn : mi 82 3 = nI n) (h10 : n < 10) : ∃ ok, vh_C 120 [.ref 82, .int y, .int o, .int q, .int hh] (vh_K d mi ml) = some (some (.int (nI n)), vh_K d (mtW mi n (mtV y o q ok) (mtC y o (mtV y o q ok)) hh) ml) ∧ (¬ ok = 0 ↔ ∀ e, e < n → hh = nI e → ¬ mi 84 e = 0) := by
  by_cases hi : ∃ e, e < n ∧ hh = nI e
  · obtain ⟨e, he, rfl⟩ := hi
    have hg : 0 ≤ nI e ∧ nI e < nI n := (hasN (by omega)).mpr ⟨e, he, rfl⟩
    have x2 : vh_ixa 84 (nI e) = true := ixa (by rw [kd84]; omega) (by omega)
    by_cases q0 : mi 84 e = 0
    · refine ⟨0, ?_, ?_⟩
      · rw [← l120 hn h10]
        simp only [c120, e120_0, e120_1, e120_3, e120_6, e120_9, e120_10, e120_13, e120_15, e120_16, e120_19, e120_20, e120_23, e120_24, e120_27, e120_30, e120_31, e120_34, e120_35, e120_36, e120_37, e120_38, e120_41, e120_43, e120_46, e120_47, e120_50, e120_51, e120_52, e120_53, e120_56, e120_57, e120_60, e120_61, e120_64, e120_65, e120_68, e120_69, e120_72, e120_73, e120_74, e120_77, e120_78, e120_81, e120_82, e120_83, e120_84, e120_87, e120_88, e120_91, e120_93, e120_94, e120_95, e120_96, e120_99, e120_100, e120_101, e120_104, e120_105, e120_108, e120_109, e120_110, s118, hn, hg, ok82, ok84, rf82_1, x2, clK (show e < 1000 by omega), q0, not_true_eq_false, not_false_eq_true, if_true, if_false, and_self, vh_bds, vh_ps1, vh_ps0, vb0, vb1, vbz, vbo]
      · exact ⟨fun z => absurd rfl z, fun z => absurd q0 (z e he rfl)⟩
    · refine ⟨1, ?_, ?_⟩
      · rw [← l120 hn h10]
        simp only [c120, e120_0, e120_1, e120_3, e120_6, e120_9, e120_10, e120_13, e120_15, e120_16, e120_19, e120_20, e120_23, e120_24, e120_27, e120_30, e120_31, e120_34, e120_35, e120_36, e120_37, e120_38, e120_41, e120_43, e120_46, e120_47, e120_50, e120_51, e120_52, e120_53, e120_56, e120_57, e120_60, e120_61, e120_64, e120_65, e120_68, e120_69, e120_72, e120_73, e120_74, e120_77, e120_78, e120_81, e120_82, e120_83, e120_84, e120_87, e120_88, e120_91, e120_93, e120_94, e120_95, e120_96, e120_99, e120_100, e120_101, e120_104, e120_105, e120_108, e120_109, e120_110, s118, hn, hg, ok82, ok84, rf82_1, x2, clK (show e < 1000 by omega), q0, not_true_eq_false, not_false_eq_true, if_true, if_false, and_self, vh_bds, vh_ps1, vh_ps0, vb0, vb1, vbz, vbo]
      · refine ⟨fun _ e' he' z => ?_, fun _ => by decide⟩
        have : e' = e := (nI_eq (by omega) (by omega)).mp z.symm
        rw [this]; exact q0
  · refine ⟨1, ?_, ?_⟩
    · have hg : ¬ (0 ≤ hh ∧ hh < nI n) := fun z => hi ((hasN (by omega)).mp z)
      rw [← l120 hn h10]
      simp only [c120, e120_0, e120_1, e120_3, e120_6, e120_9, e120_10, e120_13, e120_15, e120_16, e120_19, e120_20, e120_23, e120_24, e120_27, e120_30, e120_31, e120_34, e120_35, e120_36, e120_37, e120_38, e120_41, e120_43, e120_46, e120_47, e120_50, e120_51, e120_52, e120_53, e120_56, e120_57, e120_60, e120_61, e120_64, e120_65, e120_68, e120_69, e120_72, e120_73, e120_74, e120_77, e120_78, e120_81, e120_82, e120_83, e120_84, e120_87, e120_88, e120_91, e120_93, e120_94, e120_95, e120_96, e120_99, e120_100, e120_101, e120_104, e120_105, e120_108, e120_109, e120_110, s118, hn, hg, ok82, not_true_eq_false, not_false_eq_true, if_true, if_false, and_self, vh_bds, vh_ps1, vh_ps0, vb0, vb1, vbz, vbo]
    · exact ⟨fun _ e he z => absurd ⟨e, he, z⟩ hi, fun _ => by decide⟩
end

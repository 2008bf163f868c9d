section
variable {d : Nat} {mi : Nat → Nat → Int32} {ml : Nat → Nat → Int64}
theorem mt_sum {m y o : Int32} (hm : 1 ≤ m ∧ m ≤ 99) : ((0 ≤ y ∧ y ≤ m) ∧ (0 ≤ o ∧ o ≤ m - y)) ↔ ((0 ≤ y ∧ y ≤ 99) ∧ (0 ≤ o ∧ o ≤ 99) ∧ ¬ m < y + o) := by
  obtain ⟨a, ha, rfl⟩ := nIr (Int32.le_trans (by decide) hm.1) (show m ≤ nI 99 from hm.2) (by decide)
  constructor
  · rintro ⟨⟨h1, h2⟩, h3, h4⟩
    obtain ⟨c, hc, rfl⟩ := nIr h1 h2 (by omega)
    rw [pk_sub hc] at h4
    obtain ⟨e, he, rfl⟩ := nIr h3 h4 (by omega)
    rw [nI_add]
    exact ⟨⟨h1, nI_le (b := 99) (by omega) (by decide)⟩, ⟨h3, nI_le (b := 99) (by omega) (by decide)⟩, nI_nlt (by omega) (by omega)⟩
  · rintro ⟨⟨h1, h2⟩, ⟨h3, h4⟩, h5⟩
    obtain ⟨c, hc, rfl⟩ := nIr h1 (show y ≤ nI 99 from h2) (by decide)
    obtain ⟨e, he, rfl⟩ := nIr h3 (show o ≤ nI 99 from h4) (by decide)
    rw [nI_add] at h5
    have : c + e ≤ a := by
      rcases Nat.lt_or_ge a (c + e) with z | z
      · exact absurd (nI_lt z (by omega)) h5
      · exact z
    rw [pk_sub (show c ≤ a by omega)]
    exact ⟨⟨h1, nI_le (by omega) (by omega)⟩, h3, nI_le (by omega) (by omega)⟩
theorem s203a {n : Nat} {m y o q hh : Int32} (hn : mi 88 46 = nI n) (h10 : n ≤ 10) (hg : ¬ mtG n m y o q hh) : vh_C 203 [.ref 88, .int m, .int y, .int o, .int q, .int hh] (vh_K d mi ml) = some (some (.int (-1000001)), vh_K d (vh_sA mi 88 (upd (mi 88) 0 0)) ml) := by
  have hin : vh_C 149 [.long hh.toInt64, .long 0, .long (nI n - 1).toInt64] (vh_K d (vh_sA mi 88 (upd (mi 88) 0 0)) ml) = some (some (.int (vb (0 ≤ hh ∧ hh ≤ nI n - 1))), vh_K d (vh_sA mi 88 (upd (mi 88) 0 0)) ml) := inI (show (0 : Int64) = (0 : Int32).toInt64 from by decide) rfl
  simp only [c203, e203_0, e203_1, e203_2, e203_5, e203_6, e203_7, e203_8, e203_11, e203_14, e203_17, e203_18, e203_19, e203_20, e203_23, e203_26, e203_29, e203_30, e203_31, e203_32, e203_35, e203_38, e203_41, e203_42, e203_43, e203_44, e203_45, e203_48, e203_50, e203_51, e203_52, e203_55, e203_58, e203_61, e203_63, e203_65, e203_68, e203_70, e203_71, e203_72, e203_73, e203_76, e203_77, e203_78, e203_79, e203_82, e203_85, e203_87, e203_89, e203_92, e203_94, e203_97, e203_99, e203_100, e203_101, e203_104, e203_105, e203_108, e203_109, e203_110, e203_111, e203_114, e203_115, e203_118, e203_119, e203_120, e203_121, e203_124, e203_125, e203_128, e203_129, e203_130, e203_131, e203_134, e203_135, e203_138, e203_140, e203_141, e203_142, e203_145, e203_146, e203_149, e203_151, e203_152, e203_153, e203_154, e203_157, e203_158, e203_159, e203_162, e203_163, e203_166, e203_167, e203_168, in_1_99, in_0_99, hin, ok88, hn, sAn, sAs, sAA, ups, upn, bkv_n, hlv_n, ne_eq, Nat.reduceEqDiff, Nat.reduceLT, Nat.reduceLeDiff, or_true, true_or, not_false_eq_true, not_true_eq_false, not_false_eq_true, if_true, if_false, and_self, vh_bds, vh_ps1, vh_ps0, vb0, vb1, vbz, vbo, Classical.not_not]
  by_cases h1 : 1 ≤ m ∧ m ≤ 99
  · rw [if_neg (not_not_intro h1)]
    by_cases h2 : 0 ≤ y ∧ y ≤ 99
    · rw [if_neg (not_not_intro h2)]
      by_cases h3 : 0 ≤ o ∧ o ≤ 99
      · rw [if_neg (not_not_intro h3)]
        by_cases h33 : m < y + o
        · rw [if_pos h33]
        · rw [if_neg h33]
          have h23 := (mt_sum h1).mpr ⟨h2, h3, h33⟩
          by_cases h4 : 0 ≤ q ∧ q ≤ 99
          · rw [if_neg (not_not_intro h4)]
            by_cases h5 : hh = -1000000
            · exact absurd ⟨h1, h23.1, h23.2, h4, Or.inl h5⟩ hg
            · rw [if_neg h5, if_neg (fun z => hg ⟨h1, h23.1, h23.2, h4, Or.inr ((inN (by omega)).mp z)⟩)]
          · rw [if_pos h4]
      · rw [if_pos h3]
    · rw [if_pos h2]
  · rw [if_pos h1]
end

section
variable {d : Nat} {mi : Nat → Nat → Int32} {ml : Nat → Nat → Int64}
def mtR (mi : Nat → Nat → Int32) (n : Nat) (m y o q hh : Int32) : Nat → Nat → Int32 := vh_sA (vh_sA (vh_sA (vh_sA (vh_sA (vh_sA mi 116 (upd (mi 116) n m)) 117 (upd (mi 117) n y)) 118 (upd (mi 118) n o)) 119 (upd (mi 119) n q)) 120 (upd (mi 120) n hh)) 88 (upd (upd (mi 88) 0 0) 46 (nI (n + 1)))
theorem s203b {n : Nat} {m y o q hh : Int32} (hn : mi 88 46 = nI n) (h10 : n ≤ 10) (hg : mtG n m y o q hh) : vh_C 203 [.ref 88, .int m, .int y, .int o, .int q, .int hh] (vh_K d mi ml) = (if n = 10 then some (some (.int (-1000003)), vh_K d (vh_sA mi 88 (upd (mi 88) 0 0)) ml) else some (some (.int (nI n)), vh_K d (mtR mi n m y o q hh) ml)) := by
  obtain ⟨h1, h2, h3, h4, h5⟩ := hg
  obtain ⟨h6, h7, h8⟩ := (mt_sum h1).mp ⟨h2, h3⟩
  have hin : vh_C 149 [.long hh.toInt64, .long 0, .long (nI n - 1).toInt64] (vh_K d (vh_sA mi 88 (upd (mi 88) 0 0)) ml) = some (some (.int (vb (0 ≤ hh ∧ hh ≤ nI n - 1))), vh_K d (vh_sA mi 88 (upd (mi 88) 0 0)) ml) := inI (show (0 : Int64) = (0 : Int32).toInt64 from by decide) rfl
  have rest : vh_E 203 88 [some (.ref 88), some (.int m), some (.int y), some (.int o), some (.int q), some (.int hh)] [] (vh_K d (vh_sA mi 88 (upd (mi 88) 0 0)) ml) = (if n = 10 then some (some (.int (-1000003)), vh_K d (vh_sA mi 88 (upd (mi 88) 0 0)) ml) else some (some (.int (nI n)), vh_K d (mtR mi n m y o q hh) ml)) := by
    by_cases e : n = 10
    · subst e
      simp only [e203_0, e203_1, e203_2, e203_5, e203_6, e203_7, e203_8, e203_11, e203_14, e203_17, e203_18, e203_19, e203_20, e203_23, e203_26, e203_29, e203_30, e203_31, e203_32, e203_35, e203_38, e203_41, e203_42, e203_43, e203_44, e203_45, e203_48, e203_50, e203_51, e203_52, e203_55, e203_58, e203_61, e203_63, e203_65, e203_68, e203_70, e203_71, e203_72, e203_73, e203_76, e203_77, e203_78, e203_79, e203_82, e203_85, e203_87, e203_88, e203_89, e203_92, e203_94, e203_97, e203_99, e203_100, e203_101, e203_104, e203_105, e203_108, e203_109, e203_110, e203_111, e203_114, e203_115, e203_118, e203_119, e203_120, e203_121, e203_124, e203_125, e203_128, e203_129, e203_130, e203_131, e203_134, e203_135, e203_138, e203_140, e203_141, e203_142, e203_145, e203_146, e203_149, e203_151, e203_152, e203_153, e203_154, e203_157, e203_158, e203_159, e203_162, e203_163, e203_166, e203_167, e203_168, ok88, hn, show ¬ ¬ nI 10 = 10 from by decide, sAn, sAs, sAA, ups, upn, bkv_n, hlv_n, ne_eq, Nat.reduceEqDiff, Nat.reduceLT, Nat.reduceLeDiff, or_true, true_or, not_false_eq_true, not_true_eq_false, not_false_eq_true, if_true, if_false, and_self, vh_bds, vh_ps1, vh_ps0, vb0, vb1, vbz, vbo]
    · have x1 : vh_ixa 116 (nI n) = true := ixa (by rw [kd116]; omega) (by omega)
      have x2 : vh_ixa 117 (nI n) = true := ixa (by rw [kd117]; omega) (by omega)
      have x3 : vh_ixa 118 (nI n) = true := ixa (by rw [kd118]; omega) (by omega)
      have x4 : vh_ixa 119 (nI n) = true := ixa (by rw [kd119]; omega) (by omega)
      have x5 : vh_ixa 120 (nI n) = true := ixa (by rw [kd120]; omega) (by omega)
      have ne : ¬ nI n = 10 := fun z => e ((nI_eq (b := 10) (by omega) (by decide)).mp z)
      simp only [e203_0, e203_1, e203_2, e203_5, e203_6, e203_7, e203_8, e203_11, e203_14, e203_17, e203_18, e203_19, e203_20, e203_23, e203_26, e203_29, e203_30, e203_31, e203_32, e203_35, e203_38, e203_41, e203_42, e203_43, e203_44, e203_45, e203_48, e203_50, e203_51, e203_52, e203_55, e203_58, e203_61, e203_63, e203_65, e203_68, e203_70, e203_71, e203_72, e203_73, e203_76, e203_77, e203_78, e203_79, e203_82, e203_85, e203_87, e203_88, e203_89, e203_92, e203_94, e203_97, e203_99, e203_100, e203_101, e203_104, e203_105, e203_108, e203_109, e203_110, e203_111, e203_114, e203_115, e203_118, e203_119, e203_120, e203_121, e203_124, e203_125, e203_128, e203_129, e203_130, e203_131, e203_134, e203_135, e203_138, e203_140, e203_141, e203_142, e203_145, e203_146, e203_149, e203_151, e203_152, e203_153, e203_154, e203_157, e203_158, e203_159, e203_162, e203_163, e203_166, e203_167, e203_168, ok88, ok116, ok117, ok118, ok119, ok120, rf88_47, rf88_48, rf88_49, rf88_50, rf88_51, x1, x2, x3, x4, x5, clK (show n < 1000 by omega), hn, ne, e, sAn, sAs, sAA, ups, upn, bkv_n, hlv_n, ne_eq, Nat.reduceEqDiff, Nat.reduceLT, Nat.reduceLeDiff, or_true, true_or, not_false_eq_true, not_true_eq_false, not_false_eq_true, if_true, if_false, and_self, vh_bds, vh_ps1, vh_ps0, vb0, vb1, vbz, vbo, nI_1, nI_pred]
      congr 3
      unfold mtR
      funext c
      unfold vh_sA
      by_cases c1 : c = 88
      · subst c1; rfl
      by_cases c2 : c = 116
      · subst c2; rfl
      by_cases c3 : c = 117
      · subst c3; rfl
      by_cases c4 : c = 118
      · subst c4; rfl
      by_cases c5 : c = 119
      · subst c5; rfl
      by_cases c6 : c = 120
      · subst c6; rfl
      simp only [c1, c2, c3, c4, c5, c6, if_false]
  simp only [c203, e203_0, e203_1, e203_2, e203_5, e203_6, e203_7, e203_8, e203_11, e203_14, e203_17, e203_18, e203_19, e203_20, e203_23, e203_26, e203_29, e203_30, e203_31, e203_32, e203_35, e203_38, e203_41, e203_42, e203_43, e203_44, e203_45, e203_48, e203_50, e203_51, e203_52, e203_55, e203_58, e203_61, e203_63, e203_65, e203_68, e203_70, e203_71, e203_72, e203_73, e203_76, e203_77, e203_78, e203_79, e203_82, e203_85, e203_87, e203_89, e203_92, e203_94, e203_97, e203_99, e203_100, e203_101, e203_104, e203_105, e203_108, e203_109, e203_110, e203_111, e203_114, e203_115, e203_118, e203_119, e203_120, e203_121, e203_124, e203_125, e203_128, e203_129, e203_130, e203_131, e203_134, e203_135, e203_138, e203_140, e203_141, e203_142, e203_145, e203_146, e203_149, e203_151, e203_152, e203_153, e203_154, e203_157, e203_158, e203_159, e203_162, e203_163, e203_166, e203_167, e203_168, in_1_99, in_0_99, hin, ok88, hn, h1, h4, h6, h7, h8, rest, sAn, sAs, sAA, ups, upn, bkv_n, hlv_n, ne_eq, Nat.reduceEqDiff, Nat.reduceLT, Nat.reduceLeDiff, or_true, true_or, not_false_eq_true, not_true_eq_false, not_false_eq_true, if_true, if_false, and_self, vh_bds, vh_ps1, vh_ps0, vb0, vb1, vbz, vbo, Classical.not_not]
  by_cases z : hh = -1000000
  · rw [if_pos z]
  · rw [if_neg z, if_pos ((inN (by omega)).mpr (h5.resolve_left z))]
theorem sim_meeting {m y o q hh : Int32} (hR : Rel d mi) : Sim 117 203 [.int m, .int y, .int o, .int q, .int hh] d mi ml := by
  obtain ⟨e, n, hn, hc, hk⟩ := hR.2.2.2.2.2.2.2.2.2.2.2.1
  have h88 : mi 88 46 = nI n := e.symm.trans hc
  by_cases hg : mtG n m y o q hh
  · have A := s117b (d := d) (ml := ml) hc hn hg
    by_cases hf : n = 10
    · rw [if_pos hf] at A
      have Bq := s203b (d := d) (ml := ml) h88 hn hg
      rw [if_pos hf] at Bq
      exact Sim.mk A Bq rfl hR.thrown
    · rw [if_neg hf] at A
      obtain ⟨ok, h1, h2⟩ := s120 (d := d) (ml := ml) (y := y) (o := o) (q := q) (hh := hh) hc (show n < 10 by omega)
      rw [h1] at A
      simp only [vh_bds, vh_ps1, e117_94] at A
      have Bq := s203b (d := d) (mi := mtW mi n (mtV y o q ok) (mtC y o (mtV y o q ok)) hh) (ml := ml) (by unfold mtW; simp only [sAn, sAs, sAA, ups, upn, bkv_n, hlv_n, ne_eq, Nat.reduceEqDiff, Nat.reduceLT, Nat.reduceLeDiff, or_true, true_or, not_false_eq_true]; exact h88) hn hg
      rw [if_neg hf] at Bq
      refine Sim.mk A Bq rfl ?_
      obtain ⟨g1, g2, g3, g4, g5⟩ := hg
      obtain ⟨g6, g7, g8⟩ := (mt_sum g1).mp ⟨g2, g3⟩
      obtain ⟨y', hy', rfl⟩ := nIr g6.1 (show y ≤ nI 99 from g6.2) (by decide)
      obtain ⟨o', ho', rfl⟩ := nIr g7.1 (show o ≤ nI 99 from g7.2) (by decide)
      obtain ⟨q', hq', rfl⟩ := nIr g4.1 (show q ≤ nI 99 from g4.2) (by decide)
      unfold mtR mtW
      unfold Rel at hR ⊢
      simp only [sAn, sAs, sAA, ups, upn, bkv_n, hlv_n, ne_eq, Nat.reduceEqDiff, Nat.reduceLT, Nat.reduceLeDiff, or_true, true_or, not_false_eq_true]
      refine ⟨hR.1, hR.2.1, hR.2.2.1, hR.2.2.2.1, hR.2.2.2.2.1, hR.2.2.2.2.2.1, hR.2.2.2.2.2.2.1, hR.2.2.2.2.2.2.2.1, hR.2.2.2.2.2.2.2.2.1, hR.2.2.2.2.2.2.2.2.2.1, hR.2.2.2.2.2.2.2.2.2.2.1, ?_, hR.2.2.2.2.2.2.2.2.2.2.2.2⟩
      refine ⟨rfl, n + 1, by omega, rfl, ?_⟩
      intro k hkn
      by_cases ek : k = n
      · subst ek
        simp only [ups]
        refine ⟨trivial, ⟨y', by omega, hy', rfl⟩, ⟨o', by omega, ho', rfl⟩, ⟨q', by omega, hq', rfl⟩, g5, ?_, ?_, ?_, ?_⟩
        · unfold mtV; split; split; exact Or.inl rfl; exact Or.inr rfl; exact Or.inl rfl
        · unfold mtC; split; exact Or.inl rfl; split; exact Or.inl rfl; exact Or.inr rfl
        · have hok : (∀ g, g < k → hh = nI g → upd (mi 84) k (mtC (nI y') (nI o') (mtV (nI y') (nI o') (nI q') ok)) g = 1) ↔ ¬ ok = 0 := by
            rw [h2]
            constructor
            · intro z g hg hgh w
              have := z g hg hgh
              rw [upn (by omega), w] at this
              exact absurd this (by decide)
            · intro z g hg hgh
              rw [upn (by omega)]
              rcases (hk g hg).2.2.2.2.2.2.1 with w | w
              · exact absurd w (z g hg hgh)
              · exact w
          rw [hok]
          unfold mtV
          by_cases w1 : nI q' ≤ nI y' + nI o'
          · rw [if_pos w1]
            by_cases w2 : ok = 0
            · rw [if_pos w2]; exact ⟨fun z => absurd z (by decide), fun z => absurd w2 z.2⟩
            · rw [if_neg w2]; exact ⟨fun _ => ⟨w1, w2⟩, fun _ => rfl⟩
          · rw [if_neg w1]; exact ⟨fun z => absurd z (by decide), fun z => absurd z.1 w1⟩
        · have hv : mtV (nI y') (nI o') (nI q') ok = 0 ∨ mtV (nI y') (nI o') (nI q') ok = 1 := by
            unfold mtV; split; split; exact Or.inl rfl; exact Or.inr rfl; exact Or.inl rfl
          generalize mtV (nI y') (nI o') (nI q') ok = v at hv
          unfold mtC
          rcases hv with z | z
          · rw [if_pos z, z]; exact ⟨fun w => absurd w (by decide), fun w => absurd w.1 (by decide)⟩
          · rw [if_neg (show ¬ v = 0 by rw [z]; decide), z]
            by_cases w : nI y' ≤ nI o'
            · rw [if_pos w]; exact ⟨fun w => absurd w (by decide), fun w' => absurd w'.2 (Int32.not_lt.mpr w)⟩
            · rw [if_neg w]; exact ⟨fun _ => ⟨rfl, nle w⟩, fun _ => rfl⟩
      · have hkn' : k < n := by omega
        rw [upn ek, upn ek, upn ek, upn ek, upn ek, upn ek, upn ek]
        obtain ⟨a1, a2, a3, a4, a5, a6, a7, a8, a9⟩ := hk k hkn'
        refine ⟨a1, a2, a3, a4, a5, a6, a7, ?_, a9⟩
        rw [a8]
        constructor
        · rintro ⟨z1, z2⟩
          refine ⟨z1, fun g hg hgh => ?_⟩
          rw [upn (by omega)]; exact z2 g hg hgh
        · rintro ⟨z1, z2⟩
          refine ⟨z1, fun g hg hgh => ?_⟩
          have := z2 g hg hgh
          rw [upn (by omega)] at this; exact this
  · exact Sim.mk (s117a hc hn hg) (s203a h88 hn hg) rfl hR.thrown
end

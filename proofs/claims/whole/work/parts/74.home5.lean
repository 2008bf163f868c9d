section
variable {d : Nat} {mi : Nat → Nat → Int32} {ml : Nat → Nat → Int64}
theorem sim_home {h dm : Int32} (hR : Rel d mi) : Sim 114 202 [.int h, .int dm] d mi ml := by
  by_cases hg : (0 ≤ h ∧ h ≤ 3) ∧ (0 ≤ dm ∧ dm ≤ 7)
  · obtain ⟨h3, h7⟩ := hg
    obtain ⟨Hh, hH, rfl⟩ := nIr h3.1 (show h ≤ nI 3 from h3.2) (by decide)
    obtain ⟨D, hD, rfl⟩ := nIr h7.1 (show dm ≤ nI 7 from h7.2) (by decide)
    obtain ⟨m, b, g, B, C, M⟩ := hR.dia
    obtain ⟨e4, n, hn, hc, l, hl, ht, hs, hok⟩ := hR.2.2.2.2.2.2.2.2.2.2.1
    have h88 : mi 88 42 = nI n := e4.symm.trans hc
    rw [hl] at ht
    have hk : ∀ k, k < n → mi 114 k = nI (mi 114 k).toNatClampNeg ∧ (mi 114 k).toNatClampNeg ≤ 35039 ∧ mi 115 k = nI (mi 115 k).toNatClampNeg ∧ (mi 115 k).toNatClampNeg ≤ 255 := by
      intro k hk
      obtain ⟨a1, a2, a3⟩ := hok (mi 114 k, mi 113 k, mi 115 k, 0) (by rw [ht]; exact lgL_at (b := fun _ => 0) hk)
      have b1 := rng_c (by decide) a1
      have b3 := rng_c (by decide) a3
      exact ⟨b1.1, b1.2.2, b3.1, b3.2.2⟩
    have hO1 := ordN_o (key := fun k => (mi 114 k).toNatClampNeg) (P := fun _ => true) n
    have eA : hmA (nI Hh) D ((lgL n (mi 78) (mi 79) (mi 80) (mi 81)).drop 0) (-1000000) = (hmN (hmP mi (nI Hh)) (fun x => (mi 115 x).toNatClampNeg.testBit D) (ordN (fun k => (mi 114 k).toNatClampNeg) (fun _ => true) n) none).map (fun p => (mi 114 p.1, mi 114 p.2)) := by
      rw [List.drop_zero, hs, ht, lgSort_ord (T := fun k => (mi 114 k).toNatClampNeg) (fun i hi => ⟨(hk i hi).1, by have := (hk i hi).2.1; omega⟩)]
      exact hmA_e (t := mi 114) (hh := mi 113) (a := mi 115) (b := fun _ => 0) (q := fun x => (mi 115 x).toNatClampNeg) _ none (fun x hx => by
        have hxn := ((hO1.2.1 x).mp hx).1
        have := hk x hxn
        exact ⟨by rw [this.1]; exact nmN (by omega), this.2.2⟩) (fun z hz => by cases hz)
    have hokS : ∀ i, i < n → okL (mi 78 i, mi 79 i, mi 80 i, mi 81 i) := fun i hi => hok _ (lgSort_mem (by rw [← hs]; exact lgL_at hi))
    have hT : ∀ i, i < n → mi 114 i = nI ((fun k => (mi 114 k).toNatClampNeg) i) ∧ (fun k => (mi 114 k).toNatClampNeg) i ≤ 35039 := fun i hi => ⟨(hk i hi).1, (hk i hi).2.1⟩
    have hq : ∀ i, i < n → mi 115 i = nI ((fun k => (mi 115 k).toNatClampNeg) i) ∧ (fun k => (mi 115 k).toNatClampNeg) i ≤ 255 := fun i hi => (hk i hi).2.2
    cases hm : hmN (hmP mi (nI Hh)) (fun x => (mi 115 x).toNatClampNeg.testBit D) (ordN (fun k => (mi 114 k).toNatClampNeg) (fun _ => true) n) none with
    | none =>
      rw [hm] at eA
      have A : vh_C 114 [.ref 0, .int (nI Hh), .int (nI D)] (vh_K d mi ml) = some (some (.int (-1000000)), vh_K d mi ml) := by
        have := l114 (d := d) (ml := ml) (R := some (some (.int (-1000000)), vh_K d mi ml)) hD hn hc hokS n 0 (-1000000) (by omega) (fun _ => rfl) (fun s e z => by rw [eA] at z; cases z)
        simp only [c114, e114_0, e114_1, e114_4, e114_7, e114_8, e114_9, e114_11, e114_14, e114_17, e114_19, e114_20, e114_22, e114_23, e114_24, e114_28, e114_29, e114_32, e114_35, e114_38, e114_39, e114_42, e114_45, e114_47, e114_48, e114_49, e114_52, e114_55, e114_56, e114_59, e114_62, e114_64, e114_65, e114_66, e114_67, e114_68, e114_69, e114_70, e114_73, e114_74, e114_76, e114_79, e114_81, e114_84, e114_85, e114_86, e114_87, e114_88, e114_91, e114_94, e114_96, e114_97, e114_100, e114_101, e114_102, e114_105, e114_108, e114_110, e114_111, e114_112, e114_115, e114_118, e114_120, s61, s14, h3, h7, not_true_eq_false, not_false_eq_true, if_true, if_false, and_self, vh_bds, vh_ps1, vh_ps0, vb0, vb1, vbz, vbo]
        exact this
      exact Sim.mk A (s202n (T := fun k => (mi 114 k).toNatClampNeg) (q := fun k => (mi 115 k).toNatClampNeg) hn hD (by omega) h88 hT hq hm) rfl hR.thrown
    | some p =>
      obtain ⟨z, y⟩ := p
      rw [hm] at eA
      obtain ⟨hyn, hzn, -⟩ := s202s (d := d) (ml := ml) (T := fun k => (mi 114 k).toNatClampNeg) (q := fun k => (mi 115 k).toNatClampNeg) M B hn hD (show Hh < 4 by omega) h88 hT hq hm
      obtain ⟨f45, f44, h1⟩ := s115 (d := d) (ml := ml) (Hh := Hh) (s := (mi 114 z).toNatClampNeg) (e := (mi 114 y).toNatClampNeg) C B (by omega) (by have := (hT z hzn).2; simp only at this; omega) (by have := (hT y hyn).2; simp only at this; omega)
      rw [← (hk z hzn).1, ← (hk y hyn).1] at h1
      have A : vh_C 114 [.ref 0, .int (nI Hh), .int (nI D)] (vh_K d mi ml) = some (some (.int (oneI (hmL (hmQ b (hld b g m 364) Hh (mi 114 z).toNatClampNeg (mi 114 y).toNatClampNeg) m))), vh_K d (vh_sA (vh_sA mi 45 f45) 44 f44) ml) := by
        have := l114 (d := d) (ml := ml) (R := some (some (.int (oneI (hmL (hmQ b (hld b g m 364) Hh (mi 114 z).toNatClampNeg (mi 114 y).toNatClampNeg) m))), vh_K d (vh_sA (vh_sA mi 45 f45) 44 f44) ml)) hD hn hc hokS n 0 (-1000000) (by omega) (fun z' => by rw [eA] at z'; cases z') (fun s e z' => by
          rw [eA] at z'
          cases z'
          exact ⟨_, _, h1, rfl⟩)
        simp only [c114, e114_0, e114_1, e114_4, e114_7, e114_8, e114_9, e114_11, e114_14, e114_17, e114_19, e114_20, e114_22, e114_23, e114_24, e114_28, e114_29, e114_32, e114_35, e114_38, e114_39, e114_42, e114_45, e114_47, e114_48, e114_49, e114_52, e114_55, e114_56, e114_59, e114_62, e114_64, e114_65, e114_66, e114_67, e114_68, e114_69, e114_70, e114_73, e114_74, e114_76, e114_79, e114_81, e114_84, e114_85, e114_86, e114_87, e114_88, e114_91, e114_94, e114_96, e114_97, e114_100, e114_101, e114_102, e114_105, e114_108, e114_110, e114_111, e114_112, e114_115, e114_118, e114_120, s61, s14, h3, h7, not_true_eq_false, not_false_eq_true, if_true, if_false, and_self, vh_bds, vh_ps1, vh_ps0, vb0, vb1, vbz, vbo]
        exact this
      have M2 : DiM (vh_sA (vh_sA mi 45 f45) 44 f44) m b g := (M.fr (by omega)).fr (by omega)
      obtain ⟨-, -, Bq⟩ := s202s (d := d) (mi := vh_sA (vh_sA mi 45 f45) 44 f44) (ml := ml) (T := fun k => (mi 114 k).toNatClampNeg) (q := fun k => (mi 115 k).toNatClampNeg) (y := y) (z := z) M2 B hn hD (show Hh < 4 by omega) (by simp only [sAn, sAs, sAA, ups, upn, bkv_n, hlv_n, ne_eq, Nat.reduceEqDiff, Nat.reduceLT, Nat.reduceLeDiff, or_true, true_or, not_false_eq_true]; exact h88) (by simp only [sAn, sAs, sAA, ups, upn, bkv_n, hlv_n, ne_eq, Nat.reduceEqDiff, Nat.reduceLT, Nat.reduceLeDiff, or_true, true_or, not_false_eq_true]; exact hT) (by simp only [sAn, sAs, sAA, ups, upn, bkv_n, hlv_n, ne_eq, Nat.reduceEqDiff, Nat.reduceLT, Nat.reduceLeDiff, or_true, true_or, not_false_eq_true]; exact hq) hm
      exact Sim.mk A Bq rfl hR.scr.thrown
  · have A : vh_C 114 [.ref 0, .int h, .int dm] (vh_K d mi ml) = some (some (.int (-1000001)), vh_K d mi ml) := by
      simp only [c114, e114_0, e114_1, e114_4, e114_7, e114_8, e114_9, e114_11, e114_14, e114_17, e114_19, e114_22, e114_23, e114_24, e114_26, e114_28, e114_29, e114_32, e114_35, e114_38, e114_39, e114_42, e114_45, e114_47, e114_48, e114_49, e114_52, e114_55, e114_56, e114_59, e114_62, e114_64, e114_65, e114_66, e114_67, e114_68, e114_69, e114_70, e114_73, e114_74, e114_76, e114_79, e114_81, e114_84, e114_85, e114_86, e114_87, e114_88, e114_91, e114_94, e114_96, e114_97, e114_100, e114_101, e114_102, e114_105, e114_108, e114_110, e114_111, e114_112, e114_115, e114_118, e114_120, s61, s14, not_true_eq_false, not_false_eq_true, if_true, if_false, and_self, vh_bds, vh_ps1, vh_ps0, vb0, vb1, vbz, vbo, Classical.not_not]
      by_cases h1 : 0 ≤ h ∧ h ≤ 3
      · rw [if_neg (not_not_intro h1), if_neg (fun z => hg ⟨h1, z⟩)]
      · rw [if_pos h1]
    have Bq : vh_C 202 [.ref 88, .int h, .int dm] (vh_K d mi ml) = some (some (.int (-1000001)), vh_K d (vh_sA mi 88 (upd (mi 88) 0 0)) ml) := by
      simp only [c202, e202_0, e202_1, e202_2, e202_5, e202_6, e202_9, e202_12, e202_13, e202_14, e202_15, e202_18, e202_21, e202_24, e202_26, e202_29, e202_30, e202_31, e202_33, e202_35, e202_36, e202_39, e202_42, e202_43, e202_46, e202_48, e202_49, e202_50, e202_53, e202_54, e202_57, e202_59, e202_60, e202_61, e202_62, e202_63, e202_64, e202_65, e202_68, e202_69, e202_72, e202_73, e202_75, e202_77, e202_80, e202_81, e202_83, e202_86, e202_87, e202_90, e202_92, e202_93, e202_94, e202_97, e202_98, e202_99, e202_102, e202_104, e202_107, e202_108, e202_109, e202_112, e202_115, e202_116, e202_118, e202_121, e202_123, e202_124, e202_126, e202_128, e202_129, e202_131, e202_133, e202_134, e202_137, e202_140, e202_141, e202_144, e202_146, e202_147, e202_148, e202_151, e202_152, e202_153, e202_156, e202_157, e202_160, e202_162, e202_163, e202_164, e202_167, e202_168, e202_169, e202_172, e202_174, e202_175, e202_178, e202_179, e202_182, e202_183, e202_185, e202_186, e202_189, e202_191, e202_192, e202_193, e202_196, e202_198, e202_201, e202_202, e202_205, e202_207, e202_208, e202_209, e202_210, e202_211, e202_212, e202_215, e202_216, e202_219, e202_220, e202_222, e202_224, e202_227, e202_229, e202_231, e202_234, e202_235, e202_238, e202_240, e202_241, e202_242, e202_245, e202_247, e202_248, e202_251, e202_253, e202_256, e202_258, e202_260, e202_263, e202_266, e202_268, e202_270, e202_273, e202_274, e202_277, e202_279, e202_280, e202_281, e202_284, e202_285, e202_286, e202_289, e202_291, e202_292, e202_293, e202_296, e202_299, e202_301, e202_303, e202_305, e202_306, e202_308, e202_309, e202_311, e202_313, e202_314, e202_317, e202_320, e202_322, e202_323, e202_325, e202_326, e202_329, e202_330, e202_332, e202_334, e202_336, e202_337, e202_338, e202_339, e202_340, e202_343, e202_344, e202_346, e202_347, e202_350, e202_351, e202_354, e202_356, e202_357, e202_359, e202_360, e202_363, e202_364, e202_365, e202_368, e202_369, e202_370, e202_373, e202_375, e202_376, e202_378, e202_379, e202_382, e202_383, e202_384, e202_387, e202_389, e202_390, e202_393, e202_395, e202_397, e202_400, e202_403, e202_406, e202_408, e202_409, e202_412, e202_414, e202_417, e202_419, s172, in_0_7, ok88, not_true_eq_false, not_false_eq_true, if_true, if_false, and_self, vh_bds, vh_ps1, vh_ps0, vb0, vb1, vbz, vbo, Classical.not_not]
      by_cases h1 : 0 ≤ h ∧ h ≤ 3
      · rw [if_neg (not_not_intro h1), if_neg (fun z => hg ⟨h1, z⟩)]
      · rw [if_pos h1]
    exact Sim.mk A Bq rfl hR.thrown
end

section
variable {d : Nat} {mi : Nat → Nat → Int32} {ml : Nat → Nat → Int64} {n : Nat} {b g : Nat → Nat → Nat} {W : Nat → Bool} {H f D t : Nat}
theorem wl_wel {M : Nat} (hn : n ≤ 16) (hM : M < 2 ^ n) : wlB W b g M = true ↔ wel W (fun a c => clsh g (b a) (b c)) n M.testBit := by
  have hlt : ∀ a, M.testBit a = true → a < n := by
    intro a h
    rcases Nat.lt_or_ge a n with q | q
    · exact q
    · rw [Nat.testBit_lt_two_pow (Nat.lt_of_lt_of_le hM (Nat.pow_le_pow_right (by decide) q))] at h; cases h
  rw [wl_i]
  constructor
  · intro h
    refine ⟨fun a h1 h2 => (h a (by omega) h2).1, fun a c h1 h2 h3 h4 h5 => ?_⟩
    rcases Nat.lt_or_ge a c with q | q
    · exact (h c (by omega) h5).2 a q h4
    · show ¬ clsh g (b a) (b c) = true
      rw [clsh_s]
      exact (h a (by omega) h4).2 c (by omega) h5
  · rintro ⟨h1, h2⟩ a ha hb
    have han := hlt a hb
    exact ⟨h1 a han hb, fun c hc hbc => h2 c a (by omega) han (by omega) hbc hb⟩
theorem most_eq {bst : Int} {best : Nat} (B : DiB n b g) (h1 : ∀ S, wel W (fun a c => clsh g (b a) (b c)) n S → VS (fun k => pN g (b k)) S n ≤ bst) (h2 : ∃ S, wel W (fun a c => clsh g (b a) (b c)) n S ∧ VS (fun k => pN g (b k)) S n = bst) (h3 : BI W b g (2 ^ n) best) : bst = (wtF (fun k => pN g (b k)) best.testBit 16 : Int) * 65536 - (best : Int) := by
  have hn := B.1
  have h2n : 2 ^ n ≤ 2 ^ 16 := Nat.pow_le_pow_right (by decide) hn
  have V : ∀ M : Nat, M < 2 ^ n → VS (fun k => pN g (b k)) M.testBit n = (wtF (fun k => pN g (b k)) M.testBit 16 : Int) * 65536 - (M : Int) := by
    intro M hM
    have e := wt_hi (p := fun k => pN g (b k)) (S := M.testBit) (a := n) (fun j hj => Nat.testBit_lt_two_pow (Nat.lt_of_lt_of_le hM (Nat.pow_le_pow_right (by decide) hj))) (k := 16 - n)
    rw [show n + (16 - n) = 16 by omega] at e
    rw [VS_m, Nat.mod_eq_of_lt hM, e]
  obtain ⟨b1, b2, b3⟩ := h3
  have g1 := h1 best.testBit ((wl_wel hn b1).mp b2)
  rw [V best b1] at g1
  obtain ⟨S, hS, hv⟩ := h2
  have hM : msk S n < 2 ^ n := msk_lt
  have hbit : ∀ j, j < n → (msk S n).testBit j = S j := fun j hj => by rw [msk_bit, decide_eq_true hj, Bool.true_and]
  have hw : wel W (fun a c => clsh g (b a) (b c)) n (msk S n).testBit := by
    refine ⟨fun a a1 a2 => hS.1 a a1 (by rw [← hbit a a1]; exact a2), fun a c a1 a2 a3 a4 a5 => hS.2 a c a1 a2 a3 (by rw [← hbit a a1]; exact a4) (by rw [← hbit c a2]; exact a5)⟩
  have e := VS_c (p := fun k => pN g (b k)) hbit
  rw [V _ hM, hv] at e
  rcases b3 (msk S n) hM ((wl_wel hn hM).mpr hw) with z | z <;> omega
theorem s93 (HC : DiC mi n b g) (B : DiB n b g) (hH : H < 4) (hf : f < 2) (hD : D ≤ 364) (ht : t ≤ 364) {best : Nat} (hB : BI (mwB b g H f D t) b g (2 ^ n) best) : ∃ f45 f44 f46, vh_C 93 [.ref 42, .int (nI H), .int (nI f), .int (nI D), .int (nI t)] (vh_K d mi ml) = some (some (.int (nI best)), vh_K d (vh_sA (vh_sA mi 45 f45) 44 f44) (vh_sA ml 46 f46)) := by
  have hn := B.1
  have h2n : 2 ^ n ≤ 2 ^ 16 := Nat.pow_le_pow_right (by decide) hn
  obtain ⟨f45, f44, L, A, h44, hL⟩ := s94 (d := d) (ml := ml) HC B hH hf hD ht
  have HC2 : DiC (vh_sA (vh_sA mi 45 f45) 44 f44) n b g := (HC.fr hn (by omega)).fr hn (by omega)
  obtain ⟨bst, f46, A2, hbs⟩ := l93 (d := d) (l1 := some (.int (nI H))) (l2 := some (.int (nI f))) (l3 := some (.int (nI D))) (l4 := some (.int (nI t))) HC2 B hL (mw_tr B) (by rw [sAs]; exact h44) L.length 0 0 (fun _ => 0) ml none none none none (by omega) (fun j hj => by omega) bs_0
  obtain ⟨g1, g2⟩ := bs_all hL hbs
  have e := most_eq B g1 g2 hB
  refine ⟨f45, f44, f46, ?_⟩
  have hm := iL_mask (w := wtF (fun k => pN g (b k)) best.testBit 16) (S := best) (by have := hB.1; omega)
  rw [← e] at hm
  rw [hm] at A2
  simp only [c93, e93_0, e93_1, e93_2, e93_3, e93_4, e93_6, e93_9, e93_11, e93_12, e93_14, e93_15, e93_19, e93_21, e93_24, e93_25, e93_28, e93_29, e93_32, e93_34, e93_35, e93_36, e93_38, e93_39, e93_41, e93_42, e93_44, e93_46, e93_48, e93_51, e93_52, e93_55, e93_57, e93_58, e93_60, e93_61, e93_64, e93_65, e93_66, e93_69, e93_70, e93_73, e93_75, e93_76, e93_77, e93_79, e93_82, e93_85, e93_86, e93_89, e93_91, e93_92, e93_94, e93_97, e93_100, e93_101, e93_104, e93_106, e93_108, e93_109, e93_111, e93_114, e93_115, e93_117, e93_118, e93_119, e93_120, e93_121, e93_124, e93_126, e93_127, e93_128, e93_129, e93_130, e93_132, e93_133, e93_136, e93_138, e93_139, e93_142, e93_144, e93_147, e93_150, e93_152, e93_153, e93_156, e93_157, e93_158, ok42, A, not_true_eq_false, not_false_eq_true, if_true, if_false, and_self, vh_bds, vh_ps1, vh_ps0, vb0, vb1, vbz, vbo]
  exact A2
def msG (h f dy x : Int32) : Prop := (0 ≤ h ∧ h ≤ 3) ∧ (0 ≤ f ∧ f ≤ 1) ∧ (0 ≤ dy ∧ dy ≤ 364) ∧ (0 ≤ x ∧ x ≤ 1)
theorem s189 {x : Int32} (HM : DiM mi n b g) (B : DiB n b g) (h27 : mi 88 27 = nI t) (ht : t ≤ 364) (hH : H < 4) (hf : f < 2) (hD : D ≤ 364) (hx : 0 ≤ x ∧ x ≤ 1) : ∃ best f104 f102 f103, vh_C 189 [.ref 88, .int (nI H), .int (nI f), .int (nI D), .int x] (vh_K d mi ml) = some (some (.int (if x = 0 then nI best else nI (wtF (fun k => pN g (b k)) best.testBit 16))), vh_K d (vh_sA (vh_sA (vh_sA (vh_sA mi 88 (upd (mi 88) 0 0)) 104 f104) 102 f102) 103 f103) ml) ∧ BI (mwB b g H f D t) b g (2 ^ n) best := by
  have hn := B.1
  have a1 : 0 ≤ nI H ∧ nI H ≤ 3 := ⟨nI_pos' (by omega), nI_le (b := 3) (by omega) (by decide)⟩
  have a2 : 0 ≤ nI f ∧ nI f ≤ 1 := ⟨nI_pos' (by omega), nI_le (b := 1) (by omega) (by decide)⟩
  obtain ⟨f104, l6, l7, A1, h104⟩ := l189b (d := d) (ml := ml) (l4 := some (.int x)) B hH hf hD ht n 0 (vh_sA mi 88 (upd (mi 88) 0 0)) none none none (by omega) HM.thr (by simp only [sAn, sAs, sAA, ups, upn, bkv_n, hlv_n, ne_eq, Nat.reduceEqDiff, Nat.reduceLT, Nat.reduceLeDiff, or_true, true_or, not_false_eq_true]; exact h27) (fun k hk => by omega)
  have w0 : wlB (mwB b g H f D t) b g 0 = true := wl_i.mpr (fun a _ h => by rw [Nat.zero_testBit] at h; cases h)
  have t0 : wtF (fun k => pN g (b k)) (0 : Nat).testBit 16 = 0 := by
    have e := wt_hi (p := fun k => pN g (b k)) (S := (0 : Nat).testBit) (a := 0) (fun j _ => Nat.zero_testBit j) (k := 16)
    exact e
  obtain ⟨best, f102, f103, A2, hB⟩ := l189c (d := d) (ml := ml) (W := mwB b g H f D t) (l1 := some (.int (nI H))) (l2 := some (.int (nI f))) (l3 := some (.int (nI D))) (x := x) B (2 ^ n - 1) 1 0 0 (vh_sA (vh_sA (vh_sA (vh_sA mi 88 (upd (mi 88) 0 0)) 104 f104) 102 (upd (mi 102) 0 1)) 103 (upd (mi 103) 0 0)) none (by have := Nat.two_pow_pos n; omega) (by omega) (by decide) (Or.inl ⟨rfl, rfl⟩) (((HM.thr.fr (by omega)).fr (by omega)).fr (by omega)) (by
    intro S hS
    have : S = 0 := by omega
    subst this
    simp only [sAn, sAs, sAA, ups, upn, bkv_n, hlv_n, ne_eq, Nat.reduceEqDiff, Nat.reduceLT, Nat.reduceLeDiff, or_true, true_or, not_false_eq_true]
    rw [vb_t w0, t0]
    exact ⟨rfl, rfl⟩) (by simp only [sAn, sAs, sAA, ups, upn, bkv_n, hlv_n, ne_eq, Nat.reduceEqDiff, Nat.reduceLT, Nat.reduceLeDiff, or_true, true_or, not_false_eq_true]; exact h104) ⟨by decide, w0, fun S hS _ => Or.inr ⟨by rw [show S = 0 by omega], by omega⟩⟩
  refine ⟨best, f104, f102, f103, ?_, hB⟩
  have e : vh_sA (vh_sA (vh_sA (vh_sA (vh_sA (vh_sA mi 88 (upd (mi 88) 0 0)) 104 f104) 102 (upd (mi 102) 0 1)) 103 (upd (mi 103) 0 0)) 102 f102) 103 f103 = vh_sA (vh_sA (vh_sA (vh_sA mi 88 (upd (mi 88) 0 0)) 104 f104) 102 f102) 103 f103 := by
    funext c
    unfold vh_sA
    by_cases c1 : c = 103
    · subst c1; rfl
    · by_cases c2 : c = 102
      · subst c2; rfl
      · simp only [c1, c2, if_false]
  rw [e] at A2
  simp only [c189, e189_0, e189_1, e189_2, e189_5, e189_6, e189_9, e189_12, e189_13, e189_14, e189_15, e189_16, e189_19, e189_22, e189_23, e189_26, e189_29, e189_31, e189_32, e189_33, e189_34, e189_37, e189_40, e189_42, e189_43, e189_44, e189_48, e189_49, e189_52, e189_55, e189_56, e189_58, e189_59, e189_62, e189_63, e189_66, e189_67, e189_69, e189_70, e189_73, e189_74, e189_77, e189_78, e189_80, e189_81, e189_84, e189_85, e189_88, e189_89, e189_91, e189_92, e189_95, e189_98, e189_101, e189_102, e189_104, e189_105, e189_106, e189_109, e189_112, e189_113, e189_116, e189_117, e189_119, e189_120, e189_123, e189_125, e189_127, e189_130, e189_131, e189_134, e189_135, e189_137, e189_138, e189_139, e189_140, e189_142, e189_144, e189_146, e189_149, e189_150, e189_153, e189_155, e189_156, e189_157, e189_158, e189_160, e189_162, e189_165, e189_168, e189_169, e189_171, e189_172, e189_175, e189_176, e189_177, e189_178, e189_181, e189_184, e189_187, e189_190, e189_191, e189_194, e189_195, e189_196, e189_197, e189_198, e189_201, e189_202, e189_203, e189_204, e189_205, e189_207, e189_208, e189_210, e189_211, e189_213, e189_215, e189_216, e189_217, e189_220, e189_221, e189_224, e189_226, e189_228, e189_230, e189_231, e189_232, e189_233, e189_236, e189_237, e189_240, e189_241, e189_242, e189_244, e189_246, e189_247, e189_249, e189_250, e189_251, e189_252, e189_253, e189_255, e189_256, e189_259, e189_261, e189_262, e189_265, e189_267, e189_268, e189_271, e189_272, e189_275, e189_277, e189_278, e189_280, e189_281, e189_284, e189_285, e189_288, e189_289, e189_290, e189_291, e189_294, e189_296, e189_297, e189_300, e189_302, e189_303, e189_304, e189_306, e189_309, e189_310, e189_311, e189_312, e189_315, e189_317, e189_318, e189_321, e189_322, e189_325, e189_327, e189_328, e189_329, e189_332, e189_334, e189_335, e189_338, e189_340, e189_343, e189_345, e189_347, e189_350, e189_353, e189_355, e189_358, e189_360, e189_363, e189_364, e189_367, e189_369, e189_370, s172, s174, in_0_1, a1, a2, d3N hD, hx, ok88, not_true_eq_false, not_false_eq_true, if_true, if_false, and_self, vh_bds, vh_ps1, vh_ps0, vb0, vb1, vbz, vbo]
  refine Eq.trans A1 ?_
  simp only [e189_190, e189_191, e189_194, e189_195, e189_196, e189_197, e189_198, e189_201, e189_202, e189_203, e189_204, e189_205, e189_207, e189_208, e189_210, e189_211, ok88, ok102, ok103, rf88_28, rf88_29, show vh_ixa 102 0 = true from okx102 (k := 0) (by decide), show vh_ixa 103 0 = true from okx103 (k := 0) (by decide), show (0 : Int32).toNatClampNeg = 0 from by decide, sAn, sAs, sAA, ups, upn, bkv_n, hlv_n, ne_eq, Nat.reduceEqDiff, Nat.reduceLT, Nat.reduceLeDiff, or_true, true_or, not_false_eq_true, not_true_eq_false, not_false_eq_true, if_true, if_false, and_self, vh_bds, vh_ps1, vh_ps0, vb0, vb1, vbz, vbo]
  exact A2
theorem s189a {h f dy x : Int32} (hg : ¬ msG h f dy x) : vh_C 189 [.ref 88, .int h, .int f, .int dy, .int x] (vh_K d mi ml) = some (some (.int (-1000001)), vh_K d (vh_sA mi 88 (upd (mi 88) 0 0)) ml) := by
  simp only [c189, e189_0, e189_1, e189_2, e189_5, e189_6, e189_9, e189_12, e189_13, e189_14, e189_15, e189_16, e189_19, e189_22, e189_23, e189_26, e189_29, e189_31, e189_32, e189_33, e189_34, e189_37, e189_40, e189_42, e189_44, e189_46, e189_48, e189_49, e189_52, e189_55, e189_56, e189_58, e189_59, e189_62, e189_63, e189_66, e189_67, e189_69, e189_70, e189_73, e189_74, e189_77, e189_78, e189_80, e189_81, e189_84, e189_85, e189_88, e189_89, e189_91, e189_92, e189_95, e189_98, e189_101, e189_102, e189_104, e189_105, e189_106, e189_109, e189_112, e189_113, e189_116, e189_117, e189_119, e189_120, e189_123, e189_125, e189_127, e189_130, e189_131, e189_134, e189_135, e189_137, e189_138, e189_139, e189_140, e189_142, e189_144, e189_146, e189_149, e189_150, e189_153, e189_155, e189_156, e189_157, e189_158, e189_160, e189_162, e189_165, e189_168, e189_169, e189_171, e189_172, e189_175, e189_176, e189_177, e189_178, e189_181, e189_184, e189_187, e189_190, e189_191, e189_194, e189_195, e189_196, e189_197, e189_198, e189_201, e189_202, e189_203, e189_204, e189_205, e189_207, e189_208, e189_210, e189_211, e189_213, e189_215, e189_216, e189_217, e189_220, e189_221, e189_224, e189_226, e189_228, e189_230, e189_231, e189_232, e189_233, e189_236, e189_237, e189_240, e189_241, e189_242, e189_244, e189_246, e189_247, e189_249, e189_250, e189_251, e189_252, e189_253, e189_255, e189_256, e189_259, e189_261, e189_262, e189_265, e189_267, e189_268, e189_271, e189_272, e189_275, e189_277, e189_278, e189_280, e189_281, e189_284, e189_285, e189_288, e189_289, e189_290, e189_291, e189_294, e189_296, e189_297, e189_300, e189_302, e189_303, e189_304, e189_306, e189_309, e189_310, e189_311, e189_312, e189_315, e189_317, e189_318, e189_321, e189_322, e189_325, e189_327, e189_328, e189_329, e189_332, e189_334, e189_335, e189_338, e189_340, e189_343, e189_345, e189_347, e189_350, e189_353, e189_355, e189_358, e189_360, e189_363, e189_364, e189_367, e189_369, e189_370, s172, s174, in_0_1, ok88, not_true_eq_false, not_false_eq_true, if_true, if_false, and_self, vh_bds, vh_ps1, vh_ps0, vb0, vb1, vbz, vbo, Classical.not_not]
  by_cases a1 : 0 ≤ h ∧ h ≤ 3
  · rw [if_neg (not_not_intro a1)]
    by_cases a2 : 0 ≤ f ∧ f ≤ 1
    · rw [if_neg (not_not_intro a2)]
      by_cases a3 : 0 ≤ dy ∧ dy ≤ 364
      · rw [if_neg (not_not_intro a3), if_neg (fun z => hg ⟨a1, a2, a3, z⟩)]
      · rw [if_pos a3]
    · rw [if_pos a2]
  · rw [if_pos a1]
theorem s92a {h f dy x : Int32} (hg : ¬ msG h f dy x) : vh_C 92 [.ref 0, .int h, .int f, .int dy, .int x] (vh_K d mi ml) = some (some (.int (-1000001)), vh_K d mi ml) := by
  simp only [c92, e92_0, e92_1, e92_4, e92_7, e92_8, e92_9, e92_10, e92_13, e92_16, e92_17, e92_20, e92_23, e92_25, e92_26, e92_27, e92_30, e92_33, e92_35, e92_37, e92_40, e92_41, e92_42, e92_43, e92_44, e92_47, e92_50, e92_52, e92_54, e92_57, e92_59, e92_62, e92_63, e92_66, e92_68, e92_71, s61, s69, s14, not_true_eq_false, not_false_eq_true, if_true, if_false, and_self, vh_bds, vh_ps1, vh_ps0, vb0, vb1, vbz, vbo, Classical.not_not]
  by_cases a1 : 0 ≤ h ∧ h ≤ 3
  · rw [if_neg (not_not_intro a1)]
    by_cases a2 : 0 ≤ f ∧ f ≤ 1
    · rw [if_neg (not_not_intro a2)]
      by_cases a3 : 0 ≤ dy ∧ dy ≤ 364
      · rw [if_neg (not_not_intro a3), if_neg (fun z => hg ⟨a1, a2, a3, z⟩)]
      · rw [if_pos a3]
    · rw [if_pos a2]
  · rw [if_pos a1]
theorem sim_most {h f dy x : Int32} (hR : Rel d mi) : Sim 92 189 [.int h, .int f, .int dy, .int x] d mi ml := by
  by_cases hg : msG h f dy x
  · obtain ⟨g1, g2, g3, g4⟩ := hg
    obtain ⟨n, b, g, B, C, Mm⟩ := hR.dia
    have hn := B.1
    have h2n : 2 ^ n ≤ 2 ^ 16 := Nat.pow_le_pow_right (by decide) hn
    obtain ⟨t, ht, ht1, ht2⟩ := hR.today
    obtain ⟨H, hH, rfl⟩ := nIr g1.1 (show h ≤ nI 3 from g1.2) (by decide)
    obtain ⟨F, hF, rfl⟩ := nIr g2.1 (show f ≤ nI 1 from g2.2) (by decide)
    obtain ⟨D, hD, rfl⟩ := nIr g3.1 (show dy ≤ nI 364 from g3.2) (by decide)
    obtain ⟨best0, -, -, -, -, hB0⟩ := s189 (d := d) (ml := ml) (x := x) Mm B ht2 ht (show H < 4 by omega) (show F < 2 by omega) hD g4
    obtain ⟨f45, f44, f46, A⟩ := s93 (d := d) (ml := ml) C B (show H < 4 by omega) (show F < 2 by omega) hD ht hB0
    have C2 : DiC (vh_sA (vh_sA mi 45 f45) 44 f44) n b g := (C.fr hn (by omega)).fr hn (by omega)
    have M2 : DiM (vh_sA (vh_sA mi 45 f45) 44 f44) n b g := (Mm.fr (by omega)).fr (by omega)
    obtain ⟨best, f104, f102, f103, Bq, hB⟩ := s189 (d := d) (ml := vh_sA ml 46 f46) (x := x) M2 B (by simp only [sAn, sAs, sAA, ups, upn, bkv_n, hlv_n, ne_eq, Nat.reduceEqDiff, Nat.reduceLT, Nat.reduceLeDiff, or_true, true_or, not_false_eq_true]; exact ht2) ht (show H < 4 by omega) (show F < 2 by omega) hD g4
    have hbb : best0 = best := by
      obtain ⟨u1, u2, u3⟩ := hB0
      obtain ⟨v1, v2, v3⟩ := hB
      rcases u3 best v1 v2 with z | z <;> rcases v3 best0 u1 u2 with y | y <;> omega
    subst hbb
    have hb16 : best0 < 2 ^ 16 := by have := hB.1; omega
    have e := wt_hi (p := fun k => pN g (b k)) (S := best0.testBit) (a := n) (fun j hj => Nat.testBit_lt_two_pow (Nat.lt_of_lt_of_le hB.1 (Nat.pow_le_pow_right (by decide) hj))) (k := 16 - n)
    rw [show n + (16 - n) = 16 by omega] at e
    have A2 : vh_C 92 [.ref 0, .int (nI H), .int (nI F), .int (nI D), .int x] (vh_K d mi ml) = some (some (.int (if x = 0 then nI best0 else nI (wtF (fun k => pN g (b k)) best0.testBit 16))), vh_K d (vh_sA (vh_sA mi 45 f45) 44 f44) (vh_sA ml 46 f46)) := by
      simp only [c92, e92_0, e92_1, e92_4, e92_7, e92_8, e92_9, e92_10, e92_13, e92_16, e92_17, e92_20, e92_23, e92_25, e92_26, e92_27, e92_30, e92_33, e92_35, e92_36, e92_37, e92_40, e92_41, e92_42, e92_43, e92_44, e92_47, e92_50, e92_52, e92_54, e92_57, e92_59, e92_62, e92_63, e92_66, e92_68, e92_71, s61, s69, s14, g1, g2, g3, g4, ok0, ok42, rf0_4, ht1, A, s91 C2 B hb16, psI_e B (Nat.le_refl n), sAn, sAs, sAA, ups, upn, bkv_n, hlv_n, ne_eq, Nat.reduceEqDiff, Nat.reduceLT, Nat.reduceLeDiff, or_true, true_or, not_false_eq_true, not_true_eq_false, not_false_eq_true, if_true, if_false, and_self, vh_bds, vh_ps1, vh_ps0, vb0, vb1, vbz, vbo]
      rw [e]
      by_cases q : x = 0
      · rw [if_neg (not_not_intro q), if_pos q]
      · rw [if_pos q, if_neg q]
    refine Sim.mk A2 Bq rfl ?_
    apply hR.cong2
    · intro a a1 a2 a3
      rw [sAn (by omega), sAn (by omega), sAn (by omega), sAn (by omega), sAn (by omega), sAn (by omega)]
    · intro a a1 a2 a3
      rw [sAn (by omega), sAn (by omega), sAn (by omega), sAn (by omega), sAn (by omega), sAn (by omega)]
    · intro f h0 h32
      simp only [sAn, sAs, sAA, ups, upn, bkv_n, hlv_n, ne_eq, Nat.reduceEqDiff, Nat.reduceLT, Nat.reduceLeDiff, or_true, true_or, not_false_eq_true]
      rw [upn h0]
  · exact Sim.mk (s92a hg) (s189a hg) rfl hR.thrown
end

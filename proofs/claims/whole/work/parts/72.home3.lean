section
variable {d : Nat} {mi : Nat → Nat → Int32} {ml : Nat → Nat → Int64} {n k : Nat} {b g : Nat → Nat → Nat} {T q : Nat → Nat} {D : Nat} {h : Int32}
def hmP (mi : Nat → Nat → Int32) (h : Int32) (x : Nat) : Bool := decide (mi 113 x = h)
theorem hp_i {x : Nat} : hmP mi h x = true ↔ mi 113 x = h := decide_eq_true_iff
theorem l202a {l6 l7 l8 l9 : Option Value} (hn : n ≤ 40) (hD : D ≤ 7) (h88 : mi 88 42 = nI n) (hT : ∀ i, i < n → mi 114 i = nI (T i) ∧ T i ≤ 35039) (hq : ∀ i, i < n → mi 115 i = nI (q i) ∧ q i ≤ 255) : ∀ (j i : Nat) (o : Option Nat) (l5 : Option Value), i + j = n → Best T (fun x => hmP mi h x && (q x).testBit D) i o →
    ∃ o' l5', vh_E 202 33 [some (.ref 88), some (.int h), some (.int (nI D)), some (.int (bvI o)), some (.int (nI i)), l5, l6, l7, l8, l9] [] (vh_K d mi ml) = vh_E 202 115 [some (.ref 88), some (.int h), some (.int (nI D)), some (.int (bvI o')), some (.int (nI n)), l5', l6, l7, l8, l9] [] (vh_K d mi ml) ∧ Best T (fun x => hmP mi h x && (q x).testBit D) n o' := by
  intro j
  induction j with
  | zero =>
    intro i o l5 hi ho
    have : i = n := by omega
    subst this
    refine ⟨o, l5, ?_, ho⟩
    simp only [e202_33, e202_35, e202_36, e202_39, ok88, h88, nI_le (Nat.le_refl i) (show i < 2 ^ 31 by omega), if_true]
  | succ j ih =>
    intro i o l5 hi ho
    have hin : i < n := by omega
    have x1 : vh_ixa 113 (nI i) = true := ixa (by rw [kd113]; omega) (by omega)
    have x2 : vh_ixa 114 (nI i) = true := ixa (by rw [kd114]; omega) (by omega)
    have x3 : vh_ixa 115 (nI i) = true := ixa (by rw [kd115]; omega) (by omega)
    obtain ⟨eT, bT⟩ := hT i hin
    obtain ⟨eq, bq⟩ := hq i hin
    rw [e202_33]
    simp only [e202_0, e202_1, e202_2, e202_5, e202_6, e202_9, e202_12, e202_13, e202_14, e202_15, e202_18, e202_21, e202_24, e202_26, e202_27, e202_29, e202_30, e202_31, e202_35, e202_36, e202_39, e202_42, e202_43, e202_46, e202_48, e202_49, e202_50, e202_53, e202_54, e202_57, e202_59, e202_60, e202_61, e202_62, e202_63, e202_64, e202_65, e202_68, e202_69, e202_72, e202_73, e202_75, e202_77, e202_80, e202_81, e202_83, e202_86, e202_87, e202_90, e202_92, e202_93, e202_94, e202_97, e202_98, e202_99, e202_102, e202_104, e202_107, e202_108, e202_109, e202_112, e202_116, e202_118, e202_121, e202_123, e202_124, e202_126, e202_128, e202_129, e202_131, e202_133, e202_134, e202_137, e202_140, e202_141, e202_144, e202_146, e202_147, e202_148, e202_151, e202_152, e202_153, e202_156, e202_157, e202_160, e202_162, e202_163, e202_164, e202_167, e202_168, e202_169, e202_172, e202_174, e202_175, e202_178, e202_179, e202_182, e202_183, e202_185, e202_186, e202_189, e202_191, e202_192, e202_193, e202_196, e202_198, e202_201, e202_202, e202_205, e202_207, e202_208, e202_209, e202_210, e202_211, e202_212, e202_215, e202_216, e202_219, e202_220, e202_222, e202_224, e202_227, e202_229, e202_231, e202_234, e202_235, e202_238, e202_240, e202_241, e202_242, e202_245, e202_247, e202_248, e202_251, e202_253, e202_256, e202_258, e202_260, e202_263, e202_266, e202_268, e202_270, e202_273, e202_274, e202_277, e202_279, e202_280, e202_281, e202_284, e202_285, e202_286, e202_289, e202_291, e202_292, e202_293, e202_296, e202_299, e202_301, e202_303, e202_305, e202_306, e202_308, e202_309, e202_311, e202_313, e202_314, e202_317, e202_320, e202_322, e202_323, e202_325, e202_326, e202_329, e202_330, e202_332, e202_334, e202_336, e202_337, e202_338, e202_339, e202_340, e202_343, e202_344, e202_346, e202_347, e202_350, e202_351, e202_354, e202_356, e202_357, e202_359, e202_360, e202_363, e202_364, e202_365, e202_368, e202_369, e202_370, e202_373, e202_375, e202_376, e202_378, e202_379, e202_382, e202_383, e202_384, e202_387, e202_389, e202_390, e202_393, e202_395, e202_397, e202_400, e202_403, e202_406, e202_408, e202_409, e202_412, e202_414, e202_417, e202_419, ok88, ok113, ok114, ok115, rf88_43, rf88_44, rf88_45, x1, x2, x3, h88, nI_ge hin (show n < 2 ^ 31 by omega), if_false, clK (show i < 1000 by omega), eT, eq, bt (show q i < 2 ^ 31 by omega) (show D < 31 by omega), vbe, show ¬ (1 : Int32) = 0 by decide, nI_1, not_true_eq_false, not_false_eq_true, if_true, if_false, and_self, vh_bds, vh_ps1, vh_ps0, vb0, vb1, vbz, vbo]
    by_cases w : mi 113 i = h
    · rw [if_neg (not_not_intro w)]
      by_cases q1 : (q i).testBit D = true
      · rw [if_neg (not_not_intro q1)]
        have hr : (hmP mi h i && (q i).testBit D) = true := by rw [hp_i.mpr w, q1]; rfl
        cases o with
        | none =>
          rw [if_pos (show bvI none = -1000000 from rfl)]
          exact ih (i + 1) (some i) _ (by omega) (best_none ho hr)
        | some x =>
          have hxi : x < i := ho.1
          have y2 : vh_ixa 114 (nI x) = true := ixa (by rw [kd114]; omega) (by omega)
          obtain ⟨eX, bX⟩ := hT x (by omega)
          rw [if_neg (show ¬ bvI (some x) = -1000000 from nmN (by omega))]
          simp only [e202_0, e202_1, e202_2, e202_5, e202_6, e202_9, e202_12, e202_13, e202_14, e202_15, e202_18, e202_21, e202_24, e202_26, e202_27, e202_29, e202_30, e202_31, e202_35, e202_36, e202_39, e202_42, e202_43, e202_46, e202_48, e202_49, e202_50, e202_53, e202_54, e202_57, e202_59, e202_60, e202_61, e202_62, e202_63, e202_64, e202_65, e202_68, e202_69, e202_72, e202_73, e202_75, e202_77, e202_80, e202_81, e202_83, e202_86, e202_87, e202_90, e202_92, e202_93, e202_94, e202_97, e202_98, e202_99, e202_102, e202_104, e202_107, e202_108, e202_109, e202_112, e202_116, e202_118, e202_121, e202_123, e202_124, e202_126, e202_128, e202_129, e202_131, e202_133, e202_134, e202_137, e202_140, e202_141, e202_144, e202_146, e202_147, e202_148, e202_151, e202_152, e202_153, e202_156, e202_157, e202_160, e202_162, e202_163, e202_164, e202_167, e202_168, e202_169, e202_172, e202_174, e202_175, e202_178, e202_179, e202_182, e202_183, e202_185, e202_186, e202_189, e202_191, e202_192, e202_193, e202_196, e202_198, e202_201, e202_202, e202_205, e202_207, e202_208, e202_209, e202_210, e202_211, e202_212, e202_215, e202_216, e202_219, e202_220, e202_222, e202_224, e202_227, e202_229, e202_231, e202_234, e202_235, e202_238, e202_240, e202_241, e202_242, e202_245, e202_247, e202_248, e202_251, e202_253, e202_256, e202_258, e202_260, e202_263, e202_266, e202_268, e202_270, e202_273, e202_274, e202_277, e202_279, e202_280, e202_281, e202_284, e202_285, e202_286, e202_289, e202_291, e202_292, e202_293, e202_296, e202_299, e202_301, e202_303, e202_305, e202_306, e202_308, e202_309, e202_311, e202_313, e202_314, e202_317, e202_320, e202_322, e202_323, e202_325, e202_326, e202_329, e202_330, e202_332, e202_334, e202_336, e202_337, e202_338, e202_339, e202_340, e202_343, e202_344, e202_346, e202_347, e202_350, e202_351, e202_354, e202_356, e202_357, e202_359, e202_360, e202_363, e202_364, e202_365, e202_368, e202_369, e202_370, e202_373, e202_375, e202_376, e202_378, e202_379, e202_382, e202_383, e202_384, e202_387, e202_389, e202_390, e202_393, e202_395, e202_397, e202_400, e202_403, e202_406, e202_408, e202_409, e202_412, e202_414, e202_417, e202_419, show bvI (some x) = nI x from rfl, ok88, ok114, rf88_44, x2, y2, clK (show x < 1000 by omega), clK (show i < 1000 by omega), eX, eT, nI_leI (show T x < 2 ^ 31 by omega) (show T i < 2 ^ 31 by omega), nI_1, not_true_eq_false, not_false_eq_true, if_true, if_false, and_self, vh_bds, vh_ps1, vh_ps0, vb0, vb1, vbz, vbo]
          by_cases q3 : T x ≤ T i
          · rw [if_pos q3]
            exact ih (i + 1) (some x) _ (by omega) (best_old ho (fun z => by unfold ahd at z; omega))
          · rw [if_neg q3]
            exact ih (i + 1) (some i) _ (by omega) (best_new ho hr (by unfold ahd; omega))
      · rw [if_pos q1]
        exact ih (i + 1) o _ (by omega) (best_skip ho (by rw [Bool.and_eq_true]; exact fun z => q1 z.2))
    · rw [if_pos w]
      exact ih (i + 1) o _ (by omega) (best_skip ho (by rw [Bool.and_eq_true]; exact fun z => w (hp_i.mp z.1)))
theorem l202b {y : Nat} {l8 l9 : Option Value} (hn : n ≤ 40) (hD : D ≤ 7) (hy : y < n) (h88 : mi 88 42 = nI n) (hT : ∀ i, i < n → mi 114 i = nI (T i) ∧ T i ≤ 35039) (hq : ∀ i, i < n → mi 115 i = nI (q i) ∧ q i ≤ 255) : ∀ (j i : Nat) (o : Option Nat) (l6 l7 : Option Value), i + j = n → Lst T (fun u => hmP mi h u && adB T u y && !(q u).testBit D) i o →
    ∃ o' l6' l7', vh_E 202 131 [some (.ref 88), some (.int h), some (.int (nI D)), some (.int (nI y)), some (.int (bvI o)), some (.int (nI i)), l6, l7, l8, l9] [] (vh_K d mi ml) = vh_E 202 266 [some (.ref 88), some (.int h), some (.int (nI D)), some (.int (nI y)), some (.int (bvI o')), some (.int (nI n)), l6', l7', l8, l9] [] (vh_K d mi ml) ∧ Lst T (fun u => hmP mi h u && adB T u y && !(q u).testBit D) n o' := by
  intro j
  induction j with
  | zero =>
    intro i o l6 l7 hi ho
    have : i = n := by omega
    subst this
    refine ⟨o, l6, l7, ?_, ho⟩
    simp only [e202_131, e202_133, e202_134, e202_137, ok88, h88, nI_le (Nat.le_refl i) (show i < 2 ^ 31 by omega), if_true]
  | succ j ih =>
    intro i o l6 l7 hi ho
    have hin : i < n := by omega
    have x1 : vh_ixa 113 (nI i) = true := ixa (by rw [kd113]; omega) (by omega)
    have x2 : vh_ixa 114 (nI i) = true := ixa (by rw [kd114]; omega) (by omega)
    have x3 : vh_ixa 115 (nI i) = true := ixa (by rw [kd115]; omega) (by omega)
    have z2 : vh_ixa 114 (nI y) = true := ixa (by rw [kd114]; omega) (by omega)
    obtain ⟨eT, bT⟩ := hT i hin
    obtain ⟨eY, bY⟩ := hT y hy
    obtain ⟨eq, bq⟩ := hq i hin
    have step : vh_E 202 131 [some (.ref 88), some (.int h), some (.int (nI D)), some (.int (nI y)), some (.int (bvI o)), some (.int (nI i)), l6, l7, l8, l9] [] (vh_K d mi ml) = vh_E 202 183 [some (.ref 88), some (.int h), some (.int (nI D)), some (.int (nI y)), some (.int (bvI o)), some (.int (nI i)), l6, l7, l8, l9] [.int (vb (adB T i y = true))] (vh_K d mi ml) := by
      rw [e202_131]
      simp only [e202_0, e202_1, e202_2, e202_5, e202_6, e202_9, e202_12, e202_13, e202_14, e202_15, e202_18, e202_21, e202_24, e202_26, e202_27, e202_29, e202_30, e202_31, e202_33, e202_35, e202_36, e202_39, e202_42, e202_43, e202_46, e202_48, e202_49, e202_50, e202_53, e202_54, e202_57, e202_59, e202_60, e202_61, e202_62, e202_63, e202_64, e202_65, e202_68, e202_69, e202_72, e202_73, e202_75, e202_77, e202_80, e202_81, e202_83, e202_86, e202_87, e202_90, e202_92, e202_93, e202_94, e202_97, e202_98, e202_99, e202_102, e202_104, e202_107, e202_108, e202_109, e202_112, e202_115, e202_116, e202_118, e202_121, e202_123, e202_124, e202_126, e202_128, e202_129, e202_133, e202_134, e202_137, e202_140, e202_141, e202_144, e202_146, e202_147, e202_148, e202_151, e202_152, e202_153, e202_156, e202_157, e202_160, e202_162, e202_163, e202_164, e202_167, e202_168, e202_169, e202_172, e202_174, e202_175, e202_178, e202_179, e202_182, e202_185, e202_186, e202_189, e202_191, e202_192, e202_193, e202_196, e202_198, e202_201, e202_202, e202_205, e202_207, e202_208, e202_209, e202_210, e202_211, e202_212, e202_215, e202_216, e202_219, e202_220, e202_222, e202_224, e202_227, e202_229, e202_231, e202_234, e202_235, e202_238, e202_240, e202_241, e202_242, e202_245, e202_247, e202_248, e202_251, e202_253, e202_256, e202_258, e202_260, e202_263, e202_266, e202_268, e202_270, e202_273, e202_274, e202_277, e202_279, e202_280, e202_281, e202_284, e202_285, e202_286, e202_289, e202_291, e202_292, e202_293, e202_296, e202_299, e202_301, e202_303, e202_305, e202_306, e202_308, e202_309, e202_311, e202_313, e202_314, e202_317, e202_320, e202_322, e202_323, e202_325, e202_326, e202_329, e202_330, e202_332, e202_334, e202_336, e202_337, e202_338, e202_339, e202_340, e202_343, e202_344, e202_346, e202_347, e202_350, e202_351, e202_354, e202_356, e202_357, e202_359, e202_360, e202_363, e202_364, e202_365, e202_368, e202_369, e202_370, e202_373, e202_375, e202_376, e202_378, e202_379, e202_382, e202_383, e202_384, e202_387, e202_389, e202_390, e202_393, e202_395, e202_397, e202_400, e202_403, e202_406, e202_408, e202_409, e202_412, e202_414, e202_417, e202_419, ok88, ok114, rf88_44, x2, z2, h88, nI_ge hin (show n < 2 ^ 31 by omega), if_false, clK (show i < 1000 by omega), clK (show y < 1000 by omega), eT, eY, nI_ltI (show T i < 2 ^ 31 by omega) (show T y < 2 ^ 31 by omega), nI_eq (show T i < 2 ^ 31 by omega) (show T y < 2 ^ 31 by omega), nI_leI (show y < 2 ^ 31 by omega) (show i < 2 ^ 31 by omega)]
      by_cases q1 : T i < T y
      · rw [if_pos q1, vb_t (ad_i.mpr (Or.inl q1))]
      · rw [if_neg q1]
        by_cases q2 : T i = T y
        · rw [if_neg (not_not_intro q2)]
          by_cases q3 : y ≤ i
          · rw [if_pos q3, vb_f (fun z => by have := ad_i.mp z; unfold ahd at this; omega)]
          · rw [if_neg q3, vb_t (ad_i.mpr (Or.inr ⟨q2, by omega⟩))]
        · rw [if_pos q2, vb_f (fun z => by have := ad_i.mp z; unfold ahd at this; omega)]
    rw [step]
    simp only [e202_0, e202_1, e202_2, e202_5, e202_6, e202_9, e202_12, e202_13, e202_14, e202_15, e202_18, e202_21, e202_24, e202_26, e202_27, e202_29, e202_30, e202_31, e202_33, e202_35, e202_36, e202_39, e202_42, e202_43, e202_46, e202_48, e202_49, e202_50, e202_53, e202_54, e202_57, e202_59, e202_60, e202_61, e202_62, e202_63, e202_64, e202_65, e202_68, e202_69, e202_72, e202_73, e202_75, e202_77, e202_80, e202_81, e202_83, e202_86, e202_87, e202_90, e202_92, e202_93, e202_94, e202_97, e202_98, e202_99, e202_102, e202_104, e202_107, e202_108, e202_109, e202_112, e202_115, e202_116, e202_118, e202_121, e202_123, e202_124, e202_126, e202_128, e202_129, e202_133, e202_134, e202_137, e202_140, e202_141, e202_144, e202_146, e202_147, e202_148, e202_151, e202_152, e202_153, e202_156, e202_157, e202_160, e202_162, e202_163, e202_164, e202_167, e202_168, e202_169, e202_172, e202_174, e202_175, e202_178, e202_179, e202_182, e202_183, e202_185, e202_186, e202_189, e202_191, e202_192, e202_193, e202_196, e202_198, e202_201, e202_202, e202_205, e202_207, e202_208, e202_209, e202_210, e202_211, e202_212, e202_215, e202_216, e202_219, e202_220, e202_222, e202_224, e202_227, e202_229, e202_231, e202_234, e202_235, e202_238, e202_240, e202_241, e202_242, e202_245, e202_247, e202_248, e202_251, e202_253, e202_256, e202_258, e202_260, e202_263, e202_268, e202_270, e202_273, e202_274, e202_277, e202_279, e202_280, e202_281, e202_284, e202_285, e202_286, e202_289, e202_291, e202_292, e202_293, e202_296, e202_299, e202_301, e202_303, e202_305, e202_306, e202_308, e202_309, e202_311, e202_313, e202_314, e202_317, e202_320, e202_322, e202_323, e202_325, e202_326, e202_329, e202_330, e202_332, e202_334, e202_336, e202_337, e202_338, e202_339, e202_340, e202_343, e202_344, e202_346, e202_347, e202_350, e202_351, e202_354, e202_356, e202_357, e202_359, e202_360, e202_363, e202_364, e202_365, e202_368, e202_369, e202_370, e202_373, e202_375, e202_376, e202_378, e202_379, e202_382, e202_383, e202_384, e202_387, e202_389, e202_390, e202_393, e202_395, e202_397, e202_400, e202_403, e202_406, e202_408, e202_409, e202_412, e202_414, e202_417, e202_419, ok88, ok113, ok114, ok115, rf88_43, rf88_44, rf88_45, x1, x2, x3, clK (show i < 1000 by omega), eT, eq, bt (show q i < 2 ^ 31 by omega) (show D < 31 by omega), show ¬ (1 : Int32) = 0 by decide, nI_1, not_true_eq_false, not_false_eq_true, if_true, if_false, and_self, vh_bds, vh_ps1, vh_ps0, vb0, vb1, vbz, vbo, Classical.not_not]
    by_cases w : mi 113 i = h
    · rw [if_neg (not_not_intro w)]
      by_cases wa : adB T i y = true
      · rw [if_neg (not_not_intro wa)]
        by_cases q1 : (q i).testBit D = true
        · rw [if_pos q1]
          exact ih (i + 1) o _ _ (by omega) (lst_skip ho (by rw [q1]; simp))
        · rw [if_neg q1]
          have hr : (hmP mi h i && adB T i y && !(q i).testBit D) = true := by simp at q1; rw [hp_i.mpr w, wa, q1]; rfl
          cases o with
          | none =>
            rw [if_pos (show bvI none = -1000000 from rfl)]
            exact ih (i + 1) (some i) _ _ (by omega) (lst_none ho hr)
          | some x =>
            have hxi : x < i := ho.1
            have y2 : vh_ixa 114 (nI x) = true := ixa (by rw [kd114]; omega) (by omega)
            obtain ⟨eX, bX⟩ := hT x (by omega)
            rw [if_neg (show ¬ bvI (some x) = -1000000 from nmN (by omega))]
            simp only [e202_0, e202_1, e202_2, e202_5, e202_6, e202_9, e202_12, e202_13, e202_14, e202_15, e202_18, e202_21, e202_24, e202_26, e202_27, e202_29, e202_30, e202_31, e202_33, e202_35, e202_36, e202_39, e202_42, e202_43, e202_46, e202_48, e202_49, e202_50, e202_53, e202_54, e202_57, e202_59, e202_60, e202_61, e202_62, e202_63, e202_64, e202_65, e202_68, e202_69, e202_72, e202_73, e202_75, e202_77, e202_80, e202_81, e202_83, e202_86, e202_87, e202_90, e202_92, e202_93, e202_94, e202_97, e202_98, e202_99, e202_102, e202_104, e202_107, e202_108, e202_109, e202_112, e202_115, e202_116, e202_118, e202_121, e202_123, e202_124, e202_126, e202_128, e202_129, e202_133, e202_134, e202_137, e202_140, e202_141, e202_144, e202_146, e202_147, e202_148, e202_151, e202_152, e202_153, e202_156, e202_157, e202_160, e202_162, e202_163, e202_164, e202_167, e202_168, e202_169, e202_172, e202_174, e202_175, e202_178, e202_179, e202_182, e202_183, e202_185, e202_186, e202_189, e202_191, e202_192, e202_193, e202_196, e202_198, e202_201, e202_202, e202_205, e202_207, e202_208, e202_209, e202_210, e202_211, e202_212, e202_215, e202_216, e202_219, e202_220, e202_222, e202_224, e202_227, e202_229, e202_231, e202_234, e202_235, e202_238, e202_240, e202_241, e202_242, e202_245, e202_247, e202_248, e202_251, e202_253, e202_256, e202_258, e202_260, e202_263, e202_268, e202_270, e202_273, e202_274, e202_277, e202_279, e202_280, e202_281, e202_284, e202_285, e202_286, e202_289, e202_291, e202_292, e202_293, e202_296, e202_299, e202_301, e202_303, e202_305, e202_306, e202_308, e202_309, e202_311, e202_313, e202_314, e202_317, e202_320, e202_322, e202_323, e202_325, e202_326, e202_329, e202_330, e202_332, e202_334, e202_336, e202_337, e202_338, e202_339, e202_340, e202_343, e202_344, e202_346, e202_347, e202_350, e202_351, e202_354, e202_356, e202_357, e202_359, e202_360, e202_363, e202_364, e202_365, e202_368, e202_369, e202_370, e202_373, e202_375, e202_376, e202_378, e202_379, e202_382, e202_383, e202_384, e202_387, e202_389, e202_390, e202_393, e202_395, e202_397, e202_400, e202_403, e202_406, e202_408, e202_409, e202_412, e202_414, e202_417, e202_419, show bvI (some x) = nI x from rfl, ok88, ok114, rf88_44, x2, y2, clK (show x < 1000 by omega), clK (show i < 1000 by omega), eX, eT, nI_ltI (show T i < 2 ^ 31 by omega) (show T x < 2 ^ 31 by omega), nI_1, not_true_eq_false, not_false_eq_true, if_true, if_false, and_self, vh_bds, vh_ps1, vh_ps0, vb0, vb1, vbz, vbo]
            by_cases q3 : T i < T x
            · rw [if_pos q3]
              exact ih (i + 1) (some x) _ _ (by omega) (lst_old ho (fun z => by unfold ahd at z; omega))
            · rw [if_neg q3]
              exact ih (i + 1) (some i) _ _ (by omega) (lst_new ho hr (by unfold ahd; omega))
      · rw [if_pos wa]
        exact ih (i + 1) o _ _ (by omega) (lst_skip ho (by simp only [Bool.and_eq_true]; exact fun z => wa z.1.2))
    · rw [if_pos w]
      exact ih (i + 1) o _ _ (by omega) (lst_skip ho (by simp only [Bool.and_eq_true]; exact fun z => w (hp_i.mp z.1.1)))
def lastI (l : List Nat) : Int32 := match l.getLast? with
  | none => -1000000
  | some x => nI x
theorem last_s {l : List Nat} {i : Nat} : lastI (l ++ [i]) = nI i := by unfold lastI; simp
theorem last_1 {l : List Nat} : (if l.length = 1 then lastI l else -1000000) = oneI l := by
  cases l with
  | nil => rfl
  | cons x l =>
    cases l with
    | nil => rfl
    | cons y l => rw [if_neg (by simp)]; rfl
theorem l202c {M Hh y z s e : Nat} (H : DiM mi n b g) (B : DiB n b g) (hM : M < 2 ^ 16) (hH : Hh < 4) (hy : y < 40) (hz : z < 40) (ey : mi 114 y = nI e) (ez : mi 114 z = nI s) (he : e ≤ 35040) (hs : s ≤ 35040) (hse : s < e) : ∀ (j i : Nat) (l9 : Option Value), i + j = n → vh_E 202 311 [some (.ref 88), some (.int (nI Hh)), some (.int (nI D)), some (.int (nI y)), some (.int (nI z)), some (.int (nI M)), some (.int (lastI (hmL (hmQ b M Hh s e) i))), some (.int (nI (hmL (hmQ b M Hh s e) i).length)), some (.int (nI i)), l9] [] (vh_K d mi ml) = some (some (.int (oneI (hmL (hmQ b M Hh s e) n))), vh_K d mi ml) := by
  have hn := B.1
  have hl : ∀ i, i ≤ 16 → (hmL (hmQ b M Hh s e) i).length ≤ 16 := by
    intro i hi
    have := List.length_filter_le (hmQ b M Hh s e) (List.range i)
    rw [List.length_range] at this
    exact Nat.le_trans this hi
  intro j
  induction j with
  | zero =>
    intro i l9 hi
    have : i = n := by omega
    subst this
    have hli := hl i hn
    simp only [e202_311, e202_313, e202_314, e202_317, e202_406, e202_408, e202_409, e202_412, e202_414, e202_417, e202_419, ok88, H.sz, nI_le (Nat.le_refl i) (show i < 2 ^ 31 by omega), if_true, show (nI (hmL (hmQ b M Hh s e) i).length = 1) ↔ (hmL (hmQ b M Hh s e) i).length = 1 from nI_eq (b := 1) (by omega) (by decide)]
    rw [← last_1]
    by_cases w : (hmL (hmQ b M Hh s e) i).length = 1
    · rw [if_neg (not_not_intro w), if_pos w]
    · rw [if_pos w, if_neg w]
  | succ j ih =>
    intro i l9 hi
    have hin : i < n := by omega
    have hi6 : i < 16 := by omega
    obtain ⟨a0, a1, a2, a3, a4, a5, a5', a6, a7, a8, a9⟩ := B.2.1 i hin
    have x1 : vh_ixa 114 (nI y) = true := ixa (by rw [kd114]; omega) (by omega)
    have x2 : vh_ixa 114 (nI z) = true := ixa (by rw [kd114]; omega) (by omega)
    have m1 : (96 : Int32) * nI (b i 2) = nI (96 * b i 2) := pk_mul 96 _
    have := fun l9 => ih (i + 1) l9 (by omega)
    rw [e202_311]
    simp only [e202_0, e202_1, e202_2, e202_5, e202_6, e202_9, e202_12, e202_13, e202_14, e202_15, e202_18, e202_21, e202_24, e202_26, e202_27, e202_29, e202_30, e202_31, e202_33, e202_35, e202_36, e202_39, e202_42, e202_43, e202_46, e202_48, e202_49, e202_50, e202_53, e202_54, e202_57, e202_59, e202_60, e202_61, e202_62, e202_63, e202_64, e202_65, e202_68, e202_69, e202_72, e202_73, e202_75, e202_77, e202_80, e202_81, e202_83, e202_86, e202_87, e202_90, e202_92, e202_93, e202_94, e202_97, e202_98, e202_99, e202_102, e202_104, e202_107, e202_108, e202_109, e202_112, e202_115, e202_116, e202_118, e202_121, e202_123, e202_124, e202_126, e202_128, e202_129, e202_131, e202_133, e202_134, e202_137, e202_140, e202_141, e202_144, e202_146, e202_147, e202_148, e202_151, e202_152, e202_153, e202_156, e202_157, e202_160, e202_162, e202_163, e202_164, e202_167, e202_168, e202_169, e202_172, e202_174, e202_175, e202_178, e202_179, e202_182, e202_183, e202_185, e202_186, e202_189, e202_191, e202_192, e202_193, e202_196, e202_198, e202_201, e202_202, e202_205, e202_207, e202_208, e202_209, e202_210, e202_211, e202_212, e202_215, e202_216, e202_219, e202_220, e202_222, e202_224, e202_227, e202_229, e202_231, e202_234, e202_235, e202_238, e202_240, e202_241, e202_242, e202_245, e202_247, e202_248, e202_251, e202_253, e202_256, e202_258, e202_260, e202_263, e202_266, e202_268, e202_270, e202_273, e202_274, e202_277, e202_279, e202_280, e202_281, e202_284, e202_285, e202_286, e202_289, e202_291, e202_292, e202_293, e202_296, e202_299, e202_301, e202_303, e202_305, e202_306, e202_308, e202_309, e202_313, e202_314, e202_317, e202_320, e202_322, e202_323, e202_325, e202_326, e202_329, e202_330, e202_332, e202_334, e202_336, e202_337, e202_338, e202_339, e202_340, e202_343, e202_344, e202_346, e202_347, e202_350, e202_351, e202_354, e202_356, e202_357, e202_359, e202_360, e202_363, e202_364, e202_365, e202_368, e202_369, e202_370, e202_373, e202_375, e202_376, e202_378, e202_379, e202_382, e202_383, e202_384, e202_387, e202_389, e202_390, e202_393, e202_395, e202_397, e202_400, e202_403, e202_406, e202_408, e202_409, e202_412, e202_414, e202_417, e202_419, ok88, ok114, rf88_44, H.sz, nI_ge hin (show n < 2 ^ 31 by omega), s177_0 hi6, s177_2 hi6, s177_3 hi6, s177_4 hi6, H.f0 hin, H.f2 hin, H.f3 hin, H.f4 hin, m1, nI_add, x1, x2, clK (show y < 1000 by omega), clK (show z < 1000 by omega), ey, ez, bt (show M < 2 ^ 31 by omega) (show i < 31 by omega), vbe, nI_eq (show b i 0 < 2 ^ 31 by omega) (show Hh < 2 ^ 31 by omega), nI_leI (show e < 2 ^ 31 by omega) (show 96 * b i 2 + b i 3 < 2 ^ 31 by omega), nI_leI (show 96 * b i 2 + b i 4 < 2 ^ 31 by omega) (show s < 2 ^ 31 by omega), nI_1, not_true_eq_false, not_false_eq_true, if_true, if_false, and_self, vh_bds, vh_ps1, vh_ps0, vb0, vb1, vbz, vbo]
    have no : ¬ hmQ b M Hh s e i = true → ∀ l9, vh_E 202 311 [some (.ref 88), some (.int (nI Hh)), some (.int (nI D)), some (.int (nI y)), some (.int (nI z)), some (.int (nI M)), some (.int (lastI (hmL (hmQ b M Hh s e) i))), some (.int (nI (hmL (hmQ b M Hh s e) i).length)), some (.int (nI (i + 1))), l9] [] (vh_K d mi ml) = some (some (.int (oneI (hmL (hmQ b M Hh s e) n))), vh_K d mi ml) := by
      intro q l9
      have := this l9
      rw [hl_f q] at this
      exact this
    by_cases q1 : M.testBit i = true
    · rw [if_neg (not_not_intro q1)]
      by_cases q2 : b i 0 = Hh
      · rw [if_neg (not_not_intro q2)]
        by_cases q3 : e ≤ 96 * b i 2 + b i 3
        · rw [if_pos q3]
          exact no (fun z => by have := (hq_i.mp z).2.2.1; omega) _
        · rw [if_neg q3]
          by_cases q4 : 96 * b i 2 + b i 4 ≤ s
          · rw [if_pos q4]
            exact no (fun z => by have := (hq_i.mp z).2.2.2.1; omega) _
          · rw [if_neg q4]
            have q : hmQ b M Hh s e i = true := hq_i.mpr ⟨q1, q2, by omega, by omega, hse⟩
            have := this (some (.int (nI (96 * b i 2))))
            rw [hl_t q, last_s, List.length_append] at this
            exact this
      · rw [if_pos q2]
        exact no (fun z => q2 (hq_i.mp z).2.1) _
    · rw [if_pos q1]
      exact no (fun z => q1 (hq_i.mp z).1) _
end

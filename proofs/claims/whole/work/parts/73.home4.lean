def woI (t : Nat → Int32) : Option Nat → Int32
  | none => -1000000
  | some z => t z
theorem hmA_e {h : Int32} {D : Nat} {t hh a b : Nat → Int32} {q : Nat → Nat} : ∀ (L : List Nat) (w : Option Nat), (∀ x ∈ L, ¬ t x = -1000000 ∧ a x = nI (q x) ∧ q x ≤ 255) → (∀ z, w = some z → ¬ t z = -1000000) → hmA h D (L.map (lgI t hh a b)) (woI t w) = (hmN (fun x => decide (hh x = h)) (fun x => (q x).testBit D) L w).map (fun p => (t p.1, t p.2)) := by
  intro L
  induction L with
  | nil => intro w _ _; rfl
  | cons x L ih =>
    intro w hL hw
    obtain ⟨h1, h2, h3⟩ := hL x (by simp)
    have ih' := fun w => ih w (fun y hy => hL y (List.mem_cons_of_mem _ hy))
    show (if hh x = h then (if (a x).toNatClampNeg.testBit D = true then (if woI t w = -1000000 then none else some (woI t w, t x)) else hmA h D (L.map (lgI t hh a b)) (t x)) else hmA h D (L.map (lgI t hh a b)) (woI t w)) = _
    rw [h2, nI_clamp (by omega)]
    unfold hmN
    by_cases p : hh x = h
    · rw [if_pos p, if_pos (decide_eq_true p)]
      by_cases qq : (q x).testBit D = true
      · rw [if_pos qq, if_pos qq]
        cases w with
        | none => rw [if_pos (show woI t none = -1000000 from rfl)]; rfl
        | some z => rw [if_neg (show ¬ woI t (some z) = -1000000 from hw z rfl)]; rfl
      · rw [if_neg qq, if_neg qq]
        exact ih' (some x) (fun z hz => by cases hz; exact h1)
    · rw [if_neg p, if_neg (by simpa using p)]
      exact ih' w hw
theorem hl_no {b : Nat → Nat → Nat} {M Hh s : Nat} {n : Nat} : oneI (hmL (hmQ b M Hh s s) n) = -1000000 := by
  have : hmL (hmQ b M Hh s s) n = [] := by
    unfold hmL
    rw [List.filter_eq_nil_iff]
    intro x _ z
    have := (hq_i.mp z).2.2.2.2
    omega
  rw [this]; rfl
section
variable {d : Nat} {mi : Nat → Nat → Int32} {ml : Nat → Nat → Int64} {n m k : Nat} {b g : Nat → Nat → Nat} {T q : Nat → Nat} {D Hh : Nat}
theorem s202n (hn : n ≤ 40) (hD : D ≤ 7) (hH : Hh < 4) (h88 : mi 88 42 = nI n) (hT : ∀ i, i < n → mi 114 i = nI (T i) ∧ T i ≤ 35039) (hq : ∀ i, i < n → mi 115 i = nI (q i) ∧ q i ≤ 255) (hm : hmN (hmP mi (nI Hh)) (fun x => (q x).testBit D) (ordN T (fun _ => true) n) none = none) : vh_C 202 [.ref 88, .int (nI Hh), .int (nI D)] (vh_K d mi ml) = some (some (.int (-1000000)), vh_K d (vh_sA mi 88 (upd (mi 88) 0 0)) ml) := by
  obtain ⟨o1, l5, A, hb⟩ := l202a (d := d) (mi := vh_sA mi 88 (upd (mi 88) 0 0)) (ml := ml) (T := T) (q := q) (D := D) (h := nI Hh) (l6 := none) (l7 := none) (l8 := none) (l9 := none) hn hD (by simp only [sAn, sAs, sAA, ups, upn, bkv_n, hlv_n, ne_eq, Nat.reduceEqDiff, Nat.reduceLT, Nat.reduceLeDiff, or_true, true_or, not_false_eq_true]; exact h88) (by simp only [sAn, sAs, sAA, ups, upn, bkv_n, hlv_n, ne_eq, Nat.reduceEqDiff, Nat.reduceLT, Nat.reduceLeDiff, or_true, true_or, not_false_eq_true]; exact hT) (by simp only [sAn, sAs, sAA, ups, upn, bkv_n, hlv_n, ne_eq, Nat.reduceEqDiff, Nat.reduceLT, Nat.reduceLeDiff, or_true, true_or, not_false_eq_true]; exact hq) n 0 none none (by omega) (fun x hx => by omega)
  have hp : hmP (vh_sA mi 88 (upd (mi 88) 0 0)) (nI Hh) = hmP mi (nI Hh) := by funext x; unfold hmP; simp only [sAn, sAs, sAA, ups, upn, bkv_n, hlv_n, ne_eq, Nat.reduceEqDiff, Nat.reduceLT, Nat.reduceLeDiff, or_true, true_or, not_false_eq_true]
  rw [hp] at hb
  have h3 : 0 ≤ nI Hh ∧ nI Hh ≤ 3 := ⟨nI_pos' (by omega), nI_le (b := 3) (by omega) (by decide)⟩
  have h7 : 0 ≤ nI D ∧ nI D ≤ 7 := ⟨nI_pos' (by omega), nI_le (b := 7) hD (by decide)⟩
  have start : vh_C 202 [.ref 88, .int (nI Hh), .int (nI D)] (vh_K d mi ml) = vh_E 202 115 [some (.ref 88), some (.int (nI Hh)), some (.int (nI D)), some (.int (bvI o1)), some (.int (nI n)), l5, none, none, none, none] [] (vh_K d (vh_sA mi 88 (upd (mi 88) 0 0)) ml) := by
    rw [← A]
    simp only [c202, e202_0, e202_1, e202_2, e202_5, e202_6, e202_9, e202_12, e202_13, e202_14, e202_15, e202_18, e202_21, e202_24, e202_26, e202_27, e202_29, e202_30, e202_31, e202_35, e202_36, e202_39, e202_42, e202_43, e202_46, e202_48, e202_49, e202_50, e202_53, e202_54, e202_57, e202_59, e202_60, e202_61, e202_62, e202_63, e202_64, e202_65, e202_68, e202_69, e202_72, e202_73, e202_75, e202_77, e202_80, e202_81, e202_83, e202_86, e202_87, e202_90, e202_92, e202_93, e202_94, e202_97, e202_98, e202_99, e202_102, e202_104, e202_107, e202_108, e202_109, e202_112, e202_115, e202_116, e202_118, e202_121, e202_123, e202_124, e202_126, e202_128, e202_129, e202_131, e202_133, e202_134, e202_137, e202_140, e202_141, e202_144, e202_146, e202_147, e202_148, e202_151, e202_152, e202_153, e202_156, e202_157, e202_160, e202_162, e202_163, e202_164, e202_167, e202_168, e202_169, e202_172, e202_174, e202_175, e202_178, e202_179, e202_182, e202_183, e202_185, e202_186, e202_189, e202_191, e202_192, e202_193, e202_196, e202_198, e202_201, e202_202, e202_205, e202_207, e202_208, e202_209, e202_210, e202_211, e202_212, e202_215, e202_216, e202_219, e202_220, e202_222, e202_224, e202_227, e202_229, e202_231, e202_234, e202_235, e202_238, e202_240, e202_241, e202_242, e202_245, e202_247, e202_248, e202_251, e202_253, e202_256, e202_258, e202_260, e202_263, e202_266, e202_268, e202_270, e202_273, e202_274, e202_277, e202_279, e202_280, e202_281, e202_284, e202_285, e202_286, e202_289, e202_291, e202_292, e202_293, e202_296, e202_299, e202_301, e202_303, e202_305, e202_306, e202_308, e202_309, e202_311, e202_313, e202_314, e202_317, e202_320, e202_322, e202_323, e202_325, e202_326, e202_329, e202_330, e202_332, e202_334, e202_336, e202_337, e202_338, e202_339, e202_340, e202_343, e202_344, e202_346, e202_347, e202_350, e202_351, e202_354, e202_356, e202_357, e202_359, e202_360, e202_363, e202_364, e202_365, e202_368, e202_369, e202_370, e202_373, e202_375, e202_376, e202_378, e202_379, e202_382, e202_383, e202_384, e202_387, e202_389, e202_390, e202_393, e202_395, e202_397, e202_400, e202_403, e202_406, e202_408, e202_409, e202_412, e202_414, e202_417, e202_419, s172, in_0_7, h3, h7, ok88, not_true_eq_false, not_false_eq_true, if_true, if_false, and_self, vh_bds, vh_ps1, vh_ps0, vb0, vb1, vbz, vbo]
    rfl
  rw [start]
  cases o1 with
  | none => simp only [e202_115, e202_116, e202_118, e202_121, e202_123, show bvI none = (-1000000 : Int32) from rfl, not_true_eq_false, not_false_eq_true, if_true, if_false, and_self, vh_bds, vh_ps1, vh_ps0, vb0, vb1, vbz, vbo]
  | some y =>
    obtain ⟨o2, l6, l7, A2, hl⟩ := l202b (d := d) (mi := vh_sA mi 88 (upd (mi 88) 0 0)) (ml := ml) (T := T) (q := q) (D := D) (h := nI Hh) (l8 := none) (l9 := none) hn hD hb.1 (by simp only [sAn, sAs, sAA, ups, upn, bkv_n, hlv_n, ne_eq, Nat.reduceEqDiff, Nat.reduceLT, Nat.reduceLeDiff, or_true, true_or, not_false_eq_true]; exact h88) (by simp only [sAn, sAs, sAA, ups, upn, bkv_n, hlv_n, ne_eq, Nat.reduceEqDiff, Nat.reduceLT, Nat.reduceLeDiff, or_true, true_or, not_false_eq_true]; exact hT) (by simp only [sAn, sAs, sAA, ups, upn, bkv_n, hlv_n, ne_eq, Nat.reduceEqDiff, Nat.reduceLT, Nat.reduceLeDiff, or_true, true_or, not_false_eq_true]; exact hq) n 0 none none none (by omega) (fun x hx => by omega)
    rw [hp] at hl
    have := hm_eq (ordN_o (key := T) (P := fun _ => true) n) hb (o2 := fun _ => o2) (fun y' e => by cases e; exact hl) _ [] none rfl (fun u hu => absurd hu (by simp)) (fun _ u hu => absurd hu (by simp)) (fun z hz => by cases hz)
    rw [hm] at this
    have ho2 : o2 = none := by
      cases o2 with
      | none => rfl
      | some z => cases this
    subst ho2
    have hyn := hb.1
    simp only [e202_115, e202_116, e202_118, e202_124, e202_126, e202_128, e202_129, show bvI (some y) = nI y from rfl, show ¬ nI y = (-1000000 : Int32) from nmN (by omega), not_true_eq_false, not_false_eq_true, if_true, if_false, and_self, vh_bds, vh_ps1, vh_ps0, vb0, vb1, vbz, vbo]
    refine Eq.trans A2 ?_
    simp only [e202_266, e202_268, e202_270, e202_289, e202_291, show bvI none = (-1000000 : Int32) from rfl, not_true_eq_false, not_false_eq_true, if_true, if_false, and_self, vh_bds, vh_ps1, vh_ps0, vb0, vb1, vbz, vbo]
theorem s202s {y z : Nat} (H : DiM mi m b g) (B : DiB m b g) (hn : n ≤ 40) (hD : D ≤ 7) (hH : Hh < 4) (h88 : mi 88 42 = nI n) (hT : ∀ i, i < n → mi 114 i = nI (T i) ∧ T i ≤ 35039) (hq : ∀ i, i < n → mi 115 i = nI (q i) ∧ q i ≤ 255) (hm : hmN (hmP mi (nI Hh)) (fun x => (q x).testBit D) (ordN T (fun _ => true) n) none = some (z, y)) : y < n ∧ z < n ∧ vh_C 202 [.ref 88, .int (nI Hh), .int (nI D)] (vh_K d mi ml) = some (some (.int (oneI (hmL (hmQ b (hld b g m 364) Hh (T z) (T y)) m))), vh_K d (vh_sA mi 88 (upd (mi 88) 0 0)) ml) := by
  obtain ⟨o1, l5, A, hb⟩ := l202a (d := d) (mi := vh_sA mi 88 (upd (mi 88) 0 0)) (ml := ml) (T := T) (q := q) (D := D) (h := nI Hh) (l6 := none) (l7 := none) (l8 := none) (l9 := none) hn hD (by simp only [sAn, sAs, sAA, ups, upn, bkv_n, hlv_n, ne_eq, Nat.reduceEqDiff, Nat.reduceLT, Nat.reduceLeDiff, or_true, true_or, not_false_eq_true]; exact h88) (by simp only [sAn, sAs, sAA, ups, upn, bkv_n, hlv_n, ne_eq, Nat.reduceEqDiff, Nat.reduceLT, Nat.reduceLeDiff, or_true, true_or, not_false_eq_true]; exact hT) (by simp only [sAn, sAs, sAA, ups, upn, bkv_n, hlv_n, ne_eq, Nat.reduceEqDiff, Nat.reduceLT, Nat.reduceLeDiff, or_true, true_or, not_false_eq_true]; exact hq) n 0 none none (by omega) (fun x hx => by omega)
  have hp : hmP (vh_sA mi 88 (upd (mi 88) 0 0)) (nI Hh) = hmP mi (nI Hh) := by funext x; unfold hmP; simp only [sAn, sAs, sAA, ups, upn, bkv_n, hlv_n, ne_eq, Nat.reduceEqDiff, Nat.reduceLT, Nat.reduceLeDiff, or_true, true_or, not_false_eq_true]
  rw [hp] at hb
  have h3 : 0 ≤ nI Hh ∧ nI Hh ≤ 3 := ⟨nI_pos' (by omega), nI_le (b := 3) (by omega) (by decide)⟩
  have h7 : 0 ≤ nI D ∧ nI D ≤ 7 := ⟨nI_pos' (by omega), nI_le (b := 7) hD (by decide)⟩
  have start : vh_C 202 [.ref 88, .int (nI Hh), .int (nI D)] (vh_K d mi ml) = vh_E 202 115 [some (.ref 88), some (.int (nI Hh)), some (.int (nI D)), some (.int (bvI o1)), some (.int (nI n)), l5, none, none, none, none] [] (vh_K d (vh_sA mi 88 (upd (mi 88) 0 0)) ml) := by
    rw [← A]
    simp only [c202, e202_0, e202_1, e202_2, e202_5, e202_6, e202_9, e202_12, e202_13, e202_14, e202_15, e202_18, e202_21, e202_24, e202_26, e202_27, e202_29, e202_30, e202_31, e202_35, e202_36, e202_39, e202_42, e202_43, e202_46, e202_48, e202_49, e202_50, e202_53, e202_54, e202_57, e202_59, e202_60, e202_61, e202_62, e202_63, e202_64, e202_65, e202_68, e202_69, e202_72, e202_73, e202_75, e202_77, e202_80, e202_81, e202_83, e202_86, e202_87, e202_90, e202_92, e202_93, e202_94, e202_97, e202_98, e202_99, e202_102, e202_104, e202_107, e202_108, e202_109, e202_112, e202_115, e202_116, e202_118, e202_121, e202_123, e202_124, e202_126, e202_128, e202_129, e202_131, e202_133, e202_134, e202_137, e202_140, e202_141, e202_144, e202_146, e202_147, e202_148, e202_151, e202_152, e202_153, e202_156, e202_157, e202_160, e202_162, e202_163, e202_164, e202_167, e202_168, e202_169, e202_172, e202_174, e202_175, e202_178, e202_179, e202_182, e202_183, e202_185, e202_186, e202_189, e202_191, e202_192, e202_193, e202_196, e202_198, e202_201, e202_202, e202_205, e202_207, e202_208, e202_209, e202_210, e202_211, e202_212, e202_215, e202_216, e202_219, e202_220, e202_222, e202_224, e202_227, e202_229, e202_231, e202_234, e202_235, e202_238, e202_240, e202_241, e202_242, e202_245, e202_247, e202_248, e202_251, e202_253, e202_256, e202_258, e202_260, e202_263, e202_266, e202_268, e202_270, e202_273, e202_274, e202_277, e202_279, e202_280, e202_281, e202_284, e202_285, e202_286, e202_289, e202_291, e202_292, e202_293, e202_296, e202_299, e202_301, e202_303, e202_305, e202_306, e202_308, e202_309, e202_311, e202_313, e202_314, e202_317, e202_320, e202_322, e202_323, e202_325, e202_326, e202_329, e202_330, e202_332, e202_334, e202_336, e202_337, e202_338, e202_339, e202_340, e202_343, e202_344, e202_346, e202_347, e202_350, e202_351, e202_354, e202_356, e202_357, e202_359, e202_360, e202_363, e202_364, e202_365, e202_368, e202_369, e202_370, e202_373, e202_375, e202_376, e202_378, e202_379, e202_382, e202_383, e202_384, e202_387, e202_389, e202_390, e202_393, e202_395, e202_397, e202_400, e202_403, e202_406, e202_408, e202_409, e202_412, e202_414, e202_417, e202_419, s172, in_0_7, h3, h7, ok88, not_true_eq_false, not_false_eq_true, if_true, if_false, and_self, vh_bds, vh_ps1, vh_ps0, vb0, vb1, vbz, vbo]
    rfl
  cases o1 with
  | none =>
    have := hm_eq (ordN_o (key := T) (P := fun _ => true) n) hb (o2 := fun _ => none) (fun y' e => by cases e) _ [] none rfl (fun u hu => absurd hu (by simp)) (fun _ u hu => absurd hu (by simp)) (fun z hz => by cases hz)
    rw [hm] at this
    cases this
  | some y' =>
    obtain ⟨o2, l6, l7, A2, hl⟩ := l202b (d := d) (mi := vh_sA mi 88 (upd (mi 88) 0 0)) (ml := ml) (T := T) (q := q) (D := D) (h := nI Hh) (l8 := none) (l9 := none) hn hD hb.1 (by simp only [sAn, sAs, sAA, ups, upn, bkv_n, hlv_n, ne_eq, Nat.reduceEqDiff, Nat.reduceLT, Nat.reduceLeDiff, or_true, true_or, not_false_eq_true]; exact h88) (by simp only [sAn, sAs, sAA, ups, upn, bkv_n, hlv_n, ne_eq, Nat.reduceEqDiff, Nat.reduceLT, Nat.reduceLeDiff, or_true, true_or, not_false_eq_true]; exact hT) (by simp only [sAn, sAs, sAA, ups, upn, bkv_n, hlv_n, ne_eq, Nat.reduceEqDiff, Nat.reduceLT, Nat.reduceLeDiff, or_true, true_or, not_false_eq_true]; exact hq) n 0 none none none (by omega) (fun x hx => by omega)
    rw [hp] at hl
    have := hm_eq (ordN_o (key := T) (P := fun _ => true) n) hb (o2 := fun _ => o2) (fun y' e => by cases e; exact hl) _ [] none rfl (fun u hu => absurd hu (by simp)) (fun _ u hu => absurd hu (by simp)) (fun z hz => by cases hz)
    rw [hm] at this
    cases o2 with
    | none => cases this
    | some z' =>
      have e : (z, y) = (z', y') := Option.some.inj this
      cases e
      have hyn := hb.1
      have hzn := hl.1
      have had : ahd T z y := by
        have := hl.2.1
        simp only [Bool.and_eq_true] at this
        exact ad_i.mp this.1.2
      refine ⟨hyn, hzn, ?_⟩
      obtain ⟨eY, bY⟩ := hT y hyn
      obtain ⟨eZ, bZ⟩ := hT z hzn
      have x1 : vh_ixa 114 (nI y) = true := ixa (by rw [kd114]; omega) (by omega)
      have x2 : vh_ixa 114 (nI z) = true := ixa (by rw [kd114]; omega) (by omega)
      rw [start]
      simp only [e202_115, e202_116, e202_118, e202_124, e202_126, e202_128, e202_129, show bvI (some y) = nI y from rfl, show ¬ nI y = (-1000000 : Int32) from nmN (by omega), not_true_eq_false, not_false_eq_true, if_true, if_false, and_self, vh_bds, vh_ps1, vh_ps0, vb0, vb1, vbz, vbo]
      refine Eq.trans A2 ?_
      simp only [e202_0, e202_1, e202_2, e202_5, e202_6, e202_9, e202_12, e202_13, e202_14, e202_15, e202_18, e202_21, e202_24, e202_26, e202_27, e202_29, e202_30, e202_31, e202_35, e202_36, e202_39, e202_42, e202_43, e202_46, e202_48, e202_49, e202_50, e202_53, e202_54, e202_57, e202_59, e202_60, e202_61, e202_62, e202_63, e202_64, e202_65, e202_68, e202_69, e202_72, e202_73, e202_75, e202_77, e202_80, e202_81, e202_83, e202_86, e202_87, e202_90, e202_92, e202_93, e202_94, e202_97, e202_98, e202_99, e202_102, e202_104, e202_107, e202_108, e202_109, e202_112, e202_115, e202_116, e202_118, e202_121, e202_123, e202_124, e202_126, e202_128, e202_129, e202_133, e202_134, e202_137, e202_140, e202_141, e202_144, e202_146, e202_147, e202_148, e202_151, e202_152, e202_153, e202_156, e202_157, e202_160, e202_162, e202_163, e202_164, e202_167, e202_168, e202_169, e202_172, e202_174, e202_175, e202_178, e202_179, e202_182, e202_183, e202_185, e202_186, e202_189, e202_191, e202_192, e202_193, e202_196, e202_198, e202_201, e202_202, e202_205, e202_207, e202_208, e202_209, e202_210, e202_211, e202_212, e202_215, e202_216, e202_219, e202_220, e202_222, e202_224, e202_227, e202_229, e202_231, e202_234, e202_235, e202_238, e202_240, e202_241, e202_242, e202_245, e202_247, e202_248, e202_251, e202_253, e202_256, e202_258, e202_260, e202_263, e202_266, e202_268, e202_270, e202_273, e202_274, e202_277, e202_279, e202_280, e202_281, e202_284, e202_285, e202_286, e202_289, e202_291, e202_292, e202_293, e202_296, e202_299, e202_301, e202_303, e202_305, e202_306, e202_308, e202_309, e202_313, e202_314, e202_317, e202_320, e202_322, e202_323, e202_325, e202_326, e202_329, e202_330, e202_332, e202_334, e202_336, e202_337, e202_338, e202_339, e202_340, e202_343, e202_344, e202_346, e202_347, e202_350, e202_351, e202_354, e202_356, e202_357, e202_359, e202_360, e202_363, e202_364, e202_365, e202_368, e202_369, e202_370, e202_373, e202_375, e202_376, e202_378, e202_379, e202_382, e202_383, e202_384, e202_387, e202_389, e202_390, e202_393, e202_395, e202_397, e202_400, e202_403, e202_406, e202_408, e202_409, e202_412, e202_414, e202_417, e202_419, show bvI (some z) = nI z from rfl, show ¬ nI z = (-1000000 : Int32) from nmN (by omega), ok88, ok114, rf88_44, x1, x2, clK (show y < 1000 by omega), clK (show z < 1000 by omega), eY, eZ, sAn, sAs, sAA, ups, upn, bkv_n, hlv_n, ne_eq, Nat.reduceEqDiff, Nat.reduceLT, Nat.reduceLeDiff, or_true, true_or, not_false_eq_true, nI_eq (show T z < 2 ^ 31 by omega) (show T y < 2 ^ 31 by omega), show (364 : Int32) = nI 364 from rfl, s184 H.thr B (show 364 ≤ 364 by decide), not_true_eq_false, not_false_eq_true, if_true, if_false, and_self, vh_bds, vh_ps1, vh_ps0, vb0, vb1, vbz, vbo]
      by_cases w : T z = T y
      · rw [if_neg (not_not_intro w), w, hl_no]
      · rw [if_pos w]
        exact l202c (d := d) (ml := ml) (D := D) H.thr B (hld_lt (D := 364) B) hH (show y < 40 by omega) (show z < 40 by omega) (by simp only [sAn, sAs, sAA, ups, upn, bkv_n, hlv_n, ne_eq, Nat.reduceEqDiff, Nat.reduceLT, Nat.reduceLeDiff, or_true, true_or, not_false_eq_true]; exact eY) (by simp only [sAn, sAs, sAA, ups, upn, bkv_n, hlv_n, ne_eq, Nat.reduceEqDiff, Nat.reduceLT, Nat.reduceLeDiff, or_true, true_or, not_false_eq_true]; exact eZ) (show T y ≤ 35040 by omega) (show T z ≤ 35040 by omega) (by unfold ahd at had; omega) m 0 none (by omega)
end

section
variable {d : Nat} {mi : Nat → Nat → Int32} {ml : Nat → Nat → Int64} {n : Nat} {b g : Nat → Nat → Nat} {H D F E P M t : Nat}
theorem flS_b {fire cl : Nat → Nat} {c : Option Nat × Nat} {f : Nat} (hcl : ∀ f, cl f < 2 ^ 16) (h : c.2 < 2 ^ 16) (h1 : ∀ y, c.1 = some y → y < 2) (hf : f < 2) : (flS P fire cl c f).2 < 2 ^ 16 ∧ ∀ y, (flS P fire cl c f).1 = some y → y < 2 := by
  unfold flS
  split
  · exact ⟨hcl f, fun y hy => by cases hy; exact hf⟩
  · exact ⟨h, h1⟩
def fuC (b g : Nat → Nat → Nat) (n H D F E P M : Nat) : Option Nat × Nat := fl2 P (fun f => g H (4 + f)) (fun f => msk (fuB b g H D F E M f) n)
theorem fuC_b (hn : n ≤ 16) : (fuC b g n H D F E P M).2 < 2 ^ 16 ∧ ∀ y, (fuC b g n H D F E P M).1 = some y → y < 2 := by
  have h := flS_b (P := P) (fire := fun f => g H (4 + f)) (cl := fun f => msk (fuB b g H D F E M f) n) (c := (none, 0)) (f := 0) (fun f => msk_l hn) (by decide) (fun y hy => by cases hy) (by decide)
  unfold fuC fl2
  exact flS_b (P := P) (fire := fun f => g H (4 + f)) (cl := fun f => msk (fuB b g H D F E M f) n) (c := flS P (fun f => g H (4 + f)) (fun f => msk (fuB b g H D F E M f) n) (none, 0) 0) (f := 1) (fun f => msk_l hn) h.1 h.2 (by decide)
def fuA (b g : Nat → Nat → Nat) (n H D F E P M : Nat) (x : Nat) : Int32 := if x = 0 then bvI (fuC b g n H D F E P M).1 else if x = 1 then nI (pc (fuC b g n H D F E P M).2 16) else if x = 2 then nI (pc (fuC b g n H D F E P M).2 16) - nI (cntG b g H F E M (fuC b g n H D F E P M).2 (fuC b g n H D F E P M).1 n n) else bvI (goT b g H F E M (fuC b g n H D F E P M).2 (fuC b g n H D F E P M).1 n n (x - 3))
theorem s190 {x : Nat} (HM : DiM mi n b g) (B : DiB n b g) (h27 : mi 88 27 = nI t) (ht : t ≤ 364) (hH : H < 4) (hD : D ≤ 364) (hF : F < E) (hE : E ≤ 96) (hP1 : 1 ≤ P) (hP : P ≤ 500) (hx : x ≤ 18) : ∃ f88 f105, vh_C 190 [.ref 88, .int (nI H), .int (nI D), .int (nI F), .int (nI E), .int (nI P), .int (nI x)] (vh_K d mi ml) = some (some (.int (fuA b g n H D F E P (hld b g n t) x)), vh_K d (vh_sA (vh_sA mi 88 f88) 105 f105) ml) ∧ ∀ f, f ≠ 0 → f ≠ 32 → f88 f = mi 88 f := by
  have hn := B.1
  have hM := hld_lt (D := t) B
  obtain ⟨hc2, hc1⟩ := fuC_b (b := b) (g := g) (H := H) (D := D) (F := F) (E := E) (P := P) (M := hld b g n t) hn
  generalize hC : fuC b g n H D F E P (hld b g n t) = C at hc2 hc1
  have a1 : 0 ≤ nI H ∧ nI H ≤ 3 := ⟨nI_pos' (by omega), nI_le (b := 3) (by omega) (by decide)⟩
  have a3 : 0 ≤ nI F ∧ nI F ≤ 95 := ⟨nI_pos' (by omega), nI_le (b := 95) (by omega) (by decide)⟩
  have a4 : nI F + 1 ≤ nI E ∧ nI E ≤ 96 := ⟨by rw [nI_1]; exact nI_le (by omega) (by omega), nI_le (b := 96) (by omega) (by decide)⟩
  have a5 : 1 ≤ nI P ∧ nI P ≤ 500 := ⟨nI_le (a := 1) hP1 (by omega), nI_le (b := 500) (by omega) (by decide)⟩
  have a6 : 0 ≤ nI x ∧ nI x ≤ 18 := ⟨nI_pos' (by omega), nI_le (b := 18) (by omega) (by decide)⟩
  have i4 : ∀ w, vh_C 149 [.long (nI E).toInt64, .long (nI F + 1).toInt64, .long 96] w = some (some (.int (vb (nI F + 1 ≤ nI E ∧ nI E ≤ 96))), w) := fun w => inI rfl (by decide)
  have start : vh_C 190 [.ref 88, .int (nI H), .int (nI D), .int (nI F), .int (nI E), .int (nI P), .int (nI x)] (vh_K d mi ml) = vh_E 190 98 [some (.ref 88), some (.int (nI H)), some (.int (nI D)), some (.int (nI F)), some (.int (nI E)), some (.int (nI P)), some (.int (nI x)), some (.int (nI (hld b g n t))), some (.int (bvI none)), some (.int (nI 0)), none, none, none] [] (vh_K d (vh_sA mi 88 (upd (upd (mi 88) 0 0) 32 (nI 0))) ml) := by
    simp only [c190, e190_0, e190_1, e190_2, e190_5, e190_6, e190_9, e190_12, e190_13, e190_16, e190_19, e190_20, e190_21, e190_22, e190_25, e190_28, e190_31, e190_33, e190_34, e190_35, e190_36, e190_37, e190_38, e190_41, e190_44, e190_47, e190_49, e190_50, e190_51, e190_54, e190_57, e190_60, e190_62, e190_63, e190_64, e190_67, e190_70, e190_73, e190_75, e190_76, e190_77, e190_78, e190_81, e190_84, e190_86, e190_88, e190_90, e190_91, e190_92, e190_95, e190_96, e190_100, e190_101, e190_104, e190_105, e190_107, e190_108, e190_110, e190_111, e190_112, e190_114, e190_117, e190_119, e190_120, e190_123, e190_124, e190_125, e190_126, e190_128, e190_129, e190_130, e190_132, e190_135, e190_137, e190_139, e190_142, e190_144, e190_147, e190_148, e190_151, e190_154, e190_157, e190_159, e190_161, e190_162, e190_164, e190_167, e190_170, e190_173, e190_174, e190_176, e190_178, e190_180, e190_183, e190_184, e190_187, e190_189, e190_191, e190_192, e190_195, e190_198, e190_199, e190_201, e190_202, e190_204, e190_206, e190_207, e190_210, e190_213, e190_214, e190_216, e190_218, e190_220, e190_223, e190_224, e190_227, e190_229, e190_230, e190_231, e190_232, e190_233, e190_236, e190_237, e190_240, e190_242, e190_243, e190_245, e190_248, e190_249, e190_251, e190_252, e190_253, e190_254, e190_255, e190_256, e190_258, e190_259, e190_261, e190_263, e190_265, e190_266, e190_267, e190_269, e190_270, e190_272, e190_273, e190_275, e190_278, e190_281, e190_282, e190_285, e190_287, e190_288, e190_290, e190_291, e190_293, e190_294, e190_295, e190_296, e190_297, e190_300, e190_303, e190_306, e190_309, e190_312, e190_314, e190_317, e190_319, e190_322, e190_324, e190_325, e190_328, e190_329, e190_332, e190_335, e190_338, e190_340, e190_341, e190_344, e190_345, e190_348, e190_351, e190_353, e190_354, e190_357, e190_358, e190_361, e190_363, e190_364, e190_365, e190_366, s172, s174, in_0_95, i4, in_1_500, in_0_18, a1, d3N hD, a3, a4, a5, a6, s184 HM.thr B ht, ok88, sAn, sAs, sAA, ups, upn, bkv_n, hlv_n, ne_eq, Nat.reduceEqDiff, Nat.reduceLT, Nat.reduceLeDiff, or_true, true_or, not_false_eq_true, h27, not_true_eq_false, not_false_eq_true, if_true, if_false, and_self, vh_bds, vh_ps1, vh_ps0, vb0, vb1, vbz, vbo]
    rfl
  have A1 := l190f (d := d) (ml := ml) (c := (none, 0)) (f := 0) (x := nI x) (f88 := upd (mi 88) 0 0) (l10 := none) (l11 := none) (l12 := none) HM B (upn (by decide)) hM hH (by decide) hD hF hE hP (by decide) (fun y hy => by cases hy)
  have hb := flS_b (P := P) (fire := fun f => g H (4 + f)) (cl := fun f => msk (fuB b g H D F E (hld b g n t) f) n) (c := (none, 0)) (f := 0) (fun f => msk_l hn) (by decide) (fun y hy => by cases hy) (by decide)
  have A2 := l190f (d := d) (ml := ml) (c := flS P (fun f => g H (4 + f)) (fun f => msk (fuB b g H D F E (hld b g n t) f) n) (none, 0) 0) (f := 1) (x := nI x) (f88 := upd (mi 88) 0 0) (l10 := some (.int (nI (msk (fuB b g H D F E (hld b g n t) 0) n)))) (l11 := none) (l12 := none) HM B (upn (by decide)) hM hH (by decide) hD hF hE hP hb.1 (fun y hy => by have := hb.2 y hy; omega)
  rw [show flS P (fun f => g H (4 + f)) (fun f => msk (fuB b g H D F E (hld b g n t) f) n) (flS P (fun f => g H (4 + f)) (fun f => msk (fuB b g H D F E (hld b g n t) f) n) (none, 0) 0) 1 = C from hC] at A2
  obtain ⟨f1, A3, hf1⟩ := l190n (d := d) (ml := ml) (l1 := some (.int (nI H))) (l2 := some (.int (nI D))) (l3 := some (.int (nI F))) (l4 := some (.int (nI E))) (l5 := some (.int (nI P))) (l6 := some (.int (nI x))) (l7 := some (.int (nI (hld b g n t)))) (l8 := some (.int (bvI C.1))) (l10 := some (.int (nI (msk (fuB b g H D F E (hld b g n t) 1) n)))) (l11 := none) (l12 := none) 16 0 (vh_sA mi 88 (upd (upd (mi 88) 0 0) 32 (nI C.2))) (by omega) (fun c hc => by omega)
  have H3 : DiM (vh_sA (vh_sA mi 88 (upd (upd (mi 88) 0 0) 32 (nI C.2))) 105 f1) n b g := (HM.fr8 (by rw [upn (by decide), upn (by decide)])).fr (by omega)
  obtain ⟨l11', l12', f2, A4, hf2⟩ := l190o (d := d) (ml := ml) (B0 := B) (x := nI x) (l2 := some (.int (nI D))) (l5 := some (.int (nI P))) (fl := C.1) hM hc2 hH hF hE (fun y hy => by have := hc1 y hy; omega) n 0 none none (vh_sA (vh_sA mi 88 (upd (upd (mi 88) 0 0) 32 (nI C.2))) 105 f1) (by omega) H3 (by simp only [sAn, sAs, sAA, ups, upn, bkv_n, hlv_n, ne_eq, Nat.reduceEqDiff, Nat.reduceLT, Nat.reduceLeDiff, or_true, true_or, not_false_eq_true]) (fun c hc => by rw [sAs, hf1 c hc]; rfl)
  refine ⟨upd (upd (mi 88) 0 0) 32 (nI C.2), f2, ?_, fun f h0 h32 => by rw [upn h32, upn h0]⟩
  rw [sAA] at A4
  have cle := cntG_le (b := b) (g := g) (H := H) (F := F) (E := E) (M := hld b g n t) (mv := C.2) (fl := C.1) (n := n) (i := n)
  have x32 : (upd (upd (mi 88) 0 0) 32 (nI C.2)) 32 = nI C.2 := ups
  rw [start]
  refine Eq.trans A1 (Eq.trans A2 ?_)
  rw [e190_98]
  simp only [e190_100, e190_101, e190_173, e190_174, show (2 : Int32) ≤ nI (1 + 1) by decide, if_true]
  refine Eq.trans A3 ?_
  simp only [e190_198, e190_199, e190_201, e190_202]
  refine Eq.trans A4 ?_
  unfold fuA
  rw [hC]
  by_cases x0 : x = 0
  · subst x0
    rw [if_pos rfl]
    simp only [e190_312, e190_314, e190_317, e190_319, e190_366, show nI 0 = (0 : Int32) from rfl, not_true_eq_false, not_false_eq_true, if_true, if_false, and_self, vh_bds, vh_ps1, vh_ps0, vb0, vb1, vbz, vbo]
  rw [if_neg x0]
  have y0 : ¬ nI x = 0 := fun z => x0 ((nI_eq (b := 0) (by omega) (by decide)).mp z)
  by_cases x1 : x = 1
  · subst x1
    rw [if_pos rfl]
    simp only [e190_312, e190_314, e190_322, e190_324, e190_325, e190_328, e190_329, e190_332, e190_335, e190_366, ok88, sAn, sAs, sAA, ups, upn, bkv_n, hlv_n, ne_eq, Nat.reduceEqDiff, Nat.reduceLT, Nat.reduceLeDiff, or_true, true_or, not_false_eq_true, s192 hc2, show ¬ (1 : Int32) = 0 by decide, show nI 1 = (1 : Int32) from rfl, not_true_eq_false, not_false_eq_true, if_true, if_false, and_self, vh_bds, vh_ps1, vh_ps0, vb0, vb1, vbz, vbo]
  rw [if_neg x1]
  have y1 : ¬ nI x = 1 := fun z => x1 ((nI_eq (b := 1) (by omega) (by decide)).mp z)
  by_cases x2 : x = 2
  · subst x2
    rw [if_pos rfl]
    simp only [e190_312, e190_314, e190_322, e190_324, e190_325, e190_338, e190_340, e190_341, e190_344, e190_345, e190_348, e190_351, e190_353, e190_354, e190_366, ok88, sAn, sAs, sAA, ups, upn, bkv_n, hlv_n, ne_eq, Nat.reduceEqDiff, Nat.reduceLT, Nat.reduceLeDiff, or_true, true_or, not_false_eq_true, s192 hc2, show ¬ (2 : Int32) = 0 by decide, show ¬ (2 : Int32) = 1 by decide, show nI 2 = (2 : Int32) from rfl, not_true_eq_false, not_false_eq_true, if_true, if_false, and_self, vh_bds, vh_ps1, vh_ps0, vb0, vb1, vbz, vbo]
  rw [if_neg x2]
  have y2 : ¬ nI x = 2 := fun z => x2 ((nI_eq (b := 2) (by omega) (by decide)).mp z)
  have x3 : nI x - 3 = nI (x - 3) := pk_sub (b := 3) (by omega)
  have x4 : vh_ixa 105 (nI (x - 3)) = true := ixa (by rw [kd105]; omega) (by omega)
  simp only [e190_312, e190_314, e190_322, e190_324, e190_325, e190_338, e190_340, e190_341, e190_357, e190_358, e190_361, e190_363, e190_364, e190_365, e190_366, ok88, ok105, rf88_31, sAn, sAs, sAA, ups, upn, bkv_n, hlv_n, ne_eq, Nat.reduceEqDiff, Nat.reduceLT, Nat.reduceLeDiff, or_true, true_or, not_false_eq_true, x3, x4, clK (show x - 3 < 1000 by omega), y0, y1, y2, hf2 (x - 3) (by omega), not_true_eq_false, not_false_eq_true, if_true, if_false, and_self, vh_bds, vh_ps1, vh_ps0, vb0, vb1, vbz, vbo]
theorem s190a {h dy f e p x : Int32} (hg : ¬ ((0 ≤ h ∧ h ≤ 3) ∧ (0 ≤ dy ∧ dy ≤ 364) ∧ (0 ≤ f ∧ f < e ∧ e ≤ 96) ∧ (1 ≤ p ∧ p ≤ 500) ∧ (0 ≤ x ∧ x ≤ 18))) : vh_C 190 [.ref 88, .int h, .int dy, .int f, .int e, .int p, .int x] (vh_K d mi ml) = some (some (.int (-1000001)), vh_K d (vh_sA mi 88 (upd (mi 88) 0 0)) ml) := by
  have i4 : ∀ w, vh_C 149 [.long e.toInt64, .long (f + 1).toInt64, .long 96] w = some (some (.int (vb (f + 1 ≤ e ∧ e ≤ 96))), w) := fun w => inI rfl (by decide)
  simp only [c190, e190_0, e190_1, e190_2, e190_5, e190_6, e190_9, e190_12, e190_13, e190_16, e190_19, e190_20, e190_21, e190_22, e190_25, e190_28, e190_31, e190_33, e190_34, e190_35, e190_36, e190_37, e190_38, e190_41, e190_44, e190_47, e190_49, e190_50, e190_51, e190_54, e190_57, e190_60, e190_62, e190_63, e190_64, e190_67, e190_70, e190_73, e190_75, e190_77, e190_78, e190_81, e190_84, e190_86, e190_88, e190_90, e190_91, e190_92, e190_95, e190_96, e190_98, e190_100, e190_101, e190_104, e190_105, e190_107, e190_108, e190_110, e190_111, e190_112, e190_114, e190_117, e190_119, e190_120, e190_123, e190_124, e190_125, e190_126, e190_128, e190_129, e190_130, e190_132, e190_135, e190_137, e190_139, e190_142, e190_144, e190_147, e190_148, e190_151, e190_154, e190_157, e190_159, e190_161, e190_162, e190_164, e190_167, e190_170, e190_173, e190_174, e190_176, e190_178, e190_180, e190_183, e190_184, e190_187, e190_189, e190_191, e190_192, e190_195, e190_198, e190_199, e190_201, e190_202, e190_204, e190_206, e190_207, e190_210, e190_213, e190_214, e190_216, e190_218, e190_220, e190_223, e190_224, e190_227, e190_229, e190_230, e190_231, e190_232, e190_233, e190_236, e190_237, e190_240, e190_242, e190_243, e190_245, e190_248, e190_249, e190_251, e190_252, e190_253, e190_254, e190_255, e190_256, e190_258, e190_259, e190_261, e190_263, e190_265, e190_266, e190_267, e190_269, e190_270, e190_272, e190_273, e190_275, e190_278, e190_281, e190_282, e190_285, e190_287, e190_288, e190_290, e190_291, e190_293, e190_294, e190_295, e190_296, e190_297, e190_300, e190_303, e190_306, e190_309, e190_312, e190_314, e190_317, e190_319, e190_322, e190_324, e190_325, e190_328, e190_329, e190_332, e190_335, e190_338, e190_340, e190_341, e190_344, e190_345, e190_348, e190_351, e190_353, e190_354, e190_357, e190_358, e190_361, e190_363, e190_364, e190_365, e190_366, s172, s174, in_0_95, i4, in_1_500, in_0_18, ok88, not_true_eq_false, not_false_eq_true, if_true, if_false, and_self, vh_bds, vh_ps1, vh_ps0, vb0, vb1, vbz, vbo, Classical.not_not]
  rw [sp_e] at hg
  by_cases a1 : 0 ≤ h ∧ h ≤ 3
  · rw [if_neg (not_not_intro a1)]
    by_cases a2 : 0 ≤ dy ∧ dy ≤ 364
    · rw [if_neg (not_not_intro a2)]
      by_cases a3 : 0 ≤ f ∧ f ≤ 95
      · rw [if_neg (not_not_intro a3)]
        by_cases a4 : f + 1 ≤ e ∧ e ≤ 96
        · rw [if_neg (not_not_intro a4)]
          by_cases a5 : 1 ≤ p ∧ p ≤ 500
          · rw [if_neg (not_not_intro a5), if_neg (fun z => hg ⟨a1, a2, ⟨a3, a4⟩, a5, z⟩)]
          · rw [if_pos a5]
        · rw [if_pos a4]
      · rw [if_pos a3]
    · rw [if_pos a2]
  · rw [if_pos a1]
end

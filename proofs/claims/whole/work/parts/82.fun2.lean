def fnd (p : Nat → Bool) : Nat → Nat → Option Nat
  | 0, _ => none
  | r + 1, s => if p s = true then some s else fnd p r (s + 1)
theorem fnd_lt {p : Nat → Bool} : ∀ {r s s0 : Nat}, fnd p r s = some s0 → s0 < s + r := by
  intro r
  induction r with
  | zero => intro s s0 h; cases h
  | succ r ih =>
    intro s s0 h
    unfold fnd at h
    by_cases q : p s = true
    · rw [if_pos q] at h; cases h; omega
    · rw [if_neg q] at h; have := ih h; omega
def plS (H s : Nat) : Nat := 2 * ((H + s / 2) % 4) + s % 2
theorem plS_lt {H s : Nat} : plS H s < 8 := by unfold plS; omega
def goT (b g : Nat → Nat → Nat) (H F E M mv : Nat) (fl : Option Nat) (n : Nat) : Nat → Nat → Option Nat
  | 0 => fun _ => none
  | i + 1 => fun c => if c = i ∧ mv.testBit i = true then (fnd (fun s => fvA b g H F E M mv (goT b g H F E M mv fl n i) fl i ((H + s / 2) % 4) (s % 2) n) 8 0).map (plS H) else goT b g H F E M mv fl n i c
section
variable {b g : Nat → Nat → Nat} {H F E M mv : Nat} {fl : Option Nat} {n : Nat}
theorem go_ne {i c : Nat} (h : c ≠ i) : goT b g H F E M mv fl n (i + 1) c = goT b g H F E M mv fl n i c := if_neg (fun z => h z.1)
theorem go_no {i c : Nat} (h : ¬ mv.testBit i = true) : goT b g H F E M mv fl n (i + 1) c = goT b g H F E M mv fl n i c := if_neg (fun z => h z.2)
theorem go_at {i : Nat} (h : mv.testBit i = true) : goT b g H F E M mv fl n (i + 1) i = (fnd (fun s => fvA b g H F E M mv (goT b g H F E M mv fl n i) fl i ((H + s / 2) % 4) (s % 2) n) 8 0).map (plS H) := if_pos ⟨rfl, h⟩
theorem go_hi : ∀ {i c : Nat}, i ≤ c → goT b g H F E M mv fl n i c = none := by
  intro i
  induction i with
  | zero => intro c _; rfl
  | succ i ih =>
    intro c h
    rw [go_ne (by omega), ih (by omega)]
theorem go_lt : ∀ {i c y : Nat}, goT b g H F E M mv fl n i c = some y → y < 8 ∧ mv.testBit c = true := by
  intro i
  induction i with
  | zero => intro c y h; cases h
  | succ i ih =>
    intro c y h
    by_cases q : c = i ∧ mv.testBit i = true
    · obtain ⟨rfl, q⟩ := q
      rw [go_at q] at h
      cases e : fnd (fun s => fvA b g H F E M mv (goT b g H F E M mv fl n c) fl c ((H + s / 2) % 4) (s % 2) n) 8 0 with
      | none => rw [e] at h; cases h
      | some s0 => rw [e] at h; cases h; exact ⟨plS_lt, q⟩
    · have : goT b g H F E M mv fl n (i + 1) c = goT b g H F E M mv fl n i c := if_neg q
      rw [this] at h
      exact ih h
theorem go_up {c : Nat} : ∀ {j : Nat}, goT b g H F E M mv fl n (c + 1 + j) c = goT b g H F E M mv fl n (c + 1) c := by
  intro j
  induction j with
  | zero => rfl
  | succ j ih => rw [← Nat.add_assoc, go_ne (by omega), ih]
def cntG (b g : Nat → Nat → Nat) (H F E M mv : Nat) (fl : Option Nat) (n : Nat) : Nat → Nat
  | 0 => 0
  | i + 1 => cntG b g H F E M mv fl n i + (if (goT b g H F E M mv fl n (i + 1) i).isSome = true then 1 else 0)
theorem cntG_le : ∀ {i : Nat}, cntG b g H F E M mv fl n i ≤ i := by
  intro i
  induction i with
  | zero => exact Nat.le_refl _
  | succ i ih => show _ + _ ≤ _; split <;> omega
theorem flS_p {P : Nat} {fire cl : Nat → Nat} {c : Option Nat × Nat} {f : Nat} (q : P ≤ fire f ∧ (c.1 = none ∨ pc (cl f) 16 < pc c.2 16)) : flS P fire cl c f = (some f, cl f) := if_pos q
theorem flS_n {P : Nat} {fire cl : Nat → Nat} {c : Option Nat × Nat} {f : Nat} (q : ¬ (P ≤ fire f ∧ (c.1 = none ∨ pc (cl f) 16 < pc c.2 16))) : flS P fire cl c f = c := if_neg q
end
section
variable {d : Nat} {mi : Nat → Nat → Int32} {ml : Nat → Nat → Int64} {n : Nat} {b g : Nat → Nat → Nat} {H D F E P M mv : Nat} {go : Nat → Option Nat} {fl : Option Nat}
theorem s193 (HM : DiM mi n b g) (B : DiB n b g) {k h f : Nat} (hM : M < 2 ^ 16) (hmv : mv < 2 ^ 16) (hk : k < n) (hh : h < 4) (hf : f < 2) (hH : H < 4) (hF : F < E) (hE : E ≤ 96) (hfl : ∀ y, fl = some y → y < 1000) (h32 : mi 88 32 = nI mv) (hgo : ∀ c y, go c = some y → y < 1000) (h105 : ∀ c, c < 16 → mi 105 c = bvI (go c)) : vh_C 193 [.ref 88, .int (nI k), .int (nI h), .int (nI f), .int (nI M), .int (nI H), .int (bvI fl), .int (nI F), .int (nI E)] (vh_K d mi ml) = some (some (.int (vb (fvA b g H F E M mv go fl k h f n = true))), vh_K d mi ml) := by
  have hn := B.1
  have hk6 : k < 16 := by omega
  obtain ⟨k0, k1, k2, k3, k4, k5, k5', k6, k7, k8, k9⟩ := B.2.1 k hk
  have hnr := s182 (d := d) (mi := mi) (ml := ml) (h := h) (s := g h 0) (f1 := b k 3) (t1 := b k 4) (u1 := b k 6) (f2 := F) (t2 := E) (u2 := 3) hh (HM.h0 hh) (by omega) (by omega) (by omega) (by omega) (by omega) (by omega) (by have := (B.2.2.2 h hh).1; omega)
  have hnr : vh_C 182 [.ref 88, .int (nI h), .int (nI (b k 3)), .int (nI (b k 4)), .int (nI (b k 6)), .int (nI F), .int (nI E), .int 3] (vh_K d mi ml) = some (some (.int (vb (nearB (g h 0) (b k 3) (b k 4) (b k 6) F E 3 = true))), vh_K d mi ml) := hnr
  have L := l193 (d := d) (ml := ml) (H := H) (F := F) (E := E) (fl := fl) (l5 := some (.int (nI H))) (l6 := some (.int (bvI fl))) (l7 := some (.int (nI F))) (l8 := some (.int (nI E))) HM B hM hmv hk hh hf h32 hgo h105 n 0 none (by omega)
  have e0 : fvA b g H F E M mv go fl k h f 0 = fv1 b g H F E fl k h f := by unfold fvA; rw [decide_eq_true (fun a ha => by omega), Bool.and_true]
  rw [e0] at L
  have hfe : nI f = bvI fl ↔ fl = some f := by
    rw [← bvI_e hfl (show f < 1000 by omega)]
    exact ⟨fun z => z.symm, fun z => z.symm⟩
  simp only [c193, e193_0, e193_1, e193_2, e193_3, e193_4, e193_7, e193_10, e193_11, e193_13, e193_16, e193_17, e193_19, e193_22, e193_23, e193_24, e193_25, e193_26, e193_27, e193_30, e193_31, e193_32, e193_33, e193_36, e193_37, e193_38, e193_40, e193_43, e193_45, e193_47, e193_48, e193_51, e193_54, e193_55, e193_58, e193_59, e193_61, e193_62, e193_66, e193_67, e193_70, e193_73, e193_74, e193_77, e193_79, e193_80, e193_81, e193_82, e193_85, e193_87, e193_89, e193_90, e193_91, e193_92, e193_93, e193_96, e193_97, e193_99, e193_100, e193_103, e193_104, e193_107, e193_108, e193_110, e193_111, e193_114, e193_115, e193_118, e193_119, e193_122, e193_123, e193_126, e193_127, e193_130, e193_132, e193_133, e193_134, e193_135, e193_136, e193_137, e193_138, e193_141, e193_142, e193_145, e193_146, e193_148, e193_150, e193_153, e193_155, e193_158, e193_159, e193_161, e193_162, e193_165, e193_166, e193_167, e193_168, e193_171, e193_174, e193_175, e193_176, e193_177, e193_179, e193_180, e193_183, e193_184, e193_186, e193_187, e193_190, e193_191, e193_193, e193_195, e193_198, e193_199, e193_200, e193_201, e193_204, e193_205, e193_206, e193_207, e193_210, e193_211, e193_212, e193_214, e193_217, e193_220, e193_223, e193_224, e193_227, e193_228, e193_230, e193_233, e193_236, e193_238, ok88, s188 HM B hk hh hf, s177_3 hk6, s177_4 hk6, s177_6 hk6, HM.f3 hk, HM.f4 hk, HM.f6 hk, nI_eq (show h < 2 ^ 31 by omega) (show H < 2 ^ 31 by omega), hfe, hnr, not_true_eq_false, not_false_eq_true, if_true, if_false, and_self, vh_bds, vh_ps1, vh_ps0, vb0, vb1, vbz, vbo, Classical.not_not]
  by_cases q1 : b k 5 ≤ g h (4 + f)
  · rw [if_neg (not_not_intro q1)]
    by_cases q2 : h = H
    · rw [if_neg (not_not_intro q2)]
      by_cases q3 : fl = some f
      · rw [if_neg (not_not_intro q3)]
        by_cases q4 : nearB (g h 0) (b k 3) (b k 4) (b k 6) F E 3 = true
        · rw [if_pos q4]
          rw [vb_f (fun z => (fv1_i.mp z).2 ⟨q2, q3, q4⟩)] at L
          exact L
        · rw [if_neg q4]
          rw [vb_t (fv1_i.mpr ⟨q1, fun z => q4 z.2.2⟩)] at L
          exact L
      · rw [if_pos q3]
        rw [vb_t (fv1_i.mpr ⟨q1, fun z => q3 z.2.1⟩)] at L
        exact L
    · rw [if_pos q2]
      rw [vb_t (fv1_i.mpr ⟨q1, fun z => q2 z.1⟩)] at L
      exact L
  · rw [if_pos q1]
    rw [vb_f (fun z => q1 (fv1_i.mp z).1)] at L
    exact L
theorem l190f {c : Option Nat × Nat} {f : Nat} {x : Int32} {f88 : Nat → Int32} {l10 l11 l12 : Option Value} (HM : DiM mi n b g) (B : DiB n b g) (h24 : f88 24 = mi 88 24) (hM : M < 2 ^ 16) (hH : H < 4) (hf : f < 2) (hD : D ≤ 364) (hF : F < E) (hE : E ≤ 96) (hP : P ≤ 500) (hc2 : c.2 < 2 ^ 16) (hc1 : ∀ y, c.1 = some y → y < 1000) : vh_E 190 98 [some (.ref 88), some (.int (nI H)), some (.int (nI D)), some (.int (nI F)), some (.int (nI E)), some (.int (nI P)), some (.int x), some (.int (nI M)), some (.int (bvI c.1)), some (.int (nI f)), l10, l11, l12] [] (vh_K d (vh_sA mi 88 (upd f88 32 (nI c.2))) ml) = vh_E 190 98 [some (.ref 88), some (.int (nI H)), some (.int (nI D)), some (.int (nI F)), some (.int (nI E)), some (.int (nI P)), some (.int x), some (.int (nI M)), some (.int (bvI (flS P (fun f => g H (4 + f)) (fun f => msk (fuB b g H D F E M f) n) c f).1)), some (.int (nI (f + 1))), some (.int (nI (msk (fuB b g H D F E M f) n))), l11, l12] [] (vh_K d (vh_sA mi 88 (upd f88 32 (nI (flS P (fun f => g H (4 + f)) (fun f => msk (fuB b g H D F E M f) n) c f).2))) ml) := by
  have hn := B.1
  have H2 : DiM (vh_sA mi 88 (upd f88 32 (nI c.2))) n b g := HM.fr8 (by rw [upn (by decide)]; exact h24)
  have hm := msk_l (P := fuB b g H D F E M f) hn
  have hfi := (B.2.2.2 H hH).2.2.2.2.1 f hf
  have e2 : (2 : Int32) * nI H + nI f = nI (2 * H + f) := by rw [show (2 : Int32) * nI H = nI (2 * H) from pk_mul 2 H, nI_add]
  have x1 : vh_ixa 93 (nI (2 * H + f)) = true := ixa (by rw [kd93]; omega) (by omega)
  have h93 : mi 93 (2 * H + f) = nI (g H (4 + f)) := HM.fi hH hf
  have p1 := pc_le (M := msk (fuB b g H D F E M f) n) (k := 16)
  have p2 := pc_le (M := c.2) (k := 16)
  rw [e190_98]
  simp only [e190_0, e190_1, e190_2, e190_5, e190_6, e190_9, e190_12, e190_13, e190_16, e190_19, e190_20, e190_21, e190_22, e190_25, e190_28, e190_31, e190_33, e190_34, e190_35, e190_36, e190_37, e190_38, e190_41, e190_44, e190_47, e190_49, e190_50, e190_51, e190_54, e190_57, e190_60, e190_62, e190_63, e190_64, e190_67, e190_70, e190_73, e190_75, e190_76, e190_77, e190_78, e190_81, e190_84, e190_86, e190_88, e190_90, e190_91, e190_92, e190_95, e190_96, e190_100, e190_101, e190_104, e190_105, e190_107, e190_108, e190_110, e190_111, e190_112, e190_114, e190_117, e190_119, e190_120, e190_123, e190_124, e190_125, e190_126, e190_128, e190_129, e190_130, e190_132, e190_135, e190_137, e190_139, e190_142, e190_144, e190_147, e190_148, e190_151, e190_154, e190_157, e190_159, e190_161, e190_162, e190_164, e190_167, e190_170, e190_174, e190_176, e190_178, e190_180, e190_183, e190_184, e190_187, e190_189, e190_191, e190_192, e190_195, e190_198, e190_199, e190_201, e190_202, e190_204, e190_206, e190_207, e190_210, e190_213, e190_214, e190_216, e190_218, e190_220, e190_223, e190_224, e190_227, e190_229, e190_230, e190_231, e190_232, e190_233, e190_236, e190_237, e190_240, e190_242, e190_243, e190_245, e190_248, e190_249, e190_251, e190_252, e190_253, e190_254, e190_255, e190_256, e190_258, e190_259, e190_261, e190_263, e190_265, e190_266, e190_267, e190_269, e190_270, e190_272, e190_273, e190_275, e190_278, e190_281, e190_282, e190_285, e190_287, e190_288, e190_290, e190_291, e190_293, e190_294, e190_295, e190_296, e190_297, e190_300, e190_303, e190_306, e190_309, e190_312, e190_314, e190_317, e190_319, e190_322, e190_324, e190_325, e190_328, e190_329, e190_332, e190_335, e190_338, e190_340, e190_341, e190_344, e190_345, e190_348, e190_351, e190_353, e190_354, e190_357, e190_358, e190_361, e190_363, e190_364, e190_365, e190_366, ok88, ok93, rf88_6, s191 H2 B hM hH hf hD hF hE, s192 hm, s192 hc2, e2, x1, clK (show 2 * H + f < 1000 by omega), show ¬ (2 : Int32) ≤ nI f from nI_ge (b := 2) hf (by decide), sAn, sAs, sAA, ups, upn, bkv_n, hlv_n, ne_eq, Nat.reduceEqDiff, Nat.reduceLT, Nat.reduceLeDiff, or_true, true_or, not_false_eq_true, h93, nI_ltI (show g H (4 + f) < 2 ^ 31 by omega) (show P < 2 ^ 31 by omega), bvI_n hc1, nI_leI (show pc c.2 16 < 2 ^ 31 by omega) (show pc (msk (fuB b g H D F E M f) n) 16 < 2 ^ 31 by omega), nI_1, upU, not_true_eq_false, not_false_eq_true, if_true, if_false, and_self, vh_bds, vh_ps1, vh_ps0, vb0, vb1, vbz, vbo]
  by_cases q1 : g H (4 + f) < P
  · rw [if_pos q1, flS_n (P := P) (fire := fun f => g H (4 + f)) (cl := fun f => msk (fuB b g H D F E M f) n) (c := c) (f := f) (fun z => by have := z.1; omega)]
  · rw [if_neg q1]
    by_cases q2 : c.1 = none
    · rw [if_pos q2, flS_p ⟨by show P ≤ g H (4 + f); omega, Or.inl q2⟩]
      rfl
    · rw [if_neg q2]
      by_cases q3 : pc c.2 16 ≤ pc (msk (fuB b g H D F E M f) n) 16
      · rw [if_pos q3, flS_n (P := P) (fire := fun f => g H (4 + f)) (cl := fun f => msk (fuB b g H D F E M f) n) (c := c) (f := f) (fun z => by have := z.2.resolve_left q2; omega)]
      · rw [if_neg q3, flS_p ⟨by show P ≤ g H (4 + f); omega, Or.inr (by show pc (msk (fuB b g H D F E M f) n) 16 < _; omega)⟩]
        rfl
theorem l190n {l1 l2 l3 l4 l5 l6 l7 l8 l10 l11 l12 : Option Value} : ∀ (j i : Nat) (mi : Nat → Nat → Int32), i + j = 16 → (∀ c, c < i → mi 105 c = -1000000) → ∃ f', vh_E 190 176 [some (.ref 88), l1, l2, l3, l4, l5, l6, l7, l8, some (.int (nI i)), l10, l11, l12] [] (vh_K d mi ml) = vh_E 190 198 [some (.ref 88), l1, l2, l3, l4, l5, l6, l7, l8, some (.int (nI 16)), l10, l11, l12] [] (vh_K d (vh_sA mi 105 f') ml) ∧ ∀ c, c < 16 → f' c = -1000000 := by
  intro j
  induction j with
  | zero =>
    intro i mi hi h
    have : i = 16 := by omega
    subst this
    refine ⟨mi 105, ?_, h⟩
    rw [sAe]
    simp only [e190_176, e190_178, e190_180, show (16 : Int32) ≤ nI 16 by decide, if_true]
  | succ j ih =>
    intro i mi hi h
    have x1 : vh_ixa 105 (nI i) = true := ixa (by rw [kd105]; omega) (by omega)
    obtain ⟨f', h1, h2⟩ := ih (i + 1) (vh_sA mi 105 (upd (mi 105) i (-1000000))) (by omega) (by
      intro c hc
      rw [sAs]
      by_cases e : c = i
      · rw [e, ups]
      · rw [upn e]; exact h c (by omega))
    refine ⟨f', ?_, h2⟩
    rw [sAA] at h1
    rw [← h1, e190_176]
    simp only [e190_178, e190_180, e190_183, e190_184, e190_187, e190_189, e190_191, e190_192, e190_195, ok88, ok105, rf88_31, x1, clK (show i < 1000 by omega), show ¬ (16 : Int32) ≤ nI i from nI_ge (b := 16) (by omega) (by decide), if_false, nI_1]
end

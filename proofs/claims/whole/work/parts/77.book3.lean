def bkR (x : Nat → Int32) : Prop := (0 ≤ x 0 ∧ x 0 ≤ 3) ∧ (0 ≤ x 1 ∧ x 1 ≤ 1) ∧ (0 ≤ x 2 ∧ x 2 ≤ 364) ∧ (0 ≤ x 3 ∧ x 3 ≤ 95) ∧ (x 3 + 1 ≤ x 4 ∧ x 4 ≤ 96) ∧ (1 ≤ x 5 ∧ x 5 ≤ 999) ∧ (0 ≤ x 6 ∧ x 6 ≤ 4) ∧ (0 ≤ x 7 ∧ x 7 ≤ 1) ∧ (0 ≤ x 8 ∧ x 8 ≤ x 2)
theorem sp_e {f t : Int32} : (0 ≤ f ∧ f < t ∧ t ≤ 96) ↔ ((0 ≤ f ∧ f ≤ 95) ∧ (f + 1 ≤ t ∧ t ≤ 96)) := by
  constructor
  · rintro ⟨h1, h2, h3⟩
    obtain ⟨a, ha, rfl⟩ := nIr h1 (show f ≤ nI 96 from Int32.le_trans (Int32.le_of_lt h2) h3) (by decide)
    obtain ⟨c, hc, rfl⟩ := nIr (Int32.le_trans h1 (Int32.le_of_lt h2)) (show t ≤ nI 96 from h3) (by decide)
    have := (nI_ltI (by omega) (by omega)).mp h2
    rw [nI_1]
    exact ⟨⟨h1, nI_le (b := 95) (by omega) (by decide)⟩, nI_le (by omega) (by omega), h3⟩
  · rintro ⟨⟨h1, h2⟩, h3, h4⟩
    obtain ⟨a, ha, rfl⟩ := nIr h1 (show f ≤ nI 95 from h2) (by decide)
    rw [nI_1] at h3
    refine ⟨h1, Int32.lt_of_lt_of_le (nI_lt (by omega) (by omega)) h3, h4⟩
theorem bkR_e {x : Nat → Int32} : bkR x ↔ bkG x := by
  unfold bkR bkG
  rw [sp_e]
  constructor
  · rintro ⟨a0, a1, a2, a3, a4, a5, a6, a7, a8⟩
    exact ⟨a0, a1, a2, ⟨a3, a4⟩, a8, a5, a6, a7⟩
  · rintro ⟨a0, a1, a2, ⟨a3, a4⟩, a8, a5, a6, a7⟩
    exact ⟨a0, a1, a2, a3, a4, a5, a6, a7, a8⟩
section
variable {d : Nat} {mi : Nat → Nat → Int32} {ml : Nat → Nat → Int64} {n s k : Nat}
theorem s173g {z : Nat} (hn : n < 16) (hs : s < 8) (h5 : mi 88 24 = nI n) (h1 : 0 ≤ mi 96 s) (hz : mi 97 s = nI z) (hz2 : z ≤ 60) (hk : k + 9 ≤ z) : ∃ v, vh_C 173 [.ref 88, .int (nI s), .int (nI k)] (vh_K d mi ml) = vh_E 173 255 [some (.ref 88), some (.int (nI s)), some (.int (nI k)), some (.int (nI (s * 60 + k))), none, none] [.int v] (vh_K d (vh_sA mi 88 (upd (mi 88) 0 0)) ml) ∧ (v = 0 ∨ v = 1) ∧ (v = 1 ↔ bkR (fun f => mi 98 (s * 60 + k + f))) := by
  have hx : vh_ixa 96 (nI s) = true := ixa (by rw [kd96]; exact hs) (by omega)
  have hx2 : vh_ixa 97 (nI s) = true := ixa (by rw [kd97]; exact hs) (by omega)
  have hA : s * 60 + k + 9 ≤ 480 := by omega
  have q0 : ¬ nI k < 0 := nI_pos (by omega)
  have ql : lg_cmp ((nI k).toInt64 + 9) (nI z).toInt64 ≤ 0 := (bk_l (nlt q0) hz2).mpr ⟨k, hk, rfl⟩
  generalize hAA : s * 60 + k = A at hA
  have xx : ∀ f, f < 9 → vh_ixa 98 (nI (A + f)) = true := fun f hf => ixa (by rw [kd98]; omega) (by omega)
  have x0 : vh_ixa 98 (nI A) = true := xx 0 (by decide)
  have cc : ∀ f, f < 9 → (nI (A + f)).toNatClampNeg = A + f := fun f hf => clK (by omega)
  have i4 : vh_C 149 [.long (mi 98 (A + 4)).toInt64, .long (mi 98 (A + 3) + 1).toInt64, .long 96] (vh_K d (vh_sA mi 88 (upd (mi 88) 0 0)) ml) = some (some (.int (vb (mi 98 (A + 3) + 1 ≤ mi 98 (A + 4) ∧ mi 98 (A + 4) ≤ 96))), vh_K d (vh_sA mi 88 (upd (mi 88) 0 0)) ml) := inI rfl (by decide)
  have i8 : vh_C 149 [.long (mi 98 (A + 8)).toInt64, .long 0, .long (mi 98 (A + 2)).toInt64] (vh_K d (vh_sA mi 88 (upd (mi 88) 0 0)) ml) = some (some (.int (vb (0 ≤ mi 98 (A + 8) ∧ mi 98 (A + 8) ≤ mi 98 (A + 2)))), vh_K d (vh_sA mi 88 (upd (mi 88) 0 0)) ml) := inI (by decide) rfl
  have hst : 60 * nI s + nI k = nI A := by rw [y60, hAA]
  simp only [c173, e173_0, e173_1, e173_2, e173_5, e173_6, e173_9, e173_12, e173_14, e173_15, e173_16, e173_19, e173_21, e173_24, e173_26, e173_27, e173_28, e173_31, e173_32, e173_33, e173_36, e173_37, e173_38, e173_41, e173_42, e173_43, e173_46, e173_47, e173_48, e173_51, e173_52, e173_53, e173_56, e173_57, e173_58, e173_59, e173_60, e173_63, e173_64, e173_65, e173_68, e173_69, e173_71, e173_72, e173_73, e173_74, e173_75, e173_76, e173_77, e173_80, e173_81, e173_82, e173_85, e173_88, e173_89, e173_92, e173_93, e173_94, e173_95, e173_96, e173_97, e173_98, e173_99, e173_102, e173_105, e173_106, e173_109, e173_110, e173_111, e173_112, e173_113, e173_116, e173_119, e173_120, e173_123, e173_124, e173_125, e173_126, e173_127, e173_128, e173_129, e173_132, e173_135, e173_138, e173_139, e173_142, e173_143, e173_144, e173_145, e173_146, e173_147, e173_148, e173_151, e173_152, e173_153, e173_154, e173_155, e173_156, e173_157, e173_158, e173_161, e173_164, e173_167, e173_168, e173_171, e173_172, e173_173, e173_174, e173_175, e173_176, e173_177, e173_180, e173_183, e173_186, e173_187, e173_190, e173_191, e173_193, e173_194, e173_195, e173_196, e173_197, e173_200, e173_203, e173_206, e173_207, e173_210, e173_211, e173_213, e173_214, e173_215, e173_216, e173_217, e173_218, e173_221, e173_224, e173_225, e173_228, e173_229, e173_231, e173_232, e173_233, e173_234, e173_235, e173_236, e173_239, e173_240, e173_241, e173_242, e173_243, e173_244, e173_247, e173_250, e173_251, e173_254, e173_257, e173_259, e173_262, e173_264, e173_265, e173_266, e173_267, e173_270, e173_271, e173_273, e173_275, e173_277, e173_280, e173_281, e173_284, e173_286, e173_287, e173_290, e173_291, e173_293, e173_294, e173_295, e173_298, e173_299, e173_301, e173_302, e173_303, e173_304, e173_307, e173_310, e173_311, e173_314, e173_315, e173_318, e173_320, e173_321, e173_322, e173_323, e173_326, e173_327, e173_328, e173_331, e173_332, e173_335, e173_336, e173_337, s148, ok88, ok96, ok97, ok98, rf88_9, rf88_10, rf88_11, hx, hx2, clK (show s < 1000 by omega), h5, h1, hz, n16 hn, q0, ql, hst, x0, clK (show A < 1000 by omega), show nI A + 1 = nI (A + 1) from nI_1 A, show nI A + 2 = nI (A + 2) from nI_add A 2, show nI A + 3 = nI (A + 3) from nI_add A 3, show nI A + 4 = nI (A + 4) from nI_add A 4, show nI A + 5 = nI (A + 5) from nI_add A 5, show nI A + 6 = nI (A + 6) from nI_add A 6, show nI A + 7 = nI (A + 7) from nI_add A 7, show nI A + 8 = nI (A + 8) from nI_add A 8, xx 1 (by decide), xx 2 (by decide), xx 3 (by decide), xx 4 (by decide), xx 5 (by decide), xx 6 (by decide), xx 7 (by decide), xx 8 (by decide), cc 1 (by decide), cc 2 (by decide), cc 3 (by decide), cc 4 (by decide), cc 5 (by decide), cc 6 (by decide), cc 7 (by decide), cc 8 (by decide), s172, s174, in_0_1, in_0_95, in_1_999, in_0_4, i4, i8, sAn, sAs, sAA, ups, upn, bkv_n, hlv_n, ne_eq, Nat.reduceEqDiff, Nat.reduceLT, Nat.reduceLeDiff, or_true, true_or, not_false_eq_true, sK hs, not_true_eq_false, not_false_eq_true, if_true, if_false, and_self, vh_bds, vh_ps1, vh_ps0, vb0, vb1, vbz, vbo]
  unfold bkR
  by_cases a0 : 0 ≤ mi 98 A ∧ mi 98 A ≤ 3
  · rw [if_neg (not_not_intro a0)]
    by_cases a1 : 0 ≤ mi 98 (A + 1) ∧ mi 98 (A + 1) ≤ 1
    · rw [if_neg (not_not_intro a1)]
      by_cases a2 : 0 ≤ mi 98 (A + 2) ∧ mi 98 (A + 2) ≤ 364
      · rw [if_neg (not_not_intro a2)]
        by_cases a3 : 0 ≤ mi 98 (A + 3) ∧ mi 98 (A + 3) ≤ 95
        · rw [if_neg (not_not_intro a3)]
          by_cases a4 : mi 98 (A + 3) + 1 ≤ mi 98 (A + 4) ∧ mi 98 (A + 4) ≤ 96
          · rw [if_neg (not_not_intro a4)]
            by_cases a5 : 1 ≤ mi 98 (A + 5) ∧ mi 98 (A + 5) ≤ 999
            · rw [if_neg (not_not_intro a5)]
              by_cases a6 : 0 ≤ mi 98 (A + 6) ∧ mi 98 (A + 6) ≤ 4
              · rw [if_neg (not_not_intro a6)]
                by_cases a7 : 0 ≤ mi 98 (A + 7) ∧ mi 98 (A + 7) ≤ 1
                · rw [if_neg (not_not_intro a7)]
                  by_cases a8 : 0 ≤ mi 98 (A + 8) ∧ mi 98 (A + 8) ≤ mi 98 (A + 2)
                  · rw [if_neg (not_not_intro a8)]
                    exact ⟨1, rfl, Or.inr rfl, fun _ => ⟨a0, a1, a2, a3, a4, a5, a6, a7, a8⟩, fun _ => rfl⟩
                  · rw [if_pos a8]
                    exact ⟨0, rfl, Or.inl rfl, fun z => absurd z (by decide), fun z => absurd z.2.2.2.2.2.2.2.2 a8⟩
                · rw [if_pos a7]
                  exact ⟨0, rfl, Or.inl rfl, fun z => absurd z (by decide), fun z => absurd z.2.2.2.2.2.2.2.1 a7⟩
              · rw [if_pos a6]
                exact ⟨0, rfl, Or.inl rfl, fun z => absurd z (by decide), fun z => absurd z.2.2.2.2.2.2.1 a6⟩
            · rw [if_pos a5]
              exact ⟨0, rfl, Or.inl rfl, fun z => absurd z (by decide), fun z => absurd z.2.2.2.2.2.1 a5⟩
          · rw [if_pos a4]
            exact ⟨0, rfl, Or.inl rfl, fun z => absurd z (by decide), fun z => absurd z.2.2.2.2.1 a4⟩
        · rw [if_pos a3]
          exact ⟨0, rfl, Or.inl rfl, fun z => absurd z (by decide), fun z => absurd z.2.2.2.1 a3⟩
      · rw [if_pos a2]
        exact ⟨0, rfl, Or.inl rfl, fun z => absurd z (by decide), fun z => absurd z.2.2.1 a2⟩
    · rw [if_pos a1]
      exact ⟨0, rfl, Or.inl rfl, fun z => absurd z (by decide), fun z => absurd z.2.1 a1⟩
  · rw [if_pos a0]
    exact ⟨0, rfl, Or.inl rfl, fun z => absurd z (by decide), fun z => absurd z.1 a0⟩
theorem s173d {z : Nat} (hn : n < 16) (hs : s < 8) (h5 : mi 88 24 = nI n) (h1 : 0 ≤ mi 96 s) (hz : mi 97 s = nI z) (hz2 : z ≤ 60) (hk : k + 9 ≤ z) (hg : ¬ bkG (fun f => mi 98 (s * 60 + k + f))) : vh_C 173 [.ref 88, .int (nI s), .int (nI k)] (vh_K d mi ml) = some (some (.int (-1000001)), vh_K d (vh_sA mi 88 (upd (mi 88) 0 0)) ml) := by
  obtain ⟨v, e1, e2, e3⟩ := s173g (d := d) (ml := ml) hn hs h5 h1 hz hz2 hk
  have hv : v = 0 := e2.resolve_right (fun z => hg (bkR_e.mp (e3.mp z)))
  subst hv
  rw [e1]
  simp only [e173_255, e173_257, e173_259, e173_262, e173_264, not_true_eq_false, not_false_eq_true, if_true, if_false, and_self, vh_bds, vh_ps1, vh_ps0, vb0, vb1, vbz, vbo]
theorem s173e {z : Nat} (hn : n < 16) (hs : s < 8) (h5 : mi 88 24 = nI n) (h1 : 0 ≤ mi 96 s) (hz : mi 97 s = nI z) (hz2 : z ≤ 60) (hk : k + 9 ≤ z) (hg : bkG (fun f => mi 98 (s * 60 + k + f))) : vh_C 173 [.ref 88, .int (nI s), .int (nI k)] (vh_K d mi ml) = some (some (.int (nI n)), vh_K d (vh_sA (vh_sA (vh_sA mi 100 (rowF (mi 100) (fun f => mi 98 (s * 60 + k + f)) n 9)) 101 (upd (mi 101) n (-1000000))) 88 (upd (upd (upd (mi 88) 0 0) 1 0) 24 (nI (n + 1)))) ml) := by
  obtain ⟨v, e1, e2, e3⟩ := s173g (d := d) (ml := ml) hn hs h5 h1 hz hz2 hk
  have hv : v = 1 := e3.mpr (bkR_e.mpr hg)
  subst hv
  rw [e1]
  have L := l173 (d := d) (ml := ml) (A := s * 60 + k) (l1 := some (.int (nI s))) (l2 := some (.int (nI k))) (l4 := some (.int 1)) (x0 := mi 100) hn (by omega) 9 0 (vh_sA mi 88 (upd (upd (mi 88) 0 0) 1 0)) (by omega) (by simp only [sAn, sAs, sAA, ups, upn, bkv_n, hlv_n, ne_eq, Nat.reduceEqDiff, Nat.reduceLT, Nat.reduceLeDiff, or_true, true_or, not_false_eq_true]; exact h5) (by simp only [sAn, sAs, sAA, ups, upn, bkv_n, hlv_n, ne_eq, Nat.reduceEqDiff, Nat.reduceLT, Nat.reduceLeDiff, or_true, true_or, not_false_eq_true]; rw [row_0])
  simp only [e173_255, e173_257, e173_259, e173_265, e173_266, e173_267, e173_270, e173_271, ok88, show ¬ (1 : Int32) = 0 by decide, sAn, sAs, sAA, ups, upn, bkv_n, hlv_n, ne_eq, Nat.reduceEqDiff, Nat.reduceLT, Nat.reduceLeDiff, or_true, true_or, not_false_eq_true, not_true_eq_false, not_false_eq_true, if_true, if_false, and_self, vh_bds, vh_ps1, vh_ps0, vb0, vb1, vbz, vbo]
  refine Eq.trans L ?_
  simp only [sAn, sAs, sAA, ups, upn, bkv_n, hlv_n, ne_eq, Nat.reduceEqDiff, Nat.reduceLT, Nat.reduceLeDiff, or_true, true_or, not_false_eq_true]
  congr 3
  funext c
  unfold vh_sA
  by_cases c1 : c = 88
  · subst c1; rfl
  by_cases c2 : c = 100
  · subst c2; rfl
  by_cases c3 : c = 101
  · subst c3; rfl
  simp only [c1, c2, c3, if_false]
end

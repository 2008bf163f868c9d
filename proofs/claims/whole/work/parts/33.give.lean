theorem lgL_snoc4 {n : Nat} {t h a b : Nat → Int32} {x1 x2 x3 x4 : Int32} : lgL (n + 1) (upd t n x1) (upd h n x2) (upd a n x3) (upd b n x4) = lgL n t h a b ++ [(x1, x2, x3, x4)] := by
  unfold lgL
  rw [List.range_succ, List.map_append]
  congr 1
  · apply List.map_congr_left
    intro i hi
    have hi := List.mem_range.mp hi
    rw [upn (by omega), upn (by omega), upn (by omega), upn (by omega)]
  · simp only [List.map_cons, List.map_nil, ups]
section
variable {d : Nat} {mi : Nat → Nat → Int32} {ml : Nat → Nat → Int64} {k a b dy : Int32}
def gvG (k a b dy : Int32) : Prop := (0 ≤ k ∧ k ≤ 3) ∧ (0 ≤ a ∧ a ≤ 9) ∧ (0 ≤ b ∧ b ≤ 9) ∧ ¬ a = b ∧ (0 ≤ dy ∧ dy ≤ 364)
theorem s110a (hg : ¬ gvG k a b dy) : vh_C 110 [.ref 0, .int k, .int a, .int b, .int dy] (vh_K d mi ml) = some (some (.int (-1000001)), vh_K d mi ml) := by
  simp only [c110, e110_0, e110_1, e110_4, e110_7, e110_8, e110_9, e110_11, e110_14, e110_17, e110_18, e110_19, e110_21, e110_24, e110_27, e110_28, e110_29, e110_32, e110_34, e110_37, e110_40, e110_42, e110_43, e110_44, e110_47, e110_49, e110_50, e110_51, e110_52, e110_55, s111, s14, s69, ok0, not_true_eq_false, not_false_eq_true, if_true, if_false, and_self, vh_bds, vh_ps1, vh_ps0, vb0, vb1, vbz, vbo]
  by_cases h1 : 0 ≤ k ∧ k ≤ 3
  · rw [if_neg (not_not_intro h1)]
    by_cases h2 : 0 ≤ a ∧ a ≤ 9
    · rw [if_neg (not_not_intro h2)]
      by_cases h3 : 0 ≤ b ∧ b ≤ 9
      · rw [if_neg (not_not_intro h3)]
        by_cases h4 : a = b
        · rw [if_pos h4]
        · rw [if_neg h4, if_neg (not_not_intro (fun z => hg ⟨h1, h2, h3, h4, z⟩))]
      · rw [if_pos h3]
    · rw [if_pos h2]
  · rw [if_pos h1]
theorem s110b (hg : gvG k a b dy) : vh_C 110 [.ref 0, .int k, .int a, .int b, .int dy] (vh_K d mi ml) = vh_bd (vh_C 106 [.ref 72, .int dy, .int k, .int a, .int b] (vh_K d mi ml)) (fun v w => vh_E 110 55 [some (.ref 0), some (.int k), some (.int a), some (.int b), some (.int dy)] (vh_ps v []) w) := by
  obtain ⟨h1, h2, h3, h4, h5⟩ := hg
  simp only [c110, e110_0, e110_1, e110_4, e110_7, e110_8, e110_9, e110_11, e110_14, e110_17, e110_18, e110_19, e110_21, e110_24, e110_27, e110_28, e110_29, e110_32, e110_34, e110_37, e110_40, e110_42, e110_43, e110_44, e110_47, e110_49, e110_50, e110_51, e110_52, s111, s14, s69, ok0, ok72, rf0_7, h1, h2, h3, h4, h5, not_true_eq_false, not_false_eq_true, if_true, if_false, and_self, vh_bds, vh_ps1, vh_ps0, vb0, vb1, vbz, vbo]
theorem s199a (hg : ¬ gvG k a b dy) : vh_C 199 [.ref 88, .int k, .int a, .int b, .int dy] (vh_K d mi ml) = some (some (.int (-1000001)), vh_K d (vh_sA mi 88 (upd (mi 88) 0 0)) ml) := by
  simp only [c199, e199_0, e199_1, e199_2, e199_5, e199_6, e199_7, e199_8, e199_11, e199_14, e199_17, e199_18, e199_19, e199_20, e199_23, e199_26, e199_29, e199_30, e199_31, e199_32, e199_35, e199_38, e199_41, e199_42, e199_43, e199_46, e199_48, e199_51, e199_54, e199_56, e199_57, e199_58, e199_61, e199_63, e199_66, e199_68, e199_69, e199_70, e199_73, e199_74, e199_77, e199_78, e199_79, e199_80, e199_83, e199_84, e199_87, e199_88, e199_89, e199_90, e199_93, e199_94, e199_97, e199_98, e199_99, e199_100, e199_103, e199_104, e199_107, e199_109, e199_110, e199_111, e199_112, e199_115, e199_116, e199_117, e199_120, e199_121, e199_124, in_0_3, in_0_9, s174, ok88, not_true_eq_false, not_false_eq_true, if_true, if_false, and_self, vh_bds, vh_ps1, vh_ps0, vb0, vb1, vbz, vbo]
  by_cases h1 : 0 ≤ k ∧ k ≤ 3
  · rw [if_neg (not_not_intro h1)]
    by_cases h2 : 0 ≤ a ∧ a ≤ 9
    · rw [if_neg (not_not_intro h2)]
      by_cases h3 : 0 ≤ b ∧ b ≤ 9
      · rw [if_neg (not_not_intro h3)]
        by_cases h4 : a = b
        · rw [if_pos h4]
        · rw [if_neg h4, if_neg (not_not_intro (fun z => hg ⟨h1, h2, h3, h4, z⟩))]
      · rw [if_pos h3]
    · rw [if_pos h2]
  · rw [if_pos h1]
theorem s199b {n : Nat} (hg : gvG k a b dy) (hn : mi 88 37 = nI n) (h40 : n < 40) : vh_C 199 [.ref 88, .int k, .int a, .int b, .int dy] (vh_K d mi ml) = some (some (.int (nI (n + 1))), vh_K d (vh_sA (vh_sA (vh_sA (vh_sA (vh_sA mi 109 (upd (mi 109) n k)) 110 (upd (mi 110) n a)) 111 (upd (mi 111) n b)) 112 (upd (mi 112) n dy)) 88 (upd (upd (mi 88) 0 0) 37 (nI (n + 1)))) ml) := by
  obtain ⟨h1, h2, h3, h4, h5⟩ := hg
  have x1 : vh_ixa 109 (nI n) = true := ixa (by rw [kd109]; omega) (by omega)
  have x2 : vh_ixa 110 (nI n) = true := ixa (by rw [kd110]; omega) (by omega)
  have x3 : vh_ixa 111 (nI n) = true := ixa (by rw [kd111]; omega) (by omega)
  have x4 : vh_ixa 112 (nI n) = true := ixa (by rw [kd112]; omega) (by omega)
  have hc : (nI n).toNatClampNeg = n := nI_clamp (by omega)
  have hne : ¬ nI n = 40 := fun z => by have := (nI_eq (a := n) (b := 40) (by omega) (by decide)).mp z; omega
  simp only [c199, e199_0, e199_1, e199_2, e199_5, e199_6, e199_7, e199_8, e199_11, e199_14, e199_17, e199_18, e199_19, e199_20, e199_23, e199_26, e199_29, e199_30, e199_31, e199_32, e199_35, e199_38, e199_41, e199_42, e199_43, e199_46, e199_48, e199_51, e199_54, e199_56, e199_57, e199_58, e199_61, e199_63, e199_66, e199_68, e199_69, e199_70, e199_73, e199_74, e199_77, e199_78, e199_79, e199_80, e199_83, e199_84, e199_87, e199_88, e199_89, e199_90, e199_93, e199_94, e199_97, e199_98, e199_99, e199_100, e199_103, e199_104, e199_107, e199_109, e199_110, e199_111, e199_112, e199_115, e199_116, e199_117, e199_120, e199_121, e199_124, in_0_3, in_0_9, s174, ok88, ok109, ok110, ok111, ok112, rf88_38, rf88_39, rf88_40, rf88_41, x1, x2, x3, x4, hc, hn, hne, h1, h2, h3, h4, h5, not_true_eq_false, not_false_eq_true, if_true, if_false, and_self, vh_bds, vh_ps1, vh_ps0, vb0, vb1, vbz, vbo, sAn, sAs, sAA, ups, upn, bkv_n, hlv_n, ne_eq, Nat.reduceEqDiff, Nat.reduceLT, Nat.reduceLeDiff, or_true, true_or, not_false_eq_true, nI_1]
  congr 3
  funext c
  unfold vh_sA
  by_cases c1 : c = 88
  · subst c1; rfl
  by_cases c2 : c = 109
  · subst c2; rfl
  by_cases c3 : c = 110
  · subst c3; rfl
  by_cases c4 : c = 111
  · subst c4; rfl
  by_cases c5 : c = 112
  · subst c5; rfl
  simp only [c1, c2, c3, c4, c5, if_false]
theorem s199c (hg : gvG k a b dy) (hn : mi 88 37 = nI 40) : vh_C 199 [.ref 88, .int k, .int a, .int b, .int dy] (vh_K d mi ml) = some (some (.int (-1000003)), vh_K d (vh_sA mi 88 (upd (mi 88) 0 0)) ml) := by
  obtain ⟨h1, h2, h3, h4, h5⟩ := hg
  simp only [c199, e199_0, e199_1, e199_2, e199_5, e199_6, e199_7, e199_8, e199_11, e199_14, e199_17, e199_18, e199_19, e199_20, e199_23, e199_26, e199_29, e199_30, e199_31, e199_32, e199_35, e199_38, e199_41, e199_42, e199_43, e199_46, e199_48, e199_51, e199_54, e199_56, e199_57, e199_58, e199_61, e199_63, e199_66, e199_68, e199_69, e199_70, e199_73, e199_74, e199_77, e199_78, e199_79, e199_80, e199_83, e199_84, e199_87, e199_88, e199_89, e199_90, e199_93, e199_94, e199_97, e199_98, e199_99, e199_100, e199_103, e199_104, e199_107, e199_109, e199_110, e199_111, e199_112, e199_115, e199_116, e199_117, e199_120, e199_121, e199_124, in_0_3, in_0_9, s174, ok88, hn, show ¬ ¬ nI 40 = (40 : Int32) from by decide, h1, h2, h3, h4, h5, not_true_eq_false, not_false_eq_true, if_true, if_false, and_self, vh_bds, vh_ps1, vh_ps0, vb0, vb1, vbz, vbo, sAn, sAs, sAA, ups, upn, bkv_n, hlv_n, ne_eq, Nat.reduceEqDiff, Nat.reduceLT, Nat.reduceLeDiff, or_true, true_or, not_false_eq_true]
theorem sim_give (hR : Rel d mi) : Sim 110 199 [.int k, .int a, .int b, .int dy] d mi ml := by
  by_cases hg : gvG k a b dy
  · have hL := hR.2.2.2.2.2.2.2.2.2.1
    obtain ⟨e, n, hn, hc, l, hl, ht, hs, hok⟩ := hL
    have h88 : mi 88 37 = nI n := e.symm.trans hc
    by_cases hf : n = 40
    · subst hf
      have A : vh_C 110 [.ref 0, .int k, .int a, .int b, .int dy] (vh_K d mi ml) = some (some (.int (-1000003)), vh_K d mi ml) := by
        rw [s110b hg, f106_72 hc]
        simp only [e110_0, e110_1, e110_4, e110_7, e110_8, e110_9, e110_11, e110_14, e110_17, e110_18, e110_19, e110_21, e110_24, e110_27, e110_28, e110_29, e110_32, e110_34, e110_37, e110_40, e110_42, e110_43, e110_44, e110_47, e110_49, e110_50, e110_51, e110_52, e110_55, not_true_eq_false, not_false_eq_true, if_true, if_false, and_self, vh_bds, vh_ps1, vh_ps0, vb0, vb1, vbz, vbo]
      exact Sim.mk A (s199c hg h88) rfl hR.thrown
    · have h40 : n < 40 := by omega
      have A := s110b (d := d) (mi := mi) (ml := ml) hg
      rw [s106_72 h40 hc] at A
      simp only [e110_0, e110_1, e110_4, e110_7, e110_8, e110_9, e110_11, e110_14, e110_17, e110_18, e110_19, e110_21, e110_24, e110_27, e110_28, e110_29, e110_32, e110_34, e110_37, e110_40, e110_42, e110_43, e110_44, e110_47, e110_49, e110_50, e110_51, e110_52, e110_55, not_true_eq_false, not_false_eq_true, if_true, if_false, and_self, vh_bds, vh_ps1, vh_ps0, vb0, vb1, vbz, vbo] at A
      refine Sim.mk A (s199b (n := n) hg ?_ h40) rfl ?_
      · simp only [sAn, sAs, sAA, ups, upn, bkv_n, hlv_n, ne_eq, Nat.reduceEqDiff, Nat.reduceLT, Nat.reduceLeDiff, or_true, true_or, not_false_eq_true]; exact h88
      · unfold Rel at hR ⊢
        simp only [sAn, sAs, sAA, ups, upn, bkv_n, hlv_n, ne_eq, Nat.reduceEqDiff, Nat.reduceLT, Nat.reduceLeDiff, or_true, true_or, not_false_eq_true]
        have hsrt := lgL_sorted (by rw [hs]; exact lgSort_S l)
        obtain ⟨h1, h2, h3, h4, h5⟩ := hg
        obtain ⟨kk, hkk, rfl⟩ := nIr h1.1 (show k ≤ nI 3 from h1.2) (by decide)
        obtain ⟨ka, hka, rfl⟩ := nIr h2.1 (show a ≤ nI 9 from h2.2) (by decide)
        obtain ⟨kb, hkb, rfl⟩ := nIr h3.1 (show b ≤ nI 9 from h3.2) (by decide)
        obtain ⟨kd, hkd, rfl⟩ := nIr h5.1 (show dy ≤ nI 364 from h5.2) (by decide)
        refine ⟨hR.1, hR.2.1, hR.2.2.1, hR.2.2.2.1, hR.2.2.2.2.1, hR.2.2.2.2.2.1, hR.2.2.2.2.2.2.1, hR.2.2.2.2.2.2.2.1, hR.2.2.2.2.2.2.2.2.1, ?_, hR.2.2.2.2.2.2.2.2.2.2⟩
        refine ⟨rfl, n + 1, h40, rfl, l ++ [(nI kd, nI kk, nI ka, nI kb)], by rw [List.length_append, hl]; rfl, ?_, ?_, ?_⟩
        · show _ = lgL _ _ _ _ _
          rw [List.length_append, hl]
          show _ = lgL (n + 1) _ _ _ _
          rw [lgL_snoc4]
          congr 1
          rw [hl] at ht
          exact ht
        · rw [lgL_ins hsrt, lgSort_snoc, hs]
        · intro x hx
          rcases List.mem_append.mp hx with z | z
          · exact hok x z
          · rw [List.mem_singleton.mp z]
            exact ⟨⟨kd, by omega, hkd, rfl⟩, ⟨kk, by omega, hkk, rfl⟩, ⟨ka, by omega, hka, rfl⟩, ⟨kb, by omega, hkb, rfl⟩⟩
  · exact Sim.mk (s110a hg) (s199a hg) rfl hR.thrown
end

section
variable {d : Nat} {mi : Nat → Nat → Int32} {ml : Nat → Nat → Int64}
theorem l200 {k x : Int32} {n e : Nat} (he : e ≤ 364) (hn : n ≤ 40) (h4 : mi 88 37 = nI n) : ∀ (j D : Nat) (c : Int32 × Int32) (l7 l8 : Option Value), D + j = e + 1 → vh_E 200 47 [some (.ref 88), some (.int k), some (.int (nI e)), some (.int x), some (.int c.1), some (.int c.2), some (.int (nI D)), l7, l8] [] (vh_K d mi ml) = some (some (.int (if x = 0 then (fdn k (lgL n (mi 112) (mi 109) (mi 110) (mi 111)) j D c).1 else (fdn k (lgL n (mi 112) (mi 109) (mi 110) (mi 111)) j D c).2)), vh_K d mi ml) := by
  intro j
  induction j with
  | zero =>
    intro D c l7 l8 hD
    simp only [e200_47, e200_49, e200_50, e200_160, e200_161, e200_164, e200_166, e200_169, e200_171, nI_lt (show e < D by omega) (show D < 2 ^ 31 by omega), if_true]
    by_cases q : x = 0
    · rw [if_neg (not_not_intro q), if_pos q]; rfl
    · rw [if_pos q, if_neg q]; rfl
  | succ j ih =>
    intro D c l7 l8 hD
    obtain ⟨l8', h1⟩ := l200i (d := d) (ml := ml) (k := k) (dy := nI e) (x := x) (DD := nI D) hn h4 n 0 c l8 (by omega)
    rw [List.drop_zero] at h1
    simp only [e200_47, e200_49, e200_50, e200_53, e200_54, nI_nlt (show D ≤ e by omega) (show e < 2 ^ 31 by omega), if_false]
    rw [show (0 : Int32) = nI 0 from rfl, h1]
    simp only [e200_154, e200_157, nI_1]
    exact ih (D + 1) _ _ _ (by omega)
def kyG (k dy x : Int32) : Prop := (0 ≤ k ∧ k ≤ 3) ∧ (0 ≤ dy ∧ dy ≤ 364) ∧ (0 ≤ x ∧ x ≤ 1)
theorem s112a {k dy x : Int32} (hg : ¬ kyG k dy x) : vh_C 112 [.ref 0, .int k, .int dy, .int x] (vh_K d mi ml) = some (some (.int (-1000001)), vh_K d mi ml) := by
  simp only [c112, e112_0, e112_1, e112_4, e112_7, e112_8, e112_11, e112_14, e112_15, e112_16, e112_17, e112_20, e112_23, e112_25, e112_28, e112_30, e112_31, e112_33, e112_34, e112_36, e112_38, e112_39, e112_42, e112_45, e112_48, e112_49, e112_52, e112_55, e112_57, e112_58, e112_59, e112_62, e112_63, e112_66, e112_69, e112_71, e112_72, e112_73, e112_76, e112_79, e112_81, e112_83, e112_86, e112_88, e112_89, e112_92, e112_95, e112_97, e112_98, e112_101, e112_102, e112_105, e112_108, e112_110, e112_111, e112_113, e112_116, e112_119, e112_122, e112_125, e112_126, e112_129, e112_131, e112_134, e112_136, s111, s69, s14, not_true_eq_false, not_false_eq_true, if_true, if_false, and_self, vh_bds, vh_ps1, vh_ps0, vb0, vb1, vbz, vbo, Classical.not_not]
  by_cases h1 : 0 ≤ k ∧ k ≤ 3
  · rw [if_neg (not_not_intro h1)]
    by_cases h2 : 0 ≤ dy ∧ dy ≤ 364
    · rw [if_neg (not_not_intro h2), if_neg (fun z => hg ⟨h1, h2, z⟩)]
    · rw [if_pos h2]
  · rw [if_pos h1]
theorem s200a {k dy x : Int32} (hg : ¬ kyG k dy x) : vh_C 200 [.ref 88, .int k, .int dy, .int x] (vh_K d mi ml) = some (some (.int (-1000001)), vh_K d (vh_sA mi 88 (upd (mi 88) 0 0)) ml) := by
  simp only [c200, e200_0, e200_1, e200_2, e200_5, e200_6, e200_7, e200_8, e200_11, e200_14, e200_17, e200_18, e200_21, e200_24, e200_25, e200_26, e200_27, e200_28, e200_31, e200_34, e200_36, e200_39, e200_41, e200_42, e200_44, e200_45, e200_47, e200_49, e200_50, e200_53, e200_54, e200_56, e200_58, e200_59, e200_62, e200_65, e200_66, e200_69, e200_71, e200_72, e200_73, e200_76, e200_77, e200_80, e200_82, e200_83, e200_85, e200_88, e200_90, e200_92, e200_95, e200_96, e200_99, e200_101, e200_102, e200_104, e200_107, e200_108, e200_111, e200_112, e200_114, e200_116, e200_119, e200_120, e200_123, e200_125, e200_126, e200_129, e200_131, e200_133, e200_135, e200_137, e200_140, e200_141, e200_144, e200_145, e200_146, e200_148, e200_151, e200_154, e200_157, e200_160, e200_161, e200_164, e200_166, e200_169, e200_171, in_0_3, in_0_1, s174, ok88, not_true_eq_false, not_false_eq_true, if_true, if_false, and_self, vh_bds, vh_ps1, vh_ps0, vb0, vb1, vbz, vbo, Classical.not_not]
  by_cases h1 : 0 ≤ k ∧ k ≤ 3
  · rw [if_neg (not_not_intro h1)]
    by_cases h2 : 0 ≤ dy ∧ dy ≤ 364
    · rw [if_neg (not_not_intro h2), if_neg (fun z => hg ⟨h1, h2, z⟩)]
    · rw [if_pos h2]
  · rw [if_pos h1]
theorem sim_key {k dy x : Int32} (hR : Rel d mi) : Sim 112 200 [.int k, .int dy, .int x] d mi ml := by
  by_cases hg : kyG k dy x
  · obtain ⟨h1, h2, h3⟩ := hg
    obtain ⟨e, he, rfl⟩ := nIr h2.1 (show dy ≤ nI 364 from h2.2) (by decide)
    obtain ⟨e4, n, hn, hc, l, hl, ht, hs, hok⟩ := hR.2.2.2.2.2.2.2.2.2.1
    have h88 : mi 88 37 = nI n := e4.symm.trans hc
    have A := l112 (d := d) (ml := ml) (k := k) (dy := nI e) (x := x) hn hc n 0 (-1000000, 0) (by omega)
    have Bq := l200 (d := d) (mi := vh_sA mi 88 (upd (mi 88) 0 0)) (ml := ml) (k := k) (x := x) he hn (by simp only [sAn, sAs, sAA, ups, upn, bkv_n, hlv_n, ne_eq, Nat.reduceEqDiff, Nat.reduceLT, Nat.reduceLeDiff, or_true, true_or, not_false_eq_true]; exact h88) (e + 1) 0 (-1000000, 0) none none (by omega)
    simp only [sAn, sAs, sAA, ups, upn, bkv_n, hlv_n, ne_eq, Nat.reduceEqDiff, Nat.reduceLT, Nat.reduceLeDiff, or_true, true_or, not_false_eq_true] at Bq
    rw [List.drop_zero, hs, key_eq (fun y hy => by obtain ⟨⟨T, -, q1, q2⟩, -⟩ := hok y hy; exact ⟨T, q1, q2⟩) e he] at A
    rw [← hl, ← ht] at Bq
    have A2 : vh_C 112 [.ref 0, .int k, .int (nI e), .int x] (vh_K d mi ml) = some (some (.int (if x = 0 then (fdn k l (e + 1) 0 (-1000000, 0)).1 else (fdn k l (e + 1) 0 (-1000000, 0)).2)), vh_K d mi ml) := by
      simp only [c112, e112_0, e112_1, e112_4, e112_7, e112_8, e112_11, e112_14, e112_15, e112_16, e112_17, e112_20, e112_23, e112_25, e112_26, e112_28, e112_30, e112_31, e112_33, e112_34, e112_38, e112_39, e112_42, e112_45, e112_48, e112_49, e112_52, e112_55, e112_57, e112_58, e112_59, e112_62, e112_63, e112_66, e112_69, e112_71, e112_72, e112_73, e112_76, e112_79, e112_81, e112_83, e112_86, e112_88, e112_89, e112_92, e112_95, e112_97, e112_98, e112_101, e112_102, e112_105, e112_108, e112_110, e112_111, e112_113, e112_116, e112_119, e112_122, e112_125, e112_126, e112_129, e112_131, e112_134, e112_136, s111, s69, s14, h1, h2, h3, not_true_eq_false, not_false_eq_true, if_true, if_false, and_self, vh_bds, vh_ps1, vh_ps0, vb0, vb1, vbz, vbo]
      exact A
    have B2 : vh_C 200 [.ref 88, .int k, .int (nI e), .int x] (vh_K d mi ml) = some (some (.int (if x = 0 then (fdn k l (e + 1) 0 (-1000000, 0)).1 else (fdn k l (e + 1) 0 (-1000000, 0)).2)), vh_K d (vh_sA mi 88 (upd (mi 88) 0 0)) ml) := by
      simp only [c200, e200_0, e200_1, e200_2, e200_5, e200_6, e200_7, e200_8, e200_11, e200_14, e200_17, e200_18, e200_21, e200_24, e200_25, e200_26, e200_27, e200_28, e200_31, e200_34, e200_36, e200_37, e200_39, e200_41, e200_42, e200_44, e200_45, e200_49, e200_50, e200_53, e200_54, e200_56, e200_58, e200_59, e200_62, e200_65, e200_66, e200_69, e200_71, e200_72, e200_73, e200_76, e200_77, e200_80, e200_82, e200_83, e200_85, e200_88, e200_90, e200_92, e200_95, e200_96, e200_99, e200_101, e200_102, e200_104, e200_107, e200_108, e200_111, e200_112, e200_114, e200_116, e200_119, e200_120, e200_123, e200_125, e200_126, e200_129, e200_131, e200_133, e200_135, e200_137, e200_140, e200_141, e200_144, e200_145, e200_146, e200_148, e200_151, e200_154, e200_157, e200_160, e200_161, e200_164, e200_166, e200_169, e200_171, in_0_3, in_0_1, s174, ok88, h1, h2, h3, not_true_eq_false, not_false_eq_true, if_true, if_false, and_self, vh_bds, vh_ps1, vh_ps0, vb0, vb1, vbz, vbo]
      exact Bq
    exact Sim.mk A2 B2 rfl hR.thrown
  · exact Sim.mk (s112a hg) (s200a hg) rfl hR.thrown
end

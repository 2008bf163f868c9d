section
variable {d : Nat} {mi : Nat → Nat → Int32} {ml : Nat → Nat → Int64} {n m : Nat}
def mtO (mi : Nat → Nat → Int32) (n k : Nat) : Option Nat := if k < n ∧ ¬ mi 120 k = -1000000 then some (mi 120 k).toNatClampNeg else none
theorem mtG0 {x : Int32} (hn : n ≤ 10) (hsz : mi 82 3 = nI n) (hx : ¬ ∃ k, k < n ∧ x = nI k) {w : Int32} : vh_C 121 [.ref 0, .int x, .int w] (vh_K d mi ml) = some (some (.int (-1000001)), vh_K d mi ml) := by
  have : ¬ (0 ≤ x ∧ x < nI n) := fun z => hx ((hasN (by omega)).mp z)
  simp only [c121, e121_0, e121_1, e121_4, e121_5, e121_8, e121_11, e121_13, e121_15, e121_40, e121_41, e121_44, e121_47, e121_48, e121_49, e121_52, e121_53, e121_56, e121_57, e121_58, e121_59, e121_62, e121_65, e121_66, e121_67, e121_70, e121_71, e121_74, e121_75, e121_76, e121_77, e121_80, e121_81, e121_84, e121_85, e121_87, s118, hsz, this, ok0, ok82, rf0_9, not_true_eq_false, not_false_eq_true, if_true, if_false, and_self, vh_bds, vh_ps1, vh_ps0, vb0, vb1, vbz, vbo]
theorem mtR0 {x w : Int32} (hn : n ≤ 10) (hsz : mi 88 46 = nI n) (hx : ¬ ((∃ k, k < n ∧ x = nI k) ∧ (0 ≤ w ∧ w ≤ 2))) : vh_C 204 [.ref 88, .int x, .int w] (vh_K d mi ml) = some (some (.int (-1000001)), vh_K d (vh_sA mi 88 (upd (mi 88) 0 0)) ml) := by
  have hin : vh_C 149 [.long x.toInt64, .long 0, .long (nI n - 1).toInt64] (vh_K d (vh_sA mi 88 (upd (mi 88) 0 0)) ml) = some (some (.int (vb (0 ≤ x ∧ x ≤ nI n - 1))), vh_K d (vh_sA mi 88 (upd (mi 88) 0 0)) ml) := inI (show (0 : Int64) = (0 : Int32).toInt64 from by decide) rfl
  simp only [c204, e204_0, e204_1, e204_2, e204_5, e204_6, e204_7, e204_8, e204_9, e204_12, e204_13, e204_14, e204_15, e204_18, e204_21, e204_22, e204_23, e204_24, e204_27, e204_30, e204_33, e204_35, e204_37, e204_38, e204_41, e204_42, e204_43, e204_46, e204_49, e204_50, e204_53, e204_54, e204_57, e204_58, e204_59, e204_60, e204_63, e204_64, e204_65, e204_68, e204_69, e204_72, e204_73, e204_74, e204_75, e204_76, e204_77, e204_78, e204_79, e204_81, e204_83, e204_84, e204_87, e204_90, e204_91, e204_94, e204_96, e204_97, e204_99, e204_101, e204_103, e204_106, e204_108, e204_109, e204_112, e204_113, e204_116, e204_118, e204_119, e204_121, e204_124, e204_125, e204_127, e204_128, e204_131, e204_132, e204_135, e204_136, e204_137, e204_138, e204_141, e204_144, e204_145, in_0_2, hin, ok88, hsz, sAn, sAs, sAA, ups, upn, bkv_n, hlv_n, ne_eq, Nat.reduceEqDiff, Nat.reduceLT, Nat.reduceLeDiff, or_true, true_or, not_false_eq_true, not_true_eq_false, not_false_eq_true, if_true, if_false, and_self, vh_bds, vh_ps1, vh_ps0, vb0, vb1, vbz, vbo, Classical.not_not]
  by_cases h1 : 0 ≤ x ∧ x ≤ nI n - 1
  · rw [if_neg (not_not_intro h1), if_neg (fun z => hx ⟨(inN (by omega)).mp h1, z⟩)]
  · rw [if_pos h1]
theorem sim_met {x w : Int32} (hR : Rel d mi) : Sim 121 204 [.int x, .int w] d mi ml := by
  obtain ⟨e, n, hn, hc, hk⟩ := hR.2.2.2.2.2.2.2.2.2.2.2.1
  have h88 : mi 88 46 = nI n := e.symm.trans hc
  have h88' : (vh_sA mi 88 (upd (mi 88) 0 0)) 88 46 = nI n := by simp only [sAn, sAs, sAA, ups, upn, bkv_n, hlv_n, ne_eq, Nat.reduceEqDiff, Nat.reduceLT, Nat.reduceLeDiff, or_true, true_or, not_false_eq_true]; exact h88
  have H : MtK (vh_sA mi 88 (upd (mi 88) 0 0)) n (mi 83) (mi 84) := by
    intro k hkn
    simp only [sAn, sAs, sAA, ups, upn, bkv_n, hlv_n, ne_eq, Nat.reduceEqDiff, Nat.reduceLT, Nat.reduceLeDiff, or_true, true_or, not_false_eq_true]
    obtain ⟨a1, a2, a3, a4, a5, a6, a7, a8, a9⟩ := hk k hkn
    exact ⟨a5, a8, a9⟩
  have ho : ∀ x g, mtO mi n x = some g → g < x := by
    intro x g hg
    unfold mtO at hg
    by_cases q : x < n ∧ ¬ mi 120 x = -1000000
    · rw [if_pos q] at hg
      obtain ⟨a1, a2, a3, a4, a5, a6, a7, a8, a9⟩ := hk x q.1
      rcases a5 with z | ⟨g', hg', z⟩
      · exact absurd z q.2
      · rw [z, nI_clamp (by omega)] at hg
        rw [← Option.some.inj hg]; exact hg'
    · rw [if_neg q] at hg; cases hg
  have h120 : ∀ k, k < n → mi 120 k = bvI (mtO mi n k) := by
    intro k hkn
    obtain ⟨a1, a2, a3, a4, a5, a6, a7, a8, a9⟩ := hk k hkn
    unfold mtO
    rcases a5 with z | ⟨g', hg', z⟩
    · rw [if_neg (fun w => w.2 z), z]; rfl
    · rw [if_pos ⟨hkn, by rw [z]; exact nmN (by omega)⟩, z, nI_clamp (by omega)]; rfl
  have h85 : ∀ k, k < n → mi 85 k = bvI (mtO mi n k) := fun k hkn => (hk k hkn).1.trans (h120 k hkn)
  have hin : ∀ x : Int32, vh_C 149 [.long x.toInt64, .long 0, .long (nI n - 1).toInt64] (vh_K d (vh_sA mi 88 (upd (mi 88) 0 0)) ml) = some (some (.int (vb (0 ≤ x ∧ x ≤ nI n - 1))), vh_K d (vh_sA mi 88 (upd (mi 88) 0 0)) ml) := fun x => inI (show (0 : Int64) = (0 : Int32).toInt64 from by decide) rfl
  by_cases hx : ∃ k, k < n ∧ x = nI k
  · obtain ⟨m, hm, rfl⟩ := hx
    have hg : 0 ≤ nI m ∧ nI m < nI n := (hasN (by omega)).mpr ⟨m, hm, rfl⟩
    have hg2 : 0 ≤ nI m ∧ nI m ≤ nI n - 1 := (inN (by omega)).mpr ⟨m, hm, rfl⟩
    have x1 : vh_ixa 83 (nI m) = true := ixa (by rw [kd83]; omega) (by omega)
    have x2 : vh_ixa 84 (nI m) = true := ixa (by rw [kd84]; omega) (by omega)
    have y1 : vh_ixa 117 (nI m) = true := ixa (by rw [kd117]; omega) (by omega)
    have y2 : vh_ixa 118 (nI m) = true := ixa (by rw [kd118]; omega) (by omega)
    obtain ⟨a1, a2, a3, a4, a5, a6, a7, a8, a9⟩ := hk m hm
    have nl2 : mi 117 m ≤ mi 118 m ↔ ¬ mi 118 m < mi 117 m := Int32.not_lt.symm
    by_cases w0 : w = 0
    · subst w0
      have A : vh_C 121 [.ref 0, .int (nI m), .int 0] (vh_K d mi ml) = some (some (.int (vb (mi 83 m = 1))), vh_K d mi ml) := by
        simp only [c121, e121_0, e121_1, e121_4, e121_5, e121_8, e121_11, e121_13, e121_14, e121_15, e121_40, e121_41, e121_44, e121_47, e121_48, e121_49, e121_52, e121_53, e121_56, e121_57, e121_58, e121_59, e121_62, e121_65, e121_66, e121_67, e121_70, e121_71, e121_74, e121_75, e121_76, e121_77, e121_80, e121_81, e121_84, e121_85, e121_87, s118, hc, hg, ok0, ok82, ok83, rf0_9, rf82_0, x1, clK (show m < 1000 by omega), not_true_eq_false, not_false_eq_true, if_true, if_false, and_self, vh_bds, vh_ps1, vh_ps0, vb0, vb1, vbz, vbo]
        rcases a6 with z | z
        · rw [if_pos z, vb_f (by rw [z]; decide)]
        · rw [if_neg (by rw [z]; decide), vb_t z]
      have Bq : vh_C 204 [.ref 88, .int (nI m), .int 0] (vh_K d mi ml) = some (some (.int (vb (mi 83 m = 1))), vh_K d (vh_sA mi 88 (upd (mi 88) 0 0)) ml) := by
        simp only [c204, e204_0, e204_1, e204_2, e204_5, e204_6, e204_7, e204_8, e204_9, e204_12, e204_13, e204_14, e204_15, e204_18, e204_21, e204_22, e204_23, e204_24, e204_27, e204_30, e204_33, e204_35, e204_36, e204_37, e204_38, e204_41, e204_42, e204_43, e204_46, e204_49, e204_50, e204_53, e204_54, e204_57, e204_58, e204_59, e204_60, e204_63, e204_64, e204_65, e204_68, e204_69, e204_72, e204_73, e204_74, e204_75, e204_76, e204_77, e204_78, e204_79, e204_83, e204_84, e204_87, e204_90, e204_91, e204_94, e204_96, e204_97, e204_101, e204_103, e204_106, e204_108, e204_109, e204_112, e204_113, e204_116, e204_118, e204_119, e204_121, e204_124, e204_125, e204_127, e204_128, e204_131, e204_132, e204_135, e204_136, e204_137, e204_138, e204_141, e204_144, e204_145, in_0_2, hin, h88', h88, hg2, s205 hn hm H, ok88, show ¬ (2 : Int32) ≤ 0 by decide, show (0 : Int32) ≤ 0 ∧ (0 : Int32) ≤ 2 by decide, sAn, sAs, sAA, ups, upn, bkv_n, hlv_n, ne_eq, Nat.reduceEqDiff, Nat.reduceLT, Nat.reduceLeDiff, or_true, true_or, not_false_eq_true, not_true_eq_false, not_false_eq_true, if_true, if_false, and_self, vh_bds, vh_ps1, vh_ps0, vb0, vb1, vbz, vbo]
        by_cases z : mi 83 m = 1
        · rw [if_neg (not_not_intro z), vb_t z]
        · rw [if_pos z, vb_f z]
      exact Sim.mk A Bq rfl hR.thrown
    · by_cases w1 : w = 1
      · subst w1
        have A : vh_C 121 [.ref 0, .int (nI m), .int 1] (vh_K d mi ml) = some (some (.int (vb (mi 84 m = 1))), vh_K d mi ml) := by
          simp only [c121, e121_0, e121_1, e121_4, e121_5, e121_8, e121_11, e121_13, e121_14, e121_15, e121_40, e121_41, e121_44, e121_47, e121_48, e121_49, e121_52, e121_53, e121_56, e121_57, e121_58, e121_59, e121_62, e121_65, e121_66, e121_67, e121_70, e121_71, e121_74, e121_75, e121_76, e121_77, e121_80, e121_81, e121_84, e121_85, e121_87, s118, hc, hg, ok0, ok82, ok84, rf0_9, rf82_1, x2, clK (show m < 1000 by omega), w0, not_true_eq_false, not_false_eq_true, if_true, if_false, and_self, vh_bds, vh_ps1, vh_ps0, vb0, vb1, vbz, vbo]
          rcases a7 with z | z
          · rw [if_pos z, vb_f (by rw [z]; decide)]
          · rw [if_neg (by rw [z]; decide), vb_t z]
        have Bq : vh_C 204 [.ref 88, .int (nI m), .int 1] (vh_K d mi ml) = some (some (.int (vb (mi 84 m = 1))), vh_K d (vh_sA mi 88 (upd (mi 88) 0 0)) ml) := by
          simp only [c204, e204_0, e204_1, e204_2, e204_5, e204_6, e204_7, e204_8, e204_9, e204_12, e204_13, e204_14, e204_15, e204_18, e204_21, e204_22, e204_23, e204_24, e204_27, e204_30, e204_33, e204_35, e204_36, e204_37, e204_38, e204_41, e204_42, e204_43, e204_46, e204_49, e204_50, e204_53, e204_54, e204_57, e204_58, e204_59, e204_60, e204_63, e204_64, e204_65, e204_68, e204_69, e204_72, e204_73, e204_74, e204_75, e204_76, e204_77, e204_78, e204_79, e204_83, e204_84, e204_87, e204_90, e204_91, e204_94, e204_96, e204_97, e204_101, e204_103, e204_106, e204_108, e204_109, e204_112, e204_113, e204_116, e204_118, e204_119, e204_121, e204_124, e204_125, e204_127, e204_128, e204_131, e204_132, e204_135, e204_136, e204_137, e204_138, e204_141, e204_144, e204_145, in_0_2, hin, h88', h88, hg2, s205 hn hm H, ok88, ok117, ok118, rf88_48, rf88_49, y1, y2, clK (show m < 1000 by omega), show ¬ (2 : Int32) ≤ 1 by decide, show (0 : Int32) ≤ 1 ∧ (1 : Int32) ≤ 2 by decide, show ¬ (1 : Int32) = 0 by decide, nl2, sAn, sAs, sAA, ups, upn, bkv_n, hlv_n, ne_eq, Nat.reduceEqDiff, Nat.reduceLT, Nat.reduceLeDiff, or_true, true_or, not_false_eq_true, not_true_eq_false, not_false_eq_true, if_true, if_false, and_self, vh_bds, vh_ps1, vh_ps0, vb0, vb1, vbz, vbo]
          by_cases z : mi 83 m = 1
          · rw [if_neg (not_not_intro z)]
            by_cases z2 : mi 118 m < mi 117 m
            · rw [if_neg (not_not_intro z2), vb_t (a9.mpr ⟨z, z2⟩)]
            · rw [if_pos z2, vb_f (fun y => z2 (a9.mp y).2)]
          · rw [if_pos z, vb_f (fun y => z (a9.mp y).1)]
        exact Sim.mk A Bq rfl hR.thrown
      · by_cases w2 : w = 2
        · subst w2
          have A : vh_C 121 [.ref 0, .int (nI m), .int 2] (vh_K d mi ml) = some (some (.int (nI (pc (bhM (mtO mi n) m n) n) - 1)), vh_K d mi ml) := by
            simp only [c121, e121_0, e121_1, e121_4, e121_5, e121_8, e121_11, e121_13, e121_14, e121_15, e121_40, e121_41, e121_44, e121_47, e121_48, e121_49, e121_52, e121_53, e121_56, e121_57, e121_58, e121_59, e121_62, e121_65, e121_66, e121_67, e121_70, e121_71, e121_74, e121_75, e121_76, e121_77, e121_80, e121_81, e121_84, e121_85, e121_87, s118, hc, hg, ok0, ok82, rf0_9, s122 hn hm hc ho h85, w0, w1, not_true_eq_false, not_false_eq_true, if_true, if_false, and_self, vh_bds, vh_ps1, vh_ps0, vb0, vb1, vbz, vbo]
          have L := l204 (d := d) (mi := vh_sA mi 88 (upd (mi 88) 0 0)) (ml := ml) (m := m) (x2 := some (.int 2)) (o := mtO mi n) hn h88' ho (fun k hkn => by simp only [sAn, sAs, sAA, ups, upn, bkv_n, hlv_n, ne_eq, Nat.reduceEqDiff, Nat.reduceLT, Nat.reduceLeDiff, or_true, true_or, not_false_eq_true]; exact h120 k hkn) (n - (m + 1)) (m + 1) 0 none (by omega) (by omega) bh_p0.symm
          have Bq : vh_C 204 [.ref 88, .int (nI m), .int 2] (vh_K d mi ml) = some (some (.int (nI (pc (bhM (mtO mi n) m n) n) - 1)), vh_K d (vh_sA mi 88 (upd (mi 88) 0 0)) ml) := by
            simp only [c204, e204_0, e204_1, e204_2, e204_5, e204_6, e204_7, e204_8, e204_9, e204_12, e204_13, e204_14, e204_15, e204_18, e204_21, e204_22, e204_23, e204_24, e204_27, e204_30, e204_33, e204_35, e204_36, e204_37, e204_38, e204_41, e204_42, e204_43, e204_46, e204_49, e204_50, e204_53, e204_54, e204_57, e204_58, e204_59, e204_60, e204_63, e204_64, e204_65, e204_68, e204_69, e204_72, e204_73, e204_74, e204_75, e204_76, e204_77, e204_78, e204_79, e204_83, e204_84, e204_87, e204_90, e204_91, e204_94, e204_96, e204_97, e204_101, e204_103, e204_106, e204_108, e204_109, e204_112, e204_113, e204_116, e204_118, e204_119, e204_121, e204_124, e204_125, e204_127, e204_128, e204_131, e204_132, e204_135, e204_136, e204_137, e204_138, e204_141, e204_144, e204_145, in_0_2, hin, h88', h88, hg2, ok88, nI_1, show (2 : Int32) ≤ 2 by decide, show (0 : Int32) ≤ 2 ∧ (2 : Int32) ≤ 2 by decide, sAn, sAs, sAA, ups, upn, bkv_n, hlv_n, ne_eq, Nat.reduceEqDiff, Nat.reduceLT, Nat.reduceLeDiff, or_true, true_or, not_false_eq_true, not_true_eq_false, not_false_eq_true, if_true, if_false, and_self, vh_bds, vh_ps1, vh_ps0, vb0, vb1, vbz, vbo]
            exact L
          exact Sim.mk A Bq rfl hR.thrown
        · have A : vh_C 121 [.ref 0, .int (nI m), .int w] (vh_K d mi ml) = some (some (.int (-1000001)), vh_K d mi ml) := by
            simp only [c121, e121_0, e121_1, e121_4, e121_5, e121_8, e121_11, e121_13, e121_14, e121_15, e121_40, e121_41, e121_44, e121_47, e121_48, e121_49, e121_52, e121_53, e121_56, e121_57, e121_58, e121_59, e121_62, e121_65, e121_66, e121_67, e121_70, e121_71, e121_74, e121_75, e121_76, e121_77, e121_80, e121_81, e121_84, e121_85, e121_87, s118, hc, hg, ok0, ok82, rf0_9, w0, w1, w2, not_true_eq_false, not_false_eq_true, if_true, if_false, and_self, vh_bds, vh_ps1, vh_ps0, vb0, vb1, vbz, vbo]
          refine Sim.mk A (mtR0 hn h88 ?_) rfl hR.thrown
          rintro ⟨-, z1, z2⟩
          obtain ⟨v, hv, rfl⟩ := nIr z1 (show w ≤ nI 2 from z2) (by decide)
          rcases (show v = 0 ∨ v = 1 ∨ v = 2 by omega) with rfl | rfl | rfl
          · exact w0 rfl
          · exact w1 rfl
          · exact w2 rfl
  · exact Sim.mk (mtG0 hn hc hx) (mtR0 hn h88 (fun z => hx z.1)) rfl hR.thrown
end

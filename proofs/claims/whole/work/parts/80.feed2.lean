section
variable {d : Nat} {ml : Nat → Nat → Int64} {w : Int64}
theorem l154 {l3 : Option Value} : ∀ (i L : Nat) (mi : Nat → Nat → Int32), L + i ≤ 400 → i ≤ 8 → mi 88 13 = nI L → vh_E 154 40 [some (.ref 88), some (.long w), none, l3, some (.int (nI i - 1))] [] (vh_K d mi ml) = some (some (.int (nI (L + i))), vh_K d (vh_sA (vh_sA mi 99 (fdw w (mi 99) L i)) 88 (upd (mi 88) 13 (nI (L + i)))) ml) := by
  intro i
  induction i with
  | zero =>
    intro L mi hL h8 h1
    have e1 : upd (mi 88) 13 (nI (L + 0)) = mi 88 := by
      funext c
      unfold upd
      by_cases q : c = 13
      · rw [if_pos q, q, h1]; rfl
      · rw [if_neg q]
    rw [e1, show fdw w (mi 99) L 0 = mi 99 from rfl, sAe, sAe, m1N]
    simp only [e154_40, e154_42, e154_82, e154_83, e154_86, ok88, h1, Nat.add_zero, show (-1 : Int32) < 0 by decide, if_true]
  | succ i ih =>
    intro L mi hL h8 h1
    have x1 : vh_ixa 99 (nI L) = true := ixa (by rw [kd99]; omega) (by omega)
    have m8 : (8 : Int32) * nI i = nI (8 * i) := pk_mul 8 i
    rw [nI_pred, e154_40]
    simp only [e154_0, e154_1, e154_2, e154_5, e154_6, e154_7, e154_8, e154_11, e154_14, e154_17, e154_19, e154_20, e154_21, e154_24, e154_25, e154_26, e154_29, e154_32, e154_34, e154_35, e154_36, e154_37, e154_38, e154_42, e154_45, e154_46, e154_49, e154_50, e154_53, e154_54, e154_56, e154_58, e154_59, e154_60, e154_63, e154_64, e154_65, e154_66, e154_67, e154_68, e154_71, e154_72, e154_73, e154_76, e154_79, e154_82, e154_83, e154_86, ok88, ok99, rf88_12, x1, clK (show L < 1000 by omega), h1, m8, nI_pos (show i < 2 ^ 31 by omega), fdB w (show 8 * i ≤ 56 by omega), nI_1, sAn, sAs, sAA, ups, upn, bkv_n, hlv_n, ne_eq, Nat.reduceEqDiff, Nat.reduceLT, Nat.reduceLeDiff, or_true, true_or, not_false_eq_true, if_false, show nI i + -1 = nI i - 1 from by rw [Int32.sub_eq_add_neg]]
    rw [ih (L + 1) _ (by omega) (by omega) (by simp only [sAn, sAs, sAA, ups, upn, bkv_n, hlv_n, ne_eq, Nat.reduceEqDiff, Nat.reduceLT, Nat.reduceLeDiff, or_true, true_or, not_false_eq_true])]
    simp only [sAn, sAs, sAA, ups, upn, bkv_n, hlv_n, ne_eq, Nat.reduceEqDiff, Nat.reduceLT, Nat.reduceLeDiff, or_true, true_or, not_false_eq_true]
    rw [show L + 1 + i = L + (i + 1) by omega]
    congr 3
    funext c
    unfold vh_sA
    by_cases c1 : c = 88
    · subst c1
      funext y
      unfold upd
      by_cases y1 : y = 13
      · subst y1; rfl
      · simp only [y1, if_false, if_true]
    · by_cases c2 : c = 99
      · subst c2; rfl
      · simp only [c1, c2, if_false]
theorem sim_feed {n : Int32} {mi : Nat → Nat → Int32} (hR : Rel d mi) : Sim 27 154 [.long w, .int n] d mi ml := by
  obtain ⟨e, L, hL, hc, hb⟩ := hR.2.2.2.2.2.1
  have h88 : mi 88 13 = nI L := e.symm.trans hc
  by_cases hg : 1 ≤ n ∧ n ≤ 8
  · obtain ⟨m, hm, rfl⟩ := nIr (Int32.le_trans (by decide) hg.1) (show n ≤ nI 8 from hg.2) (by decide)
    have hm1 : 1 ≤ m := (nI_leI (a := 1) (by decide) (by omega)).mp hg.1
    have s28 : ∀ mi : Nat → Nat → Int32, mi 22 1 = nI L → vh_C 28 [.ref 22, .int (nI m)] (vh_K d mi ml) = some (some (.int (vb (L + m ≤ 400))), vh_K d mi ml) := by
      intro mi h1
      simp only [c28, e28_0, e28_1, e28_4, e28_5, e28_8, e28_9, e28_12, e28_13, e28_16, e28_17, ok22, h1, show (400 : Int32) - nI L = nI (400 - L) from pk_sub (a := 400) hL, nI_ltI (show 400 - L < 2 ^ 31 by omega) (show m < 2 ^ 31 by omega), not_true_eq_false, not_false_eq_true, if_true, if_false, and_self, vh_bds, vh_ps1, vh_ps0, vb0, vb1, vbz, vbo]
      by_cases q : 400 - L < m
      · rw [if_pos q, vb_f (by omega)]
      · rw [if_neg q, vb_t (by omega)]
    by_cases hf : L + m ≤ 400
    · have A : vh_C 27 [.ref 0, .long w, .int (nI m)] (vh_K d mi ml) = some (some (.int (nI (L + m))), vh_K d (vh_sA (vh_sA mi 23 (fdw w (mi 23) L m)) 22 (upd (mi 22) 1 (nI (L + m)))) ml) := by
        have L29 := l29 (d := d) (ml := ml) (w := w) (l3 := some (.int (nI m))) m L mi hf hm hc
        have s29 : vh_C 29 [.ref 22, .long w, .int (nI m)] (vh_K d mi ml) = some (none, vh_K d (vh_sA (vh_sA mi 23 (fdw w (mi 23) L m)) 22 (upd (mi 22) 1 (nI (L + m)))) ml) := by
          simp only [c29, e29_0, e29_1, e29_2, e29_3]
          exact L29
        simp only [c27, e27_0, e27_1, e27_2, e27_4, e27_7, e27_10, e27_12, e27_13, e27_14, e27_17, e27_18, e27_21, e27_24, e27_26, e27_27, e27_28, e27_31, e27_32, e27_33, e27_36, e27_37, e27_40, e27_43, s14, s28 mi hc, s29, hg, hf, ok0, ok22, rf0_2, sAn, sAs, sAA, ups, upn, bkv_n, hlv_n, ne_eq, Nat.reduceEqDiff, Nat.reduceLT, Nat.reduceLeDiff, or_true, true_or, not_false_eq_true, not_true_eq_false, not_false_eq_true, if_true, if_false, and_self, vh_bds, vh_ps1, vh_ps0, vb0, vb1, vbz, vbo]
      have Bq : ∀ mi' : Nat → Nat → Int32, mi' 88 13 = nI L → vh_C 154 [.ref 88, .long w, .int (nI m)] (vh_K d mi' ml) = some (some (.int (nI (L + m))), vh_K d (vh_sA (vh_sA mi' 99 (fdw w (mi' 99) L m)) 88 (upd (upd (mi' 88) 0 0) 13 (nI (L + m)))) ml) := by
        intro mi' h1
        have L154 := l154 (d := d) (ml := ml) (w := w) (l3 := some (.int (nI m))) m L (vh_sA mi' 88 (upd (mi' 88) 0 0)) hf hm (by simp only [sAn, sAs, sAA, ups, upn, bkv_n, hlv_n, ne_eq, Nat.reduceEqDiff, Nat.reduceLT, Nat.reduceLeDiff, or_true, true_or, not_false_eq_true]; exact h1)
        simp only [c154, e154_0, e154_1, e154_2, e154_5, e154_6, e154_7, e154_8, e154_11, e154_14, e154_17, e154_19, e154_20, e154_21, e154_24, e154_25, e154_26, e154_29, e154_32, e154_34, e154_35, e154_36, e154_37, e154_38, e154_42, e154_45, e154_46, e154_49, e154_50, e154_53, e154_54, e154_56, e154_58, e154_59, e154_60, e154_63, e154_64, e154_65, e154_66, e154_67, e154_68, e154_71, e154_72, e154_73, e154_76, e154_79, e154_82, e154_83, e154_86, in_1_8, hg, h1, ok88, nI_add, show nI (L + m) ≤ 400 from nI_le (b := 400) hf (by decide), sAn, sAs, sAA, ups, upn, bkv_n, hlv_n, ne_eq, Nat.reduceEqDiff, Nat.reduceLT, Nat.reduceLeDiff, or_true, true_or, not_false_eq_true, not_true_eq_false, not_false_eq_true, if_true, if_false, and_self, vh_bds, vh_ps1, vh_ps0, vb0, vb1, vbz, vbo]
        refine Eq.trans L154 ?_
        simp only [sAn, sAs, sAA, ups, upn, bkv_n, hlv_n, ne_eq, Nat.reduceEqDiff, Nat.reduceLT, Nat.reduceLeDiff, or_true, true_or, not_false_eq_true]
        congr 3
        funext c
        unfold vh_sA
        by_cases c1 : c = 88
        · subst c1; rfl
        · by_cases c2 : c = 99
          · subst c2; rfl
          · simp only [c1, c2, if_false]
      refine Sim.mk A (Bq _ (by simp only [sAn, sAs, sAA, ups, upn, bkv_n, hlv_n, ne_eq, Nat.reduceEqDiff, Nat.reduceLT, Nat.reduceLeDiff, or_true, true_or, not_false_eq_true]; exact h88)) rfl ?_
      unfold Rel at hR ⊢
      simp only [sAn, sAs, sAA, ups, upn, bkv_n, hlv_n, ne_eq, Nat.reduceEqDiff, Nat.reduceLT, Nat.reduceLeDiff, or_true, true_or, not_false_eq_true]
      refine ⟨hR.1, hR.2.1, hR.2.2.1, hR.2.2.2.1, hR.2.2.2.2.1, ?_, hR.2.2.2.2.2.2⟩
      exact ⟨rfl, L + m, hf, rfl, fdw_e m L _ _ hb⟩
    · have A : vh_C 27 [.ref 0, .long w, .int (nI m)] (vh_K d mi ml) = some (some (.int (-1000003)), vh_K d mi ml) := by
        simp only [c27, e27_0, e27_1, e27_2, e27_4, e27_7, e27_10, e27_12, e27_13, e27_14, e27_17, e27_18, e27_21, e27_24, e27_26, e27_27, e27_28, e27_31, e27_32, e27_33, e27_36, e27_37, e27_40, e27_43, s14, s28 mi hc, hg, hf, ok0, ok22, rf0_2, not_true_eq_false, not_false_eq_true, if_true, if_false, and_self, vh_bds, vh_ps1, vh_ps0, vb0, vb1, vbz, vbo]
      have Bq : vh_C 154 [.ref 88, .long w, .int (nI m)] (vh_K d mi ml) = some (some (.int (-1000003)), vh_K d (vh_sA mi 88 (upd (mi 88) 0 0)) ml) := by
        simp only [c154, e154_0, e154_1, e154_2, e154_5, e154_6, e154_7, e154_8, e154_11, e154_14, e154_17, e154_19, e154_20, e154_21, e154_24, e154_25, e154_26, e154_29, e154_32, e154_34, e154_35, e154_36, e154_37, e154_38, e154_42, e154_45, e154_46, e154_49, e154_50, e154_53, e154_54, e154_56, e154_58, e154_59, e154_60, e154_63, e154_64, e154_65, e154_66, e154_67, e154_68, e154_71, e154_72, e154_73, e154_76, e154_79, e154_82, e154_83, e154_86, in_1_8, hg, h88, ok88, nI_add, show ¬ nI (L + m) ≤ 400 from nI_ge (a := 400) (by omega) (by omega), sAn, sAs, sAA, ups, upn, bkv_n, hlv_n, ne_eq, Nat.reduceEqDiff, Nat.reduceLT, Nat.reduceLeDiff, or_true, true_or, not_false_eq_true, not_true_eq_false, not_false_eq_true, if_true, if_false, and_self, vh_bds, vh_ps1, vh_ps0, vb0, vb1, vbz, vbo]
      exact Sim.mk A Bq rfl hR.thrown
  · have A : vh_C 27 [.ref 0, .long w, .int n] (vh_K d mi ml) = some (some (.int (-1000001)), vh_K d mi ml) := by
      simp only [c27, e27_0, e27_1, e27_2, e27_4, e27_7, e27_10, e27_12, e27_13, e27_14, e27_17, e27_18, e27_21, e27_24, e27_26, e27_27, e27_28, e27_31, e27_32, e27_33, e27_36, e27_37, e27_40, e27_43, s14, hg, ok0, not_true_eq_false, not_false_eq_true, if_true, if_false, and_self, vh_bds, vh_ps1, vh_ps0, vb0, vb1, vbz, vbo]
    have Bq : vh_C 154 [.ref 88, .long w, .int n] (vh_K d mi ml) = some (some (.int (-1000001)), vh_K d (vh_sA mi 88 (upd (mi 88) 0 0)) ml) := by
      simp only [c154, e154_0, e154_1, e154_2, e154_5, e154_6, e154_7, e154_8, e154_11, e154_14, e154_17, e154_19, e154_20, e154_21, e154_24, e154_25, e154_26, e154_29, e154_32, e154_34, e154_35, e154_36, e154_37, e154_38, e154_42, e154_45, e154_46, e154_49, e154_50, e154_53, e154_54, e154_56, e154_58, e154_59, e154_60, e154_63, e154_64, e154_65, e154_66, e154_67, e154_68, e154_71, e154_72, e154_73, e154_76, e154_79, e154_82, e154_83, e154_86, in_1_8, hg, ok88, not_true_eq_false, not_false_eq_true, if_true, if_false, and_self, vh_bds, vh_ps1, vh_ps0, vb0, vb1, vbz, vbo]
    exact Sim.mk A Bq rfl hR.thrown
end

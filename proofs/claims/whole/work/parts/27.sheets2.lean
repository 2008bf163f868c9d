section
variable {d : Nat} {mi : Nat → Nat → Int32} {ml : Nat → Nat → Int64}
theorem sN {s : Int32} (h : 0 ≤ s ∧ s ≤ 7) : ∃ k, k < 8 ∧ s = nI k := by
  obtain ⟨k, hk, e⟩ := nIr h.1 (show s ≤ nI 7 from h.2) (by decide)
  exact ⟨k, by omega, e⟩
theorem sK {k : Nat} (h : k < 8) : 0 ≤ nI k ∧ nI k ≤ 7 := ⟨nI_pos' (by omega), nI_le (b := 7) (by omega) (by decide)⟩
/-- a lane is there -/
theorem ln0 {l : Int32} (h : l = -1 ∨ l = 0 ∨ l = 1 ∨ l = 2) : (0 ≤ l) = ¬ l = -1 := by
  rcases h with rfl | rfl | rfl | rfl <;> decide
theorem Rel.stat {f : Int32} (h : Rel d mi) : Rel d (vh_sA (vh_sA mi 0 (upd (mi 0) 12 f)) 88 (upd (upd (upd (mi 88) 0 0) 1 0) 1 f)) := by
  unfold Rel at h ⊢
  simp only [sAn, sAs, sAA, ups, upn, bkv_n, hlv_n, ne_eq, Nat.reduceEqDiff, Nat.reduceLT, Nat.reduceLeDiff, or_true, true_or, not_false_eq_true]
  exact ⟨h.1, h.2.1, trivial, h.2.2.2⟩
/-- drop -/
theorem s25a {s : Int32} (h : ¬ (0 ≤ s ∧ s ≤ 7)) : vh_C 25 [.ref 0, .int s] (vh_K d mi ml) = some (some (.int (-1000001)), vh_K d mi ml) := by
  simp only [c25, e25_0, e25_1, e25_4, e25_7, e25_9, e25_10, e25_11, e25_14, e25_15, e25_18, e25_21, e25_22, e25_23, e25_26, e25_27, e25_28, e25_29, e25_32, e25_33, e25_36, e25_39, s13, ok0, h, not_true_eq_false, not_false_eq_true, if_true, if_false, and_self, vh_bds, vh_ps1, vh_ps0, vb0, vb1, vbz, vbo]
theorem s25b {s : Nat} (h : s < 8) (h1 : mi 2 s = -1) : vh_C 25 [.ref 0, .int (nI s)] (vh_K d mi ml) = some (some (.int (-1000010 - 1)), vh_K d (vh_sA mi 0 (upd (mi 0) 12 1)) ml) := by
  simp only [c25, e25_0, e25_1, e25_4, e25_7, e25_9, e25_10, e25_11, e25_14, e25_15, e25_18, e25_21, e25_22, e25_23, e25_26, e25_27, e25_28, e25_29, e25_32, e25_33, e25_36, e25_39, s13, s19 h, s15, ok0, ok1, rf0_0, sK h, h1, not_true_eq_false, not_false_eq_true, if_true, if_false, and_self, vh_bds, vh_ps1, vh_ps0, vb0, vb1, vbz, vbo]
theorem s25c {s : Nat} (h : s < 8) (h1 : ¬ mi 2 s = -1) : vh_C 25 [.ref 0, .int (nI s)] (vh_K d mi ml) = some (some (.int (mi 3 s)), vh_K d (vh_sA (vh_sA mi 2 (upd (mi 2) s (-1))) 0 (upd (mi 0) 12 0)) ml) := by
  simp only [c25, e25_0, e25_1, e25_4, e25_7, e25_9, e25_10, e25_11, e25_14, e25_15, e25_18, e25_21, e25_22, e25_23, e25_26, e25_27, e25_28, e25_29, e25_32, e25_33, e25_36, e25_39, s13, s19 h, s26 h, s17, ok0, ok1, rf0_0, sK h, h1, not_true_eq_false, not_false_eq_true, if_true, if_false, and_self, vh_bds, vh_ps1, vh_ps0, vb0, vb1, vbz, vbo, sAn, sAs, sAA, ups, upn, bkv_n, hlv_n, ne_eq, Nat.reduceEqDiff, Nat.reduceLT, Nat.reduceLeDiff, or_true, true_or, not_false_eq_true]
theorem s153a {s : Int32} (h : ¬ (0 ≤ s ∧ s ≤ 7)) : vh_C 153 [.ref 88, .int s] (vh_K d mi ml) = some (some (.int (-1000001)), vh_K d (vh_sA mi 88 (upd (mi 88) 0 0)) ml) := by
  simp only [c153, e153_0, e153_1, e153_2, e153_5, e153_6, e153_9, e153_12, e153_14, e153_15, e153_16, e153_17, e153_20, e153_21, e153_24, e153_25, e153_26, e153_29, e153_30, e153_31, e153_34, e153_35, e153_36, e153_39, e153_40, e153_41, e153_42, e153_43, e153_46, e153_47, e153_48, s148, ok88, h, not_true_eq_false, not_false_eq_true, if_true, if_false, and_self, vh_bds, vh_ps1, vh_ps0, vb0, vb1, vbz, vbo]
theorem s153b {s : Nat} (h : s < 8) (h1 : mi 96 s = -1) : vh_C 153 [.ref 88, .int (nI s)] (vh_K d mi ml) = some (some (.int (-1000010 - 1)), vh_K d (vh_sA mi 88 (upd (upd (upd (mi 88) 0 0) 1 0) 1 1)) ml) := by
  have hx : vh_ixa 96 (nI s) = true := ixa (by rw [kd96]; exact h) (by omega)
  have hc : (nI s).toNatClampNeg = s := nI_clamp (by omega)
  simp only [c153, e153_0, e153_1, e153_2, e153_5, e153_6, e153_9, e153_12, e153_14, e153_15, e153_16, e153_17, e153_20, e153_21, e153_24, e153_25, e153_26, e153_29, e153_30, e153_31, e153_34, e153_35, e153_36, e153_39, e153_40, e153_41, e153_42, e153_43, e153_46, e153_47, e153_48, s148, s150, ok88, ok96, rf88_9, hx, hc, sK h, not_true_eq_false, not_false_eq_true, if_true, if_false, and_self, vh_bds, vh_ps1, vh_ps0, vb0, vb1, vbz, vbo, sAn, sAs, sAA, ups, upn, bkv_n, hlv_n, ne_eq, Nat.reduceEqDiff, Nat.reduceLT, Nat.reduceLeDiff, or_true, true_or, not_false_eq_true, h1, show ¬ (0 : Int32) ≤ -1 from by decide]
theorem s153c {s : Nat} (h : s < 8) (h1 : 0 ≤ mi 96 s) : vh_C 153 [.ref 88, .int (nI s)] (vh_K d mi ml) = some (some (.int (mi 97 s)), vh_K d (vh_sA (vh_sA mi 88 (upd (upd (mi 88) 0 0) 1 0)) 96 (upd (mi 96) s (-1))) ml) := by
  have hx : vh_ixa 96 (nI s) = true := ixa (by rw [kd96]; exact h) (by omega)
  have hx2 : vh_ixa 97 (nI s) = true := ixa (by rw [kd97]; exact h) (by omega)
  have hc : (nI s).toNatClampNeg = s := nI_clamp (by omega)
  simp only [c153, e153_0, e153_1, e153_2, e153_5, e153_6, e153_9, e153_12, e153_14, e153_15, e153_16, e153_17, e153_20, e153_21, e153_24, e153_25, e153_26, e153_29, e153_30, e153_31, e153_34, e153_35, e153_36, e153_39, e153_40, e153_41, e153_42, e153_43, e153_46, e153_47, e153_48, s148, s150, ok88, ok96, ok97, rf88_9, rf88_10, hx, hx2, hc, sK h, not_true_eq_false, not_false_eq_true, if_true, if_false, and_self, vh_bds, vh_ps1, vh_ps0, vb0, vb1, vbz, vbo, sAn, sAs, sAA, ups, upn, bkv_n, hlv_n, ne_eq, Nat.reduceEqDiff, Nat.reduceLT, Nat.reduceLeDiff, or_true, true_or, not_false_eq_true, h1]
theorem sim_drop {s : Int32} (h : Rel d mi) : Sim 25 153 [.int s] d mi ml := by
  by_cases hs : 0 ≤ s ∧ s ≤ 7
  · obtain ⟨k, hk, rfl⟩ := sN hs
    have hR := h.2.2.2.1
    obtain ⟨e1, e2, e3, z, hz, e4, e5⟩ := hR k hk
    by_cases hm : mi 2 k = -1
    · refine Sim.mk (s25b hk hm) (s153b hk ?_) rfl ?_
      · simp only [sAn, sAs, sAA, ups, upn, bkv_n, hlv_n, ne_eq, Nat.reduceEqDiff, Nat.reduceLT, Nat.reduceLeDiff, or_true, true_or, not_false_eq_true]; rw [← e1]; exact hm
      · simp only [sAn, sAs, sAA, ups, upn, bkv_n, hlv_n, ne_eq, Nat.reduceEqDiff, Nat.reduceLT, Nat.reduceLeDiff, or_true, true_or, not_false_eq_true]; exact h.stat
    · refine Sim.mk (s25c hk hm) (s153c hk ?_) ?_ ?_
      · simp only [sAn, sAs, sAA, ups, upn, bkv_n, hlv_n, ne_eq, Nat.reduceEqDiff, Nat.reduceLT, Nat.reduceLeDiff, or_true, true_or, not_false_eq_true]; rw [← e1, ln0 e3]; exact hm
      · simp only [sAn, sAs, sAA, ups, upn, bkv_n, hlv_n, ne_eq, Nat.reduceEqDiff, Nat.reduceLT, Nat.reduceLeDiff, or_true, true_or, not_false_eq_true]; exact e2.symm
      · unfold Rel at h ⊢
        simp only [sAn, sAs, sAA, ups, upn, bkv_n, hlv_n, ne_eq, Nat.reduceEqDiff, Nat.reduceLT, Nat.reduceLeDiff, or_true, true_or, not_false_eq_true]
        refine ⟨h.1, h.2.1, trivial, ?_, h.2.2.2.2⟩
        intro t ht
        obtain ⟨f1, f2, f3, z', hz', f4, f5⟩ := hR t ht
        by_cases htk : t = k
        · subst htk
          rw [ups, ups]
          exact ⟨rfl, f2, Or.inl rfl, z', hz', f4, fun q => absurd rfl q⟩
        · rw [upn htk, upn htk]
          exact ⟨f1, f2, f3, z', hz', f4, f5⟩
  · exact Sim.mk (s25a hs) (s153a hs) rfl h.thrown
/-- set -/
theorem s18a {s i v : Int32} (h : ¬ (0 ≤ s ∧ s ≤ 7)) : vh_C 18 [.ref 0, .int s, .int i, .int v] (vh_K d mi ml) = some (some (.int (-1000001)), vh_K d mi ml) := by
  simp only [c18, e18_0, e18_1, e18_4, e18_7, e18_9, e18_10, e18_11, e18_14, e18_15, e18_18, e18_21, e18_22, e18_23, e18_26, e18_27, e18_28, e18_31, e18_32, e18_33, e18_34, e18_37, e18_40, e18_41, e18_42, e18_45, e18_46, e18_47, e18_48, e18_51, e18_52, e18_53, e18_54, e18_57, e18_60, s13, ok0, h, not_true_eq_false, not_false_eq_true, if_true, if_false, and_self, vh_bds, vh_ps1, vh_ps0, vb0, vb1, vbz, vbo]
theorem s18b {s : Nat} {i v : Int32} (h : s < 8) (h1 : mi 2 s = -1) : vh_C 18 [.ref 0, .int (nI s), .int i, .int v] (vh_K d mi ml) = some (some (.int (-1000010 - 1)), vh_K d (vh_sA mi 0 (upd (mi 0) 12 1)) ml) := by
  simp only [c18, e18_0, e18_1, e18_4, e18_7, e18_9, e18_10, e18_11, e18_14, e18_15, e18_18, e18_21, e18_22, e18_23, e18_26, e18_27, e18_28, e18_31, e18_32, e18_33, e18_34, e18_37, e18_40, e18_41, e18_42, e18_45, e18_46, e18_47, e18_48, e18_51, e18_52, e18_53, e18_54, e18_57, e18_60, s13, s19 h, s15, ok0, ok1, rf0_0, sK h, h1, not_true_eq_false, not_false_eq_true, if_true, if_false, and_self, vh_bds, vh_ps1, vh_ps0, vb0, vb1, vbz, vbo]
theorem s18c {s z : Nat} {i v : Int32} (h : s < 8) (h1 : ¬ mi 2 s = -1) (hz : mi 3 s = nI z) (hz2 : z ≤ 60) (h2 : ¬ ∃ k, k < z ∧ i = nI k) : vh_C 18 [.ref 0, .int (nI s), .int i, .int v] (vh_K d mi ml) = some (some (.int (-1000010 - 2)), vh_K d (vh_sA mi 0 (upd (mi 0) 12 2)) ml) := by
  have hp : ¬ (0 ≤ i ∧ 0 ≤ (1 : Int32) ∧ 1 ≤ mi 3 s ∧ i ≤ mi 3 s - 1) := by
    rw [hz, hpN (by omega)]
    rintro ⟨k, m, e1, e2, e3⟩
    have : m = 1 := by
      have e2 : nI 1 = nI m := e2
      have hm : m < 2 ^ 31 := by omega
      exact ((nI_eq (by decide) hm).mp e2).symm
    exact h2 ⟨k, by omega, e1⟩
  simp only [c18, e18_0, e18_1, e18_4, e18_7, e18_9, e18_10, e18_11, e18_14, e18_15, e18_18, e18_21, e18_22, e18_23, e18_26, e18_27, e18_28, e18_31, e18_32, e18_33, e18_34, e18_37, e18_40, e18_41, e18_42, e18_45, e18_46, e18_47, e18_48, e18_51, e18_52, e18_53, e18_54, e18_57, e18_60, s13, s19 h, s20 h, s15, ok0, ok1, rf0_0, sK h, h1, hp, not_true_eq_false, not_false_eq_true, if_true, if_false, and_self, vh_bds, vh_ps1, vh_ps0, vb0, vb1, vbz, vbo]
theorem s18d {s z k : Nat} {v : Int32} (h : s < 8) (h1 : ¬ mi 2 s = -1) (hz : mi 3 s = nI z) (hz2 : z ≤ 60) (hk : k < z) : vh_C 18 [.ref 0, .int (nI s), .int (nI k), .int v] (vh_K d mi ml) = some (some (.int (lnv (mi 2 s) v)), vh_K d (vh_sA (vh_sA mi 4 (upd (mi 4) (s * 60 + k) (lnv (mi 2 s) v))) 0 (upd (mi 0) 12 0)) ml) := by
  have hp : (0 ≤ nI k ∧ 0 ≤ (1 : Int32) ∧ 1 ≤ mi 3 s ∧ nI k ≤ mi 3 s - 1) := by
    rw [hz, hpN (by omega)]
    exact ⟨k, 1, rfl, rfl, by omega⟩
  simp only [c18, e18_0, e18_1, e18_4, e18_7, e18_9, e18_10, e18_11, e18_14, e18_15, e18_18, e18_21, e18_22, e18_23, e18_26, e18_27, e18_28, e18_31, e18_32, e18_33, e18_34, e18_37, e18_40, e18_41, e18_42, e18_45, e18_46, e18_47, e18_48, e18_51, e18_52, e18_53, e18_54, e18_57, e18_60, s13, s19 h, s20 h, s21 h (show s * 60 + k < 480 by omega), s17, ok0, ok1, rf0_0, sK h, h1, hp, not_true_eq_false, not_false_eq_true, if_true, if_false, and_self, vh_bds, vh_ps1, vh_ps0, vb0, vb1, vbz, vbo, sAn, sAs, sAA, ups, upn, bkv_n, hlv_n, ne_eq, Nat.reduceEqDiff, Nat.reduceLT, Nat.reduceLeDiff, or_true, true_or, not_false_eq_true]
theorem s151a {s i v : Int32} (h : ¬ (0 ≤ s ∧ s ≤ 7)) : vh_C 151 [.ref 88, .int s, .int i, .int v] (vh_K d mi ml) = some (some (.int (-1000001)), vh_K d (vh_sA mi 88 (upd (mi 88) 0 0)) ml) := by
  simp only [c151, e151_0, e151_1, e151_2, e151_5, e151_6, e151_9, e151_12, e151_14, e151_15, e151_16, e151_17, e151_20, e151_21, e151_24, e151_25, e151_26, e151_29, e151_30, e151_31, e151_34, e151_35, e151_36, e151_37, e151_38, e151_39, e151_42, e151_43, e151_44, e151_45, e151_46, e151_47, e151_50, e151_53, e151_54, e151_55, e151_58, e151_59, e151_60, e151_63, e151_65, e151_66, e151_67, e151_68, e151_69, e151_70, e151_73, e151_74, e151_75, e151_78, e151_79, e151_80, e151_83, e151_84, e151_87, e151_88, e151_89, e151_90, e151_93, e151_94, e151_95, e151_98, e151_99, e151_100, e151_101, e151_104, e151_106, e151_107, e151_108, e151_109, e151_110, e151_111, s148, ok88, h, not_true_eq_false, not_false_eq_true, if_true, if_false, and_self, vh_bds, vh_ps1, vh_ps0, vb0, vb1, vbz, vbo]
theorem s151b {s : Nat} {i v : Int32} (h : s < 8) (h1 : mi 96 s = -1) : vh_C 151 [.ref 88, .int (nI s), .int i, .int v] (vh_K d mi ml) = some (some (.int (-1000010 - 1)), vh_K d (vh_sA mi 88 (upd (upd (upd (mi 88) 0 0) 1 0) 1 1)) ml) := by
  have hx : vh_ixa 96 (nI s) = true := ixa (by rw [kd96]; exact h) (by omega)
  have hc : (nI s).toNatClampNeg = s := nI_clamp (by omega)
  simp only [c151, e151_0, e151_1, e151_2, e151_5, e151_6, e151_9, e151_12, e151_14, e151_15, e151_16, e151_17, e151_20, e151_21, e151_24, e151_25, e151_26, e151_29, e151_30, e151_31, e151_34, e151_35, e151_36, e151_37, e151_38, e151_39, e151_42, e151_43, e151_44, e151_45, e151_46, e151_47, e151_50, e151_53, e151_54, e151_55, e151_58, e151_59, e151_60, e151_63, e151_65, e151_66, e151_67, e151_68, e151_69, e151_70, e151_73, e151_74, e151_75, e151_78, e151_79, e151_80, e151_83, e151_84, e151_87, e151_88, e151_89, e151_90, e151_93, e151_94, e151_95, e151_98, e151_99, e151_100, e151_101, e151_104, e151_106, e151_107, e151_108, e151_109, e151_110, e151_111, s148, s150, ok88, ok96, rf88_9, hx, hc, sK h, not_true_eq_false, not_false_eq_true, if_true, if_false, and_self, vh_bds, vh_ps1, vh_ps0, vb0, vb1, vbz, vbo, sAn, sAs, sAA, ups, upn, bkv_n, hlv_n, ne_eq, Nat.reduceEqDiff, Nat.reduceLT, Nat.reduceLeDiff, or_true, true_or, not_false_eq_true, h1, show ¬ (0 : Int32) ≤ -1 from by decide]
theorem s151c {s z : Nat} {i v : Int32} (h : s < 8) (h1 : 0 ≤ mi 96 s) (hz : mi 97 s = nI z) (hz2 : z ≤ 60) (h2 : ¬ ∃ k, k < z ∧ i = nI k) : vh_C 151 [.ref 88, .int (nI s), .int i, .int v] (vh_K d mi ml) = some (some (.int (-1000010 - 2)), vh_K d (vh_sA mi 88 (upd (upd (upd (mi 88) 0 0) 1 0) 1 2)) ml) := by
  have hx : vh_ixa 96 (nI s) = true := ixa (by rw [kd96]; exact h) (by omega)
  have hx2 : vh_ixa 97 (nI s) = true := ixa (by rw [kd97]; exact h) (by omega)
  have hc : (nI s).toNatClampNeg = s := nI_clamp (by omega)
  have hp : ¬ (0 ≤ i ∧ i ≤ nI z - 1) := by rw [inN (by omega)]; exact h2
  simp only [c151, e151_0, e151_1, e151_2, e151_5, e151_6, e151_9, e151_12, e151_14, e151_15, e151_16, e151_17, e151_20, e151_21, e151_24, e151_25, e151_26, e151_29, e151_30, e151_31, e151_34, e151_35, e151_36, e151_37, e151_38, e151_39, e151_42, e151_43, e151_44, e151_45, e151_46, e151_47, e151_50, e151_53, e151_54, e151_55, e151_58, e151_59, e151_60, e151_63, e151_65, e151_66, e151_67, e151_68, e151_69, e151_70, e151_73, e151_74, e151_75, e151_78, e151_79, e151_80, e151_83, e151_84, e151_87, e151_88, e151_89, e151_90, e151_93, e151_94, e151_95, e151_98, e151_99, e151_100, e151_101, e151_104, e151_106, e151_107, e151_108, e151_109, e151_110, e151_111, s148, s150, ok88, ok96, ok97, rf88_9, rf88_10, hx, hx2, hc, hz, sK h, not_true_eq_false, not_false_eq_true, if_true, if_false, and_self, vh_bds, vh_ps1, vh_ps0, vb0, vb1, vbz, vbo, sAn, sAs, sAA, ups, upn, bkv_n, hlv_n, ne_eq, Nat.reduceEqDiff, Nat.reduceLT, Nat.reduceLeDiff, or_true, true_or, not_false_eq_true, h1, inI (lo := 0) (hi := nI z - 1) (show (0 : Int64) = (0 : Int32).toInt64 from by decide) rfl, hp]
theorem s151d {s z k : Nat} {v : Int32} (h : s < 8) (h1 : 0 ≤ mi 96 s) (hz : mi 97 s = nI z) (hz2 : z ≤ 60) (hk : k < z) : vh_C 151 [.ref 88, .int (nI s), .int (nI k), .int v] (vh_K d mi ml) = some (some (.int (lnv (mi 96 s) v)), vh_K d (vh_sA (vh_sA mi 88 (upd (upd (mi 88) 0 0) 1 0)) 98 (upd (mi 98) (s * 60 + k) (lnv (mi 96 s) v))) ml) := by
  have hx : vh_ixa 96 (nI s) = true := ixa (by rw [kd96]; exact h) (by omega)
  have hx2 : vh_ixa 97 (nI s) = true := ixa (by rw [kd97]; exact h) (by omega)
  have hc : (nI s).toNatClampNeg = s := nI_clamp (by omega)
  have hx3 : vh_ixa 98 (nI (s * 60 + k)) = true := ixa (by rw [kd98]; omega) (by omega)
  have hc3 : (nI (s * 60 + k)).toNatClampNeg = s * 60 + k := nI_clamp (by omega)
  have hp : (0 ≤ nI k ∧ nI k ≤ nI z - 1) := by rw [inN (by omega)]; exact ⟨k, hk, rfl⟩
  simp only [c151, e151_0, e151_1, e151_2, e151_5, e151_6, e151_9, e151_12, e151_14, e151_15, e151_16, e151_17, e151_20, e151_21, e151_24, e151_25, e151_26, e151_29, e151_30, e151_31, e151_34, e151_35, e151_36, e151_37, e151_38, e151_39, e151_42, e151_43, e151_44, e151_45, e151_46, e151_47, e151_50, e151_53, e151_54, e151_55, e151_58, e151_59, e151_60, e151_63, e151_65, e151_66, e151_67, e151_68, e151_69, e151_70, e151_73, e151_74, e151_75, e151_78, e151_79, e151_80, e151_83, e151_84, e151_87, e151_88, e151_89, e151_90, e151_93, e151_94, e151_95, e151_98, e151_99, e151_100, e151_101, e151_104, e151_106, e151_107, e151_108, e151_109, e151_110, e151_111, s148, s150, ok88, ok96, ok97, ok98, rf88_9, rf88_10, rf88_11, y60, hx, hx2, hx3, hc, hc3, hz, sK h, not_true_eq_false, not_false_eq_true, if_true, if_false, and_self, vh_bds, vh_ps1, vh_ps0, vb0, vb1, vbz, vbo, sAn, sAs, sAA, ups, upn, bkv_n, hlv_n, ne_eq, Nat.reduceEqDiff, Nat.reduceLT, Nat.reduceLeDiff, or_true, true_or, not_false_eq_true, h1, inI (lo := 0) (hi := nI z - 1) (show (0 : Int64) = (0 : Int32).toInt64 from by decide) rfl, hp]
  unfold lnv
  by_cases h0 : mi 96 s = 0
  · simp only [h0, not_true_eq_false, not_false_eq_true, if_true, if_false, and_self, vh_bds, vh_ps1, vh_ps0, vb0, vb1, vbz, vbo]
  · by_cases h1 : mi 96 s = 1
    · simp only [h0, h1, not_true_eq_false, not_false_eq_true, if_true, if_false, and_self, vh_bds, vh_ps1, vh_ps0, vb0, vb1, vbz, vbo, show ¬ (1 : Int32) = 0 from by decide]
    · simp only [h0, h1, not_true_eq_false, not_false_eq_true, if_true, if_false, and_self, vh_bds, vh_ps1, vh_ps0, vb0, vb1, vbz, vbo]
theorem sim_set {s i v : Int32} (h : Rel d mi) : Sim 18 151 [.int s, .int i, .int v] d mi ml := by
  by_cases hs : 0 ≤ s ∧ s ≤ 7
  · obtain ⟨k, hk, rfl⟩ := sN hs
    have hR := h.2.2.2.1
    obtain ⟨e1, e2, e3, z, hz, e4, e5⟩ := hR k hk
    by_cases hm : mi 2 k = -1
    · refine Sim.mk (s18b hk hm) (s151b hk ?_) rfl ?_
      · simp only [sAn, sAs, sAA, ups, upn, bkv_n, hlv_n, ne_eq, Nat.reduceEqDiff, Nat.reduceLT, Nat.reduceLeDiff, or_true, true_or, not_false_eq_true]; rw [← e1]; exact hm
      · simp only [sAn, sAs, sAA, ups, upn, bkv_n, hlv_n, ne_eq, Nat.reduceEqDiff, Nat.reduceLT, Nat.reduceLeDiff, or_true, true_or, not_false_eq_true]; exact h.stat
    · have h96 : 0 ≤ mi 96 k := by rw [← e1, ln0 e3]; exact hm
      have h97 : mi 97 k = nI z := e2.symm.trans e4
      by_cases hi : ∃ j, j < z ∧ i = nI j
      · obtain ⟨j, hj, rfl⟩ := hi
        refine Sim.mk (s18d hk hm e4 hz hj) (s151d (z := z) hk ?_ ?_ hz hj) ?_ ?_
        · simp only [sAn, sAs, sAA, ups, upn, bkv_n, hlv_n, ne_eq, Nat.reduceEqDiff, Nat.reduceLT, Nat.reduceLeDiff, or_true, true_or, not_false_eq_true]; exact h96
        · simp only [sAn, sAs, sAA, ups, upn, bkv_n, hlv_n, ne_eq, Nat.reduceEqDiff, Nat.reduceLT, Nat.reduceLeDiff, or_true, true_or, not_false_eq_true]; exact h97
        · simp only [sAn, sAs, sAA, ups, upn, bkv_n, hlv_n, ne_eq, Nat.reduceEqDiff, Nat.reduceLT, Nat.reduceLeDiff, or_true, true_or, not_false_eq_true]; rw [e1]
        · unfold Rel at h ⊢
          simp only [sAn, sAs, sAA, ups, upn, bkv_n, hlv_n, ne_eq, Nat.reduceEqDiff, Nat.reduceLT, Nat.reduceLeDiff, or_true, true_or, not_false_eq_true]
          refine ⟨h.1, h.2.1, trivial, ?_, h.2.2.2.2⟩
          intro t ht
          obtain ⟨f1, f2, f3, z', hz', f4, f5⟩ := hR t ht
          refine ⟨f1, f2, f3, z', hz', f4, fun q y hy => ?_⟩
          by_cases hty : t * 60 + y = k * 60 + j
          · rw [hty, ups, ups, e1]
          · rw [upn hty, upn hty]
            exact f5 q y hy
      · refine Sim.mk (s18c hk hm e4 hz hi) (s151c (z := z) hk ?_ ?_ hz hi) rfl ?_
        · simp only [sAn, sAs, sAA, ups, upn, bkv_n, hlv_n, ne_eq, Nat.reduceEqDiff, Nat.reduceLT, Nat.reduceLeDiff, or_true, true_or, not_false_eq_true]; exact h96
        · simp only [sAn, sAs, sAA, ups, upn, bkv_n, hlv_n, ne_eq, Nat.reduceEqDiff, Nat.reduceLT, Nat.reduceLeDiff, or_true, true_or, not_false_eq_true]; exact h97
        · simp only [sAn, sAs, sAA, ups, upn, bkv_n, hlv_n, ne_eq, Nat.reduceEqDiff, Nat.reduceLT, Nat.reduceLeDiff, or_true, true_or, not_false_eq_true]; exact h.stat
  · exact Sim.mk (s18a hs) (s151a hs) rfl h.thrown
end

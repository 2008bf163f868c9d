section
variable {d : Nat} {mi : Nat → Nat → Int32} {ml : Nat → Nat → Int64}
def clr (f : Nat → Int32) (a b : Nat) : Nat → Int32 := fun c => if a ≤ c ∧ c < b then 0 else f c
theorem clr_0 {f : Nat → Int32} {a b : Nat} (h : b ≤ a) : clr f a b = f := by
  funext c
  unfold clr
  rw [if_neg (by omega)]
theorem clr_s {f : Nat → Int32} {a b : Nat} (h : a < b) : clr (upd f a 0) (a + 1) b = clr f a b := by
  funext c
  unfold clr upd
  by_cases h1 : a + 1 ≤ c ∧ c < b
  · rw [if_pos h1, if_pos (by omega)]
  · rw [if_neg h1]
    by_cases h2 : c = a
    · rw [if_pos h2, if_pos (by omega)]
    · rw [if_neg h2, if_neg (by omega)]
theorem l16 {s n : Nat} {l2 : Option Value} (hs : s < 8) (hn : n ≤ 60) : ∀ (r k : Nat) (mi : Nat → Nat → Int32), k + r = n → vh_E 16 17 [some (.ref 1), some (.int (nI s)), l2, some (.int (nI n)), some (.int (nI k))] [] (vh_K d mi ml) = some (none, vh_K d (vh_sA mi 4 (clr (mi 4) (s * 60 + k) (s * 60 + n))) ml) := by
  intro r
  induction r with
  | zero =>
    intro k mi hk
    have hk : k = n := hk
    subst hk
    rw [e16_17]
    simp only [e16_0, e16_1, e16_4, e16_5, e16_6, e16_7, e16_8, e16_11, e16_12, e16_13, e16_14, e16_15, e16_19, e16_20, e16_23, e16_24, e16_27, e16_28, e16_30, e16_31, e16_33, e16_34, e16_35, e16_36, e16_39, e16_42, nI_le (Nat.le_refl k) (show k < 2 ^ 31 by omega), if_true]
    rw [clr_0 (Nat.le_refl _), sAe]
  | succ r ih =>
    intro k mi hk
    have hx : vh_ixa 4 (nI (s * 60 + k)) = true := ixa (by rw [kd4]; omega) (by omega)
    have hc : (nI (s * 60 + k)).toNatClampNeg = s * 60 + k := nI_clamp (by omega)
    rw [e16_17]
    simp only [e16_0, e16_1, e16_4, e16_5, e16_6, e16_7, e16_8, e16_11, e16_12, e16_13, e16_14, e16_15, e16_19, e16_20, e16_23, e16_24, e16_27, e16_28, e16_30, e16_31, e16_33, e16_34, e16_35, e16_36, e16_39, e16_42, ok1, ok4, rf1_2, x60, hx, hc, nI_1, if_neg (nI_ge (show k < n by omega) (show n < 2 ^ 31 by omega))]
    rw [ih (k + 1) _ (by omega)]
    simp only [sAn, sAs, sAA, ups, upn, bkv_n, hlv_n, ne_eq, Nat.reduceEqDiff, Nat.reduceLT, Nat.reduceLeDiff, or_true, true_or, not_false_eq_true]
    rw [← Nat.add_assoc, clr_s (by omega)]
theorem s16 {s n : Nat} {l : Int32} (hs : s < 8) (hn : n ≤ 60) : vh_C 16 [.ref 1, .int (nI s), .int l, .int (nI n)] (vh_K d mi ml) = some (none, vh_K d (vh_sA (vh_sA (vh_sA mi 2 (upd (mi 2) s l)) 3 (upd (mi 3) s (nI n))) 4 (clr (mi 4) (s * 60) (s * 60 + n))) ml) := by
  have hx : vh_ixa 2 (nI s) = true := ixa (by rw [kd2]; omega) (by omega)
  have hx3 : vh_ixa 3 (nI s) = true := ixa (by rw [kd3]; omega) (by omega)
  have hc : (nI s).toNatClampNeg = s := nI_clamp (by omega)
  simp only [c16, e16_0, e16_1, e16_4, e16_5, e16_6, e16_7, e16_8, e16_11, e16_12, e16_13, e16_14, e16_15, e16_19, e16_20, e16_23, e16_24, e16_27, e16_28, e16_30, e16_31, e16_33, e16_34, e16_35, e16_36, e16_39, e16_42, ok1, ok2, ok3, rf1_0, rf1_1, hx, hx3, hc, sAn, sAs, sAA, ups, upn, bkv_n, hlv_n, ne_eq, Nat.reduceEqDiff, Nat.reduceLT, Nat.reduceLeDiff, or_true, true_or, not_false_eq_true]
  rw [show (0 : Int32) = nI 0 from rfl, l16 hs hn n 0 _ (by omega)]
  simp only [sAn, sAs, sAA, ups, upn, bkv_n, hlv_n, ne_eq, Nat.reduceEqDiff, Nat.reduceLT, Nat.reduceLeDiff, or_true, true_or, not_false_eq_true, Nat.add_zero]
theorem s12a {s l n : Int32} (h : ¬ ((0 ≤ s ∧ s ≤ 7) ∧ (0 ≤ l ∧ l ≤ 2) ∧ n ≤ 60)) : vh_C 12 [.ref 0, .int s, .int l, .int n] (vh_K d mi ml) = some (some (.int (-1000001)), vh_K d mi ml) := by
  simp only [c12, e12_0, e12_1, e12_4, e12_7, e12_8, e12_9, e12_10, e12_13, e12_16, e12_17, e12_19, e12_22, e12_24, e12_25, e12_26, e12_29, e12_30, e12_31, e12_34, e12_35, e12_36, e12_39, e12_40, e12_41, e12_42, e12_45, e12_46, e12_47, e12_50, s13, s14, ok0, not_true_eq_false, not_false_eq_true, if_true, if_false, and_self, vh_bds, vh_ps1, vh_ps0, vb0, vb1, vbz, vbo]
  by_cases h1 : 0 ≤ s ∧ s ≤ 7
  · rw [if_neg (not_not_intro h1)]
    by_cases h2 : 0 ≤ l ∧ l ≤ 2
    · rw [if_neg (not_not_intro h2), if_neg (fun q => h ⟨h1, h2, q⟩)]
    · rw [if_pos h2]
  · rw [if_pos h1]
theorem s12b {s : Nat} {l n : Int32} (hs : s < 8) (h2 : 0 ≤ l ∧ l ≤ 2) (h3 : n ≤ 60) (h4 : ¬ 0 ≤ n) : vh_C 12 [.ref 0, .int (nI s), .int l, .int n] (vh_K d mi ml) = some (some (.int (-1000010 - 4)), vh_K d (vh_sA mi 0 (upd (mi 0) 12 4)) ml) := by
  simp only [c12, e12_0, e12_1, e12_4, e12_7, e12_8, e12_9, e12_10, e12_13, e12_16, e12_17, e12_19, e12_22, e12_24, e12_25, e12_26, e12_29, e12_30, e12_31, e12_34, e12_35, e12_36, e12_39, e12_40, e12_41, e12_42, e12_45, e12_46, e12_47, e12_50, s13, s14, s15, ok0, sK hs, h2, h3, h4, not_true_eq_false, not_false_eq_true, if_true, if_false, and_self, vh_bds, vh_ps1, vh_ps0, vb0, vb1, vbz, vbo]
theorem s12c {s n : Nat} {l : Int32} (hs : s < 8) (h2 : 0 ≤ l ∧ l ≤ 2) (h3 : n ≤ 60) : vh_C 12 [.ref 0, .int (nI s), .int l, .int (nI n)] (vh_K d mi ml) = some (some (.int (nI n)), vh_K d (vh_sA (vh_sA (vh_sA (vh_sA mi 2 (upd (mi 2) s l)) 3 (upd (mi 3) s (nI n))) 4 (clr (mi 4) (s * 60) (s * 60 + n))) 0 (upd (mi 0) 12 0)) ml) := by
  have h60 : nI n ≤ 60 := nI_le (b := 60) h3 (by decide)
  have h0 : 0 ≤ nI n := nI_pos' (by omega)
  simp only [c12, e12_0, e12_1, e12_4, e12_7, e12_8, e12_9, e12_10, e12_13, e12_16, e12_17, e12_19, e12_22, e12_24, e12_25, e12_26, e12_29, e12_30, e12_31, e12_34, e12_35, e12_36, e12_39, e12_40, e12_41, e12_42, e12_45, e12_46, e12_47, e12_50, s13, s14, s15, s16 hs h3, s17, ok0, ok1, rf0_0, sK hs, h2, h60, h0, not_true_eq_false, not_false_eq_true, if_true, if_false, and_self, vh_bds, vh_ps1, vh_ps0, vb0, vb1, vbz, vbo, sAn, sAs, sAA, ups, upn, bkv_n, hlv_n, ne_eq, Nat.reduceEqDiff, Nat.reduceLT, Nat.reduceLeDiff, or_true, true_or, not_false_eq_true]
theorem l147 {s : Nat} {l2 : Option Value} {n : Int32} (hs : s < 8) : ∀ (r k : Nat) (mi : Nat → Nat → Int32), k + r = 60 → vh_E 147 65 [some (.ref 88), some (.int (nI s)), l2, some (.int n), some (.int (nI k))] [] (vh_K d mi ml) = some (some (.int n), vh_K d (vh_sA mi 98 (clr (mi 98) (s * 60 + k) (s * 60 + 60))) ml) := by
  intro r
  induction r with
  | zero =>
    intro k mi hk
    have hk : k = 60 := hk
    subst hk
    rw [e147_65]
    simp only [e147_0, e147_1, e147_2, e147_5, e147_6, e147_9, e147_12, e147_13, e147_14, e147_15, e147_18, e147_21, e147_24, e147_25, e147_27, e147_30, e147_32, e147_33, e147_34, e147_35, e147_38, e147_39, e147_42, e147_43, e147_44, e147_47, e147_48, e147_49, e147_52, e147_53, e147_54, e147_55, e147_56, e147_59, e147_60, e147_61, e147_62, e147_63, e147_67, e147_69, e147_72, e147_73, e147_76, e147_78, e147_79, e147_80, e147_82, e147_83, e147_84, e147_85, e147_88, e147_91, e147_92, show (60 : Int32) ≤ nI 60 from by decide, if_true]
    rw [clr_0 (Nat.le_refl _), sAe]
  | succ r ih =>
    intro k mi hk
    have hx : vh_ixa 98 (nI (s * 60 + k)) = true := ixa (by rw [kd98]; omega) (by omega)
    have hc : (nI (s * 60 + k)).toNatClampNeg = s * 60 + k := nI_clamp (by omega)
    rw [e147_65]
    simp only [e147_0, e147_1, e147_2, e147_5, e147_6, e147_9, e147_12, e147_13, e147_14, e147_15, e147_18, e147_21, e147_24, e147_25, e147_27, e147_30, e147_32, e147_33, e147_34, e147_35, e147_38, e147_39, e147_42, e147_43, e147_44, e147_47, e147_48, e147_49, e147_52, e147_53, e147_54, e147_55, e147_56, e147_59, e147_60, e147_61, e147_62, e147_63, e147_67, e147_69, e147_72, e147_73, e147_76, e147_78, e147_79, e147_80, e147_82, e147_83, e147_84, e147_85, e147_88, e147_91, e147_92, ok88, ok98, rf88_11, y60, hx, hc, nI_1, if_neg (show ¬ (60 : Int32) ≤ nI k from nI_ge (b := 60) (show k < 60 by omega) (by decide))]
    rw [ih (k + 1) _ (by omega)]
    simp only [sAn, sAs, sAA, ups, upn, bkv_n, hlv_n, ne_eq, Nat.reduceEqDiff, Nat.reduceLT, Nat.reduceLeDiff, or_true, true_or, not_false_eq_true]
    rw [← Nat.add_assoc, clr_s (by omega)]
theorem in02 {l : Int32} {w : vh_W} : vh_C 149 [.long l.toInt64, .long 0, .long 2] w = some (some (.int (vb (0 ≤ l ∧ l ≤ 2))), w) := inI (lo := 0) (hi := 2) (show (0 : Int64) = (0 : Int32).toInt64 from by decide) (show (2 : Int64) = (2 : Int32).toInt64 from by decide)
theorem s147a {s l n : Int32} (h : ¬ ((0 ≤ s ∧ s ≤ 7) ∧ (0 ≤ l ∧ l ≤ 2) ∧ n ≤ 60)) : vh_C 147 [.ref 88, .int s, .int l, .int n] (vh_K d mi ml) = some (some (.int (-1000001)), vh_K d (vh_sA mi 88 (upd (mi 88) 0 0)) ml) := by
  simp only [c147, e147_0, e147_1, e147_2, e147_5, e147_6, e147_9, e147_12, e147_13, e147_14, e147_15, e147_18, e147_21, e147_24, e147_25, e147_27, e147_30, e147_32, e147_33, e147_34, e147_35, e147_38, e147_39, e147_42, e147_43, e147_44, e147_47, e147_48, e147_49, e147_52, e147_53, e147_54, e147_55, e147_56, e147_59, e147_60, e147_61, e147_62, e147_63, e147_67, e147_69, e147_72, e147_73, e147_76, e147_78, e147_79, e147_80, e147_82, e147_83, e147_84, e147_85, e147_88, e147_91, e147_92, s148, in02, ok88, not_true_eq_false, not_false_eq_true, if_true, if_false, and_self, vh_bds, vh_ps1, vh_ps0, vb0, vb1, vbz, vbo]
  by_cases h1 : 0 ≤ s ∧ s ≤ 7
  · rw [if_neg (not_not_intro h1)]
    by_cases h2 : 0 ≤ l ∧ l ≤ 2
    · rw [if_neg (not_not_intro h2), if_neg (fun q => h ⟨h1, h2, q⟩)]
    · rw [if_pos h2]
  · rw [if_pos h1]
theorem s147b {s : Nat} {l n : Int32} (hs : s < 8) (h2 : 0 ≤ l ∧ l ≤ 2) (h3 : n ≤ 60) (h4 : ¬ 0 ≤ n) : vh_C 147 [.ref 88, .int (nI s), .int l, .int n] (vh_K d mi ml) = some (some (.int (-1000010 - 4)), vh_K d (vh_sA mi 88 (upd (upd (upd (mi 88) 0 0) 1 0) 1 4)) ml) := by
  simp only [c147, e147_0, e147_1, e147_2, e147_5, e147_6, e147_9, e147_12, e147_13, e147_14, e147_15, e147_18, e147_21, e147_24, e147_25, e147_27, e147_30, e147_32, e147_33, e147_34, e147_35, e147_38, e147_39, e147_42, e147_43, e147_44, e147_47, e147_48, e147_49, e147_52, e147_53, e147_54, e147_55, e147_56, e147_59, e147_60, e147_61, e147_62, e147_63, e147_67, e147_69, e147_72, e147_73, e147_76, e147_78, e147_79, e147_80, e147_82, e147_83, e147_84, e147_85, e147_88, e147_91, e147_92, s148, in02, s150, ok88, sK hs, h2, h3, h4, not_true_eq_false, not_false_eq_true, if_true, if_false, and_self, vh_bds, vh_ps1, vh_ps0, vb0, vb1, vbz, vbo, sAn, sAs, sAA, ups, upn, bkv_n, hlv_n, ne_eq, Nat.reduceEqDiff, Nat.reduceLT, Nat.reduceLeDiff, or_true, true_or, not_false_eq_true]
theorem s147c {s n : Nat} {l : Int32} (hs : s < 8) (h2 : 0 ≤ l ∧ l ≤ 2) (h3 : n ≤ 60) : vh_C 147 [.ref 88, .int (nI s), .int l, .int (nI n)] (vh_K d mi ml) = some (some (.int (nI n)), vh_K d (vh_sA (vh_sA (vh_sA (vh_sA mi 88 (upd (upd (mi 88) 0 0) 1 0)) 96 (upd (mi 96) s l)) 97 (upd (mi 97) s (nI n))) 98 (clr (mi 98) (s * 60) (s * 60 + 60))) ml) := by
  have h60 : nI n ≤ 60 := nI_le (b := 60) h3 (by decide)
  have h0 : 0 ≤ nI n := nI_pos' (by omega)
  have hx : vh_ixa 96 (nI s) = true := ixa (by rw [kd96]; omega) (by omega)
  have hx3 : vh_ixa 97 (nI s) = true := ixa (by rw [kd97]; omega) (by omega)
  have hc : (nI s).toNatClampNeg = s := nI_clamp (by omega)
  simp only [c147, e147_0, e147_1, e147_2, e147_5, e147_6, e147_9, e147_12, e147_13, e147_14, e147_15, e147_18, e147_21, e147_24, e147_25, e147_27, e147_30, e147_32, e147_33, e147_34, e147_35, e147_38, e147_39, e147_42, e147_43, e147_44, e147_47, e147_48, e147_49, e147_52, e147_53, e147_54, e147_55, e147_56, e147_59, e147_60, e147_61, e147_62, e147_63, e147_67, e147_69, e147_72, e147_73, e147_76, e147_78, e147_79, e147_80, e147_82, e147_83, e147_84, e147_85, e147_88, e147_91, e147_92, s148, in02, ok88, ok96, ok97, rf88_9, rf88_10, hx, hx3, hc, sK hs, h2, h60, h0, not_true_eq_false, not_false_eq_true, if_true, if_false, and_self, vh_bds, vh_ps1, vh_ps0, vb0, vb1, vbz, vbo, sAn, sAs, sAA, ups, upn, bkv_n, hlv_n, ne_eq, Nat.reduceEqDiff, Nat.reduceLT, Nat.reduceLeDiff, or_true, true_or, not_false_eq_true]
  rw [show (0 : Int32) = nI 0 from rfl, l147 hs 60 0 _ (by omega)]
  simp only [sAn, sAs, sAA, ups, upn, bkv_n, hlv_n, ne_eq, Nat.reduceEqDiff, Nat.reduceLT, Nat.reduceLeDiff, or_true, true_or, not_false_eq_true, Nat.add_zero]
theorem sim_sheet {s l n : Int32} (h : Rel d mi) : Sim 12 147 [.int s, .int l, .int n] d mi ml := by
  by_cases hg : (0 ≤ s ∧ s ≤ 7) ∧ (0 ≤ l ∧ l ≤ 2) ∧ n ≤ 60
  · obtain ⟨hs, h2, h3⟩ := hg
    obtain ⟨k, hk, rfl⟩ := sN hs
    by_cases h4 : 0 ≤ n
    · obtain ⟨m, hm, rfl⟩ := nIr h4 (show n ≤ nI 60 from h3) (by decide)
      refine Sim.mk (s12c hk h2 hm) (s147c hk h2 hm) rfl ?_
      have hR := h.2.2.2.1
      unfold Rel at h ⊢
      simp only [sAn, sAs, sAA, ups, upn, bkv_n, hlv_n, ne_eq, Nat.reduceEqDiff, Nat.reduceLT, Nat.reduceLeDiff, or_true, true_or, not_false_eq_true]
      refine ⟨h.1, h.2.1, trivial, ?_, h.2.2.2.2⟩
      obtain ⟨y, hy, rfl⟩ := nIr h2.1 (show l ≤ nI 2 from h2.2) (by decide)
      intro t ht
      obtain ⟨f1, f2, f3, z', hz', f4, f5⟩ := hR t ht
      by_cases htk : t = k
      · subst htk
        rw [ups, ups, ups, ups]
        refine ⟨rfl, rfl, ?_, m, hm, rfl, fun _ i hi => ?_⟩
        · rcases (show y = 0 ∨ y = 1 ∨ y = 2 by omega) with rfl | rfl | rfl
          · exact Or.inr (Or.inl rfl)
          · exact Or.inr (Or.inr (Or.inl rfl))
          · exact Or.inr (Or.inr (Or.inr rfl))
        · unfold clr
          rw [if_pos (by omega), if_pos (by omega)]
      · rw [upn htk, upn htk, upn htk, upn htk]
        refine ⟨f1, f2, f3, z', hz', f4, fun q i hi => ?_⟩
        unfold clr
        rw [if_neg (by omega), if_neg (by omega)]
        exact f5 q i hi
    · refine Sim.mk (s12b hk h2 h3 h4) (s147b hk h2 h3 h4) rfl ?_
      simp only [sAn, sAs, sAA, ups, upn, bkv_n, hlv_n, ne_eq, Nat.reduceEqDiff, Nat.reduceLT, Nat.reduceLeDiff, or_true, true_or, not_false_eq_true]
      exact h.stat
  · exact Sim.mk (s12a hg) (s147a hg) rfl h.thrown
end

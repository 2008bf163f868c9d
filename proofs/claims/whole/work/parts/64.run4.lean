section
variable {d : Nat} {mi : Nat → Nat → Int32} {ml : Nat → Nat → Int64} {n : Nat}
def tmG (h dy q : Int32) : Prop := (0 ≤ h ∧ h ≤ 3) ∧ (0 ≤ dy ∧ dy ≤ 364) ∧ (0 ≤ q ∧ q ≤ 96)
theorem s196t {h dy q : Int32} {w : vh_W} (hg : tmG h dy q) : vh_C 196 [.int h, .int dy, .int q] w = some (some (.int 1), w) := by
  simp only [c196, e196_0, e196_1, e196_4, e196_7, e196_8, e196_11, e196_14, e196_15, e196_16, e196_17, e196_20, e196_23, e196_26, e196_27, e196_30, e196_31, s172, s174, in_0_96, hg.1, hg.2.1, hg.2.2, not_true_eq_false, not_false_eq_true, if_true, if_false, and_self, vh_bds, vh_ps1, vh_ps0, vb0, vb1, vbz, vbo]
theorem s196f {h dy q : Int32} {w : vh_W} (hg : ¬ tmG h dy q) : vh_C 196 [.int h, .int dy, .int q] w = some (some (.int 0), w) := by
  simp only [c196, e196_0, e196_1, e196_4, e196_7, e196_8, e196_11, e196_14, e196_15, e196_16, e196_17, e196_20, e196_23, e196_26, e196_27, e196_30, e196_31, s172, s174, in_0_96, not_true_eq_false, not_false_eq_true, if_true, if_false, and_self, vh_bds, vh_ps1, vh_ps0, vb0, vb1, vbz, vbo]
  by_cases h1 : 0 ≤ h ∧ h ≤ 3
  · rw [if_neg (not_not_intro h1)]
    by_cases h2 : 0 ≤ dy ∧ dy ≤ 364
    · rw [if_neg (not_not_intro h2), if_pos (fun z => hg ⟨h1, h2, z⟩)]
    · rw [if_pos h2]
  · rw [if_pos h1]
theorem s104t {h dy q : Int32} {w : vh_W} (hg : tmG h dy q) : vh_C 104 [.int h, .int dy, .int q, .int 96] w = some (some (.int 1), w) := by
  unfold tmG at hg
  rw [s104, vb_t hg]
theorem s104f {h dy q : Int32} {w : vh_W} (hg : ¬ tmG h dy q) : vh_C 104 [.int h, .int dy, .int q, .int 96] w = some (some (.int 0), w) := by
  unfold tmG at hg
  rw [s104, vb_f hg]
theorem tm_n {h dy q : Int32} (hg : tmG h dy q) : ∃ U, U ≤ 35040 ∧ dy * 96 + q = nI U ∧ 96 * dy + q = nI U := by
  obtain ⟨-, h2, h3⟩ := hg
  obtain ⟨D, hD, rfl⟩ := nIr h2.1 (show dy ≤ nI 364 from h2.2) (by decide)
  obtain ⟨Q, hQ, rfl⟩ := nIr h3.1 (show q ≤ nI 96 from h3.2) (by decide)
  refine ⟨D * 96 + Q, by omega, ?_, ?_⟩
  · rw [show nI D * 96 = nI (D * 96) from pk_mul D 96, nI_add]
  · rw [show 96 * nI D = nI (96 * D) from pk_mul 96 D, nI_add, Nat.mul_comm 96 D]
theorem sim_run {h dy q : Int32} (hR : Rel d mi) : Sim 107 195 [.int h, .int dy, .int q] d mi ml := by
  by_cases hg : tmG h dy q
  · obtain ⟨U, hU, e1, e2⟩ := tm_n hg
    obtain ⟨V, hV, A, Bq⟩ := rn_both (ml := ml) (h := h) hR hU
    have A2 : vh_C 107 [.ref 0, .int h, .int dy, .int q] (vh_K d mi ml) = some (some (.int (nI V)), vh_K d mi ml) := by
      simp only [c107, e107_0, e107_1, e107_2, e107_3, e107_5, e107_8, e107_11, e107_13, e107_14, e107_15, e107_16, e107_17, e107_18, e107_21, e107_24, s104t hg, s105, e1, A, show ¬ (1 : Int32) = 0 by decide, ok0, not_true_eq_false, not_false_eq_true, if_true, if_false, and_self, vh_bds, vh_ps1, vh_ps0, vb0, vb1, vbz, vbo]
    have B2 : vh_C 195 [.ref 88, .int h, .int dy, .int q] (vh_K d mi ml) = some (some (.int (nI V)), vh_K d (vh_sA mi 88 (upd (mi 88) 0 0)) ml) := by
      simp only [c195, e195_0, e195_1, e195_2, e195_5, e195_6, e195_7, e195_8, e195_11, e195_14, e195_15, e195_16, e195_18, e195_19, e195_20, e195_21, e195_22, e195_25, e195_28, e195_30, s196t hg, e2, Bq, show ¬ (1 : Int32) = 0 by decide, ok88, not_true_eq_false, not_false_eq_true, if_true, if_false, and_self, vh_bds, vh_ps1, vh_ps0, vb0, vb1, vbz, vbo]
    exact Sim.mk A2 B2 rfl hR.thrown
  · have A2 : vh_C 107 [.ref 0, .int h, .int dy, .int q] (vh_K d mi ml) = some (some (.int (-1000001)), vh_K d mi ml) := by
      simp only [c107, e107_0, e107_1, e107_2, e107_3, e107_5, e107_8, e107_11, e107_13, e107_14, e107_15, e107_16, e107_17, e107_18, e107_21, e107_24, s104f hg, ok0, not_true_eq_false, not_false_eq_true, if_true, if_false, and_self, vh_bds, vh_ps1, vh_ps0, vb0, vb1, vbz, vbo]
    have B2 : vh_C 195 [.ref 88, .int h, .int dy, .int q] (vh_K d mi ml) = some (some (.int (-1000001)), vh_K d (vh_sA mi 88 (upd (mi 88) 0 0)) ml) := by
      simp only [c195, e195_0, e195_1, e195_2, e195_5, e195_6, e195_7, e195_8, e195_11, e195_14, e195_15, e195_16, e195_18, e195_19, e195_20, e195_21, e195_22, e195_25, e195_28, e195_30, s196f hg, ok88, not_true_eq_false, not_false_eq_true, if_true, if_false, and_self, vh_bds, vh_ps1, vh_ps0, vb0, vb1, vbz, vbo]
    exact Sim.mk A2 B2 rfl hR.thrown
theorem in_15 {l : Int32} {w : vh_W} : vh_C 149 [.long l.toInt64, .long (-15), .long 15] w = some (some (.int (vb (-15 ≤ l ∧ l ≤ 15))), w) := inI (lo := -15) (hi := 15) (by decide) (by decide)
theorem sim_meter {h dy q m : Int32} (hR : Rel d mi) : Sim 109 198 [.int h, .int dy, .int q, .int m] d mi ml := by
  by_cases hg : tmG h dy q
  · by_cases hm : 0 ≤ m ∧ m ≤ 100000
    · obtain ⟨U, hU, e1, e2⟩ := tm_n hg
      obtain ⟨V, hV, A, Bq⟩ := rn_both (ml := ml) (h := h) hR hU
      have A2 : vh_C 109 [.ref 0, .int h, .int dy, .int q, .int m] (vh_K d mi ml) = some (some (.int (vb (nI V - 15 ≤ m ∧ m ≤ nI V + 15))), vh_K d mi ml) := by
        simp only [c109, e109_0, e109_1, e109_2, e109_3, e109_5, e109_8, e109_11, e109_13, e109_14, e109_16, e109_19, e109_22, e109_24, e109_25, e109_26, e109_27, e109_28, e109_29, e109_32, e109_35, e109_37, e109_39, e109_41, e109_43, e109_44, e109_46, e109_48, e109_49, e109_52, e109_55, e109_56, e109_59, e109_60, s104t hg, s105, s14, e1, A, show ¬ (1 : Int32) = 0 by decide, hm, ok0, not_true_eq_false, not_false_eq_true, if_true, if_false, and_self, vh_bds, vh_ps1, vh_ps0, vb0, vb1, vbz, vbo]
        by_cases z : nI V - 15 ≤ m ∧ m ≤ nI V + 15
        · rw [if_neg (not_not_intro z), vb_t z]
        · rw [if_pos z, vb_f z]
      have B2 : vh_C 198 [.ref 88, .int h, .int dy, .int q, .int m] (vh_K d mi ml) = some (some (.int (vb (-15 ≤ m - nI V ∧ m - nI V ≤ 15))), vh_K d (vh_sA mi 88 (upd (mi 88) 0 0)) ml) := by
        simp only [c198, e198_0, e198_1, e198_2, e198_5, e198_6, e198_7, e198_8, e198_11, e198_14, e198_16, e198_17, e198_18, e198_21, e198_24, e198_27, e198_29, e198_32, e198_34, e198_35, e198_36, e198_38, e198_39, e198_40, e198_41, e198_42, e198_45, e198_46, e198_47, e198_50, e198_53, e198_56, e198_59, e198_60, e198_63, e198_64, s196t hg, in_0_100000, in_15, e2, Bq, show ¬ (1 : Int32) = 0 by decide, hm, ok88, not_true_eq_false, not_false_eq_true, if_true, if_false, and_self, vh_bds, vh_ps1, vh_ps0, vb0, vb1, vbz, vbo]
        by_cases z : -15 ≤ m - nI V ∧ m - nI V ≤ 15
        · rw [if_neg (not_not_intro z), vb_t z]
        · rw [if_pos z, vb_f z]
      refine Sim.mk A2 B2 ?_ hR.thrown
      obtain ⟨k, hk, rfl⟩ := nIr hm.1 (show m ≤ nI 100000 from hm.2) (by decide)
      apply vbc
      have t1 : (nI k - nI V).toInt = (k : Int) - V := pk_sub_toInt (by omega) (by omega)
      have t2 : (nI V - 15).toInt = (V : Int) - 15 := pk_sub_toInt (b := 15) (by omega) (by decide)
      have t3 : (nI V + 15).toInt = (V : Int) + 15 := by rw [show nI V + 15 = nI (V + 15) from nI_add V 15, nI_toInt (by omega)]; rfl
      have t4 : (nI k).toInt = (k : Int) := nI_toInt (by omega)
      rw [i32_leI, i32_leI, i32_leI, i32_leI, t1, t2, t3, t4, show (-15 : Int32).toInt = -15 from rfl, show (15 : Int32).toInt = 15 from rfl]
      omega
    · have A2 : vh_C 109 [.ref 0, .int h, .int dy, .int q, .int m] (vh_K d mi ml) = some (some (.int (-1000001)), vh_K d mi ml) := by
        simp only [c109, e109_0, e109_1, e109_2, e109_3, e109_5, e109_8, e109_11, e109_13, e109_14, e109_16, e109_19, e109_22, e109_24, e109_25, e109_26, e109_27, e109_28, e109_29, e109_32, e109_35, e109_37, e109_39, e109_41, e109_43, e109_44, e109_46, e109_48, e109_49, e109_52, e109_55, e109_56, e109_59, e109_60, s104t hg, s14, show ¬ (1 : Int32) = 0 by decide, hm, ok0, not_true_eq_false, not_false_eq_true, if_true, if_false, and_self, vh_bds, vh_ps1, vh_ps0, vb0, vb1, vbz, vbo]
      have B2 : vh_C 198 [.ref 88, .int h, .int dy, .int q, .int m] (vh_K d mi ml) = some (some (.int (-1000001)), vh_K d (vh_sA mi 88 (upd (mi 88) 0 0)) ml) := by
        simp only [c198, e198_0, e198_1, e198_2, e198_5, e198_6, e198_7, e198_8, e198_11, e198_14, e198_16, e198_17, e198_18, e198_21, e198_24, e198_27, e198_29, e198_32, e198_34, e198_35, e198_36, e198_38, e198_39, e198_40, e198_41, e198_42, e198_45, e198_46, e198_47, e198_50, e198_53, e198_56, e198_59, e198_60, e198_63, e198_64, s196t hg, in_0_100000, show ¬ (1 : Int32) = 0 by decide, hm, ok88, not_true_eq_false, not_false_eq_true, if_true, if_false, and_self, vh_bds, vh_ps1, vh_ps0, vb0, vb1, vbz, vbo]
      exact Sim.mk A2 B2 rfl hR.thrown
  · have A2 : vh_C 109 [.ref 0, .int h, .int dy, .int q, .int m] (vh_K d mi ml) = some (some (.int (-1000001)), vh_K d mi ml) := by
      simp only [c109, e109_0, e109_1, e109_2, e109_3, e109_5, e109_8, e109_11, e109_13, e109_14, e109_16, e109_19, e109_22, e109_24, e109_25, e109_26, e109_27, e109_28, e109_29, e109_32, e109_35, e109_37, e109_39, e109_41, e109_43, e109_44, e109_46, e109_48, e109_49, e109_52, e109_55, e109_56, e109_59, e109_60, s104f hg, ok0, not_true_eq_false, not_false_eq_true, if_true, if_false, and_self, vh_bds, vh_ps1, vh_ps0, vb0, vb1, vbz, vbo]
    have B2 : vh_C 198 [.ref 88, .int h, .int dy, .int q, .int m] (vh_K d mi ml) = some (some (.int (-1000001)), vh_K d (vh_sA mi 88 (upd (mi 88) 0 0)) ml) := by
      simp only [c198, e198_0, e198_1, e198_2, e198_5, e198_6, e198_7, e198_8, e198_11, e198_14, e198_16, e198_17, e198_18, e198_21, e198_24, e198_27, e198_29, e198_32, e198_34, e198_35, e198_36, e198_38, e198_39, e198_40, e198_41, e198_42, e198_45, e198_46, e198_47, e198_50, e198_53, e198_56, e198_59, e198_60, e198_63, e198_64, s196f hg, ok88, not_true_eq_false, not_false_eq_true, if_true, if_false, and_self, vh_bds, vh_ps1, vh_ps0, vb0, vb1, vbz, vbo]
    exact Sim.mk A2 B2 rfl hR.thrown
end

section
variable {d : Nat} {mi : Nat → Nat → Int32} {ml : Nat → Nat → Int64}
theorem s24 {a i b j n : Nat} (h1 : a * 60 + i + n ≤ 480) (h2 : b * 60 + j + n ≤ 480) : vh_C 24 [.ref 1, .int (nI a), .int (nI i), .int (nI b), .int (nI j), .int (nI n)] (vh_K d mi ml) = some (none, vh_K d (vh_sA mi 4 (va_cpy (mi 4) (mi 4) (a * 60 + i) (b * 60 + j) n)) ml) := by
  have c1 : (nI (a * 60 + i)).toNatClampNeg = a * 60 + i := nI_clamp (by omega)
  have c2 : (nI (b * 60 + j)).toNatClampNeg = b * 60 + j := nI_clamp (by omega)
  have c3 : (nI n).toNatClampNeg = n := nI_clamp (by omega)
  have hp : ¬ nI (a * 60 + i) < 0 ∧ ¬ nI (b * 60 + j) < 0 ∧ ¬ nI n < 0 ∧ (nI (a * 60 + i)).toNatClampNeg + (nI n).toNatClampNeg ≤ (vh_kd 4).2 ∧ (nI (b * 60 + j)).toNatClampNeg + (nI n).toNatClampNeg ≤ (vh_kd 4).2 := by
    rw [c1, c2, c3, kd4]
    exact ⟨nI_pos (by omega), nI_pos (by omega), nI_pos (by omega), h1, h2⟩
  simp only [c24, e24_0, e24_1, e24_4, e24_5, e24_7, e24_8, e24_9, e24_10, e24_11, e24_14, e24_15, e24_17, e24_18, e24_20, e24_21, e24_26, ok1, rf1_2, x60]
  rw [e24_23 ok4 hp, c1, c2, c3]
  simp only [e24_0, e24_1, e24_4, e24_5, e24_7, e24_8, e24_9, e24_10, e24_11, e24_14, e24_15, e24_17, e24_18, e24_20, e24_21, e24_26]
/-- the places of a copy -/
def cpG (i j n : Int32) (za zb : Nat) : Prop := ∃ k y m : Nat, i = nI k ∧ j = nI y ∧ n = nI m ∧ k + m ≤ za ∧ y + m ≤ zb
theorem cpC {i j n : Int32} {za zb : Nat} (ha : za ≤ 60) (hb : zb ≤ 60) : ((0 ≤ i ∧ 0 ≤ n ∧ n ≤ nI za ∧ i ≤ nI za - n) ∧ (0 ≤ j ∧ 0 ≤ n ∧ n ≤ nI zb ∧ j ≤ nI zb - n)) ↔ cpG i j n za zb := by
  rw [hpN (by omega), hpN (by omega)]
  constructor
  · rintro ⟨⟨k, m, rfl, rfl, h1⟩, y, m', rfl, e, h2⟩
    have : m = m' := (nI_eq (by omega) (by omega)).mp e
    subst this
    exact ⟨k, y, m, rfl, rfl, rfl, h1, h2⟩
  · rintro ⟨k, y, m, rfl, rfl, rfl, h1, h2⟩
    exact ⟨⟨k, m, rfl, rfl, h1⟩, y, m, rfl, rfl, h2⟩
theorem cpL {k m z : Nat} (hk : k < 2 ^ 31) (hm : m < 2 ^ 31) (hz : z ≤ 60) : ((nI z).toInt64 < (nI k).toInt64 + (nI m).toInt64) ↔ z < k + m := by
  rw [nI_l (by omega), nI_l hk, nI_l hm, lN_add, pk_lLT (by omega) (by omega)]
theorem cpR {i j n : Int32} {za zb : Nat} (ha : za ≤ 60) (hb : zb ≤ 60) : ¬ (i < 0 ∨ j < 0 ∨ n < 0 ∨ (nI za).toInt64 < i.toInt64 + n.toInt64 ∨ ¬ (j.toInt64 + n.toInt64 ≤ (nI zb).toInt64)) ↔ cpG i j n za zb := by
  constructor
  · intro h
    have h1 : ¬ i < 0 := fun q => h (Or.inl q)
    have h2 : ¬ j < 0 := fun q => h (Or.inr (Or.inl q))
    have h3 : ¬ n < 0 := fun q => h (Or.inr (Or.inr (Or.inl q)))
    obtain ⟨k, hk, rfl⟩ := nI_of h1
    obtain ⟨y, hy, rfl⟩ := nI_of h2
    obtain ⟨m, hm, rfl⟩ := nI_of h3
    have h4 : ¬ za < k + m := fun q => h (Or.inr (Or.inr (Or.inr (Or.inl ((cpL hk hm ha).mpr q)))))
    have h5 : ¬ zb < y + m := fun q => h (Or.inr (Or.inr (Or.inr (Or.inr (Int64.not_le.mpr ((cpL hy hm hb).mpr q))))))
    exact ⟨k, y, m, rfl, rfl, rfl, by omega, by omega⟩
  · rintro ⟨k, y, m, rfl, rfl, rfl, h1, h2⟩ q
    rcases q with q | q | q | q | q
    · exact nI_pos (by omega) q
    · exact nI_pos (by omega) q
    · exact nI_pos (by omega) q
    · have := (cpL (by omega) (by omega) ha).mp q; omega
    · have := (cpL (k := y) (by omega) (by omega) hb).mp (Int64.not_le.mp q); omega
theorem s22a {a i b j n : Int32} (h : ¬ ((0 ≤ a ∧ a ≤ 7) ∧ (0 ≤ b ∧ b ≤ 7))) : vh_C 22 [.ref 0, .int a, .int i, .int b, .int j, .int n] (vh_K d mi ml) = some (some (.int (-1000001)), vh_K d mi ml) := by
  simp only [c22, e22_0, e22_1, e22_4, e22_7, e22_8, e22_11, e22_14, e22_16, e22_17, e22_18, e22_21, e22_22, e22_25, e22_28, e22_29, e22_32, e22_33, e22_36, e22_39, e22_40, e22_41, e22_44, e22_45, e22_46, e22_49, e22_50, e22_51, e22_54, e22_57, e22_58, e22_59, e22_62, e22_63, e22_64, e22_67, e22_68, e22_69, e22_71, e22_74, e22_77, e22_78, e22_81, e22_82, e22_84, e22_86, e22_89, e22_92, e22_93, e22_94, e22_97, e22_98, e22_99, e22_102, e22_103, e22_104, e22_105, e22_107, e22_109, e22_112, e22_113, e22_115, e22_118, s13, ok0, not_true_eq_false, not_false_eq_true, if_true, if_false, and_self, vh_bds, vh_ps1, vh_ps0, vb0, vb1, vbz, vbo]
  by_cases h1 : 0 ≤ a ∧ a ≤ 7
  · have h2 : ¬ (0 ≤ b ∧ b ≤ 7) := fun q => h ⟨h1, q⟩
    simp only [h1, h2, not_true_eq_false, not_false_eq_true, if_true, if_false, and_self, vh_bds, vh_ps1, vh_ps0, vb0, vb1, vbz, vbo]
  · simp only [h1, not_true_eq_false, not_false_eq_true, if_true, if_false, and_self, vh_bds, vh_ps1, vh_ps0, vb0, vb1, vbz, vbo]
theorem s22b {a b : Nat} {i j n : Int32} (ha : a < 8) (hb : b < 8) (h : mi 2 a = -1 ∨ mi 2 b = -1) : vh_C 22 [.ref 0, .int (nI a), .int i, .int (nI b), .int j, .int n] (vh_K d mi ml) = some (some (.int (-1000010 - 1)), vh_K d (vh_sA mi 0 (upd (mi 0) 12 1)) ml) := by
  by_cases h1 : mi 2 a = -1
  · simp only [c22, e22_0, e22_1, e22_4, e22_7, e22_8, e22_11, e22_14, e22_16, e22_17, e22_18, e22_21, e22_22, e22_25, e22_28, e22_29, e22_32, e22_33, e22_36, e22_39, e22_40, e22_41, e22_44, e22_45, e22_46, e22_49, e22_50, e22_51, e22_54, e22_57, e22_58, e22_59, e22_62, e22_63, e22_64, e22_67, e22_68, e22_69, e22_71, e22_74, e22_77, e22_78, e22_81, e22_82, e22_84, e22_86, e22_89, e22_92, e22_93, e22_94, e22_97, e22_98, e22_99, e22_102, e22_103, e22_104, e22_105, e22_107, e22_109, e22_112, e22_113, e22_115, e22_118, s13, s19 ha, s15, ok0, ok1, rf0_0, sK ha, sK hb, h1, not_true_eq_false, not_false_eq_true, if_true, if_false, and_self, vh_bds, vh_ps1, vh_ps0, vb0, vb1, vbz, vbo]
  · have h2 := h.resolve_left h1
    simp only [c22, e22_0, e22_1, e22_4, e22_7, e22_8, e22_11, e22_14, e22_16, e22_17, e22_18, e22_21, e22_22, e22_25, e22_28, e22_29, e22_32, e22_33, e22_36, e22_39, e22_40, e22_41, e22_44, e22_45, e22_46, e22_49, e22_50, e22_51, e22_54, e22_57, e22_58, e22_59, e22_62, e22_63, e22_64, e22_67, e22_68, e22_69, e22_71, e22_74, e22_77, e22_78, e22_81, e22_82, e22_84, e22_86, e22_89, e22_92, e22_93, e22_94, e22_97, e22_98, e22_99, e22_102, e22_103, e22_104, e22_105, e22_107, e22_109, e22_112, e22_113, e22_115, e22_118, s13, s19 ha, s19 hb, s15, ok0, ok1, rf0_0, sK ha, sK hb, h1, h2, not_true_eq_false, not_false_eq_true, if_true, if_false, and_self, vh_bds, vh_ps1, vh_ps0, vb0, vb1, vbz, vbo]
theorem s22c {a b : Nat} {i j n : Int32} (ha : a < 8) (hb : b < 8) (h1 : ¬ mi 2 a = -1) (h2 : ¬ mi 2 b = -1) (h3 : ¬ mi 2 a = mi 2 b) : vh_C 22 [.ref 0, .int (nI a), .int i, .int (nI b), .int j, .int n] (vh_K d mi ml) = some (some (.int (-1000010 - 5)), vh_K d (vh_sA mi 0 (upd (mi 0) 12 5)) ml) := by
  simp only [c22, e22_0, e22_1, e22_4, e22_7, e22_8, e22_11, e22_14, e22_16, e22_17, e22_18, e22_21, e22_22, e22_25, e22_28, e22_29, e22_32, e22_33, e22_36, e22_39, e22_40, e22_41, e22_44, e22_45, e22_46, e22_49, e22_50, e22_51, e22_54, e22_57, e22_58, e22_59, e22_62, e22_63, e22_64, e22_67, e22_68, e22_69, e22_71, e22_74, e22_77, e22_78, e22_81, e22_82, e22_84, e22_86, e22_89, e22_92, e22_93, e22_94, e22_97, e22_98, e22_99, e22_102, e22_103, e22_104, e22_105, e22_107, e22_109, e22_112, e22_113, e22_115, e22_118, s13, s19 ha, s19 hb, s23 ha hb, s15, ok0, ok1, rf0_0, sK ha, sK hb, h1, h2, h3, not_true_eq_false, not_false_eq_true, if_true, if_false, and_self, vh_bds, vh_ps1, vh_ps0, vb0, vb1, vbz, vbo]
theorem s22d {a b za zb : Nat} {i j n : Int32} (ha : a < 8) (hb : b < 8) (h1 : ¬ mi 2 b = -1) (h3 : mi 2 a = mi 2 b) (e1 : mi 3 a = nI za) (e2 : mi 3 b = nI zb) (hza : za ≤ 60) (hzb : zb ≤ 60) (hG : ¬ cpG i j n za zb) : vh_C 22 [.ref 0, .int (nI a), .int i, .int (nI b), .int j, .int n] (vh_K d mi ml) = some (some (.int (-1000010 - 2)), vh_K d (vh_sA mi 0 (upd (mi 0) 12 2)) ml) := by
  simp only [c22, e22_0, e22_1, e22_4, e22_7, e22_8, e22_11, e22_14, e22_16, e22_17, e22_18, e22_21, e22_22, e22_25, e22_28, e22_29, e22_32, e22_33, e22_36, e22_39, e22_40, e22_41, e22_44, e22_45, e22_46, e22_49, e22_50, e22_51, e22_54, e22_57, e22_58, e22_59, e22_62, e22_63, e22_64, e22_67, e22_68, e22_69, e22_71, e22_74, e22_77, e22_78, e22_81, e22_82, e22_84, e22_86, e22_89, e22_92, e22_93, e22_94, e22_97, e22_98, e22_99, e22_102, e22_103, e22_104, e22_105, e22_107, e22_109, e22_112, e22_113, e22_115, e22_118, s13, s19 ha, s19 hb, s20 ha, s20 hb, s23 ha hb, s15, ok0, ok1, rf0_0, sK ha, sK hb, h1, h3, e1, e2, not_true_eq_false, not_false_eq_true, if_true, if_false, and_self, vh_bds, vh_ps1, vh_ps0, vb0, vb1, vbz, vbo]
  rw [← cpC hza hzb] at hG
  by_cases q1 : 0 ≤ i ∧ 0 ≤ n ∧ n ≤ nI za ∧ i ≤ nI za - n
  · have q2 : ¬ (0 ≤ j ∧ 0 ≤ n ∧ n ≤ nI zb ∧ j ≤ nI zb - n) := fun q => hG ⟨q1, q⟩
    rw [if_neg (not_not_intro q1), if_neg (not_not_intro q2)]
  · rw [if_pos q1]
theorem s22e {a b za zb k y m : Nat} (ha : a < 8) (hb : b < 8) (h1 : ¬ mi 2 b = -1) (h3 : mi 2 a = mi 2 b) (e1 : mi 3 a = nI za) (e2 : mi 3 b = nI zb) (hza : za ≤ 60) (hzb : zb ≤ 60) (g1 : k + m ≤ za) (g2 : y + m ≤ zb) : vh_C 22 [.ref 0, .int (nI a), .int (nI k), .int (nI b), .int (nI y), .int (nI m)] (vh_K d mi ml) = some (some (.int (nI m)), vh_K d (vh_sA (vh_sA mi 4 (va_cpy (mi 4) (mi 4) (a * 60 + k) (b * 60 + y) m)) 0 (upd (mi 0) 12 0)) ml) := by
  have q := (cpC (i := nI k) (j := nI y) (n := nI m) hza hzb).mpr ⟨k, y, m, rfl, rfl, rfl, g1, g2⟩
  simp only [c22, e22_0, e22_1, e22_4, e22_7, e22_8, e22_11, e22_14, e22_16, e22_17, e22_18, e22_21, e22_22, e22_25, e22_28, e22_29, e22_32, e22_33, e22_36, e22_39, e22_40, e22_41, e22_44, e22_45, e22_46, e22_49, e22_50, e22_51, e22_54, e22_57, e22_58, e22_59, e22_62, e22_63, e22_64, e22_67, e22_68, e22_69, e22_71, e22_74, e22_77, e22_78, e22_81, e22_82, e22_84, e22_86, e22_89, e22_92, e22_93, e22_94, e22_97, e22_98, e22_99, e22_102, e22_103, e22_104, e22_105, e22_107, e22_109, e22_112, e22_113, e22_115, e22_118, s13, s19 ha, s19 hb, s20 ha, s20 hb, s23 ha hb, s24 (show a * 60 + k + m ≤ 480 by omega) (show b * 60 + y + m ≤ 480 by omega), s17, ok0, ok1, rf0_0, sK ha, sK hb, h1, h3, e1, e2, q.1, q.2, not_true_eq_false, not_false_eq_true, if_true, if_false, and_self, vh_bds, vh_ps1, vh_ps0, vb0, vb1, vbz, vbo, sAn, sAs, sAA, ups, upn, bkv_n, hlv_n, ne_eq, Nat.reduceEqDiff, Nat.reduceLT, Nat.reduceLeDiff, or_true, true_or, not_false_eq_true]
end

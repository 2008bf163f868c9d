section
variable {d : Nat} {mi : Nat → Nat → Int32} {ml : Nat → Nat → Int64}
/-- what a hall tells: fields, fire, rate, rank as they are read -/
def hlT (f fi ra rk : Nat → Int32) (x : Int32) : Int32 :=
  if x = 0 then f 0 else if x = 1 then f 1 else if x = 2 then f 2 else if x = 3 then f 3 else if x = 4 then fi 0 else if x = 5 then fi 1
  else if 10 ≤ x ∧ x ≤ 14 then ra (x - 10).toNatClampNeg else if 20 ≤ x ∧ x ≤ 24 then rk (x - 20).toNatClampNeg else -1000001
theorem rgN {x : Int32} {a b : Nat} (hb : b < 2 ^ 31) (hab : a ≤ b) (h : nI a ≤ x ∧ x ≤ nI b) : ∃ u, u ≤ b - a ∧ x = nI (a + u) := by
  obtain ⟨k, hk, rfl⟩ := nIr (Int32.le_trans (nI_pos' (by omega)) h.1) h.2 hb
  have := (nI_leI (by omega) (by omega)).mp h.1
  exact ⟨k - a, by omega, by rw [show a + (k - a) = k by omega]⟩
theorem s62 {k : Nat} {x : Int32} (hk : k < 4) : vh_C 62 [.ref (6 + 4 * k), .int x] (vh_K d mi ml) = some (some (.int (hlT (mi (6 + 4 * k)) (mi (7 + 4 * k)) (mi (8 + 4 * k)) (mi (9 + 4 * k)) x)), vh_K d mi ml) := by
  by_cases h1 : 10 ≤ x ∧ x ≤ 14
  · obtain ⟨u, hu, rfl⟩ := rgN (a := 10) (b := 14) (by decide) (by decide) h1
    have e : nI (10 + u) - 10 = nI u := by rw [show (10 : Int32) = nI 10 from rfl, pk_sub (by omega)]; congr 1; omega
    have hx : vh_ixa (8 + 4 * k) (nI u) = true := ixa (by rw [kdHr hk]; omega) (by omega)
    simp only [c62, e62_0, e62_1, e62_3, e62_5, e62_8, e62_11, e62_12, e62_15, e62_16, e62_18, e62_19, e62_20, e62_21, e62_22, e62_24, e62_26, e62_29, e62_32, e62_33, e62_36, e62_37, e62_39, e62_40, e62_41, e62_42, e62_43, e62_80, e62_81, e62_84, e62_85, e62_86, e62_89, e62_90, e62_91, e62_94, e62_95, e62_96, e62_99, e62_100, e62_101, e62_104, e62_105, e62_106, e62_107, e62_108, e62_111, e62_112, e62_113, e62_114, e62_116, s14, okH hk, okHr hk, rfHr hk, hx, e, h1, not_true_eq_false, not_false_eq_true, if_true, if_false, and_self, vh_bds, vh_ps1, vh_ps0, vb0, vb1, vbz, vbo]
    unfold hlT
    have ne : ∀ y : Nat, y < 10 → ¬ nI (10 + u) = nI y := fun y hy z => by have := (nI_eq (by omega) (by omega)).mp z; omega
    have n0 : ¬ nI (10 + u) = 0 := ne 0 (by decide)
    have n1 : ¬ nI (10 + u) = 1 := ne 1 (by decide)
    have n2 : ¬ nI (10 + u) = 2 := ne 2 (by decide)
    have n3 : ¬ nI (10 + u) = 3 := ne 3 (by decide)
    have n4 : ¬ nI (10 + u) = 4 := ne 4 (by decide)
    have n5 : ¬ nI (10 + u) = 5 := ne 5 (by decide)
    rw [if_neg n0, if_neg n1, if_neg n2, if_neg n3, if_neg n4, if_neg n5, if_pos h1, e]
  · by_cases h2 : 20 ≤ x ∧ x ≤ 24
    · obtain ⟨u, hu, rfl⟩ := rgN (a := 20) (b := 24) (by decide) (by decide) h2
      have e : nI (20 + u) - 20 = nI u := by rw [show (20 : Int32) = nI 20 from rfl, pk_sub (by omega)]; congr 1; omega
      have hx : vh_ixa (9 + 4 * k) (nI u) = true := ixa (by rw [kdHk hk]; omega) (by omega)
      simp only [c62, e62_0, e62_1, e62_3, e62_5, e62_8, e62_11, e62_12, e62_15, e62_16, e62_18, e62_19, e62_20, e62_21, e62_22, e62_24, e62_26, e62_29, e62_32, e62_33, e62_36, e62_37, e62_39, e62_40, e62_41, e62_42, e62_43, e62_80, e62_81, e62_84, e62_85, e62_86, e62_89, e62_90, e62_91, e62_94, e62_95, e62_96, e62_99, e62_100, e62_101, e62_104, e62_105, e62_106, e62_107, e62_108, e62_111, e62_112, e62_113, e62_114, e62_116, s14, okH hk, okHk hk, rfHk hk, hx, e, h1, h2, not_true_eq_false, not_false_eq_true, if_true, if_false, and_self, vh_bds, vh_ps1, vh_ps0, vb0, vb1, vbz, vbo]
      unfold hlT
      have ne : ∀ y : Nat, y < 10 → ¬ nI (20 + u) = nI y := fun y hy z => by have := (nI_eq (by omega) (by omega)).mp z; omega
      have n0 : ¬ nI (20 + u) = 0 := ne 0 (by decide)
      have n1 : ¬ nI (20 + u) = 1 := ne 1 (by decide)
      have n2 : ¬ nI (20 + u) = 2 := ne 2 (by decide)
      have n3 : ¬ nI (20 + u) = 3 := ne 3 (by decide)
      have n4 : ¬ nI (20 + u) = 4 := ne 4 (by decide)
      have n5 : ¬ nI (20 + u) = 5 := ne 5 (by decide)
      rw [if_neg n0, if_neg n1, if_neg n2, if_neg n3, if_neg n4, if_neg n5, if_neg h1, if_pos h2, e]
    · have hx0 : vh_ixa (7 + 4 * k) 0 = true := ixa (k := 0) (by rw [kdHf hk]; omega) (by omega)
      have hx1 : vh_ixa (7 + 4 * k) 1 = true := ixa (k := 1) (by rw [kdHf hk]; omega) (by omega)
      simp only [c62, e62_0, e62_1, e62_3, e62_5, e62_8, e62_11, e62_12, e62_15, e62_16, e62_18, e62_19, e62_20, e62_21, e62_22, e62_24, e62_26, e62_29, e62_32, e62_33, e62_36, e62_37, e62_39, e62_40, e62_41, e62_42, e62_43, e62_80, e62_81, e62_84, e62_85, e62_86, e62_89, e62_90, e62_91, e62_94, e62_95, e62_96, e62_99, e62_100, e62_101, e62_104, e62_105, e62_106, e62_107, e62_108, e62_111, e62_112, e62_113, e62_114, e62_116, s14, okH hk, okHf hk, rfHf hk, hx0, hx1, show (0 : Int32).toNatClampNeg = 0 from rfl, show (1 : Int32).toNatClampNeg = 1 from rfl, h1, h2, not_true_eq_false, not_false_eq_true, if_true, if_false, and_self, vh_bds, vh_ps1, vh_ps0, vb0, vb1, vbz, vbo]
      unfold hlT
      rw [if_neg h1, if_neg h2]
      by_cases q0 : x = 0
      · rw [if_pos q0, if_pos q0]
      rw [if_neg q0, if_neg q0]
      by_cases q1 : x = 1
      · rw [if_pos q1, if_pos q1]
      rw [if_neg q1, if_neg q1]
      by_cases q2 : x = 2
      · rw [if_pos q2, if_pos q2]
      rw [if_neg q2, if_neg q2]
      by_cases q3 : x = 3
      · rw [if_pos q3, if_pos q3]
      rw [if_neg q3, if_neg q3]
      by_cases q4 : x = 4
      · rw [if_pos q4, if_pos q4]
      rw [if_neg q4, if_neg q4]
      by_cases q5 : x = 5
      · rw [if_pos q5, if_pos q5]
      rw [if_neg q5, if_neg q5]
theorem s60a {h x : Int32} (hg : ¬ (0 ≤ h ∧ h ≤ 3)) : vh_C 60 [.ref 0, .int h, .int x] (vh_K d mi ml) = some (some (.int (-1000001)), vh_K d mi ml) := by
  simp only [c60, e60_0, e60_1, e60_4, e60_7, e60_8, e60_11, e60_12, e60_13, e60_14, e60_17, e60_20, e60_22, s61, hg, not_true_eq_false, not_false_eq_true, if_true, if_false, and_self, vh_bds, vh_ps1, vh_ps0, vb0, vb1, vbz, vbo]
theorem h3N {h : Int32} (hg : 0 ≤ h ∧ h ≤ 3) : ∃ k, k < 4 ∧ h = nI k := by
  obtain ⟨k, hk, e⟩ := nIr hg.1 (show h ≤ nI 3 from hg.2) (by decide)
  exact ⟨k, by omega, e⟩
theorem h3K {k : Nat} (h : k < 4) : 0 ≤ nI k ∧ nI k ≤ 3 := ⟨nI_pos' (by omega), nI_le (b := 3) (by omega) (by decide)⟩
theorem ixH {k : Nat} (h : k < 4) : vh_ixa 5 (nI k) = true := ixa (by rw [show (vh_kd 5).2 = 4 from rfl]; exact h) (by omega)
theorem clK {k : Nat} (h : k < 1000) : (nI k).toNatClampNeg = k := nI_clamp (by omega)
theorem s60b {k : Nat} {x : Int32} (hk : k < 4) : vh_C 60 [.ref 0, .int (nI k), .int x] (vh_K d mi ml) = some (some (.int (hlT (mi (6 + 4 * k)) (mi (7 + 4 * k)) (mi (8 + 4 * k)) (mi (9 + 4 * k)) x)), vh_K d mi ml) := by
  simp only [c60, e60_0, e60_1, e60_4, e60_7, e60_8, e60_11, e60_12, e60_13, e60_14, e60_17, e60_20, e60_22, s61, s62 hk, ok0, ok5, Bool.true_or, okH hk, rf0_1, rfH hk, ixH hk, clK (show k < 1000 by omega), h3K hk, not_true_eq_false, not_false_eq_true, if_true, if_false, and_self, vh_bds, vh_ps1, vh_ps0, vb0, vb1, vbz, vbo]
theorem s171a {h x : Int32} (hg : ¬ (0 ≤ h ∧ h ≤ 3)) : vh_C 171 [.ref 88, .int h, .int x] (vh_K d mi ml) = some (some (.int (-1000001)), vh_K d (vh_sA mi 88 (upd (mi 88) 0 0)) ml) := by
  simp only [c171, e171_0, e171_1, e171_2, e171_5, e171_6, e171_9, e171_12, e171_14, e171_16, e171_19, e171_20, e171_23, e171_24, e171_25, e171_28, e171_29, e171_30, e171_33, e171_34, e171_37, e171_38, e171_39, e171_42, e171_43, e171_44, e171_47, e171_48, e171_51, e171_52, e171_53, e171_56, e171_57, e171_58, e171_61, e171_62, e171_65, e171_66, e171_67, e171_70, e171_71, e171_72, e171_75, e171_78, e171_81, e171_84, e171_85, e171_88, e171_89, e171_90, e171_91, e171_92, e171_93, e171_94, e171_95, e171_96, e171_99, e171_100, e171_101, e171_104, e171_107, e171_110, e171_113, e171_114, e171_117, e171_118, e171_119, e171_120, e171_121, e171_122, e171_124, e171_125, e171_126, e171_129, e171_130, e171_131, e171_134, e171_137, e171_140, e171_143, e171_144, e171_147, e171_148, e171_149, e171_150, e171_151, e171_152, e171_154, e171_155, e171_156, e171_159, e171_161, s172, ok88, hg, not_true_eq_false, not_false_eq_true, if_true, if_false, and_self, vh_bds, vh_ps1, vh_ps0, vb0, vb1, vbz, vbo]
def refT (st li la fo fi ra rk : Nat → Int32) (k : Nat) (x : Int32) : Int32 := hlT (fun i => if i = 0 then st k else if i = 1 then li k else if i = 2 then la k else fo k) (fun i => fi (2 * k + i)) (fun i => ra (5 * k + i)) (fun i => rk (5 * k + i)) x
theorem s171b {k : Nat} {x : Int32} (hk : k < 4) : vh_C 171 [.ref 88, .int (nI k), .int x] (vh_K d mi ml) = some (some (.int (refT (mi 89) (mi 90) (mi 91) (mi 92) (mi 93) (mi 94) (mi 95) k x)), vh_K d (vh_sA mi 88 (upd (mi 88) 0 0)) ml) := by
  have hc := clK (show k < 1000 by omega)
  have x89 : vh_ixa 89 (nI k) = true := ixa (by rw [kd89]; omega) (by omega)
  have x90 : vh_ixa 90 (nI k) = true := ixa (by rw [kd90]; omega) (by omega)
  have x91 : vh_ixa 91 (nI k) = true := ixa (by rw [kd91]; omega) (by omega)
  have x92 : vh_ixa 92 (nI k) = true := ixa (by rw [kd92]; omega) (by omega)
  unfold refT hlT
  simp only [c171, e171_0, e171_1, e171_2, e171_5, e171_6, e171_9, e171_12, e171_14, e171_15, e171_16, e171_19, e171_20, e171_23, e171_24, e171_25, e171_28, e171_29, e171_30, e171_33, e171_34, e171_37, e171_38, e171_39, e171_42, e171_43, e171_44, e171_47, e171_48, e171_51, e171_52, e171_53, e171_56, e171_57, e171_58, e171_61, e171_62, e171_65, e171_66, e171_67, e171_70, e171_71, e171_72, e171_75, e171_78, e171_81, e171_84, e171_85, e171_88, e171_89, e171_90, e171_91, e171_92, e171_93, e171_94, e171_95, e171_96, e171_99, e171_100, e171_101, e171_104, e171_107, e171_110, e171_113, e171_114, e171_117, e171_118, e171_119, e171_120, e171_121, e171_122, e171_124, e171_125, e171_126, e171_129, e171_130, e171_131, e171_134, e171_137, e171_140, e171_143, e171_144, e171_147, e171_148, e171_149, e171_150, e171_151, e171_152, e171_154, e171_155, e171_156, e171_159, e171_161, s172, in_4_5, in_10_14, in_20_24, ok88, ok89, ok90, ok91, ok92, rf88_2, rf88_3, rf88_4, rf88_5, rf88_6, rf88_7, rf88_8, x89, x90, x91, x92, hc, h3K hk, not_true_eq_false, not_false_eq_true, if_true, if_false, and_self, vh_bds, vh_ps1, vh_ps0, vb0, vb1, vbz, vbo, sAn, sAs, sAA, ups, upn, bkv_n, hlv_n, ne_eq, Nat.reduceEqDiff, Nat.reduceLT, Nat.reduceLeDiff, or_true, true_or, not_false_eq_true]
  by_cases q0 : x = 0
  · subst q0; rfl
  rw [if_pos q0, if_neg q0]
  by_cases q1 : x = 1
  · subst q1; rfl
  rw [if_pos q1, if_neg q1]
  by_cases q2 : x = 2
  · subst q2; rfl
  rw [if_pos q2, if_neg q2]
  by_cases q3 : x = 3
  · subst q3; rfl
  rw [if_pos q3, if_neg q3]
  have m2 : (2 : Int32) * nI k = nI (2 * k) := by rw [show (2 : Int32) = nI 2 from rfl, pk_mul]
  have m5 : (5 : Int32) * nI k = nI (5 * k) := by rw [show (5 : Int32) = nI 5 from rfl, pk_mul]
  by_cases h45 : 4 ≤ x ∧ x ≤ 5
  · obtain ⟨u, hu, rfl⟩ := rgN (a := 4) (b := 5) (by decide) (by decide) h45
    have e : nI (2 * k) + nI (4 + u) - 4 = nI (2 * k + u) := by rw [nI_add, show (4 : Int32) = nI 4 from rfl, pk_sub (by omega)]; congr 1; omega
    have hx : vh_ixa 93 (nI (2 * k + u)) = true := ixa (by rw [kd93]; omega) (by omega)
    rw [if_neg (not_not_intro h45)]
    simp only [e171_0, e171_1, e171_2, e171_5, e171_6, e171_9, e171_12, e171_14, e171_15, e171_16, e171_19, e171_20, e171_23, e171_24, e171_25, e171_28, e171_29, e171_30, e171_33, e171_34, e171_37, e171_38, e171_39, e171_42, e171_43, e171_44, e171_47, e171_48, e171_51, e171_52, e171_53, e171_56, e171_57, e171_58, e171_61, e171_62, e171_65, e171_66, e171_67, e171_70, e171_71, e171_72, e171_75, e171_78, e171_81, e171_84, e171_85, e171_88, e171_89, e171_90, e171_91, e171_92, e171_93, e171_94, e171_95, e171_96, e171_99, e171_100, e171_101, e171_104, e171_107, e171_110, e171_113, e171_114, e171_117, e171_118, e171_119, e171_120, e171_121, e171_122, e171_124, e171_125, e171_126, e171_129, e171_130, e171_131, e171_134, e171_137, e171_140, e171_143, e171_144, e171_147, e171_148, e171_149, e171_150, e171_151, e171_152, e171_154, e171_155, e171_156, e171_159, e171_161, ok93, m2, e, hx, clK (show 2 * k + u < 1000 by omega)]
    rcases (show u = 0 ∨ u = 1 by omega) with rfl | rfl <;> rfl
  rw [if_pos h45]
  have q4 : ¬ x = 4 := fun z => h45 (by rw [z]; decide)
  have q5 : ¬ x = 5 := fun z => h45 (by rw [z]; decide)
  rw [if_neg q4, if_neg q5]
  by_cases h1 : 10 ≤ x ∧ x ≤ 14
  · obtain ⟨u, hu, rfl⟩ := rgN (a := 10) (b := 14) (by decide) (by decide) h1
    have e : nI (5 * k) + nI (10 + u) - 10 = nI (5 * k + u) := by rw [nI_add, show (10 : Int32) = nI 10 from rfl, pk_sub (by omega)]; congr 1; omega
    have e' : nI (10 + u) - 10 = nI u := by rw [show (10 : Int32) = nI 10 from rfl, pk_sub (by omega)]; congr 1; omega
    have hx : vh_ixa 94 (nI (5 * k + u)) = true := ixa (by rw [kd94]; omega) (by omega)
    rw [if_neg (not_not_intro h1), if_pos h1, e', clK (show u < 1000 by omega)]
    simp only [e171_0, e171_1, e171_2, e171_5, e171_6, e171_9, e171_12, e171_14, e171_15, e171_16, e171_19, e171_20, e171_23, e171_24, e171_25, e171_28, e171_29, e171_30, e171_33, e171_34, e171_37, e171_38, e171_39, e171_42, e171_43, e171_44, e171_47, e171_48, e171_51, e171_52, e171_53, e171_56, e171_57, e171_58, e171_61, e171_62, e171_65, e171_66, e171_67, e171_70, e171_71, e171_72, e171_75, e171_78, e171_81, e171_84, e171_85, e171_88, e171_89, e171_90, e171_91, e171_92, e171_93, e171_94, e171_95, e171_96, e171_99, e171_100, e171_101, e171_104, e171_107, e171_110, e171_113, e171_114, e171_117, e171_118, e171_119, e171_120, e171_121, e171_122, e171_124, e171_125, e171_126, e171_129, e171_130, e171_131, e171_134, e171_137, e171_140, e171_143, e171_144, e171_147, e171_148, e171_149, e171_150, e171_151, e171_152, e171_154, e171_155, e171_156, e171_159, e171_161, ok94, m5, e, hx, clK (show 5 * k + u < 1000 by omega), sAn, sAs, sAA, ups, upn, bkv_n, hlv_n, ne_eq, Nat.reduceEqDiff, Nat.reduceLT, Nat.reduceLeDiff, or_true, true_or, not_false_eq_true]
  rw [if_pos h1, if_neg h1]
  by_cases h2 : 20 ≤ x ∧ x ≤ 24
  · obtain ⟨u, hu, rfl⟩ := rgN (a := 20) (b := 24) (by decide) (by decide) h2
    have e : nI (5 * k) + nI (20 + u) - 20 = nI (5 * k + u) := by rw [nI_add, show (20 : Int32) = nI 20 from rfl, pk_sub (by omega)]; congr 1; omega
    have e' : nI (20 + u) - 20 = nI u := by rw [show (20 : Int32) = nI 20 from rfl, pk_sub (by omega)]; congr 1; omega
    have hx : vh_ixa 95 (nI (5 * k + u)) = true := ixa (by rw [kd95]; omega) (by omega)
    rw [if_neg (not_not_intro h2), if_pos h2, e', clK (show u < 1000 by omega)]
    simp only [e171_0, e171_1, e171_2, e171_5, e171_6, e171_9, e171_12, e171_14, e171_15, e171_16, e171_19, e171_20, e171_23, e171_24, e171_25, e171_28, e171_29, e171_30, e171_33, e171_34, e171_37, e171_38, e171_39, e171_42, e171_43, e171_44, e171_47, e171_48, e171_51, e171_52, e171_53, e171_56, e171_57, e171_58, e171_61, e171_62, e171_65, e171_66, e171_67, e171_70, e171_71, e171_72, e171_75, e171_78, e171_81, e171_84, e171_85, e171_88, e171_89, e171_90, e171_91, e171_92, e171_93, e171_94, e171_95, e171_96, e171_99, e171_100, e171_101, e171_104, e171_107, e171_110, e171_113, e171_114, e171_117, e171_118, e171_119, e171_120, e171_121, e171_122, e171_124, e171_125, e171_126, e171_129, e171_130, e171_131, e171_134, e171_137, e171_140, e171_143, e171_144, e171_147, e171_148, e171_149, e171_150, e171_151, e171_152, e171_154, e171_155, e171_156, e171_159, e171_161, ok95, m5, e, hx, clK (show 5 * k + u < 1000 by omega), sAn, sAs, sAA, ups, upn, bkv_n, hlv_n, ne_eq, Nat.reduceEqDiff, Nat.reduceLT, Nat.reduceLeDiff, or_true, true_or, not_false_eq_true]
  · rw [if_pos h2, if_neg h2]
theorem sim_hall {h x : Int32} (hR : Rel d mi) : Sim 60 171 [.int h, .int x] d mi ml := by
  by_cases hg : 0 ≤ h ∧ h ≤ 3
  · obtain ⟨k, hk, rfl⟩ := h3N hg
    refine Sim.mk (s60b hk) (s171b hk) ?_ hR.thrown
    obtain ⟨⟨a0, a1, a2, a3⟩, -, a4, a5, a6, -⟩ := hR.2.2.2.2.1 k hk
    rw [hlv_g (mi := mi) (b := 6) hk, hlv_g (mi := mi) (b := 7) hk, hlv_g (mi := mi) (b := 8) hk, hlv_g (mi := mi) (b := 9) hk]
    unfold refT hlT
    by_cases q0 : x = 0
    · simp only [q0, if_true, a0]
    by_cases q1 : x = 1
    · subst q1; exact a1.symm
    by_cases q2 : x = 2
    · subst q2; exact a2.symm
    by_cases q3 : x = 3
    · subst q3; exact a3.symm
    by_cases q4 : x = 4
    · subst q4; exact (a4 0 (by decide)).1.symm
    by_cases q5 : x = 5
    · subst q5; exact (a4 1 (by decide)).1.symm
    rw [if_neg q0, if_neg q0, if_neg q1, if_neg q1, if_neg q2, if_neg q2, if_neg q3, if_neg q3, if_neg q4, if_neg q4, if_neg q5, if_neg q5]
    by_cases h1 : 10 ≤ x ∧ x ≤ 14
    · obtain ⟨u, hu, rfl⟩ := rgN (a := 10) (b := 14) (by decide) (by decide) h1
      have e' : nI (10 + u) - 10 = nI u := by rw [show (10 : Int32) = nI 10 from rfl, pk_sub (by omega)]; congr 1; omega
      rw [if_pos h1, if_pos h1, e', clK (show u < 1000 by omega)]
      exact (a5 u (by omega)).1.symm
    rw [if_neg h1, if_neg h1]
    by_cases h2 : 20 ≤ x ∧ x ≤ 24
    · obtain ⟨u, hu, rfl⟩ := rgN (a := 20) (b := 24) (by decide) (by decide) h2
      have e' : nI (20 + u) - 20 = nI u := by rw [show (20 : Int32) = nI 20 from rfl, pk_sub (by omega)]; congr 1; omega
      rw [if_pos h2, if_pos h2, e', clK (show u < 1000 by omega)]
      exact (a6 u (by omega)).1.symm
    rw [if_neg h2, if_neg h2]
  · exact Sim.mk (s60a hg) (s171a hg) rfl hR.thrown
end

section
variable {d : Nat} {mi : Nat → Nat → Int32} {ml : Nat → Nat → Int64} {n k h : Nat} {b g : Nat → Nat → Nat}
theorem Rel.scr {f45 f44 : Nat → Int32} (hR : Rel d mi) : Rel d (vh_sA (vh_sA mi 45 f45) 44 f44) := by
  unfold Rel at hR ⊢
  simp only [sAn, sAs, sAA, ups, upn, bkv_n, hlv_n, ne_eq, Nat.reduceEqDiff, Nat.reduceLT, Nat.reduceLeDiff, or_true, true_or, not_false_eq_true]
  exact hR
def psI (b g : Nat → Nat → Nat) (M : Nat) : Nat → Int32
  | 0 => 0
  | k + 1 => if M.testBit k = true then psI b g M k + prI g (b k) else psI b g M k
theorem ps_t {M i : Nat} (h : M.testBit i = true) : psI b g M (i + 1) = psI b g M i + prI g (b i) := if_pos h
theorem ps_f {M i : Nat} (h : ¬ M.testBit i = true) : psI b g M (i + 1) = psI b g M i := if_neg h
theorem l91 {M : Nat} (H : DiC mi n b g) (B : DiB n b g) (hM : M < 2 ^ 16) : ∀ j i, i + j = n → vh_E 91 4 [some (.ref 42), some (.int (nI M)), some (.int (psI b g M i)), some (.int (nI i))] [] (vh_K d mi ml) = some (some (.int (psI b g M n)), vh_K d mi ml) := by
  have hn := B.1
  intro j
  induction j with
  | zero =>
    intro i hi
    have : i = n := by omega
    subst this
    simp only [e91_4, e91_5, e91_6, e91_9, e91_40, e91_41, ok42, H.sz, nI_le (Nat.le_refl i) (show i < 2 ^ 31 by omega), if_true]
  | succ j ih =>
    intro i hi
    have hin : i < n := by omega
    have hi6 : i < 16 := by omega
    have := ih (i + 1) (by omega)
    rw [e91_4]
    simp only [e91_0, e91_1, e91_2, e91_3, e91_5, e91_6, e91_9, e91_12, e91_13, e91_14, e91_15, e91_16, e91_17, e91_18, e91_21, e91_22, e91_23, e91_24, e91_27, e91_28, e91_29, e91_32, e91_33, e91_34, e91_37, e91_40, e91_41, ok42, H.sz, nI_ge hin (show n < 2 ^ 31 by omega), if_false, rf42_1, ok43, Bool.or_true, ixB hi6, clK (show i < 1000 by omega), rfB hi6, bt (show M < 2 ^ 31 by omega) (show i < 31 by omega), vbe, s75 H B hin, nI_1, not_true_eq_false, not_false_eq_true, if_true, if_false, and_self, vh_bds, vh_ps1, vh_ps0, vb0, vb1, vbz, vbo]
    by_cases q : M.testBit i = true
    · rw [if_neg (not_not_intro q)]
      rw [ps_t q] at this
      exact this
    · rw [if_pos q]
      rw [ps_f q] at this
      exact this
theorem s91 {M : Nat} (H : DiC mi n b g) (B : DiB n b g) (hM : M < 2 ^ 16) : vh_C 91 [.ref 42, .int (nI M)] (vh_K d mi ml) = some (some (.int (psI b g M n)), vh_K d mi ml) := by
  have := l91 (d := d) (ml := ml) H B hM n 0 (by omega)
  simp only [c91, e91_0, e91_1, e91_2, e91_3]
  exact this
theorem hld_lt {D : Nat} (B : DiB n b g) : hld b g n D < 2 ^ 16 := by
  have hn := B.1
  apply fold_lt _ (by decide)
  intro x hx
  have := ((ordN_o (key := hkey b g) (P := fun k => thB (b k) D) n).2.1 x).mp hx
  omega
theorem s81a {dy x : Int32} (hg : ¬ ((0 ≤ dy ∧ dy ≤ 364) ∧ (0 ≤ x ∧ x ≤ 2))) : vh_C 81 [.ref 0, .int dy, .int x] (vh_K d mi ml) = some (some (.int (-1000001)), vh_K d mi ml) := by
  simp only [c81, e81_0, e81_1, e81_4, e81_7, e81_9, e81_10, e81_11, e81_37, e81_40, e81_41, e81_44, e81_46, e81_49, e81_50, e81_53, e81_55, e81_58, e81_59, e81_62, e81_63, e81_66, e81_69, e81_70, e81_72, s69, ok0, not_true_eq_false, not_false_eq_true, if_true, if_false, and_self, vh_bds, vh_ps1, vh_ps0, vb0, vb1, vbz, vbo, Classical.not_not]
  by_cases h1 : 0 ≤ dy ∧ dy ≤ 364
  · rw [if_pos h1, if_neg (fun z => hg ⟨h1, by rw [z]; decide⟩), if_neg (fun z => hg ⟨h1, by rw [z]; decide⟩), if_neg (fun z => hg ⟨h1, by rw [z]; decide⟩)]
  · rw [if_neg h1]
theorem d3N {D : Nat} (h : D ≤ 364) : 0 ≤ nI D ∧ nI D ≤ 364 := ⟨nI_pos' (by omega), nI_le (b := 364) h (by decide)⟩
theorem s81_0 {D : Nat} (H : DiC mi n b g) (B : DiB n b g) (hD : D ≤ 364) : ∃ f45 f44, vh_C 81 [.ref 0, .int (nI D), .int 0] (vh_K d mi ml) = some (some (.int (nI (hld b g n D))), vh_K d (vh_sA (vh_sA mi 45 f45) 44 f44) ml) := by
  obtain ⟨f45, f44, h1⟩ := s82 (d := d) (ml := ml) H B hD
  refine ⟨f45, f44, ?_⟩
  simp only [c81, e81_0, e81_1, e81_4, e81_7, e81_9, e81_10, e81_11, e81_36, e81_37, e81_40, e81_41, e81_44, e81_45, e81_46, e81_49, e81_50, e81_53, e81_54, e81_55, e81_58, e81_59, e81_62, e81_63, e81_66, e81_69, e81_70, e81_72, s69, h1, ok0, ok42, rf0_4, d3N hD, not_true_eq_false, not_false_eq_true, if_true, if_false, and_self, vh_bds, vh_ps1, vh_ps0, vb0, vb1, vbz, vbo]
theorem s81_1 {D : Nat} (H : DiC mi n b g) (B : DiB n b g) (hD : D ≤ 364) : vh_C 81 [.ref 0, .int (nI D), .int 1] (vh_K d mi ml) = some (some (.int (nI (msk (fun k => thB (b k) D) n))), vh_K d mi ml) := by
  simp only [c81, e81_0, e81_1, e81_4, e81_7, e81_9, e81_10, e81_11, e81_36, e81_37, e81_40, e81_41, e81_44, e81_45, e81_46, e81_49, e81_50, e81_53, e81_54, e81_55, e81_58, e81_59, e81_62, e81_63, e81_66, e81_69, e81_70, e81_72, s69, s83 H B hD, ok0, ok42, rf0_4, d3N hD, show ¬ (1 : Int32) = 0 by decide, not_true_eq_false, not_false_eq_true, if_true, if_false, and_self, vh_bds, vh_ps1, vh_ps0, vb0, vb1, vbz, vbo]
theorem s81_2 {D : Nat} (H : DiC mi n b g) (B : DiB n b g) (hD : D ≤ 364) : ∃ f45 f44, vh_C 81 [.ref 0, .int (nI D), .int 2] (vh_K d mi ml) = some (some (.int (psI b g (hld b g n D) n)), vh_K d (vh_sA (vh_sA mi 45 f45) 44 f44) ml) := by
  have hn := B.1
  obtain ⟨f45, f44, h1⟩ := s82 (d := d) (ml := ml) H B hD
  refine ⟨f45, f44, ?_⟩
  have H2 : DiC (vh_sA (vh_sA mi 45 f45) 44 f44) n b g := (H.fr hn (by omega)).fr hn (by omega)
  simp only [c81, e81_0, e81_1, e81_4, e81_7, e81_9, e81_10, e81_11, e81_36, e81_37, e81_40, e81_41, e81_44, e81_45, e81_46, e81_49, e81_50, e81_53, e81_54, e81_55, e81_58, e81_59, e81_62, e81_63, e81_66, e81_69, e81_70, e81_72, s69, h1, s91 H2 B (hld_lt B), ok0, ok42, rf0_4, d3N hD, show ¬ (2 : Int32) = 0 by decide, show ¬ (2 : Int32) = 1 by decide, not_true_eq_false, not_false_eq_true, if_true, if_false, and_self, vh_bds, vh_ps1, vh_ps0, vb0, vb1, vbz, vbo]
theorem s183a {dy x : Int32} (hg : ¬ ((0 ≤ dy ∧ dy ≤ 364) ∧ (0 ≤ x ∧ x ≤ 2))) : vh_C 183 [.ref 88, .int dy, .int x] (vh_K d mi ml) = some (some (.int (-1000001)), vh_K d (vh_sA mi 88 (upd (mi 88) 0 0)) ml) := by
  simp only [c183, e183_0, e183_1, e183_2, e183_5, e183_6, e183_9, e183_12, e183_13, e183_14, e183_15, e183_18, e183_21, e183_24, e183_26, e183_28, e183_29, e183_32, e183_33, e183_36, e183_37, e183_38, e183_41, e183_42, e183_43, e183_45, e183_46, e183_48, e183_50, e183_51, e183_54, e183_57, e183_58, e183_59, e183_60, e183_63, e183_64, e183_66, e183_67, e183_70, e183_73, e183_74, e183_76, e183_77, e183_80, e183_81, e183_82, e183_83, e183_85, e183_86, e183_88, e183_89, e183_90, e183_91, e183_92, e183_95, e183_96, e183_98, e183_101, e183_104, e183_105, e183_106, e183_108, e183_111, e183_114, e183_115, e183_116, e183_119, e183_121, e183_124, e183_125, s174, in_0_2, ok88, not_true_eq_false, not_false_eq_true, if_true, if_false, and_self, vh_bds, vh_ps1, vh_ps0, vb0, vb1, vbz, vbo, Classical.not_not]
  by_cases h1 : 0 ≤ dy ∧ dy ≤ 364
  · rw [if_neg (not_not_intro h1), if_neg (fun z => hg ⟨h1, z⟩)]
  · rw [if_pos h1]
theorem l183h {D M : Nat} {x : Int32} (hx : ¬ x = 1) (H : DiM mi n b g) (B : DiB n b g) (hM : M < 2 ^ 16) : ∀ j i, i + j = n → vh_E 183 48 [some (.ref 88), some (.int (nI D)), some (.int x), some (.int (nI M)), some (.int (psI b g M i)), some (.int (nI i))] [] (vh_K d mi ml) = some (some (.int (if x = 2 then psI b g M n else nI M)), vh_K d mi ml) := by
  have hn := B.1
  intro j
  induction j with
  | zero =>
    intro i hi
    have : i = n := by omega
    subst this
    simp only [e183_48, e183_50, e183_51, e183_54, e183_114, e183_115, e183_116, e183_119, e183_121, e183_124, e183_125, ok88, H.sz, nI_le (Nat.le_refl i) (show i < 2 ^ 31 by omega), if_true]
    by_cases q : x = 2
    · rw [if_neg (not_not_intro q), if_pos q]
    · rw [if_pos q, if_neg q]
  | succ j ih =>
    intro i hi
    have hin : i < n := by omega
    have hi6 : i < 16 := by omega
    have zz : nI M ||| 0 = nI M := by rw [show (0 : Int32) = nI 0 from rfl, orN (by omega) (by omega), Nat.or_zero]
    have := ih (i + 1) (by omega)
    rw [e183_48]
    simp only [e183_0, e183_1, e183_2, e183_5, e183_6, e183_9, e183_12, e183_13, e183_14, e183_15, e183_18, e183_21, e183_24, e183_26, e183_27, e183_28, e183_29, e183_32, e183_33, e183_36, e183_37, e183_38, e183_41, e183_42, e183_43, e183_45, e183_46, e183_50, e183_51, e183_54, e183_57, e183_58, e183_59, e183_60, e183_63, e183_64, e183_66, e183_67, e183_70, e183_73, e183_74, e183_76, e183_77, e183_80, e183_81, e183_82, e183_83, e183_85, e183_86, e183_88, e183_89, e183_90, e183_91, e183_92, e183_95, e183_96, e183_98, e183_101, e183_104, e183_105, e183_106, e183_108, e183_111, e183_114, e183_115, e183_116, e183_119, e183_121, e183_124, e183_125, ok88, H.sz, nI_ge hin (show n < 2 ^ 31 by omega), if_false, hx, zz, bt (show M < 2 ^ 31 by omega) (show i < 31 by omega), vbe, s179 H B hin, nI_1, Int32.add_zero, not_true_eq_false, not_false_eq_true, if_true, if_false, and_self, vh_bds, vh_ps1, vh_ps0, vb0, vb1, vbz, vbo]
    by_cases q : M.testBit i = true
    · rw [if_neg (not_not_intro q)]
      rw [ps_t q] at this
      exact this
    · rw [if_pos q]
      rw [ps_f q] at this
      exact this
theorem l183t {D : Nat} (H : DiM mi n b g) (B : DiB n b g) (hD : D ≤ 364) : ∀ j i s, i + j = n → vh_E 183 48 [some (.ref 88), some (.int (nI D)), some (.int 1), some (.int (nI (msk (fun k => thB (b k) D) i))), some (.int s), some (.int (nI i))] [] (vh_K d mi ml) = some (some (.int (nI (msk (fun k => thB (b k) D) n))), vh_K d mi ml) := by
  have hn := B.1
  intro j
  induction j with
  | zero =>
    intro i s hi
    have : i = n := by omega
    subst this
    simp only [e183_48, e183_50, e183_51, e183_54, e183_114, e183_115, e183_116, e183_119, e183_121, e183_124, e183_125, ok88, H.sz, nI_le (Nat.le_refl i) (show i < 2 ^ 31 by omega), if_true, show ¬ (1 : Int32) = 2 by decide, not_false_eq_true]
  | succ j ih =>
    intro i s hi
    have hin : i < n := by omega
    have hi6 : i < 16 := by omega
    have hm := msk_l (P := fun k => thB (b k) D) (show i ≤ 16 by omega)
    have hm1 := msk_l (P := fun k => thB (b k) D) (show i + 1 ≤ 16 by omega)
    have zz : nI (msk (fun k => thB (b k) D) i) ||| 0 = nI (msk (fun k => thB (b k) D) i) := by rw [show (0 : Int32) = nI 0 from rfl, orN (by omega) (by omega), Nat.or_zero]
    rw [e183_48]
    simp only [e183_0, e183_1, e183_2, e183_5, e183_6, e183_9, e183_12, e183_13, e183_14, e183_15, e183_18, e183_21, e183_24, e183_26, e183_27, e183_28, e183_29, e183_32, e183_33, e183_36, e183_37, e183_38, e183_41, e183_42, e183_43, e183_45, e183_46, e183_50, e183_51, e183_54, e183_57, e183_58, e183_59, e183_60, e183_63, e183_64, e183_66, e183_67, e183_70, e183_73, e183_74, e183_76, e183_77, e183_80, e183_81, e183_82, e183_83, e183_85, e183_86, e183_88, e183_89, e183_90, e183_91, e183_92, e183_95, e183_96, e183_98, e183_101, e183_104, e183_105, e183_106, e183_108, e183_111, e183_114, e183_115, e183_116, e183_119, e183_121, e183_124, e183_125, ok88, H.sz, nI_ge hin (show n < 2 ^ 31 by omega), if_false, zz, sbt hm hi6, s185 H B hin hD, s179 H B hin, nI_1, Int32.add_zero, not_true_eq_false, not_true_eq_false, not_false_eq_true, if_true, if_false, and_self, vh_bds, vh_ps1, vh_ps0, vb0, vb1, vbz, vbo]
    by_cases q : thB (b i) D = true
    · rw [if_neg (not_not_intro q)]
      have e := msk_t (P := fun k => thB (b k) D) (k := i) q
      rw [← e]
      by_cases q2 : nI (msk (fun k => thB (b k) D) (i + 1)) >>> (nI i &&& 31) &&& 1 = 1
      · rw [if_neg (not_not_intro q2)]; exact ih (i + 1) _ (by omega)
      · rw [if_pos q2]; exact ih (i + 1) _ (by omega)
    · rw [if_pos q]
      have e := msk_f (P := fun k => thB (b k) D) (k := i) q
      rw [← e]
      by_cases q2 : nI (msk (fun k => thB (b k) D) (i + 1)) >>> (nI i &&& 31) &&& 1 = 1
      · rw [if_neg (not_not_intro q2)]; exact ih (i + 1) _ (by omega)
      · rw [if_pos q2]; exact ih (i + 1) _ (by omega)
theorem s183h {D : Nat} {x : Int32} (hx : ¬ x = 1) (hx2 : 0 ≤ x ∧ x ≤ 2) (H : DiM mi n b g) (B : DiB n b g) (hD : D ≤ 364) : vh_C 183 [.ref 88, .int (nI D), .int x] (vh_K d mi ml) = some (some (.int (if x = 2 then psI b g (hld b g n D) n else nI (hld b g n D))), vh_K d (vh_sA mi 88 (upd (mi 88) 0 0)) ml) := by
  have := l183h (d := d) (ml := ml) (D := D) hx H.thr B (hld_lt (D := D) B) n 0 (by omega)
  simp only [c183, e183_0, e183_1, e183_2, e183_5, e183_6, e183_9, e183_12, e183_13, e183_14, e183_15, e183_18, e183_21, e183_24, e183_26, e183_27, e183_28, e183_29, e183_32, e183_33, e183_36, e183_37, e183_38, e183_41, e183_42, e183_43, e183_45, e183_46, e183_50, e183_51, e183_54, e183_57, e183_58, e183_59, e183_60, e183_63, e183_64, e183_66, e183_67, e183_70, e183_73, e183_74, e183_76, e183_77, e183_80, e183_81, e183_82, e183_83, e183_85, e183_86, e183_88, e183_89, e183_90, e183_91, e183_92, e183_95, e183_96, e183_98, e183_101, e183_104, e183_105, e183_106, e183_108, e183_111, e183_114, e183_115, e183_116, e183_119, e183_121, e183_124, e183_125, s174, in_0_2, s184 H.thr B hD, d3N hD, hx, hx2, ok88, not_true_eq_false, not_false_eq_true, if_true, if_false, and_self, vh_bds, vh_ps1, vh_ps0, vb0, vb1, vbz, vbo]
  exact this
theorem s183t {D : Nat} (H : DiM mi n b g) (B : DiB n b g) (hD : D ≤ 364) : vh_C 183 [.ref 88, .int (nI D), .int 1] (vh_K d mi ml) = some (some (.int (nI (msk (fun k => thB (b k) D) n))), vh_K d (vh_sA mi 88 (upd (mi 88) 0 0)) ml) := by
  have := l183t (d := d) (ml := ml) H.thr B hD n 0 0 (by omega)
  simp only [c183, e183_0, e183_1, e183_2, e183_5, e183_6, e183_9, e183_12, e183_13, e183_14, e183_15, e183_18, e183_21, e183_24, e183_26, e183_27, e183_28, e183_29, e183_32, e183_33, e183_36, e183_37, e183_38, e183_41, e183_42, e183_43, e183_45, e183_46, e183_50, e183_51, e183_54, e183_57, e183_58, e183_59, e183_60, e183_63, e183_64, e183_66, e183_67, e183_70, e183_73, e183_74, e183_76, e183_77, e183_80, e183_81, e183_82, e183_83, e183_85, e183_86, e183_88, e183_89, e183_90, e183_91, e183_92, e183_95, e183_96, e183_98, e183_101, e183_104, e183_105, e183_106, e183_108, e183_111, e183_114, e183_115, e183_116, e183_119, e183_121, e183_124, e183_125, s174, in_0_2, d3N hD, show (0 : Int32) ≤ 1 ∧ (1 : Int32) ≤ 2 from by decide, ok88, not_true_eq_false, not_false_eq_true, if_true, if_false, and_self, vh_bds, vh_ps1, vh_ps0, vb0, vb1, vbz, vbo]
  exact this
theorem sim_holding {dy x : Int32} (hR : Rel d mi) : Sim 81 183 [.int dy, .int x] d mi ml := by
  obtain ⟨n, b, g, B, C, M⟩ := hR.dia
  have hn := B.1
  by_cases hg : (0 ≤ dy ∧ dy ≤ 364) ∧ (0 ≤ x ∧ x ≤ 2)
  · obtain ⟨⟨h1, h2⟩, h3, h4⟩ := hg
    obtain ⟨D, hD, rfl⟩ := nIr h1 (show dy ≤ nI 364 from h2) (by decide)
    obtain ⟨y, hy, rfl⟩ := nIr h3 (show x ≤ nI 2 from h4) (by decide)
    rcases (show y = 0 ∨ y = 1 ∨ y = 2 by omega) with rfl | rfl | rfl
    · obtain ⟨f45, f44, A⟩ := s81_0 (d := d) (ml := ml) C B hD
      exact Sim.mk A (s183h (x := nI 0) (by decide) (by decide) ((M.fr (by omega)).fr (by omega)) B hD) rfl hR.scr.thrown
    · exact Sim.mk (s81_1 C B hD) (s183t M B hD) rfl hR.thrown
    · obtain ⟨f45, f44, A⟩ := s81_2 (d := d) (ml := ml) C B hD
      exact Sim.mk A (s183h (x := nI 2) (by decide) (by decide) ((M.fr (by omega)).fr (by omega)) B hD) rfl hR.scr.thrown
  · exact Sim.mk (s81a hg) (s183a hg) rfl hR.thrown
end

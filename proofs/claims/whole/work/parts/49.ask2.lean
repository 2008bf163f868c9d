section
variable {d : Nat} {mi : Nat → Nat → Int32} {ml : Nat → Nat → Int64} {n k h : Nat} {b g : Nat → Nat → Nat}
theorem s136 {K : Nat} (hK : K ≤ 4) (h : mi 86 1 = nI 0) : vh_C 136 [.ref 86, .int (nI K)] (vh_K d mi ml) = some (some (.int (mkV K (mi 86 2) (mi 86 3) (mi 86 4) (mi 86 5))), vh_K d ((mkL K).foldl beg mi) ml) := by
  rcases (show K = 0 ∨ K = 1 ∨ K = 2 ∨ K = 3 ∨ K = 4 by omega) with rfl | rfl | rfl | rfl | rfl
  · simp only [c136, e136_0, e136_1, e136_32, e136_33, e136_36, e136_37, e136_38, e136_41, e136_42, e136_43, e136_46, e136_47, e136_48, e136_51, ok86, b20 h (show 0 < 10 by decide), b21 h (show 0 < 8 by decide), b22 h (show 0 < 3 by decide), b23 h (show 0 < 8 by decide), show (nI 0 = 1) = decide (0 = 1) from by decide, show (nI 0 = 2) = decide (0 = 2) from by decide, show (nI 0 = 3) = decide (0 = 3) from by decide, show (nI 0 = 4) = decide (0 = 4) from by decide, decide_true, decide_false, Nat.reduceEqDiff, not_true_eq_false, not_false_eq_true, if_true, if_false, and_self, vh_bds, vh_ps1, vh_ps0, vb0, vb1, vbz, vbo]
    rfl
  · simp only [c136, e136_0, e136_1, e136_32, e136_33, e136_36, e136_37, e136_38, e136_41, e136_42, e136_43, e136_46, e136_47, e136_48, e136_51, ok86, b20 h (show 0 < 10 by decide), b21 h (show 0 < 8 by decide), b22 h (show 0 < 3 by decide), b23 h (show 0 < 8 by decide), show (nI 1 = 1) = decide (1 = 1) from by decide, show (nI 1 = 2) = decide (1 = 2) from by decide, show (nI 1 = 3) = decide (1 = 3) from by decide, show (nI 1 = 4) = decide (1 = 4) from by decide, decide_true, decide_false, Nat.reduceEqDiff, not_true_eq_false, not_false_eq_true, if_true, if_false, and_self, vh_bds, vh_ps1, vh_ps0, vb0, vb1, vbz, vbo]
    rfl
  · simp only [c136, e136_0, e136_1, e136_32, e136_33, e136_36, e136_37, e136_38, e136_41, e136_42, e136_43, e136_46, e136_47, e136_48, e136_51, ok86, b20 h (show 0 < 10 by decide), b21 h (show 0 < 8 by decide), b22 h (show 0 < 3 by decide), b23 h (show 0 < 8 by decide), show (nI 2 = 1) = decide (2 = 1) from by decide, show (nI 2 = 2) = decide (2 = 2) from by decide, show (nI 2 = 3) = decide (2 = 3) from by decide, show (nI 2 = 4) = decide (2 = 4) from by decide, decide_true, decide_false, Nat.reduceEqDiff, not_true_eq_false, not_false_eq_true, if_true, if_false, and_self, vh_bds, vh_ps1, vh_ps0, vb0, vb1, vbz, vbo]
    rfl
  · simp only [c136, e136_0, e136_1, e136_32, e136_33, e136_36, e136_37, e136_38, e136_41, e136_42, e136_43, e136_46, e136_47, e136_48, e136_51, ok86, b20 h (show 0 < 10 by decide), b21 h (show 0 < 8 by decide), b22 h (show 0 < 3 by decide), b23 h (show 0 < 8 by decide), show (nI 3 = 1) = decide (3 = 1) from by decide, show (nI 3 = 2) = decide (3 = 2) from by decide, show (nI 3 = 3) = decide (3 = 3) from by decide, show (nI 3 = 4) = decide (3 = 4) from by decide, decide_true, decide_false, Nat.reduceEqDiff, not_true_eq_false, not_false_eq_true, if_true, if_false, and_self, vh_bds, vh_ps1, vh_ps0, vb0, vb1, vbz, vbo]
    rfl
  · simp only [c136, e136_0, e136_1, e136_32, e136_33, e136_36, e136_37, e136_38, e136_41, e136_42, e136_43, e136_46, e136_47, e136_48, e136_51, ok86, b20 h (show 0 < 10 by decide), b21 h (show 0 < 8 by decide), b22 h (show 0 < 3 by decide), b23 h (show 0 < 8 by decide), show (nI 4 = 1) = decide (4 = 1) from by decide, show (nI 4 = 2) = decide (4 = 2) from by decide, show (nI 4 = 3) = decide (4 = 3) from by decide, show (nI 4 = 4) = decide (4 = 4) from by decide, decide_true, decide_false, Nat.reduceEqDiff, not_true_eq_false, not_false_eq_true, if_true, if_false, and_self, vh_bds, vh_ps1, vh_ps0, vb0, vb1, vbz, vbo]
    rfl
def abt (mi : Nat → Nat → Int32) (p u dy P : Int32) : Nat → Nat → Int32 := vh_sA mi 86 (upd (upd (upd (upd (upd (mi 86) 1 0) 2 p) 3 u) 4 dy) 5 P)
theorem s128 {P : Int32} (H : DiC mi n b g) (B : DiB n b g) (hk : k < n) : vh_C 128 [.ref 86, .ref (47 + k), .int P] (vh_K d mi ml) = some (none, vh_K d (abt mi (nI (b k 5)) (nI (b k 6)) (nI (b k 2)) P) ml) := by
  have hk6 : k < 16 := by have := B.1; omega
  simp only [c128, e128_0, e128_1, e128_2, e128_5, e128_6, e128_7, e128_10, e128_13, e128_14, e128_15, e128_18, e128_21, e128_22, e128_23, e128_26, e128_29, e128_30, e128_31, e128_34, ok86, okB hk6, sAn, sAs, sAA, ups, upn, bkv_n, hlv_n, ne_eq, Nat.reduceEqDiff, Nat.reduceLT, Nat.reduceLeDiff, or_true, true_or, not_false_eq_true, sAn (show 47 + k ≠ 86 by omega), H.f5 hk, H.f6 hk, H.f2 hk, not_true_eq_false, not_false_eq_true, if_true, if_false, and_self, vh_bds, vh_ps1, vh_ps0, vb0, vb1, vbz, vbo]
  rfl
theorem s127a {i x : Int32} (hg : ¬ ((0 ≤ i ∧ i < mi 42 5) ∧ (0 ≤ x ∧ x ≤ 1))) : vh_C 127 [.ref 0, .int i, .int x] (vh_K d mi ml) = some (some (.int (-1000001)), vh_K d mi ml) := by
  simp only [c127, e127_0, e127_1, e127_4, e127_5, e127_8, e127_11, e127_12, e127_13, e127_14, e127_17, e127_20, e127_22, e127_24, e127_27, e127_28, e127_31, e127_32, e127_33, e127_36, e127_37, e127_38, e127_41, e127_42, e127_45, e127_46, e127_49, e127_52, e127_55, e127_57, e127_58, e127_61, e127_62, e127_63, e127_66, e127_67, e127_70, e127_73, e127_74, e127_77, e127_78, e127_81, e127_83, e127_86, e127_89, e127_90, e127_93, e127_95, e127_98, s72, s14, ok0, ok42, rf0_4, not_true_eq_false, not_false_eq_true, if_true, if_false, and_self, vh_bds, vh_ps1, vh_ps0, vb0, vb1, vbz, vbo]
  by_cases h1 : 0 ≤ i ∧ i < mi 42 5
  · rw [if_neg (not_not_intro h1), if_neg (fun z => hg ⟨h1, Classical.not_not.mp z⟩)]
  · rw [if_pos h1]
def akL (x : Nat) (K : Nat) : List Int32 := if x = 0 then szL K else mkL K
def akV (x : Nat) (K : Nat) (p u dy P : Int32) : Int32 := if x = 0 then szV K p u P else mkV K p u dy P
theorem s127b {T x : Nat} (H : DiC mi n b g) (B : DiB n b g) (hk : k < n) (hT : T ≤ 364) (h11 : mi 0 11 = nI T) (hx : x ≤ 1) : ∃ f45 f44, vh_C 127 [.ref 0, .int (nI k), .int (nI x)] (vh_K d mi ml) = some (some (.int (akV x (kdN b g T (hld b g n T) k) (nI (b k 5)) (nI (b k 6)) (nI (b k 2)) (prI g (b k)))), vh_K d ((akL x (kdN b g T (hld b g n T) k)).foldl beg (abt (vh_sA (vh_sA mi 45 f45) 44 f44) (nI (b k 5)) (nI (b k 6)) (nI (b k 2)) (prI g (b k)))) ml) := by
  have hn := B.1
  have hk6 : k < 16 := by omega
  obtain ⟨f45, f44, h1⟩ := s82 (d := d) (ml := ml) H B hT
  refine ⟨f45, f44, ?_⟩
  have H2 : DiC (vh_sA (vh_sA mi 45 f45) 44 f44) n b g := (H.fr hn (by omega)).fr hn (by omega)
  have hg : 0 ≤ nI k ∧ nI k < nI n := (hasN (by omega)).mpr ⟨k, hk, rfl⟩
  have hgx : 0 ≤ nI x ∧ nI x ≤ 1 := ⟨nI_pos' (by omega), nI_le (b := 1) hx (by decide)⟩
  have hK := kd_le (b := b) (g := g) (k := k) (T := T) (M := hld b g n T)
  have z0 : abt (vh_sA (vh_sA mi 45 f45) 44 f44) (nI (b k 5)) (nI (b k 6)) (nI (b k 2)) (prI g (b k)) 86 1 = nI 0 := by unfold abt; simp only [sAn, sAs, sAA, ups, upn, bkv_n, hlv_n, ne_eq, Nat.reduceEqDiff, Nat.reduceLT, Nat.reduceLeDiff, or_true, true_or, not_false_eq_true]; rfl
  have z2 : abt (vh_sA (vh_sA mi 45 f45) 44 f44) (nI (b k 5)) (nI (b k 6)) (nI (b k 2)) (prI g (b k)) 86 2 = nI (b k 5) := by unfold abt; simp only [sAn, sAs, sAA, ups, upn, bkv_n, hlv_n, ne_eq, Nat.reduceEqDiff, Nat.reduceLT, Nat.reduceLeDiff, or_true, true_or, not_false_eq_true]
  have z3 : abt (vh_sA (vh_sA mi 45 f45) 44 f44) (nI (b k 5)) (nI (b k 6)) (nI (b k 2)) (prI g (b k)) 86 3 = nI (b k 6) := by unfold abt; simp only [sAn, sAs, sAA, ups, upn, bkv_n, hlv_n, ne_eq, Nat.reduceEqDiff, Nat.reduceLT, Nat.reduceLeDiff, or_true, true_or, not_false_eq_true]
  have z4 : abt (vh_sA (vh_sA mi 45 f45) 44 f44) (nI (b k 5)) (nI (b k 6)) (nI (b k 2)) (prI g (b k)) 86 4 = nI (b k 2) := by unfold abt; simp only [sAn, sAs, sAA, ups, upn, bkv_n, hlv_n, ne_eq, Nat.reduceEqDiff, Nat.reduceLT, Nat.reduceLeDiff, or_true, true_or, not_false_eq_true]
  have z5 : abt (vh_sA (vh_sA mi 45 f45) 44 f44) (nI (b k 5)) (nI (b k 6)) (nI (b k 2)) (prI g (b k)) 86 5 = prI g (b k) := by unfold abt; simp only [sAn, sAs, sAA, ups, upn, bkv_n, hlv_n, ne_eq, Nat.reduceEqDiff, Nat.reduceLT, Nat.reduceLeDiff, or_true, true_or, not_false_eq_true]
  simp only [c127, e127_0, e127_1, e127_4, e127_5, e127_8, e127_11, e127_12, e127_13, e127_14, e127_17, e127_20, e127_22, e127_23, e127_24, e127_27, e127_28, e127_31, e127_32, e127_33, e127_36, e127_37, e127_38, e127_41, e127_42, e127_45, e127_46, e127_49, e127_52, e127_55, e127_57, e127_58, e127_61, e127_62, e127_63, e127_66, e127_67, e127_70, e127_73, e127_74, e127_77, e127_78, e127_81, e127_83, e127_86, e127_89, e127_90, e127_93, e127_95, e127_98, s72, s14, H.sz, h11, h1, s125 H2 B hk hT (hld_lt B), s73 hk6, s75 H2 B hk, s128 H2 B hk, s129 hK z0, s136 hK z0, z2, z3, z4, z5, ok0, ok42, ok86, rf0_4, rf0_10, hg, hgx, not_true_eq_false, not_false_eq_true, if_true, if_false, and_self, vh_bds, vh_ps1, vh_ps0, vb0, vb1, vbz, vbo]
  unfold akV akL
  by_cases q : x = 0
  · subst q
    rw [if_neg (not_not_intro (show nI 0 = 0 from rfl)), if_pos rfl, if_pos rfl]
  · rw [if_pos (show ¬ nI x = 0 from fun z => q ((nI_eq (b := 0) (by omega) (by decide)).mp z)), if_neg q, if_neg q]
/-! THE REFERENCE'S -/
theorem begR_M {v : Int32} (H : DiM mi n b g) : DiM (begR mi v) n b g := by
  unfold begR
  exact (H.fr (a := 121) (by omega)).fr8 (by rw [upn (by decide), sAn (by decide)])
theorem s213 {K c : Nat} (hK : K ≤ 4) (hK3 : K ≠ 3) (H : DiM mi n b g) (B : DiB n b g) (hk : k < n) (h : mi 88 53 = nI c) (hc : c < 8) : vh_C 213 [.ref 88, .int (nI k), .int (nI K)] (vh_K d mi ml) = some (some (.int (szV K (nI (b k 5)) (nI (b k 6)) (prI g (b k)))), vh_K d ((szL K).foldl begR mi) ml) := by
  have hk6 : k < 16 := by have := B.1; omega
  rcases (show K = 0 ∨ K = 4 ∨ K = 1 ∨ K = 2 by omega) with rfl | rfl | rfl | rfl
  · have H1 := begR_M (v := 10) H
    simp only [c213, e213_0, e213_1, e213_2, e213_5, e213_6, e213_8, e213_11, e213_12, e213_13, e213_16, e213_19, e213_20, e213_22, e213_25, e213_26, e213_28, e213_31, e213_32, e213_33, e213_34, e213_37, e213_38, e213_39, e213_42, e213_45, e213_46, e213_47, e213_50, e213_53, e213_54, e213_55, e213_56, e213_57, e213_58, e213_61, e213_62, e213_63, e213_64, e213_67, e213_68, s210, ok88, s214 h (show c < 16 by omega), s177_5 hk6, H1.f5 hk, s179 H1 B hk, show (nI 0 = 1) = decide (0 = 1) from by decide, show (nI 0 = 2) = decide (0 = 2) from by decide, show ((1 : Int32) = 0) = False from by decide, Bool.false_eq_true, true_and, false_and, show ((1 : Int32) = 1) = True from by decide, decide_true, decide_false, Nat.reduceEqDiff, or_false, false_or, or_self, and_false, Int32.add_zero, not_true_eq_false, not_false_eq_true, if_true, if_false, and_self, vh_bds, vh_ps1, vh_ps0, vb0, vb1, vbz, vbo]
    rfl
  · have H1 := begR_M (v := 10) H
    simp only [c213, e213_0, e213_1, e213_2, e213_5, e213_6, e213_8, e213_11, e213_12, e213_13, e213_16, e213_19, e213_20, e213_22, e213_25, e213_26, e213_28, e213_31, e213_32, e213_33, e213_34, e213_37, e213_38, e213_39, e213_42, e213_45, e213_46, e213_47, e213_50, e213_53, e213_54, e213_55, e213_56, e213_57, e213_58, e213_61, e213_62, e213_63, e213_64, e213_67, e213_68, s210, ok88, s214 h (show c < 16 by omega), s177_5 hk6, H1.f5 hk, s179 H1 B hk, show (nI 4 = 1) = decide (4 = 1) from by decide, show (nI 4 = 2) = decide (4 = 2) from by decide, show ((1 : Int32) = 0) = False from by decide, Bool.false_eq_true, true_and, false_and, show ((1 : Int32) = 1) = True from by decide, decide_true, decide_false, Nat.reduceEqDiff, or_false, false_or, or_self, and_false, Int32.add_zero, not_true_eq_false, not_false_eq_true, if_true, if_false, and_self, vh_bds, vh_ps1, vh_ps0, vb0, vb1, vbz, vbo]
    rfl
  · have H1 := begR_M (v := 10) (begR_M (v := 11) H)
    simp only [c213, e213_0, e213_1, e213_2, e213_5, e213_6, e213_8, e213_11, e213_12, e213_13, e213_16, e213_19, e213_20, e213_22, e213_25, e213_26, e213_28, e213_31, e213_32, e213_33, e213_34, e213_37, e213_38, e213_39, e213_42, e213_45, e213_46, e213_47, e213_50, e213_53, e213_54, e213_55, e213_56, e213_57, e213_58, e213_61, e213_62, e213_63, e213_64, e213_67, e213_68, s210, ok88, s214 h (show c < 16 by omega), s214 (begR_sz (v := 11) h) (show c + 1 < 16 by omega), s177_5 hk6, H1.f5 hk, s179 H1 B hk, show (nI 1 = 1) = decide (1 = 1) from by decide, show (nI 1 = 2) = decide (1 = 2) from by decide, show ((1 : Int32) = 0) = False from by decide, Bool.false_eq_true, true_and, false_and, show ((1 : Int32) = 1) = True from by decide, decide_true, decide_false, Nat.reduceEqDiff, or_false, false_or, or_true, true_or, or_self, and_false, not_true_eq_false, not_false_eq_true, if_true, if_false, and_self, vh_bds, vh_ps1, vh_ps0, vb0, vb1, vbz, vbo]
    rfl
  · have H1 := begR_M (v := 10) (begR_M (v := 11) (begR_M (v := 12) H))
    simp only [c213, e213_0, e213_1, e213_2, e213_5, e213_6, e213_8, e213_11, e213_12, e213_13, e213_16, e213_19, e213_20, e213_22, e213_25, e213_26, e213_28, e213_31, e213_32, e213_33, e213_34, e213_37, e213_38, e213_39, e213_42, e213_45, e213_46, e213_47, e213_50, e213_53, e213_54, e213_55, e213_56, e213_57, e213_58, e213_61, e213_62, e213_63, e213_64, e213_67, e213_68, s210, ok88, s214 h (show c < 16 by omega), s214 (begR_sz (v := 12) h) (show c + 1 < 16 by omega), s214 (begR_sz (v := 11) (begR_sz (v := 12) h)) (show c + 1 + 1 < 16 by omega), s177_5 hk6, H1.f5 hk, s179 H1 B hk, show (nI 2 = 1) = decide (2 = 1) from by decide, show (nI 2 = 2) = decide (2 = 2) from by decide, show ((1 : Int32) = 0) = False from by decide, Bool.false_eq_true, true_and, false_and, show ((1 : Int32) = 1) = True from by decide, decide_true, decide_false, Nat.reduceEqDiff, or_false, false_or, or_true, true_or, or_self, and_false, not_true_eq_false, not_false_eq_true, if_true, if_false, and_self, vh_bds, vh_ps1, vh_ps0, vb0, vb1, vbz, vbo]
    rw [Int32.mul_comm]
    rfl
theorem szL_2 : szL 2 = [12, 11, 10] := rfl
theorem szL_4 : szL 4 = [10] := rfl
theorem mkL_2 : mkL 2 = [22, 21, 20, 12, 11, 10] := rfl
theorem mkL_4 : mkL 4 = [23, 20, 10] := rfl
theorem szV_2 {p u P : Int32} : szV 2 p u P = (p + P) * 2 := rfl
theorem szV_4 {p u P : Int32} : szV 4 p u P = p := rfl
theorem mkV_2 {p u dy P : Int32} : mkV 2 p u dy P = u + dy + (p + P) * 2 := rfl
theorem mkV_4 {p u dy P : Int32} : mkV 4 p u dy P = u + p := rfl
theorem s215 {K c : Nat} (hK : K ≤ 4) (H : DiM mi n b g) (B : DiB n b g) (hk : k < n) (h : mi 88 53 = nI c) (hc : c < 3) : vh_C 215 [.ref 88, .int (nI k), .int (nI K)] (vh_K d mi ml) = some (some (.int (mkV K (nI (b k 5)) (nI (b k 6)) (nI (b k 2)) (prI g (b k)))), vh_K d ((mkL K).foldl begR mi) ml) := by
  have hk6 : k < 16 := by have := B.1; omega
  rcases (show K = 0 ∨ K = 3 ∨ K = 1 ∨ K = 2 ∨ K = 4 by omega) with rfl | rfl | rfl | rfl | rfl
  · have H1 := begR_M (v := 20) H
    simp only [c215, e215_0, e215_1, e215_2, e215_5, e215_6, e215_8, e215_11, e215_12, e215_13, e215_16, e215_19, e215_20, e215_22, e215_25, e215_26, e215_27, e215_30, e215_31, e215_33, e215_36, e215_37, e215_39, e215_42, e215_43, e215_44, e215_46, e215_49, e215_50, e215_51, e215_54, e215_57, e215_58, e215_59, e215_60, e215_63, e215_66, e215_67, e215_68, e215_69, e215_70, e215_71, e215_74, e215_75, e215_76, e215_79, e215_80, e215_81, e215_82, e215_83, e215_86, e215_87, e215_90, e215_91, s210, ok88, s214 h (show c < 16 by omega), s177_6 hk6, s177_2 hk6, H1.f6 hk, H1.f2 hk, show (nI 0 = 1) = decide (0 = 1) from by decide, show (nI 0 = 2) = decide (0 = 2) from by decide, show (nI 0 = 4) = decide (0 = 4) from by decide, show ((1 : Int32) = 0) = False from by decide, Bool.false_eq_true, true_and, false_and, show ((1 : Int32) = 1) = True from by decide, decide_true, decide_false, Nat.reduceEqDiff, or_false, false_or, or_self, and_false, Int32.add_zero, not_true_eq_false, not_false_eq_true, if_true, if_false, and_self, vh_bds, vh_ps1, vh_ps0, vb0, vb1, vbz, vbo]
    rfl
  · have H1 := begR_M (v := 20) H
    simp only [c215, e215_0, e215_1, e215_2, e215_5, e215_6, e215_8, e215_11, e215_12, e215_13, e215_16, e215_19, e215_20, e215_22, e215_25, e215_26, e215_27, e215_30, e215_31, e215_33, e215_36, e215_37, e215_39, e215_42, e215_43, e215_44, e215_46, e215_49, e215_50, e215_51, e215_54, e215_57, e215_58, e215_59, e215_60, e215_63, e215_66, e215_67, e215_68, e215_69, e215_70, e215_71, e215_74, e215_75, e215_76, e215_79, e215_80, e215_81, e215_82, e215_83, e215_86, e215_87, e215_90, e215_91, s210, ok88, s214 h (show c < 16 by omega), s177_6 hk6, s177_2 hk6, H1.f6 hk, H1.f2 hk, show (nI 3 = 1) = decide (3 = 1) from by decide, show (nI 3 = 2) = decide (3 = 2) from by decide, show (nI 3 = 4) = decide (3 = 4) from by decide, show ((1 : Int32) = 0) = False from by decide, Bool.false_eq_true, true_and, false_and, show ((1 : Int32) = 1) = True from by decide, decide_true, decide_false, Nat.reduceEqDiff, or_false, false_or, or_self, and_false, Int32.add_zero, not_true_eq_false, not_false_eq_true, if_true, if_false, and_self, vh_bds, vh_ps1, vh_ps0, vb0, vb1, vbz, vbo]
    rfl
  · have H1 := begR_M (v := 20) (begR_M (v := 21) H)
    simp only [c215, e215_0, e215_1, e215_2, e215_5, e215_6, e215_8, e215_11, e215_12, e215_13, e215_16, e215_19, e215_20, e215_22, e215_25, e215_26, e215_27, e215_30, e215_31, e215_33, e215_36, e215_37, e215_39, e215_42, e215_43, e215_44, e215_46, e215_49, e215_50, e215_51, e215_54, e215_57, e215_58, e215_59, e215_60, e215_63, e215_66, e215_67, e215_68, e215_69, e215_70, e215_71, e215_74, e215_75, e215_76, e215_79, e215_80, e215_81, e215_82, e215_83, e215_86, e215_87, e215_90, e215_91, s210, ok88, s214 h (show c < 16 by omega), s214 (begR_sz (v := 21) h) (show c + 1 < 16 by omega), s177_6 hk6, s177_2 hk6, H1.f6 hk, H1.f2 hk, show (nI 1 = 1) = decide (1 = 1) from by decide, show (nI 1 = 2) = decide (1 = 2) from by decide, show (nI 1 = 4) = decide (1 = 4) from by decide, show ((1 : Int32) = 0) = False from by decide, Bool.false_eq_true, true_and, false_and, show ((1 : Int32) = 1) = True from by decide, decide_true, decide_false, Nat.reduceEqDiff, or_false, false_or, or_true, true_or, or_self, and_false, not_true_eq_false, not_false_eq_true, if_true, if_false, and_self, vh_bds, vh_ps1, vh_ps0, vb0, vb1, vbz, vbo]
    rfl
  · have H1 := begR_M (v := 20) (begR_M (v := 21) (begR_M (v := 22) H))
    have z := begR_sz (v := 20) (begR_sz (v := 21) (begR_sz (v := 22) h))
    simp only [c215, e215_0, e215_1, e215_2, e215_5, e215_6, e215_8, e215_11, e215_12, e215_13, e215_16, e215_19, e215_20, e215_22, e215_25, e215_26, e215_27, e215_30, e215_31, e215_33, e215_36, e215_37, e215_39, e215_42, e215_43, e215_44, e215_46, e215_49, e215_50, e215_51, e215_54, e215_57, e215_58, e215_59, e215_60, e215_63, e215_66, e215_67, e215_68, e215_69, e215_70, e215_71, e215_74, e215_75, e215_76, e215_79, e215_80, e215_81, e215_82, e215_83, e215_86, e215_87, e215_90, e215_91, s210, ok88, s214 h (show c < 16 by omega), s214 (begR_sz (v := 22) h) (show c + 1 < 16 by omega), s214 (begR_sz (v := 21) (begR_sz (v := 22) h)) (show c + 1 + 1 < 16 by omega), s213 (K := 2) (by decide) (by decide) H1 B hk z (show c + 1 + 1 + 1 < 8 by omega), s177_6 hk6, s177_2 hk6, H1.f6 hk, H1.f2 hk, show (nI 2 = 1) = decide (2 = 1) from by decide, show (nI 2 = 2) = decide (2 = 2) from by decide, show (nI 2 = 4) = decide (2 = 4) from by decide, show ((1 : Int32) = 0) = False from by decide, Bool.false_eq_true, true_and, false_and, show ((1 : Int32) = 1) = True from by decide, decide_true, decide_false, Nat.reduceEqDiff, or_false, false_or, or_true, true_or, or_self, and_false, not_true_eq_false, not_false_eq_true, if_true, if_false, and_self, vh_bds, vh_ps1, vh_ps0, vb0, vb1, vbz, vbo, szL_2, szL_4, mkL_2, mkL_4, szV_2, szV_4, mkV_2, mkV_4, List.foldl_cons, List.foldl_nil]
  · have H1 := begR_M (v := 20) (begR_M (v := 23) H)
    have z := begR_sz (v := 20) (begR_sz (v := 23) h)
    simp only [c215, e215_0, e215_1, e215_2, e215_5, e215_6, e215_8, e215_11, e215_12, e215_13, e215_16, e215_19, e215_20, e215_22, e215_25, e215_26, e215_27, e215_30, e215_31, e215_33, e215_36, e215_37, e215_39, e215_42, e215_43, e215_44, e215_46, e215_49, e215_50, e215_51, e215_54, e215_57, e215_58, e215_59, e215_60, e215_63, e215_66, e215_67, e215_68, e215_69, e215_70, e215_71, e215_74, e215_75, e215_76, e215_79, e215_80, e215_81, e215_82, e215_83, e215_86, e215_87, e215_90, e215_91, s210, ok88, s214 h (show c < 16 by omega), s214 (begR_sz (v := 23) h) (show c + 1 < 16 by omega), s213 (K := 4) (by decide) (by decide) H1 B hk z (show c + 1 + 1 < 8 by omega), s177_6 hk6, s177_2 hk6, H1.f6 hk, H1.f2 hk, show (nI 4 = 1) = decide (4 = 1) from by decide, show (nI 4 = 2) = decide (4 = 2) from by decide, show (nI 4 = 4) = decide (4 = 4) from by decide, show ((1 : Int32) = 0) = False from by decide, Bool.false_eq_true, true_and, false_and, show ((1 : Int32) = 1) = True from by decide, decide_true, decide_false, Nat.reduceEqDiff, or_false, false_or, or_true, true_or, or_self, and_false, Int32.add_zero, not_true_eq_false, not_false_eq_true, if_true, if_false, and_self, vh_bds, vh_ps1, vh_ps0, vb0, vb1, vbz, vbo, szL_2, szL_4, mkL_2, mkL_4, szV_2, szV_4, mkV_2, mkV_4, List.foldl_cons, List.foldl_nil]
theorem s212 {K : Nat} (hK : K ≤ 4) (H : DiM mi n b g) (B : DiB n b g) (hk : k < n) (h : mi 88 53 = nI 0) : vh_C 212 [.ref 88, .int (nI k), .int (nI K)] (vh_K d mi ml) = some (some (.int (szV K (nI (b k 5)) (nI (b k 6)) (prI g (b k)))), vh_K d ((szL K).foldl begR mi) ml) := by
  have hk6 : k < 16 := by have := B.1; omega
  by_cases q : K = 3
  · subst q
    have H1 := begR_M (v := 10) (begR_M (v := 13) H)
    have z := begR_sz (v := 10) (begR_sz (v := 13) h)
    simp only [c212, e212_0, e212_1, e212_2, e212_5, e212_6, e212_7, e212_8, e212_11, e212_12, e212_13, e212_15, e212_18, e212_19, e212_21, e212_24, e212_25, e212_26, e212_27, e212_30, e212_31, e212_32, e212_33, e212_36, e212_37, ok88, s214 h (by decide), s214 (begR_sz (v := 13) h) (by decide), s215 (K := 3) (by decide) H1 B hk z (by decide), s177_5 hk6, H1.f5 hk, show (nI 3 = 3) = True from by decide, not_true_eq_false, not_false_eq_true, if_true, if_false, and_self, vh_bds, vh_ps1, vh_ps0, vb0, vb1, vbz, vbo]
    rfl
  · simp only [c212, e212_0, e212_1, e212_2, e212_5, e212_6, e212_7, e212_8, e212_11, e212_12, e212_13, e212_15, e212_18, e212_19, e212_21, e212_24, e212_25, e212_26, e212_27, e212_30, e212_31, e212_32, e212_33, e212_36, e212_37, ok88, s213 hK q H B hk h (by decide), show ¬ nI K = 3 from fun z => q ((nI_eq (b := 3) (by omega) (by decide)).mp z), not_true_eq_false, not_false_eq_true, if_true, if_false, and_self, vh_bds, vh_ps1, vh_ps0, vb0, vb1, vbz, vbo]
theorem s211a {i x : Int32} (hg : ¬ ((0 ≤ i ∧ i ≤ mi 88 24 - 1) ∧ (0 ≤ x ∧ x ≤ 1))) : vh_C 211 [.ref 88, .int i, .int x] (vh_K d mi ml) = some (some (.int (-1000001)), vh_K d (vh_sA mi 88 (upd (mi 88) 0 0)) ml) := by
  simp only [c211, e211_0, e211_1, e211_2, e211_5, e211_6, e211_7, e211_10, e211_13, e211_14, e211_15, e211_16, e211_17, e211_20, e211_23, e211_25, e211_27, e211_28, e211_31, e211_32, e211_33, e211_36, e211_37, e211_38, e211_41, e211_42, e211_43, e211_44, e211_47, e211_50, e211_51, e211_52, e211_53, e211_56, s176, in_0_1, ok88, sAn, sAs, sAA, ups, upn, bkv_n, hlv_n, ne_eq, Nat.reduceEqDiff, Nat.reduceLT, Nat.reduceLeDiff, or_true, true_or, not_false_eq_true, not_true_eq_false, not_false_eq_true, if_true, if_false, and_self, vh_bds, vh_ps1, vh_ps0, vb0, vb1, vbz, vbo]
  by_cases h1 : 0 ≤ i ∧ i ≤ mi 88 24 - 1
  · rw [if_neg (not_not_intro h1), if_neg (fun z => hg ⟨h1, Classical.not_not.mp z⟩)]
  · rw [if_pos h1]
theorem s211b {T x : Nat} (H : DiM mi n b g) (B : DiB n b g) (hk : k < n) (hT : T ≤ 364) (h27 : mi 88 27 = nI T) (hx : x ≤ 1) : vh_C 211 [.ref 88, .int (nI k), .int (nI x)] (vh_K d mi ml) = some (some (.int (akV x (kdN b g T (hld b g n T) k) (nI (b k 5)) (nI (b k 6)) (nI (b k 2)) (prI g (b k)))), vh_K d ((akL x (kdN b g T (hld b g n T) k)).foldl begR (vh_sA mi 88 (upd (upd (mi 88) 0 0) 53 0))) ml) := by
  have hn := B.1
  have hk6 : k < 16 := by omega
  have hg : 0 ≤ nI k ∧ nI k ≤ nI n - 1 := (inN (by omega)).mpr ⟨k, hk, rfl⟩
  have hgx : 0 ≤ nI x ∧ nI x ≤ 1 := ⟨nI_pos' (by omega), nI_le (b := 1) hx (by decide)⟩
  have H' : DiM (vh_sA mi 88 (upd (upd (mi 88) 0 0) 53 0)) n b g := H.fr8 (by rw [upn (by decide), upn (by decide)])
  have h27' : (vh_sA mi 88 (upd (upd (mi 88) 0 0) 53 0)) 88 27 = nI T := by simp only [sAn, sAs, sAA, ups, upn, bkv_n, hlv_n, ne_eq, Nat.reduceEqDiff, Nat.reduceLT, Nat.reduceLeDiff, or_true, true_or, not_false_eq_true]; exact h27
  have h53 : (vh_sA mi 88 (upd (upd (mi 88) 0 0) 53 0)) 88 53 = nI 0 := by simp only [sAn, sAs, sAA, ups, upn, bkv_n, hlv_n, ne_eq, Nat.reduceEqDiff, Nat.reduceLT, Nat.reduceLeDiff, or_true, true_or, not_false_eq_true]; rfl
  have hK := kd_le (b := b) (g := g) (k := k) (T := T) (M := hld b g n T)
  simp only [c211, e211_0, e211_1, e211_2, e211_5, e211_6, e211_7, e211_10, e211_13, e211_14, e211_15, e211_16, e211_17, e211_20, e211_23, e211_25, e211_26, e211_27, e211_28, e211_31, e211_32, e211_33, e211_36, e211_37, e211_38, e211_41, e211_42, e211_43, e211_44, e211_47, e211_50, e211_51, e211_52, e211_53, e211_56, s176, in_0_1, s208 H' B hk hT h27', s212 hK H' B hk h53, s215 hK H' B hk h53 (by decide), ok88, sAn, sAs, sAA, ups, upn, bkv_n, hlv_n, ne_eq, Nat.reduceEqDiff, Nat.reduceLT, Nat.reduceLeDiff, or_true, true_or, not_false_eq_true, H.sz, hg, hgx, not_true_eq_false, not_false_eq_true, if_true, if_false, and_self, vh_bds, vh_ps1, vh_ps0, vb0, vb1, vbz, vbo]
  unfold akV akL
  by_cases q : x = 0
  · subst q
    rw [if_neg (not_not_intro (show nI 0 = 0 from rfl)), if_pos rfl, if_pos rfl]
  · rw [if_pos (show ¬ nI x = 0 from fun z => q ((nI_eq (b := 0) (by omega) (by decide)).mp z)), if_neg q, if_neg q]
theorem akL_len {x K : Nat} : (akL x K).length ≤ 16 := by
  unfold akL szL mkL
  split
  · split; decide; split; decide; split <;> decide
  · split; decide; split; decide; split <;> decide
theorem sim_ask {i x : Int32} (hR : Rel d mi) : Sim 127 211 [.int i, .int x] d mi ml := by
  obtain ⟨n, b, g, B, C, M⟩ := hR.dia
  obtain ⟨T, hT, t1, t2⟩ := hR.today
  have hn := B.1
  by_cases hi : (∃ k, k < n ∧ i = nI k) ∧ (0 ≤ x ∧ x ≤ 1)
  · obtain ⟨⟨k, hkn, rfl⟩, hx⟩ := hi
    obtain ⟨y, hy, rfl⟩ := nIr hx.1 (show x ≤ nI 1 from hx.2) (by decide)
    obtain ⟨f45, f44, A⟩ := s127b (d := d) (ml := ml) C B hkn hT t1 hy
    have hl := akL_len (x := y) (K := kdN b g T (hld b g n T) k)
    generalize hLe : akL y (kdN b g T (hld b g n T) k) = L at A hl
    have z0 : abt (vh_sA (vh_sA mi 45 f45) 44 f44) (nI (b k 5)) (nI (b k 6)) (nI (b k 2)) (prI g (b k)) 86 1 = nI 0 := by unfold abt; simp only [sAn, sAs, sAA, ups, upn, bkv_n, hlv_n, ne_eq, Nat.reduceEqDiff, Nat.reduceLT, Nat.reduceLeDiff, or_true, true_or, not_false_eq_true]; rfl
    have ao : ∀ a, a ≠ 86 → a ≠ 44 → a ≠ 45 → abt (vh_sA (vh_sA mi 45 f45) 44 f44) (nI (b k 5)) (nI (b k 6)) (nI (b k 2)) (prI g (b k)) a = mi a := by
      intro a h1 h2 h3
      unfold abt
      rw [sAn h1, sAn h2, sAn h3]
    generalize abt (vh_sA (vh_sA mi 45 f45) 44 f44) (nI (b k 5)) (nI (b k 6)) (nI (b k 2)) (prI g (b k)) = ma at A z0 ao
    obtain ⟨p1, p2, p3, p4⟩ := begs_ok L 0 ma z0 (by omega)
    have po : ∀ a, a ≠ 86 → a ≠ 87 → a ≠ 44 → a ≠ 45 → (L.foldl beg ma) a = mi a := fun a h1 h2 h3 h4 => by rw [p4 a h1 h2, ao a h1 h3 h4]
    generalize L.foldl beg ma = mb at A p1 p2 p3 p4 po
    have M2 : DiM mb n b g := by
      obtain ⟨q1, q2, q3, q4⟩ := M
      refine ⟨by rw [po 88 (by decide) (by decide) (by decide) (by decide)]; exact q1, by rw [po 100 (by decide) (by decide) (by decide) (by decide)]; exact q2, by rw [po 101 (by decide) (by decide) (by decide) (by decide)]; exact q3, ?_⟩
      rw [po 89 (by decide) (by decide) (by decide) (by decide), po 90 (by decide) (by decide) (by decide) (by decide), po 91 (by decide) (by decide) (by decide) (by decide), po 92 (by decide) (by decide) (by decide) (by decide), po 93 (by decide) (by decide) (by decide) (by decide), po 94 (by decide) (by decide) (by decide) (by decide), po 95 (by decide) (by decide) (by decide) (by decide)]
      exact q4
    have Bq := s211b (d := d) (ml := ml) M2 B hkn hT (by rw [po 88 (by decide) (by decide) (by decide) (by decide)]; exact t2) hy
    rw [hLe] at Bq
    refine Sim.mk A Bq rfl ?_
    obtain ⟨r1, r2, r3, r4, r5⟩ := begRs_ok L 0 (vh_sA mb 88 (upd (upd (mb 88) 0 0) 53 0)) (by simp only [sAn, sAs, sAA, ups, upn, bkv_n, hlv_n, ne_eq, Nat.reduceEqDiff, Nat.reduceLT, Nat.reduceLeDiff, or_true, true_or, not_false_eq_true]; rfl) (by omega)
    apply hR.cong
    · intro a h1 h2 h3
      rw [r4 a (by omega) (by omega), sAn (by omega), po a (by omega) (by omega) h2 h3]
    · intro a h1 h2
      rw [r4 a (by omega) (by omega), sAn (by omega), po a (by omega) (by omega) (by omega) (by omega)]
    · intro f h1 h2
      rw [r5 f h2, sAs, upn h2, upn h1, po 88 (by decide) (by decide) (by decide) (by decide)]
    · rw [r4 86 (by decide) (by decide), r4 87 (by decide) (by decide), sAn (by decide), sAn (by decide), r1, p1]
      refine ⟨rfl, L.length, by omega, by rw [Nat.zero_add], ?_⟩
      intro i hi
      have e := List.getElem?_eq_getElem hi
      have a1 := p3 i _ e
      have a2 := r3 i _ e
      rw [Nat.zero_add] at a1 a2
      rw [a1, a2]
  · refine Sim.mk (s127a ?_) (s211a ?_) rfl hR.thrown
    · rw [C.sz, hasN (by omega)]; exact hi
    · rw [M.sz, inN (by omega)]; exact hi
end

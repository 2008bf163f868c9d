theorem lgL_snoc {n : Nat} {t h a : Nat → Int32} {x1 x2 x3 : Int32} : lgL (n + 1) (upd t n x1) (upd h n x2) (upd a n x3) (fun _ => 0) = lgL n t h a (fun _ => 0) ++ [(x1, x2, x3, 0)] := by
  unfold lgL
  rw [List.range_succ, List.map_append]
  congr 1
  · apply List.map_congr_left
    intro i hi
    have hi := List.mem_range.mp hi
    rw [upn (by omega), upn (by omega), upn (by omega)]
  · simp only [List.map_cons, List.map_nil, ups]
theorem in_0_95 {l : Int32} {w : vh_W} : vh_C 149 [.long l.toInt64, .long 0, .long 95] w = some (some (.int (vb (0 ≤ l ∧ l ≤ 95))), w) := inI (lo := 0) (hi := 95) (show (0 : Int64) = (0 : Int32).toInt64 from by decide) (show (95 : Int64) = (95 : Int32).toInt64 from by decide)
theorem in_1_600 {l : Int32} {w : vh_W} : vh_C 149 [.long l.toInt64, .long 1, .long 600] w = some (some (.int (vb (1 ≤ l ∧ l ≤ 600))), w) := inI (lo := 1) (hi := 600) (show (1 : Int64) = (1 : Int32).toInt64 from by decide) (show (600 : Int64) = (600 : Int32).toInt64 from by decide)
theorem in_0_255 {l : Int32} {w : vh_W} : vh_C 149 [.long l.toInt64, .long 0, .long 255] w = some (some (.int (vb (0 ≤ l ∧ l ≤ 255))), w) := inI (lo := 0) (hi := 255) (show (0 : Int64) = (0 : Int32).toInt64 from by decide) (show (255 : Int64) = (255 : Int32).toInt64 from by decide)
theorem in_0_3 {l : Int32} {w : vh_W} : vh_C 149 [.long l.toInt64, .long 0, .long 3] w = some (some (.int (vb (0 ≤ l ∧ l ≤ 3))), w) := inI (lo := 0) (hi := 3) (show (0 : Int64) = (0 : Int32).toInt64 from by decide) (show (3 : Int64) = (3 : Int32).toInt64 from by decide)
theorem in_0_9 {l : Int32} {w : vh_W} : vh_C 149 [.long l.toInt64, .long 0, .long 9] w = some (some (.int (vb (0 ≤ l ∧ l ≤ 9))), w) := inI (lo := 0) (hi := 9) (show (0 : Int64) = (0 : Int32).toInt64 from by decide) (show (9 : Int64) = (9 : Int32).toInt64 from by decide)
theorem in_0_96 {l : Int32} {w : vh_W} : vh_C 149 [.long l.toInt64, .long 0, .long 96] w = some (some (.int (vb (0 ≤ l ∧ l ≤ 96))), w) := inI (lo := 0) (hi := 96) (show (0 : Int64) = (0 : Int32).toInt64 from by decide) (show (96 : Int64) = (96 : Int32).toInt64 from by decide)
theorem in_0_100000 {l : Int32} {w : vh_W} : vh_C 149 [.long l.toInt64, .long 0, .long 100000] w = some (some (.int (vb (0 ≤ l ∧ l ≤ 100000))), w) := inI (lo := 0) (hi := 100000) (show (0 : Int64) = (0 : Int32).toInt64 from by decide) (show (100000 : Int64) = (100000 : Int32).toInt64 from by decide)
theorem in_0_7 {l : Int32} {w : vh_W} : vh_C 149 [.long l.toInt64, .long 0, .long 7] w = some (some (.int (vb (0 ≤ l ∧ l ≤ 7))), w) := inI (lo := 0) (hi := 7) (show (0 : Int64) = (0 : Int32).toInt64 from by decide) (show (7 : Int64) = (7 : Int32).toInt64 from by decide)
theorem in_1_99 {l : Int32} {w : vh_W} : vh_C 149 [.long l.toInt64, .long 1, .long 99] w = some (some (.int (vb (1 ≤ l ∧ l ≤ 99))), w) := inI (lo := 1) (hi := 99) (show (1 : Int64) = (1 : Int32).toInt64 from by decide) (show (99 : Int64) = (99 : Int32).toInt64 from by decide)
theorem in_0_99 {l : Int32} {w : vh_W} : vh_C 149 [.long l.toInt64, .long 0, .long 99] w = some (some (.int (vb (0 ≤ l ∧ l ≤ 99))), w) := inI (lo := 0) (hi := 99) (show (0 : Int64) = (0 : Int32).toInt64 from by decide) (show (99 : Int64) = (99 : Int32).toInt64 from by decide)
theorem in_0_1 {l : Int32} {w : vh_W} : vh_C 149 [.long l.toInt64, .long 0, .long 1] w = some (some (.int (vb (0 ≤ l ∧ l ≤ 1))), w) := inI (lo := 0) (hi := 1) (show (0 : Int64) = (0 : Int32).toInt64 from by decide) (show (1 : Int64) = (1 : Int32).toInt64 from by decide)
theorem in_0_4 {l : Int32} {w : vh_W} : vh_C 149 [.long l.toInt64, .long 0, .long 4] w = some (some (.int (vb (0 ≤ l ∧ l ≤ 4))), w) := inI (lo := 0) (hi := 4) (show (0 : Int64) = (0 : Int32).toInt64 from by decide) (show (4 : Int64) = (4 : Int32).toInt64 from by decide)
theorem in_0_2 {l : Int32} {w : vh_W} : vh_C 149 [.long l.toInt64, .long 0, .long 2] w = some (some (.int (vb (0 ≤ l ∧ l ≤ 2))), w) := inI (lo := 0) (hi := 2) (show (0 : Int64) = (0 : Int32).toInt64 from by decide) (show (2 : Int64) = (2 : Int32).toInt64 from by decide)
theorem in_0_10 {l : Int32} {w : vh_W} : vh_C 149 [.long l.toInt64, .long 0, .long 10] w = some (some (.int (vb (0 ≤ l ∧ l ≤ 10))), w) := inI (lo := 0) (hi := 10) (show (0 : Int64) = (0 : Int32).toInt64 from by decide) (show (10 : Int64) = (10 : Int32).toInt64 from by decide)
theorem in_0_18 {l : Int32} {w : vh_W} : vh_C 149 [.long l.toInt64, .long 0, .long 18] w = some (some (.int (vb (0 ≤ l ∧ l ≤ 18))), w) := inI (lo := 0) (hi := 18) (show (0 : Int64) = (0 : Int32).toInt64 from by decide) (show (18 : Int64) = (18 : Int32).toInt64 from by decide)
theorem in_1_500 {l : Int32} {w : vh_W} : vh_C 149 [.long l.toInt64, .long 1, .long 500] w = some (some (.int (vb (1 ≤ l ∧ l ≤ 500))), w) := inI (lo := 1) (hi := 500) (show (1 : Int64) = (1 : Int32).toInt64 from by decide) (show (500 : Int64) = (500 : Int32).toInt64 from by decide)
theorem in_1_999 {l : Int32} {w : vh_W} : vh_C 149 [.long l.toInt64, .long 1, .long 999] w = some (some (.int (vb (1 ≤ l ∧ l ≤ 999))), w) := inI (lo := 1) (hi := 999) (show (1 : Int64) = (1 : Int32).toInt64 from by decide) (show (999 : Int64) = (999 : Int32).toInt64 from by decide)
theorem in_4_5 {l : Int32} {w : vh_W} : vh_C 149 [.long l.toInt64, .long 4, .long 5] w = some (some (.int (vb (4 ≤ l ∧ l ≤ 5))), w) := inI (lo := 4) (hi := 5) (show (4 : Int64) = (4 : Int32).toInt64 from by decide) (show (5 : Int64) = (5 : Int32).toInt64 from by decide)
theorem in_10_14 {l : Int32} {w : vh_W} : vh_C 149 [.long l.toInt64, .long 10, .long 14] w = some (some (.int (vb (10 ≤ l ∧ l ≤ 14))), w) := inI (lo := 10) (hi := 14) (show (10 : Int64) = (10 : Int32).toInt64 from by decide) (show (14 : Int64) = (14 : Int32).toInt64 from by decide)
theorem in_20_24 {l : Int32} {w : vh_W} : vh_C 149 [.long l.toInt64, .long 20, .long 24] w = some (some (.int (vb (20 ≤ l ∧ l ≤ 24))), w) := inI (lo := 20) (hi := 24) (show (20 : Int64) = (20 : Int32).toInt64 from by decide) (show (24 : Int64) = (24 : Int32).toInt64 from by decide)
theorem in_1_8 {l : Int32} {w : vh_W} : vh_C 149 [.long l.toInt64, .long 1, .long 8] w = some (some (.int (vb (1 ≤ l ∧ l ≤ 8))), w) := inI (lo := 1) (hi := 8) (show (1 : Int64) = (1 : Int32).toInt64 from by decide) (show (8 : Int64) = (8 : Int32).toInt64 from by decide)
section
variable {d : Nat} {mi : Nat → Nat → Int32} {ml : Nat → Nat → Int64}

theorem s103a {h dy q m : Int32} (hg : ¬ (((0 ≤ h ∧ h ≤ 3) ∧ (0 ≤ dy ∧ dy ≤ 364) ∧ (0 ≤ q ∧ q ≤ 95)) ∧ (1 ≤ m ∧ m ≤ 600))) : vh_C 103 [.ref 0, .int h, .int dy, .int q, .int m] (vh_K d mi ml) = some (some (.int (-1000001)), vh_K d mi ml) := by
  simp only [c103, e103_0, e103_1, e103_2, e103_3, e103_5, e103_8, e103_11, e103_13, e103_14, e103_17, e103_20, e103_23, e103_25, e103_26, e103_27, e103_30, e103_31, e103_32, e103_35, e103_36, e103_38, e103_39, e103_42, s104, s14, ok0, not_true_eq_false, not_false_eq_true, if_true, if_false, and_self, vh_bds, vh_ps1, vh_ps0, vb0, vb1, vbz, vbo]
  by_cases h1 : (0 ≤ h ∧ h ≤ 3) ∧ (0 ≤ dy ∧ dy ≤ 364) ∧ (0 ≤ q ∧ q ≤ 95)
  · rw [if_neg (not_not_intro h1), if_neg (not_not_intro (fun z => hg ⟨h1, z⟩))]
  · rw [if_pos h1]
theorem s194a {h dy q m : Int32} (hg : ¬ (((0 ≤ h ∧ h ≤ 3) ∧ (0 ≤ dy ∧ dy ≤ 364) ∧ (0 ≤ q ∧ q ≤ 95)) ∧ (1 ≤ m ∧ m ≤ 600))) : vh_C 194 [.ref 88, .int h, .int dy, .int q, .int m] (vh_K d mi ml) = some (some (.int (-1000001)), vh_K d (vh_sA mi 88 (upd (mi 88) 0 0)) ml) := by
  simp only [c194, e194_0, e194_1, e194_2, e194_5, e194_6, e194_9, e194_12, e194_13, e194_16, e194_19, e194_20, e194_21, e194_22, e194_25, e194_28, e194_31, e194_33, e194_34, e194_35, e194_38, e194_41, e194_44, e194_46, e194_47, e194_48, e194_51, e194_53, e194_56, e194_58, e194_59, e194_60, e194_63, e194_64, e194_67, e194_68, e194_69, e194_70, e194_73, e194_74, e194_77, e194_79, e194_80, e194_81, e194_82, e194_83, e194_84, e194_85, e194_88, e194_89, e194_92, e194_94, e194_95, e194_96, e194_97, e194_100, e194_101, e194_102, e194_105, e194_106, e194_109, s172, s174, in_0_95, in_1_600, ok88, not_true_eq_false, not_false_eq_true, if_true, if_false, and_self, vh_bds, vh_ps1, vh_ps0, vb0, vb1, vbz, vbo]
  by_cases h1 : 0 ≤ h ∧ h ≤ 3
  · rw [if_neg (not_not_intro h1)]
    by_cases h2 : 0 ≤ dy ∧ dy ≤ 364
    · rw [if_neg (not_not_intro h2)]
      by_cases h3 : 0 ≤ q ∧ q ≤ 95
      · rw [if_neg (not_not_intro h3), if_neg (not_not_intro (fun z => hg ⟨⟨h1, h2, h3⟩, z⟩))]
      · rw [if_pos h3]
    · rw [if_pos h2]
  · rw [if_pos h1]
theorem s103b {h dy q m : Int32} (h1 : (0 ≤ h ∧ h ≤ 3) ∧ (0 ≤ dy ∧ dy ≤ 364) ∧ (0 ≤ q ∧ q ≤ 95)) (h2 : 1 ≤ m ∧ m ≤ 600) : vh_C 103 [.ref 0, .int h, .int dy, .int q, .int m] (vh_K d mi ml) = vh_bd (vh_C 106 [.ref 67, .int (dy * 96 + q), .int h, .int m, .int 0] (vh_K d mi ml)) (fun v w => vh_E 103 42 [some (.ref 0), some (.int h), some (.int dy), some (.int q), some (.int m)] (vh_ps v []) w) := by
  simp only [c103, e103_0, e103_1, e103_2, e103_3, e103_5, e103_8, e103_11, e103_13, e103_14, e103_17, e103_20, e103_23, e103_25, e103_26, e103_27, e103_30, e103_31, e103_32, e103_35, e103_36, e103_38, e103_39, s104, s105, s14, ok0, ok67, rf0_6, h1, h2, not_true_eq_false, not_false_eq_true, if_true, if_false, and_self, vh_bds, vh_ps1, vh_ps0, vb0, vb1, vbz, vbo]
theorem s194b {h dy q m : Int32} {n : Nat} (h1 : (0 ≤ h ∧ h ≤ 3) ∧ (0 ≤ dy ∧ dy ≤ 364) ∧ (0 ≤ q ∧ q ≤ 95)) (h2 : 1 ≤ m ∧ m ≤ 600) (hn : mi 88 33 = nI n) (h40 : n < 40) : vh_C 194 [.ref 88, .int h, .int dy, .int q, .int m] (vh_K d mi ml) = some (some (.int (nI (n + 1))), vh_K d (vh_sA (vh_sA (vh_sA (vh_sA mi 106 (upd (mi 106) n h)) 107 (upd (mi 107) n (96 * dy + q))) 108 (upd (mi 108) n m)) 88 (upd (upd (mi 88) 0 0) 33 (nI (n + 1)))) ml) := by
  have x1 : vh_ixa 106 (nI n) = true := ixa (by rw [kd106]; omega) (by omega)
  have x2 : vh_ixa 107 (nI n) = true := ixa (by rw [kd107]; omega) (by omega)
  have x3 : vh_ixa 108 (nI n) = true := ixa (by rw [kd108]; omega) (by omega)
  have hc : (nI n).toNatClampNeg = n := nI_clamp (by omega)
  have hne : ¬ nI n = 40 := fun z => by have := (nI_eq (a := n) (b := 40) (by omega) (by decide)).mp z; omega
  simp only [c194, e194_0, e194_1, e194_2, e194_5, e194_6, e194_9, e194_12, e194_13, e194_16, e194_19, e194_20, e194_21, e194_22, e194_25, e194_28, e194_31, e194_33, e194_34, e194_35, e194_38, e194_41, e194_44, e194_46, e194_47, e194_48, e194_51, e194_53, e194_56, e194_58, e194_59, e194_60, e194_63, e194_64, e194_67, e194_68, e194_69, e194_70, e194_73, e194_74, e194_77, e194_79, e194_80, e194_81, e194_82, e194_83, e194_84, e194_85, e194_88, e194_89, e194_92, e194_94, e194_95, e194_96, e194_97, e194_100, e194_101, e194_102, e194_105, e194_106, e194_109, s172, s174, in_0_95, in_1_600, ok88, ok106, ok107, ok108, rf88_34, rf88_35, rf88_36, x1, x2, x3, hc, hn, hne, h1, h2, not_true_eq_false, not_false_eq_true, if_true, if_false, and_self, vh_bds, vh_ps1, vh_ps0, vb0, vb1, vbz, vbo, sAn, sAs, sAA, ups, upn, bkv_n, hlv_n, ne_eq, Nat.reduceEqDiff, Nat.reduceLT, Nat.reduceLeDiff, or_true, true_or, not_false_eq_true, nI_1]
  congr 3
  funext c
  unfold vh_sA
  by_cases c1 : c = 88
  · subst c1; rfl
  by_cases c2 : c = 108
  · subst c2; rfl
  by_cases c3 : c = 107
  · subst c3; rfl
  by_cases c4 : c = 106
  · subst c4; rfl
  simp only [c1, c2, c3, c4, if_false]
theorem s194c {h dy q m : Int32} (h1 : (0 ≤ h ∧ h ≤ 3) ∧ (0 ≤ dy ∧ dy ≤ 364) ∧ (0 ≤ q ∧ q ≤ 95)) (h2 : 1 ≤ m ∧ m ≤ 600) (hn : mi 88 33 = nI 40) : vh_C 194 [.ref 88, .int h, .int dy, .int q, .int m] (vh_K d mi ml) = some (some (.int (-1000003)), vh_K d (vh_sA mi 88 (upd (mi 88) 0 0)) ml) := by
  simp only [c194, e194_0, e194_1, e194_2, e194_5, e194_6, e194_9, e194_12, e194_13, e194_16, e194_19, e194_20, e194_21, e194_22, e194_25, e194_28, e194_31, e194_33, e194_34, e194_35, e194_38, e194_41, e194_44, e194_46, e194_47, e194_48, e194_51, e194_53, e194_56, e194_58, e194_59, e194_60, e194_63, e194_64, e194_67, e194_68, e194_69, e194_70, e194_73, e194_74, e194_77, e194_79, e194_80, e194_81, e194_82, e194_83, e194_84, e194_85, e194_88, e194_89, e194_92, e194_94, e194_95, e194_96, e194_97, e194_100, e194_101, e194_102, e194_105, e194_106, e194_109, s172, s174, in_0_95, in_1_600, ok88, hn, show ¬ ¬ nI 40 = (40 : Int32) from by decide, h1, h2, not_true_eq_false, not_false_eq_true, if_true, if_false, and_self, vh_bds, vh_ps1, vh_ps0, vb0, vb1, vbz, vbo, sAn, sAs, sAA, ups, upn, bkv_n, hlv_n, ne_eq, Nat.reduceEqDiff, Nat.reduceLT, Nat.reduceLeDiff, or_true, true_or, not_false_eq_true]
theorem sim_coin {h dy q m : Int32} (hR : Rel d mi) : Sim 103 194 [.int h, .int dy, .int q, .int m] d mi ml := by
  by_cases hg : ((0 ≤ h ∧ h ≤ 3) ∧ (0 ≤ dy ∧ dy ≤ 364) ∧ (0 ≤ q ∧ q ≤ 95)) ∧ (1 ≤ m ∧ m ≤ 600)
  · obtain ⟨g1, g2⟩ := hg
    have hL := hR.2.2.2.2.2.2.2.2.1
    obtain ⟨e, n, hn, hc, l, hl, ht, hs, hok⟩ := hL
    have h88 : mi 88 33 = nI n := e.symm.trans hc
    by_cases hf : n = 40
    · subst hf
      have A : vh_C 103 [.ref 0, .int h, .int dy, .int q, .int m] (vh_K d mi ml) = some (some (.int (-1000003)), vh_K d mi ml) := by
        rw [s103b g1 g2, f106_67 hc]
        simp only [e103_0, e103_1, e103_2, e103_3, e103_5, e103_8, e103_11, e103_13, e103_14, e103_17, e103_20, e103_23, e103_25, e103_26, e103_27, e103_30, e103_31, e103_32, e103_35, e103_36, e103_38, e103_39, e103_42, not_true_eq_false, not_false_eq_true, if_true, if_false, and_self, vh_bds, vh_ps1, vh_ps0, vb0, vb1, vbz, vbo]
      exact Sim.mk A (s194c g1 g2 h88) rfl hR.thrown
    · have h40 : n < 40 := by omega
      have A := s103b (d := d) (mi := mi) (ml := ml) g1 g2
      rw [s106_67 h40 hc] at A
      simp only [e103_0, e103_1, e103_2, e103_3, e103_5, e103_8, e103_11, e103_13, e103_14, e103_17, e103_20, e103_23, e103_25, e103_26, e103_27, e103_30, e103_31, e103_32, e103_35, e103_36, e103_38, e103_39, e103_42, not_true_eq_false, not_false_eq_true, if_true, if_false, and_self, vh_bds, vh_ps1, vh_ps0, vb0, vb1, vbz, vbo] at A
      refine Sim.mk A (s194b (n := n) g1 g2 ?_ h40) rfl ?_
      · simp only [sAn, sAs, sAA, ups, upn, bkv_n, hlv_n, ne_eq, Nat.reduceEqDiff, Nat.reduceLT, Nat.reduceLeDiff, or_true, true_or, not_false_eq_true]; exact h88
      · unfold Rel at hR ⊢
        simp only [sAn, sAs, sAA, ups, upn, bkv_n, hlv_n, ne_eq, Nat.reduceEqDiff, Nat.reduceLT, Nat.reduceLeDiff, or_true, true_or, not_false_eq_true]
        have hsrt := lgL_sorted (by rw [hs]; exact lgSort_S l)
        obtain ⟨kd, hkd, rfl⟩ := nIr g1.2.1.1 (show dy ≤ nI 364 from g1.2.1.2) (by decide)
        obtain ⟨kq, hkq, rfl⟩ := nIr g1.2.2.1 (show q ≤ nI 95 from g1.2.2.2) (by decide)
        obtain ⟨kh, hkh, rfl⟩ := nIr g1.1.1 (show h ≤ nI 3 from g1.1.2) (by decide)
        obtain ⟨km, hkm, rfl⟩ := nIr (Int32.le_trans (show (0 : Int32) ≤ 1 from by decide) g2.1) (show m ≤ nI 600 from g2.2) (by decide)
        have hlo : 1 ≤ km := (nI_leI (a := 1) (by decide) (by omega)).mp g2.1
        have hm96 : nI kd * 96 + nI kq = nI (kd * 96 + kq) := by rw [show (96 : Int32) = nI 96 from rfl, pk_mul, nI_add]
        have hm96' : 96 * nI kd + nI kq = nI (kd * 96 + kq) := by rw [show (96 : Int32) = nI 96 from rfl, pk_mul, nI_add, Nat.mul_comm]
        refine ⟨hR.1, hR.2.1, hR.2.2.1, hR.2.2.2.1, hR.2.2.2.2.1, hR.2.2.2.2.2.1, hR.2.2.2.2.2.2.1, hR.2.2.2.2.2.2.2.1, ?_, hR.2.2.2.2.2.2.2.2.2⟩
        refine ⟨rfl, n + 1, h40, rfl, l ++ [(nI (kd * 96 + kq), nI kh, nI km, 0)], by rw [List.length_append, hl]; rfl, ?_, ?_, ?_⟩
        · show _ = lgL _ _ _ _ _
          rw [List.length_append, hl, hm96']
          show _ = lgL (n + 1) _ _ _ _
          rw [lgL_snoc]
          congr 1
          rw [hl] at ht
          exact ht
        · rw [hm96, lgL_ins hsrt, lgSort_snoc, hs]
        · intro x hx
          rcases List.mem_append.mp hx with z | z
          · exact hok x z
          · rw [List.mem_singleton.mp z]
            exact ⟨⟨kd * 96 + kq, by omega, by omega, rfl⟩, ⟨kh, by omega, hkh, rfl⟩, ⟨km, hlo, hkm, rfl⟩⟩
  · exact Sim.mk (s103a hg) (s194a hg) rfl hR.thrown

theorem s113a {h dy q m : Int32} (hg : ¬ (((0 ≤ h ∧ h ≤ 3) ∧ (0 ≤ dy ∧ dy ≤ 364) ∧ (0 ≤ q ∧ q ≤ 95)) ∧ (0 ≤ m ∧ m ≤ 255))) : vh_C 113 [.ref 0, .int h, .int dy, .int q, .int m] (vh_K d mi ml) = some (some (.int (-1000001)), vh_K d mi ml) := by
  simp only [c113, e113_0, e113_1, e113_2, e113_3, e113_5, e113_8, e113_11, e113_13, e113_14, e113_17, e113_20, e113_23, e113_25, e113_26, e113_27, e113_30, e113_31, e113_32, e113_35, e113_36, e113_38, e113_39, e113_42, s104, s14, ok0, not_true_eq_false, not_false_eq_true, if_true, if_false, and_self, vh_bds, vh_ps1, vh_ps0, vb0, vb1, vbz, vbo]
  by_cases h1 : (0 ≤ h ∧ h ≤ 3) ∧ (0 ≤ dy ∧ dy ≤ 364) ∧ (0 ≤ q ∧ q ≤ 95)
  · rw [if_neg (not_not_intro h1), if_neg (not_not_intro (fun z => hg ⟨h1, z⟩))]
  · rw [if_pos h1]
theorem s201a {h dy q m : Int32} (hg : ¬ (((0 ≤ h ∧ h ≤ 3) ∧ (0 ≤ dy ∧ dy ≤ 364) ∧ (0 ≤ q ∧ q ≤ 95)) ∧ (0 ≤ m ∧ m ≤ 255))) : vh_C 201 [.ref 88, .int h, .int dy, .int q, .int m] (vh_K d mi ml) = some (some (.int (-1000001)), vh_K d (vh_sA mi 88 (upd (mi 88) 0 0)) ml) := by
  simp only [c201, e201_0, e201_1, e201_2, e201_5, e201_6, e201_9, e201_12, e201_13, e201_16, e201_19, e201_20, e201_21, e201_22, e201_25, e201_28, e201_31, e201_33, e201_34, e201_35, e201_38, e201_41, e201_44, e201_46, e201_47, e201_48, e201_51, e201_53, e201_56, e201_58, e201_59, e201_60, e201_63, e201_64, e201_67, e201_68, e201_69, e201_70, e201_73, e201_74, e201_77, e201_79, e201_80, e201_81, e201_82, e201_83, e201_84, e201_85, e201_88, e201_89, e201_92, e201_94, e201_95, e201_96, e201_97, e201_100, e201_101, e201_102, e201_105, e201_106, e201_109, s172, s174, in_0_95, in_0_255, ok88, not_true_eq_false, not_false_eq_true, if_true, if_false, and_self, vh_bds, vh_ps1, vh_ps0, vb0, vb1, vbz, vbo]
  by_cases h1 : 0 ≤ h ∧ h ≤ 3
  · rw [if_neg (not_not_intro h1)]
    by_cases h2 : 0 ≤ dy ∧ dy ≤ 364
    · rw [if_neg (not_not_intro h2)]
      by_cases h3 : 0 ≤ q ∧ q ≤ 95
      · rw [if_neg (not_not_intro h3), if_neg (not_not_intro (fun z => hg ⟨⟨h1, h2, h3⟩, z⟩))]
      · rw [if_pos h3]
    · rw [if_pos h2]
  · rw [if_pos h1]
theorem s113b {h dy q m : Int32} (h1 : (0 ≤ h ∧ h ≤ 3) ∧ (0 ≤ dy ∧ dy ≤ 364) ∧ (0 ≤ q ∧ q ≤ 95)) (h2 : 0 ≤ m ∧ m ≤ 255) : vh_C 113 [.ref 0, .int h, .int dy, .int q, .int m] (vh_K d mi ml) = vh_bd (vh_C 106 [.ref 77, .int (dy * 96 + q), .int h, .int m, .int 0] (vh_K d mi ml)) (fun v w => vh_E 113 42 [some (.ref 0), some (.int h), some (.int dy), some (.int q), some (.int m)] (vh_ps v []) w) := by
  simp only [c113, e113_0, e113_1, e113_2, e113_3, e113_5, e113_8, e113_11, e113_13, e113_14, e113_17, e113_20, e113_23, e113_25, e113_26, e113_27, e113_30, e113_31, e113_32, e113_35, e113_36, e113_38, e113_39, s104, s105, s14, ok0, ok77, rf0_8, h1, h2, not_true_eq_false, not_false_eq_true, if_true, if_false, and_self, vh_bds, vh_ps1, vh_ps0, vb0, vb1, vbz, vbo]
theorem s201b {h dy q m : Int32} {n : Nat} (h1 : (0 ≤ h ∧ h ≤ 3) ∧ (0 ≤ dy ∧ dy ≤ 364) ∧ (0 ≤ q ∧ q ≤ 95)) (h2 : 0 ≤ m ∧ m ≤ 255) (hn : mi 88 42 = nI n) (h40 : n < 40) : vh_C 201 [.ref 88, .int h, .int dy, .int q, .int m] (vh_K d mi ml) = some (some (.int (nI (n + 1))), vh_K d (vh_sA (vh_sA (vh_sA (vh_sA mi 113 (upd (mi 113) n h)) 114 (upd (mi 114) n (96 * dy + q))) 115 (upd (mi 115) n m)) 88 (upd (upd (mi 88) 0 0) 42 (nI (n + 1)))) ml) := by
  have x1 : vh_ixa 113 (nI n) = true := ixa (by rw [kd113]; omega) (by omega)
  have x2 : vh_ixa 114 (nI n) = true := ixa (by rw [kd114]; omega) (by omega)
  have x3 : vh_ixa 115 (nI n) = true := ixa (by rw [kd115]; omega) (by omega)
  have hc : (nI n).toNatClampNeg = n := nI_clamp (by omega)
  have hne : ¬ nI n = 40 := fun z => by have := (nI_eq (a := n) (b := 40) (by omega) (by decide)).mp z; omega
  simp only [c201, e201_0, e201_1, e201_2, e201_5, e201_6, e201_9, e201_12, e201_13, e201_16, e201_19, e201_20, e201_21, e201_22, e201_25, e201_28, e201_31, e201_33, e201_34, e201_35, e201_38, e201_41, e201_44, e201_46, e201_47, e201_48, e201_51, e201_53, e201_56, e201_58, e201_59, e201_60, e201_63, e201_64, e201_67, e201_68, e201_69, e201_70, e201_73, e201_74, e201_77, e201_79, e201_80, e201_81, e201_82, e201_83, e201_84, e201_85, e201_88, e201_89, e201_92, e201_94, e201_95, e201_96, e201_97, e201_100, e201_101, e201_102, e201_105, e201_106, e201_109, s172, s174, in_0_95, in_0_255, ok88, ok113, ok114, ok115, rf88_43, rf88_44, rf88_45, x1, x2, x3, hc, hn, hne, h1, h2, not_true_eq_false, not_false_eq_true, if_true, if_false, and_self, vh_bds, vh_ps1, vh_ps0, vb0, vb1, vbz, vbo, sAn, sAs, sAA, ups, upn, bkv_n, hlv_n, ne_eq, Nat.reduceEqDiff, Nat.reduceLT, Nat.reduceLeDiff, or_true, true_or, not_false_eq_true, nI_1]
  congr 3
  funext c
  unfold vh_sA
  by_cases c1 : c = 88
  · subst c1; rfl
  by_cases c2 : c = 115
  · subst c2; rfl
  by_cases c3 : c = 114
  · subst c3; rfl
  by_cases c4 : c = 113
  · subst c4; rfl
  simp only [c1, c2, c3, c4, if_false]
theorem s201c {h dy q m : Int32} (h1 : (0 ≤ h ∧ h ≤ 3) ∧ (0 ≤ dy ∧ dy ≤ 364) ∧ (0 ≤ q ∧ q ≤ 95)) (h2 : 0 ≤ m ∧ m ≤ 255) (hn : mi 88 42 = nI 40) : vh_C 201 [.ref 88, .int h, .int dy, .int q, .int m] (vh_K d mi ml) = some (some (.int (-1000003)), vh_K d (vh_sA mi 88 (upd (mi 88) 0 0)) ml) := by
  simp only [c201, e201_0, e201_1, e201_2, e201_5, e201_6, e201_9, e201_12, e201_13, e201_16, e201_19, e201_20, e201_21, e201_22, e201_25, e201_28, e201_31, e201_33, e201_34, e201_35, e201_38, e201_41, e201_44, e201_46, e201_47, e201_48, e201_51, e201_53, e201_56, e201_58, e201_59, e201_60, e201_63, e201_64, e201_67, e201_68, e201_69, e201_70, e201_73, e201_74, e201_77, e201_79, e201_80, e201_81, e201_82, e201_83, e201_84, e201_85, e201_88, e201_89, e201_92, e201_94, e201_95, e201_96, e201_97, e201_100, e201_101, e201_102, e201_105, e201_106, e201_109, s172, s174, in_0_95, in_0_255, ok88, hn, show ¬ ¬ nI 40 = (40 : Int32) from by decide, h1, h2, not_true_eq_false, not_false_eq_true, if_true, if_false, and_self, vh_bds, vh_ps1, vh_ps0, vb0, vb1, vbz, vbo, sAn, sAs, sAA, ups, upn, bkv_n, hlv_n, ne_eq, Nat.reduceEqDiff, Nat.reduceLT, Nat.reduceLeDiff, or_true, true_or, not_false_eq_true]
theorem sim_look {h dy q m : Int32} (hR : Rel d mi) : Sim 113 201 [.int h, .int dy, .int q, .int m] d mi ml := by
  by_cases hg : ((0 ≤ h ∧ h ≤ 3) ∧ (0 ≤ dy ∧ dy ≤ 364) ∧ (0 ≤ q ∧ q ≤ 95)) ∧ (0 ≤ m ∧ m ≤ 255)
  · obtain ⟨g1, g2⟩ := hg
    have hL := hR.2.2.2.2.2.2.2.2.2.2.1
    obtain ⟨e, n, hn, hc, l, hl, ht, hs, hok⟩ := hL
    have h88 : mi 88 42 = nI n := e.symm.trans hc
    by_cases hf : n = 40
    · subst hf
      have A : vh_C 113 [.ref 0, .int h, .int dy, .int q, .int m] (vh_K d mi ml) = some (some (.int (-1000003)), vh_K d mi ml) := by
        rw [s113b g1 g2, f106_77 hc]
        simp only [e113_0, e113_1, e113_2, e113_3, e113_5, e113_8, e113_11, e113_13, e113_14, e113_17, e113_20, e113_23, e113_25, e113_26, e113_27, e113_30, e113_31, e113_32, e113_35, e113_36, e113_38, e113_39, e113_42, not_true_eq_false, not_false_eq_true, if_true, if_false, and_self, vh_bds, vh_ps1, vh_ps0, vb0, vb1, vbz, vbo]
      exact Sim.mk A (s201c g1 g2 h88) rfl hR.thrown
    · have h40 : n < 40 := by omega
      have A := s113b (d := d) (mi := mi) (ml := ml) g1 g2
      rw [s106_77 h40 hc] at A
      simp only [e113_0, e113_1, e113_2, e113_3, e113_5, e113_8, e113_11, e113_13, e113_14, e113_17, e113_20, e113_23, e113_25, e113_26, e113_27, e113_30, e113_31, e113_32, e113_35, e113_36, e113_38, e113_39, e113_42, not_true_eq_false, not_false_eq_true, if_true, if_false, and_self, vh_bds, vh_ps1, vh_ps0, vb0, vb1, vbz, vbo] at A
      refine Sim.mk A (s201b (n := n) g1 g2 ?_ h40) rfl ?_
      · simp only [sAn, sAs, sAA, ups, upn, bkv_n, hlv_n, ne_eq, Nat.reduceEqDiff, Nat.reduceLT, Nat.reduceLeDiff, or_true, true_or, not_false_eq_true]; exact h88
      · unfold Rel at hR ⊢
        simp only [sAn, sAs, sAA, ups, upn, bkv_n, hlv_n, ne_eq, Nat.reduceEqDiff, Nat.reduceLT, Nat.reduceLeDiff, or_true, true_or, not_false_eq_true]
        have hsrt := lgL_sorted (by rw [hs]; exact lgSort_S l)
        obtain ⟨kd, hkd, rfl⟩ := nIr g1.2.1.1 (show dy ≤ nI 364 from g1.2.1.2) (by decide)
        obtain ⟨kq, hkq, rfl⟩ := nIr g1.2.2.1 (show q ≤ nI 95 from g1.2.2.2) (by decide)
        obtain ⟨kh, hkh, rfl⟩ := nIr g1.1.1 (show h ≤ nI 3 from g1.1.2) (by decide)
        obtain ⟨km, hkm, rfl⟩ := nIr (Int32.le_trans (show (0 : Int32) ≤ 0 from by decide) g2.1) (show m ≤ nI 255 from g2.2) (by decide)
        have hlo : 0 ≤ km := (nI_leI (a := 0) (by decide) (by omega)).mp g2.1
        have hm96 : nI kd * 96 + nI kq = nI (kd * 96 + kq) := by rw [show (96 : Int32) = nI 96 from rfl, pk_mul, nI_add]
        have hm96' : 96 * nI kd + nI kq = nI (kd * 96 + kq) := by rw [show (96 : Int32) = nI 96 from rfl, pk_mul, nI_add, Nat.mul_comm]
        refine ⟨hR.1, hR.2.1, hR.2.2.1, hR.2.2.2.1, hR.2.2.2.2.1, hR.2.2.2.2.2.1, hR.2.2.2.2.2.2.1, hR.2.2.2.2.2.2.2.1, hR.2.2.2.2.2.2.2.2.1, hR.2.2.2.2.2.2.2.2.2.1, ?_, hR.2.2.2.2.2.2.2.2.2.2.2⟩
        refine ⟨rfl, n + 1, h40, rfl, l ++ [(nI (kd * 96 + kq), nI kh, nI km, 0)], by rw [List.length_append, hl]; rfl, ?_, ?_, ?_⟩
        · show _ = lgL _ _ _ _ _
          rw [List.length_append, hl, hm96']
          show _ = lgL (n + 1) _ _ _ _
          rw [lgL_snoc]
          congr 1
          rw [hl] at ht
          exact ht
        · rw [hm96, lgL_ins hsrt, lgSort_snoc, hs]
        · intro x hx
          rcases List.mem_append.mp hx with z | z
          · exact hok x z
          · rw [List.mem_singleton.mp z]
            exact ⟨⟨kd * 96 + kq, by omega, by omega, rfl⟩, ⟨kh, by omega, hkh, rfl⟩, ⟨km, hlo, hkm, rfl⟩⟩
  · exact Sim.mk (s113a hg) (s201a hg) rfl hR.thrown
end

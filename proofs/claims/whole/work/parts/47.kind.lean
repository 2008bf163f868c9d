section
variable {d : Nat} {mi : Nat → Nat → Int32} {ml : Nat → Nat → Int64} {n k h : Nat} {b g : Nat → Nat → Nat}
def kdN (b g : Nat → Nat → Nat) (T M k : Nat) : Nat := if b k 9 ≤ T then 3 else if M.testBit k = true then (if rkN b g k = 0 then 2 else 1) else if thB (b k) T = true then 4 else 0
theorem kd_le {T M : Nat} : kdN b g T M k ≤ 4 := by unfold kdN; split; omega; split; split <;> omega; split <;> omega
theorem s125 {T M : Nat} (H : DiC mi n b g) (B : DiB n b g) (hk : k < n) (hT : T ≤ 364) (hM : M < 2 ^ 16) : vh_C 125 [.ref 42, .int (nI k), .int (nI T), .int (nI M)] (vh_K d mi ml) = some (some (.int (nI (kdN b g T M k))), vh_K d mi ml) := by
  have hn := B.1
  have hk6 : k < 16 := by omega
  obtain ⟨a0, a1, a2, a3, a4, a5, a5', a6, a7, a8, a9⟩ := B.2.1 k hk
  have h0 : b k 0 < 4 := by omega
  have h6 : b k 6 < 5 := by omega
  have hx : vh_ixa (9 + 4 * b k 0) (nI (b k 6)) = true := ixa (by rw [kdHk h0]; exact h6) (by omega)
  have hr := rk_le B hk
  have e0 : nI (rkN b g k) = 0 ↔ rkN b g k = 0 := nI_eq (b := 0) (by omega) (by decide)
  simp only [c125, e125_0, e125_1, e125_4, e125_5, e125_6, e125_8, e125_10, e125_11, e125_14, e125_17, e125_18, e125_19, e125_20, e125_21, e125_22, e125_23, e125_24, e125_25, e125_28, e125_29, e125_32, e125_34, e125_37, e125_38, e125_41, e125_43, e125_46, e125_47, e125_50, e125_51, e125_54, e125_55, e125_56, e125_58, e125_59, e125_62, e125_65, e125_66, e125_69, e125_70, ok42, rf42_1, rf42_0, ok43, ok5, Bool.or_true, Bool.true_or, ixB hk6, clK (show k < 1000 by omega), rfB hk6, okB hk6, s85 (okB hk6) (H.f9 hk6) (show b k 9 = 1000 ∨ b k 9 ≤ 364 by omega) hT, H.th B hk hT, bt (show M < 2 ^ 31 by omega) (show k < 31 by omega), vbe, H.f0 hk, H.f6 hk, ixH h0, clK (show b k 0 < 1000 by omega), clK (show b k 6 < 1000 by omega), rfH h0, okH h0, rfHk h0, okHk h0, hx, H.rk h0 h6, not_true_eq_false, not_false_eq_true, if_true, if_false, and_self, vh_bds, vh_ps1, vh_ps0, vb0, vb1, vbz, vbo]
  rw [show g (b k 0) (20 + b k 6) = rkN b g k from rfl]
  unfold kdN
  by_cases q1 : b k 9 ≤ T
  · rw [if_neg (not_not_intro q1), if_pos q1]; rfl
  · rw [if_pos q1, if_neg q1]
    by_cases q2 : M.testBit k = true
    · rw [if_neg (not_not_intro q2), if_pos q2]
      by_cases q3 : rkN b g k = 0
      · rw [if_neg (not_not_intro (e0.mpr q3)), if_pos q3]; rfl
      · rw [if_pos (show ¬ nI (rkN b g k) = 0 from fun z => q3 (e0.mp z)), if_neg q3]; rfl
    · rw [if_pos q2, if_neg q2]
      by_cases q3 : thB (b k) T = true
      · rw [if_neg (not_not_intro q3), if_pos q3]; rfl
      · rw [if_pos q3, if_neg q3]; rfl
theorem s208 {T : Nat} (H : DiM mi n b g) (B : DiB n b g) (hk : k < n) (hT : T ≤ 364) (h27 : mi 88 27 = nI T) : vh_C 208 [.ref 88, .int (nI k)] (vh_K d mi ml) = some (some (.int (nI (kdN b g T (hld b g n T) k))), vh_K d mi ml) := by
  have hn := B.1
  have hk6 : k < 16 := by omega
  have hM := hld_lt (D := T) B
  obtain ⟨a0, a1, a2, a3, a4, a5, a5', a6, a7, a8, a9⟩ := B.2.1 k hk
  have hr := rk_le B hk
  have e0 : nI (rkN b g k) = 0 ↔ rkN b g k = 0 := nI_eq (b := 0) (by omega) (by decide)
  simp only [c208, e208_0, e208_1, e208_4, e208_5, e208_6, e208_8, e208_11, e208_12, e208_15, e208_16, e208_17, e208_18, e208_21, e208_24, e208_25, e208_26, e208_27, e208_28, e208_31, e208_34, e208_35, e208_36, e208_37, e208_38, e208_39, e208_42, e208_43, e208_44, e208_47, e208_50, e208_51, e208_54, e208_55, e208_56, e208_57, e208_58, e208_59, e208_62, e208_65, e208_68, e208_69, e208_72, e208_73, ok88, ok101, rf88_26, ixC hk6, clK (show k < 1000 by omega), H.f9 hk, h27, s184 H B hT, s187 H B hk, s185 H B hk hT, bt (show hld b g n T < 2 ^ 31 by omega) (show k < 31 by omega), vbe, not_true_eq_false, not_false_eq_true, if_true, if_false, and_self, vh_bds, vh_ps1, vh_ps0, vb0, vb1, vbz, vbo]
  have rest : (if ¬ (hld b g n T).testBit k = true then (if ¬ thB (b k) T = true then some (some (Value.int 0), vh_K d mi ml) else some (some (.int 4), vh_K d mi ml)) else (if ¬ nI (rkN b g k) = 0 then some (some (.int 1), vh_K d mi ml) else some (some (.int 2), vh_K d mi ml))) = some (some (.int (nI (if (hld b g n T).testBit k = true then (if rkN b g k = 0 then 2 else 1) else if thB (b k) T = true then 4 else 0))), vh_K d mi ml) := by
    by_cases q2 : (hld b g n T).testBit k = true
    · rw [if_neg (not_not_intro q2), if_pos q2]
      by_cases q3 : rkN b g k = 0
      · rw [if_neg (not_not_intro (e0.mpr q3)), if_pos q3]; rfl
      · rw [if_pos (show ¬ nI (rkN b g k) = 0 from fun z => q3 (e0.mp z)), if_neg q3]; rfl
    · rw [if_pos q2, if_neg q2]
      by_cases q3 : thB (b k) T = true
      · rw [if_neg (not_not_intro q3), if_pos q3]; rfl
      · rw [if_pos q3, if_neg q3]; rfl
  unfold kdN
  by_cases z9 : b k 9 = 1000
  · rw [if_pos (can_e.mpr (Or.inl z9)), if_neg (show ¬ b k 9 ≤ T by omega)]
    exact rest
  · rw [if_neg (fun z => by rcases can_e.mp z with z | z <;> omega)]
    rw [show canI (b k 9) = nI (b k 9) from if_neg z9]
    by_cases q : b k 9 ≤ T
    · rw [if_neg (nI_nlt q (by omega)), if_pos q]; rfl
    · rw [if_pos (nI_lt (by omega) (by omega)), if_neg q]
      exact rest
theorem s124a {i : Int32} (hg : ¬ (0 ≤ i ∧ i < mi 42 5)) : vh_C 124 [.ref 0, .int i] (vh_K d mi ml) = some (some (.int (-1000001)), vh_K d mi ml) := by
  simp only [c124, e124_0, e124_1, e124_4, e124_5, e124_8, e124_12, e124_15, e124_16, e124_17, e124_20, e124_21, e124_24, e124_25, e124_28, e124_31, e124_34, e124_37, e124_39, s72, ok0, ok42, rf0_4, hg, not_true_eq_false, not_false_eq_true, if_true, if_false, and_self, vh_bds, vh_ps1, vh_ps0, vb0, vb1, vbz, vbo]
theorem s124b {T : Nat} (H : DiC mi n b g) (B : DiB n b g) (hk : k < n) (hT : T ≤ 364) (h11 : mi 0 11 = nI T) : ∃ f45 f44, vh_C 124 [.ref 0, .int (nI k)] (vh_K d mi ml) = some (some (.int (nI (kdN b g T (hld b g n T) k))), vh_K d (vh_sA (vh_sA mi 45 f45) 44 f44) ml) := by
  have hn := B.1
  obtain ⟨f45, f44, h1⟩ := s82 (d := d) (ml := ml) H B hT
  refine ⟨f45, f44, ?_⟩
  have H2 : DiC (vh_sA (vh_sA mi 45 f45) 44 f44) n b g := (H.fr hn (by omega)).fr hn (by omega)
  have hg : 0 ≤ nI k ∧ nI k < nI n := (hasN (by omega)).mpr ⟨k, hk, rfl⟩
  simp only [c124, e124_0, e124_1, e124_4, e124_5, e124_8, e124_11, e124_12, e124_15, e124_16, e124_17, e124_20, e124_21, e124_24, e124_25, e124_28, e124_31, e124_34, e124_37, e124_39, s72, H.sz, h11, h1, s125 H2 B hk hT (hld_lt B), ok0, ok42, rf0_4, hg, not_true_eq_false, not_false_eq_true, if_true, if_false, and_self, vh_bds, vh_ps1, vh_ps0, vb0, vb1, vbz, vbo]
theorem s207a {i : Int32} (hg : ¬ (0 ≤ i ∧ i ≤ mi 88 24 - 1)) : vh_C 207 [.ref 88, .int i] (vh_K d mi ml) = some (some (.int (-1000001)), vh_K d (vh_sA mi 88 (upd (mi 88) 0 0)) ml) := by
  simp only [c207, e207_0, e207_1, e207_2, e207_5, e207_6, e207_7, e207_10, e207_14, e207_15, e207_18, e207_21, e207_23, s176, ok88, sAn, sAs, sAA, ups, upn, bkv_n, hlv_n, ne_eq, Nat.reduceEqDiff, Nat.reduceLT, Nat.reduceLeDiff, or_true, true_or, not_false_eq_true, hg, not_true_eq_false, not_false_eq_true, if_true, if_false, and_self, vh_bds, vh_ps1, vh_ps0, vb0, vb1, vbz, vbo]
theorem s207b {T : Nat} (H : DiM mi n b g) (B : DiB n b g) (hk : k < n) (hT : T ≤ 364) (h27 : mi 88 27 = nI T) : vh_C 207 [.ref 88, .int (nI k)] (vh_K d mi ml) = some (some (.int (nI (kdN b g T (hld b g n T) k))), vh_K d (vh_sA mi 88 (upd (mi 88) 0 0)) ml) := by
  have hn := B.1
  have hg : 0 ≤ nI k ∧ nI k ≤ nI n - 1 := (inN (by omega)).mpr ⟨k, hk, rfl⟩
  have h27' : (vh_sA mi 88 (upd (mi 88) 0 0)) 88 27 = nI T := by simp only [sAn, sAs, sAA, ups, upn, bkv_n, hlv_n, ne_eq, Nat.reduceEqDiff, Nat.reduceLT, Nat.reduceLeDiff, or_true, true_or, not_false_eq_true]; exact h27
  simp only [c207, e207_0, e207_1, e207_2, e207_5, e207_6, e207_7, e207_10, e207_13, e207_14, e207_15, e207_18, e207_21, e207_23, s176, s208 H.thr B hk hT h27', ok88, sAn, sAs, sAA, ups, upn, bkv_n, hlv_n, ne_eq, Nat.reduceEqDiff, Nat.reduceLT, Nat.reduceLeDiff, or_true, true_or, not_false_eq_true, H.sz, hg, not_true_eq_false, not_false_eq_true, if_true, if_false, and_self, vh_bds, vh_ps1, vh_ps0, vb0, vb1, vbz, vbo]
theorem Rel.today (hR : Rel d mi) : ∃ T, T ≤ 364 ∧ mi 0 11 = nI T ∧ mi 88 27 = nI T := by
  obtain ⟨e, T, -, h1, h2⟩ := hR.2.1
  exact ⟨T, h1, e.trans h2, h2⟩
theorem sim_kind {i : Int32} (hR : Rel d mi) : Sim 124 207 [.int i] d mi ml := by
  obtain ⟨n, b, g, B, C, M⟩ := hR.dia
  obtain ⟨T, hT, t1, t2⟩ := hR.today
  have hn := B.1
  by_cases hi : ∃ k, k < n ∧ i = nI k
  · obtain ⟨k, hkn, rfl⟩ := hi
    obtain ⟨f45, f44, A⟩ := s124b (d := d) (ml := ml) C B hkn hT t1
    exact Sim.mk A (s207b ((M.fr (by omega)).fr (by omega)) B hkn hT (by simp only [sAn, sAs, sAA, ups, upn, bkv_n, hlv_n, ne_eq, Nat.reduceEqDiff, Nat.reduceLT, Nat.reduceLeDiff, or_true, true_or, not_false_eq_true]; exact t2)) rfl hR.scr.thrown
  · exact Sim.mk (s124a (by rw [C.sz, hasN (by omega)]; exact hi)) (s207a (by rw [M.sz, inN (by omega)]; exact hi)) rfl hR.thrown
/-! AS -/
theorem s210 {a c : Int32} {w : vh_W} : vh_C 210 [.int a, .int c] w = some (some (.int (vb (c = 0 ∨ a = c ∨ (c = 1 ∧ a = 2)))), w) := by
  simp only [c210, e210_0, e210_1, e210_4, e210_5, e210_6, e210_9, e210_10, e210_11, e210_14, e210_15, e210_16, e210_19, e210_20, e210_23, e210_24, not_true_eq_false, not_false_eq_true, if_true, if_false, and_self, vh_bds, vh_ps1, vh_ps0, vb0, vb1, vbz, vbo]
  by_cases h1 : c = 0
  · rw [if_pos h1, vb_t (Or.inl h1)]
  · rw [if_neg h1]
    by_cases h2 : a = c
    · rw [if_pos h2, vb_t (Or.inr (Or.inl h2))]
    · rw [if_neg h2]
      by_cases h3 : c = 1
      · rw [if_neg (not_not_intro h3)]
        by_cases h4 : a = 2
        · rw [if_neg (not_not_intro h4), vb_t (Or.inr (Or.inr ⟨h3, h4⟩))]
        · rw [if_pos h4, vb_f (fun z => by rcases z with z | z | z; exact h1 z; exact h2 z; exact h4 z.2)]
      · rw [if_pos h3, vb_f (fun z => by rcases z with z | z | z; exact h1 z; exact h2 z; exact h3 z.1)]
theorem s126a {i x : Int32} (hg : ¬ ((0 ≤ i ∧ i < mi 42 5) ∧ (0 ≤ x ∧ x ≤ 4))) : vh_C 126 [.ref 0, .int i, .int x] (vh_K d mi ml) = some (some (.int (-1000001)), vh_K d mi ml) := by
  simp only [c126, e126_0, e126_1, e126_4, e126_5, e126_8, e126_11, e126_12, e126_13, e126_14, e126_17, e126_20, e126_22, e126_24, e126_27, e126_28, e126_29, e126_32, e126_33, e126_36, e126_37, e126_40, e126_43, e126_46, e126_47, e126_48, e126_51, e126_52, e126_53, e126_56, e126_57, e126_58, e126_61, e126_62, e126_63, e126_66, e126_67, e126_68, e126_71, e126_72, e126_73, e126_74, e126_77, e126_78, e126_81, e126_84, e126_87, s72, s14, ok0, ok42, rf0_4, not_true_eq_false, not_false_eq_true, if_true, if_false, and_self, vh_bds, vh_ps1, vh_ps0, vb0, vb1, vbz, vbo]
  by_cases h1 : 0 ≤ i ∧ i < mi 42 5
  · rw [if_neg (not_not_intro h1), if_neg (fun z => hg ⟨h1, Classical.not_not.mp z⟩)]
  · rw [if_pos h1]
theorem s126b {T : Nat} {x : Int32} (H : DiC mi n b g) (B : DiB n b g) (hk : k < n) (hT : T ≤ 364) (h11 : mi 0 11 = nI T) (hx : 0 ≤ x ∧ x ≤ 4) : ∃ f45 f44, vh_C 126 [.ref 0, .int (nI k), .int x] (vh_K d mi ml) = some (some (.int (if x = 0 ∨ nI (kdN b g T (hld b g n T) k) = x ∨ (x = 1 ∧ nI (kdN b g T (hld b g n T) k) = 2) then nI (b k 2) else -1000013)), vh_K d (vh_sA (vh_sA (vh_sA mi 45 f45) 44 f44) 0 (upd (mi 0) 12 (if x = 0 ∨ nI (kdN b g T (hld b g n T) k) = x ∨ (x = 1 ∧ nI (kdN b g T (hld b g n T) k) = 2) then 0 else 3))) ml) := by
  have hn := B.1
  have hk6 : k < 16 := by omega
  obtain ⟨f45, f44, h1⟩ := s82 (d := d) (ml := ml) H B hT
  refine ⟨f45, f44, ?_⟩
  have H2 : DiC (vh_sA (vh_sA mi 45 f45) 44 f44) n b g := (H.fr hn (by omega)).fr hn (by omega)
  have hg : 0 ≤ nI k ∧ nI k < nI n := (hasN (by omega)).mpr ⟨k, hk, rfl⟩
  simp only [c126, e126_0, e126_1, e126_4, e126_5, e126_8, e126_11, e126_12, e126_13, e126_14, e126_17, e126_20, e126_22, e126_23, e126_24, e126_27, e126_28, e126_29, e126_32, e126_33, e126_36, e126_37, e126_40, e126_43, e126_46, e126_47, e126_48, e126_51, e126_52, e126_53, e126_56, e126_57, e126_58, e126_61, e126_62, e126_63, e126_66, e126_67, e126_68, e126_71, e126_72, e126_73, e126_74, e126_77, e126_78, e126_81, e126_84, e126_87, s72, s14, H.sz, h11, h1, s125 H2 B hk hT (hld_lt B), s73 hk6, H2.f2 hk, okB hk6, s15, s17, ok0, ok42, rf0_4, hg, hx, sAn, sAs, sAA, ups, upn, bkv_n, hlv_n, ne_eq, Nat.reduceEqDiff, Nat.reduceLT, Nat.reduceLeDiff, or_true, true_or, not_false_eq_true, not_true_eq_false, not_false_eq_true, if_true, if_false, and_self, vh_bds, vh_ps1, vh_ps0, vb0, vb1, vbz, vbo, show (-1000010 : Int32) - 3 = -1000013 from by decide]
  generalize kdN b g T (hld b g n T) k = K
  by_cases q1 : x = 0
  · rw [if_pos q1, if_pos (Or.inl q1), if_pos (Or.inl q1)]
  · rw [if_neg q1]
    by_cases q2 : x = nI K
    · rw [if_pos q2, if_pos (Or.inr (Or.inl q2.symm)), if_pos (Or.inr (Or.inl q2.symm))]
    · rw [if_neg q2]
      by_cases q3 : x = 1
      · rw [if_neg (not_not_intro q3)]
        by_cases q4 : nI K = 2
        · rw [if_pos q4, if_pos (Or.inr (Or.inr ⟨q3, q4⟩)), if_pos (Or.inr (Or.inr ⟨q3, q4⟩))]
        · have ne : ¬ (x = 0 ∨ nI K = x ∨ (x = 1 ∧ nI K = 2)) := fun z => by rcases z with z | z | z; exact q1 z; exact q2 z.symm; exact q4 z.2
          rw [if_neg q4, if_neg ne, if_neg ne]
      · have ne : ¬ (x = 0 ∨ nI K = x ∨ (x = 1 ∧ nI K = 2)) := fun z => by rcases z with z | z | z; exact q1 z; exact q2 z.symm; exact q3 z.1
        rw [if_pos q3, if_neg ne, if_neg ne]
theorem s209a {i x : Int32} (hg : ¬ ((0 ≤ i ∧ i ≤ mi 88 24 - 1) ∧ (0 ≤ x ∧ x ≤ 4))) : vh_C 209 [.ref 88, .int i, .int x] (vh_K d mi ml) = some (some (.int (-1000001)), vh_K d (vh_sA mi 88 (upd (mi 88) 0 0)) ml) := by
  simp only [c209, e209_0, e209_1, e209_2, e209_5, e209_6, e209_7, e209_10, e209_13, e209_14, e209_15, e209_16, e209_19, e209_22, e209_25, e209_27, e209_29, e209_30, e209_33, e209_34, e209_35, e209_38, e209_39, e209_42, e209_45, e209_46, e209_47, e209_48, e209_51, e209_54, e209_55, e209_56, e209_59, s176, in_0_4, ok88, sAn, sAs, sAA, ups, upn, bkv_n, hlv_n, ne_eq, Nat.reduceEqDiff, Nat.reduceLT, Nat.reduceLeDiff, or_true, true_or, not_false_eq_true, not_true_eq_false, not_false_eq_true, if_true, if_false, and_self, vh_bds, vh_ps1, vh_ps0, vb0, vb1, vbz, vbo]
  by_cases h1 : 0 ≤ i ∧ i ≤ mi 88 24 - 1
  · rw [if_neg (not_not_intro h1), if_neg (fun z => hg ⟨h1, Classical.not_not.mp z⟩)]
  · rw [if_pos h1]
theorem s209b {T : Nat} {x : Int32} (H : DiM mi n b g) (B : DiB n b g) (hk : k < n) (hT : T ≤ 364) (h27 : mi 88 27 = nI T) (hx : 0 ≤ x ∧ x ≤ 4) : vh_C 209 [.ref 88, .int (nI k), .int x] (vh_K d mi ml) = some (some (.int (if x = 0 ∨ nI (kdN b g T (hld b g n T) k) = x ∨ (x = 1 ∧ nI (kdN b g T (hld b g n T) k) = 2) then nI (b k 2) else -1000013)), vh_K d (vh_sA mi 88 (upd (upd (mi 88) 0 0) 1 (if x = 0 ∨ nI (kdN b g T (hld b g n T) k) = x ∨ (x = 1 ∧ nI (kdN b g T (hld b g n T) k) = 2) then 0 else 3))) ml) := by
  have hn := B.1
  have hk6 : k < 16 := by omega
  have hg : 0 ≤ nI k ∧ nI k ≤ nI n - 1 := (inN (by omega)).mpr ⟨k, hk, rfl⟩
  have H' : DiM (vh_sA mi 88 (upd (upd (mi 88) 0 0) 1 0)) n b g := H.fr8 (by rw [upn (by decide), upn (by decide)])
  have h27' : (vh_sA mi 88 (upd (upd (mi 88) 0 0) 1 0)) 88 27 = nI T := by simp only [sAn, sAs, sAA, ups, upn, bkv_n, hlv_n, ne_eq, Nat.reduceEqDiff, Nat.reduceLT, Nat.reduceLeDiff, or_true, true_or, not_false_eq_true]; exact h27
  have uu : ∀ (f : Nat → Int32) (c : Int32), upd (upd f 1 0) 1 c = upd f 1 c := fun f c => by funext j; unfold upd; split <;> rfl
  simp only [c209, e209_0, e209_1, e209_2, e209_5, e209_6, e209_7, e209_10, e209_13, e209_14, e209_15, e209_16, e209_19, e209_22, e209_25, e209_27, e209_28, e209_29, e209_30, e209_33, e209_34, e209_35, e209_38, e209_39, e209_42, e209_45, e209_46, e209_47, e209_48, e209_51, e209_54, e209_55, e209_56, e209_59, s176, in_0_4, s208 H' B hk hT h27', s210, s177_2 hk6, H'.f2 hk, s150, ok88, sAn, sAs, sAA, ups, upn, bkv_n, hlv_n, ne_eq, Nat.reduceEqDiff, Nat.reduceLT, Nat.reduceLeDiff, or_true, true_or, not_false_eq_true, uu, H.sz, hg, hx, not_true_eq_false, not_false_eq_true, if_true, if_false, and_self, vh_bds, vh_ps1, vh_ps0, vb0, vb1, vbz, vbo, show (-1000010 : Int32) - 3 = -1000013 from by decide]
  by_cases q : x = 0 ∨ nI (kdN b g T (hld b g n T) k) = x ∨ (x = 1 ∧ nI (kdN b g T (hld b g n T) k) = 2)
  · rw [if_neg (not_not_intro q), if_pos q, if_pos q]
  · rw [if_pos q, if_neg q, if_neg q]
theorem sim_as {i x : Int32} (hR : Rel d mi) : Sim 126 209 [.int i, .int x] d mi ml := by
  obtain ⟨n, b, g, B, C, M⟩ := hR.dia
  obtain ⟨T, hT, t1, t2⟩ := hR.today
  have hn := B.1
  by_cases hi : (∃ k, k < n ∧ i = nI k) ∧ (0 ≤ x ∧ x ≤ 4)
  · obtain ⟨⟨k, hkn, rfl⟩, hx⟩ := hi
    obtain ⟨f45, f44, A⟩ := s126b (d := d) (ml := ml) C B hkn hT t1 hx
    refine Sim.mk A (s209b (((M.fr (by omega)).fr (by omega)).fr (by omega)) B hkn hT (by simp only [sAn, sAs, sAA, ups, upn, bkv_n, hlv_n, ne_eq, Nat.reduceEqDiff, Nat.reduceLT, Nat.reduceLeDiff, or_true, true_or, not_false_eq_true]; exact t2) hx) rfl ?_
    have hS := hR.scr (f45 := f45) (f44 := f44)
    unfold Rel at hS ⊢
    simp only [sAn, sAs, sAA, ups, upn, bkv_n, hlv_n, ne_eq, Nat.reduceEqDiff, Nat.reduceLT, Nat.reduceLeDiff, or_true, true_or, not_false_eq_true] at hS ⊢
    exact ⟨hS.1, hS.2.1, trivial, hS.2.2.2⟩
  · refine Sim.mk (s126a ?_) (s209a ?_) rfl hR.thrown
    · rw [C.sz, hasN (by omega)]; exact hi
    · rw [M.sz, inN (by omega)]; exact hi
end

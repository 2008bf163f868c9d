def cntN (P : Nat → Bool) : Nat → Nat
  | 0 => 0
  | k + 1 => cntN P k + (if P k = true then 1 else 0)
theorem cnt_t {P : Nat → Bool} {i : Nat} (h : P i = true) : cntN P (i + 1) = cntN P i + 1 := by show _ + _ = _; rw [if_pos h]
theorem cnt_f {P : Nat → Bool} {i : Nat} (h : ¬ P i = true) : cntN P (i + 1) = cntN P i := by show _ + _ = _; rw [if_neg h]; rfl
theorem cnt_c {P Q : Nat → Bool} : ∀ {i : Nat}, (∀ k, k < i → P k = Q k) → cntN P i = cntN Q i := by
  intro i
  induction i with
  | zero => intro _; rfl
  | succ i ih =>
    intro h
    show _ + _ = _ + _
    rw [ih (fun k hk => h k (by omega)), h i (by omega)]
theorem cnt_or {P Q R : Nat → Bool} : ∀ {i : Nat}, (∀ k, k < i → R k = (P k || Q k) ∧ ¬ (P k = true ∧ Q k = true)) → cntN P i + cntN Q i = cntN R i := by
  intro i
  induction i with
  | zero => intro _; rfl
  | succ i ih =>
    intro h
    have := ih (fun k hk => h k (by omega))
    obtain ⟨h1, h2⟩ := h i (by omega)
    show _ + _ + (_ + _) = _ + _
    rw [h1]
    cases hp : P i <;> cases hq : Q i <;> simp [hp, hq] at h2 ⊢ <;> omega
section
variable {d : Nat} {mi : Nat → Nat → Int32} {ml : Nat → Nat → Int64} {n k h : Nat} {b g : Nat → Nat → Nat}
theorem l143 : ∀ j i, i + j = 8 → vh_E 143 4 [some (.ref 1), some (.int (nI (cntN (fun s => decide (¬ mi 2 s = -1)) i))), some (.int (nI i))] [] (vh_K d mi ml) = some (some (.int (nI (cntN (fun s => decide (¬ mi 2 s = -1)) 8))), vh_K d mi ml) := by
  intro j
  induction j with
  | zero =>
    intro i hi
    have : i = 8 := by omega
    subst this
    simp only [e143_4, e143_5, e143_7, e143_27, e143_28, show (8 : Int32) ≤ nI 8 from by decide, if_true]
  | succ j ih =>
    intro i hi
    have hi8 : i < 8 := by omega
    have := ih (i + 1) (by omega)
    have hlt : ¬ (8 : Int32) ≤ nI i := nI_ge (b := 8) hi8 (by decide)
    rw [e143_4]
    simp only [e143_0, e143_1, e143_2, e143_3, e143_5, e143_7, e143_10, e143_11, e143_12, e143_15, e143_18, e143_21, e143_24, e143_27, e143_28, hlt, if_false, s19 hi8, ok1, nI_1, not_true_eq_false, not_false_eq_true, if_true, if_false, and_self, vh_bds, vh_ps1, vh_ps0, vb0, vb1, vbz, vbo, Classical.not_not]
    by_cases q : mi 2 i = -1
    · rw [if_pos q]
      rw [cnt_f (by simp [q])] at this
      exact this
    · rw [if_neg q]
      rw [cnt_t (by simp [q])] at this
      exact this
theorem s143 : vh_C 143 [.ref 1] (vh_K d mi ml) = some (some (.int (nI (cntN (fun s => decide (¬ mi 2 s = -1)) 8))), vh_K d mi ml) := by
  have := l143 (d := d) (mi := mi) (ml := ml) 8 0 (by omega)
  simp only [c143, e143_0, e143_1, e143_2, e143_3]
  exact this
theorem l144 {T M t : Nat} (H : DiC mi n b g) (B : DiB n b g) (hT : T ≤ 364) (h11 : mi 0 11 = nI T) (hM : M < 2 ^ 16) (ht : t ≤ 4) : ∀ j i, i + j = n → vh_E 144 17 [some (.ref 0), some (.int (nI t)), some (.int (nI M)), some (.int (nI (cntN (fun k => decide (kdN b g T M k = t)) i))), some (.int (nI i))] [] (vh_K d mi ml) = some (some (.int (nI (cntN (fun k => decide (kdN b g T M k = t)) n))), vh_K d mi ml) := by
  have hn := B.1
  intro j
  induction j with
  | zero =>
    intro i hi
    have : i = n := by omega
    subst this
    simp only [e144_17, e144_19, e144_20, e144_23, e144_26, e144_56, e144_57, ok0, ok42, rf0_4, H.sz, nI_le (Nat.le_refl i) (show i < 2 ^ 31 by omega), if_true]
  | succ j ih =>
    intro i hi
    have hin : i < n := by omega
    have := ih (i + 1) (by omega)
    have hK := kd_le (b := b) (g := g) (k := i) (T := T) (M := M)
    rw [e144_17]
    simp only [e144_0, e144_1, e144_4, e144_5, e144_8, e144_11, e144_12, e144_13, e144_14, e144_15, e144_19, e144_20, e144_23, e144_26, e144_29, e144_30, e144_33, e144_35, e144_36, e144_39, e144_40, e144_43, e144_44, e144_47, e144_50, e144_53, e144_56, e144_57, ok0, ok42, rf0_4, H.sz, h11, nI_ge hin (show n < 2 ^ 31 by omega), if_false, s125 H B hin hT hM, nI_eq (show kdN b g T M i < 2 ^ 31 by omega) (show t < 2 ^ 31 by omega), nI_1, not_true_eq_false, not_false_eq_true, if_true, if_false, and_self, vh_bds, vh_ps1, vh_ps0, vb0, vb1, vbz, vbo]
    by_cases q : kdN b g T M i = t
    · rw [if_neg (not_not_intro q)]
      rw [cnt_t (by simp [q])] at this
      exact this
    · rw [if_pos q]
      rw [cnt_f (by simp [q])] at this
      exact this
theorem s144 {T t : Nat} (H : DiC mi n b g) (B : DiB n b g) (hT : T ≤ 364) (h11 : mi 0 11 = nI T) (ht : t ≤ 4) : ∃ f45 f44, vh_C 144 [.ref 0, .int (nI t)] (vh_K d mi ml) = some (some (.int (nI (cntN (fun k => decide (kdN b g T (hld b g n T) k = t)) n))), vh_K d (vh_sA (vh_sA mi 45 f45) 44 f44) ml) := by
  have hn := B.1
  obtain ⟨f45, f44, h1⟩ := s82 (d := d) (ml := ml) H B hT
  refine ⟨f45, f44, ?_⟩
  have H2 : DiC (vh_sA (vh_sA mi 45 f45) 44 f44) n b g := (H.fr hn (by omega)).fr hn (by omega)
  have := l144 (d := d) (ml := ml) H2 B hT (by simp only [sAn, sAs, sAA, ups, upn, bkv_n, hlv_n, ne_eq, Nat.reduceEqDiff, Nat.reduceLT, Nat.reduceLeDiff, or_true, true_or, not_false_eq_true]; exact h11) (hld_lt (D := T) B) ht n 0 (by omega)
  simp only [c144, e144_0, e144_1, e144_4, e144_5, e144_8, e144_11, e144_12, e144_13, e144_14, e144_15, e144_19, e144_20, e144_23, e144_26, e144_29, e144_30, e144_33, e144_35, e144_36, e144_39, e144_40, e144_43, e144_44, e144_47, e144_50, e144_53, e144_56, e144_57, ok0, ok42, rf0_4, h11, h1, not_true_eq_false, not_false_eq_true, if_true, if_false, and_self, vh_bds, vh_ps1, vh_ps0, vb0, vb1, vbz, vbo]
  exact this
theorem l217s : ∀ j i, i + j = 8 → vh_E 217 62 [some (.ref 88), some (.int 0), some (.int (nI (cntN (fun s => decide (¬ mi 96 s < 0)) i))), some (.int (nI i))] [] (vh_K d mi ml) = some (some (.int (nI (cntN (fun s => decide (¬ mi 96 s < 0)) 8))), vh_K d mi ml) := by
  intro j
  induction j with
  | zero =>
    intro i hi
    have : i = 8 := by omega
    subst this
    simp only [e217_62, e217_63, e217_65, e217_91, e217_92, show (8 : Int32) ≤ nI 8 from by decide, if_true]
  | succ j ih =>
    intro i hi
    have hi8 : i < 8 := by omega
    have := ih (i + 1) (by omega)
    have hlt : ¬ (8 : Int32) ≤ nI i := nI_ge (b := 8) hi8 (by decide)
    have hx : vh_ixa 96 (nI i) = true := ixa (by rw [kd96]; omega) (by omega)
    rw [e217_62]
    simp only [e217_0, e217_1, e217_2, e217_5, e217_6, e217_7, e217_8, e217_60, e217_61, e217_63, e217_65, e217_68, e217_69, e217_70, e217_73, e217_74, e217_75, e217_78, e217_79, e217_82, e217_83, e217_84, e217_85, e217_88, e217_91, e217_92, e217_93, e217_94, e217_97, e217_98, e217_99, e217_101, e217_102, e217_105, e217_108, e217_109, e217_110, e217_111, e217_114, e217_115, e217_116, e217_117, e217_120, e217_123, e217_124, e217_127, e217_128, e217_129, e217_130, e217_133, e217_136, e217_137, e217_138, e217_139, e217_142, e217_143, e217_144, e217_147, e217_148, e217_149, e217_152, e217_153, e217_155, hlt, if_false, ok88, ok96, rf88_9, hx, clK (show i < 1000 by omega), nI_1, nI_z, Nat.add_zero, not_true_eq_false, not_false_eq_true, if_true, if_false, and_self, vh_bds, vh_ps1, vh_ps0, vb0, vb1, vbz, vbo]
    by_cases q : mi 96 i < 0
    · rw [if_pos q]
      rw [cnt_f (by simp [q])] at this
      exact this
    · rw [if_neg q]
      rw [cnt_t (by simp only [q, not_false_eq_true, decide_true])] at this
      exact this
theorem l217k {T y : Nat} (H : DiM mi n b g) (B : DiB n b g) (hT : T ≤ 364) (h27 : mi 88 27 = nI T) (hy : 2 ≤ y) (hy5 : y ≤ 5) : ∀ j i, i + j = n → vh_E 217 100 [some (.ref 88), some (.int (nI y)), some (.int (nI (cntN (fun k => decide (kdN b g T (hld b g n T) k = y - 1 ∨ (y = 2 ∧ kdN b g T (hld b g n T) k = 2))) i))), some (.int (nI i))] [] (vh_K d mi ml) = some (some (.int (nI (cntN (fun k => decide (kdN b g T (hld b g n T) k = y - 1 ∨ (y = 2 ∧ kdN b g T (hld b g n T) k = 2))) n))), vh_K d mi ml) := by
  have hn := B.1
  intro j
  induction j with
  | zero =>
    intro i hi
    have : i = n := by omega
    subst this
    simp only [e217_100, e217_101, e217_102, e217_105, e217_136, e217_137, ok88, H.sz, nI_le (Nat.le_refl i) (show i < 2 ^ 31 by omega), if_true]
  | succ j ih =>
    intro i hi
    have hin : i < n := by omega
    have := ih (i + 1) (by omega)
    have hK := kd_le (b := b) (g := g) (k := i) (T := T) (M := hld b g n T)
    have ey : nI y - 1 = nI (y - 1) := by rw [show (1 : Int32) = nI 1 from rfl, pk_sub (by omega)]
    rw [e217_100]
    simp only [e217_0, e217_1, e217_2, e217_5, e217_6, e217_7, e217_8, e217_60, e217_61, e217_63, e217_65, e217_68, e217_69, e217_70, e217_73, e217_74, e217_75, e217_78, e217_79, e217_82, e217_83, e217_84, e217_85, e217_88, e217_91, e217_92, e217_93, e217_94, e217_97, e217_98, e217_99, e217_101, e217_102, e217_105, e217_108, e217_109, e217_110, e217_111, e217_114, e217_115, e217_116, e217_117, e217_120, e217_123, e217_124, e217_127, e217_128, e217_129, e217_130, e217_133, e217_136, e217_137, e217_138, e217_139, e217_142, e217_143, e217_144, e217_147, e217_148, e217_149, e217_152, e217_153, e217_155, ok88, H.sz, nI_ge hin (show n < 2 ^ 31 by omega), if_false, s208 H B hin hT h27, s210, ey, nI_1, nI_z, Nat.add_zero, not_true_eq_false, not_false_eq_true, if_true, if_false, and_self, vh_bds, vh_ps1, vh_ps0, vb0, vb1, vbz, vbo]
    have iff : (nI (y - 1) = 0 ∨ nI (kdN b g T (hld b g n T) i) = nI (y - 1) ∨ (nI (y - 1) = 1 ∧ nI (kdN b g T (hld b g n T) i) = 2)) ↔ (kdN b g T (hld b g n T) i = y - 1 ∨ (y = 2 ∧ kdN b g T (hld b g n T) i = 2)) := by
      have e0 : nI (y - 1) = 0 ↔ y - 1 = 0 := nI_eq (b := 0) (by omega) (by decide)
      have e1 : nI (y - 1) = 1 ↔ y - 1 = 1 := nI_eq (b := 1) (by omega) (by decide)
      have e2 : nI (kdN b g T (hld b g n T) i) = 2 ↔ kdN b g T (hld b g n T) i = 2 := nI_eq (b := 2) (by omega) (by decide)
      rw [e0, e1, e2, nI_eq (by omega) (by omega)]
      omega
    by_cases q : kdN b g T (hld b g n T) i = y - 1 ∨ (y = 2 ∧ kdN b g T (hld b g n T) i = 2)
    · rw [if_neg (not_not_intro (iff.mpr q))]
      rw [cnt_t (decide_eq_true q)] at this
      exact this
    · rw [if_pos (fun z => q (iff.mp z))]
      rw [cnt_f (fun z => q (of_decide_eq_true z))] at this
      exact this
end

section
variable {d : Nat} {mi : Nat → Nat → Int32} {ml : Nat → Nat → Int64} {n k h : Nat} {b g : Nat → Nat → Nat}
def hmQ (b : Nat → Nat → Nat) (M H s e : Nat) (k : Nat) : Bool := M.testBit k && decide (b k 0 = H ∧ 96 * b k 2 + b k 3 < e ∧ s < 96 * b k 2 + b k 4 ∧ s < e)
theorem hq_i {M H s e : Nat} : hmQ b M H s e k = true ↔ M.testBit k = true ∧ b k 0 = H ∧ 96 * b k 2 + b k 3 < e ∧ s < 96 * b k 2 + b k 4 ∧ s < e := by unfold hmQ; rw [Bool.and_eq_true, decide_eq_true_iff]
def oneI : List Nat → Int32
  | [x] => nI x
  | _ => -1000000
def hmL (Q : Nat → Bool) (i : Nat) : List Nat := (List.range i).filter Q
theorem hl_t {Q : Nat → Bool} {i : Nat} (h : Q i = true) : hmL Q (i + 1) = hmL Q i ++ [i] := by
  unfold hmL; rw [List.range_succ, List.filter_append]; simp [h]
theorem hl_f {Q : Nat → Bool} {i : Nat} (h : ¬ Q i = true) : hmL Q (i + 1) = hmL Q i := by
  unfold hmL; rw [List.range_succ, List.filter_append]; simp at h; simp [h]
theorem hl_le {Q : Nat → Bool} {i : Nat} : ∀ j, (hmL Q i).length ≤ (hmL Q (i + j)).length := by
  intro j
  induction j with
  | zero => exact Nat.le_refl _
  | succ j ih =>
    rw [← Nat.add_assoc]
    by_cases q : Q (i + j) = true
    · rw [hl_t q]; simp; omega
    · rw [hl_f q]; exact ih
theorem one_2 {l : List Nat} (h : 2 ≤ l.length) : oneI l = -1000000 := by
  cases l with
  | nil => rfl
  | cons x l =>
    cases l with
    | nil => simp at h
    | cons y l => rfl
theorem s116 {s e : Nat} (H : DiC mi n b g) (B : DiB n b g) (hk : k < n) (hs : s ≤ 35040) (he : e ≤ 35040) : vh_C 116 [.ref (47 + k), .int (nI s), .int (nI e)] (vh_K d mi ml) = some (some (.int (vb (96 * b k 2 + b k 3 < e ∧ s < 96 * b k 2 + b k 4 ∧ s < e))), vh_K d mi ml) := by
  have hk6 : k < 16 := by have := B.1; omega
  obtain ⟨a0, a1, a2, a3, a4, a5, a5', a6, a7, a8, a9⟩ := B.2.1 k hk
  have m1 : nI (b k 2) * 96 + nI (b k 3) = nI (b k 2 * 96 + b k 3) := by rw [show nI (b k 2) * 96 = nI (b k 2 * 96) from pk_mul _ 96, nI_add]
  have m2 : nI (b k 2) * 96 + nI (b k 4) = nI (b k 2 * 96 + b k 4) := by rw [show nI (b k 2) * 96 = nI (b k 2 * 96) from pk_mul _ 96, nI_add]
  have f1 := mxN (a := b k 2 * 96 + b k 3) (b := s) (by omega) (by omega)
  have f2 := mnN (a := b k 2 * 96 + b k 4) (b := e) (by omega) (by omega)
  simp only [c116, e116_0, e116_1, e116_4, e116_5, e116_8, e116_11, e116_12, e116_15, e116_16, e116_19, e116_20, e116_23, e116_26, e116_27, e116_30, e116_33, e116_34, e116_37, e116_38, okB hk6, H.f2 hk, H.f3 hk, H.f4 hk, s105, m1, m2, f1, f2, nI_leI (show min (b k 2 * 96 + b k 4) e < 2 ^ 31 by omega) (show max (b k 2 * 96 + b k 3) s < 2 ^ 31 by omega), not_true_eq_false, not_false_eq_true, if_true, if_false, and_self, vh_bds, vh_ps1, vh_ps0, vb0, vb1, vbz, vbo]
  by_cases q : min (b k 2 * 96 + b k 4) e ≤ max (b k 2 * 96 + b k 3) s
  · rw [if_pos q, vb_f (by omega)]
  · rw [if_neg q, vb_t (by omega)]
theorem l115 {M Hh s e : Nat} (H : DiC mi n b g) (B : DiB n b g) (hM : M < 2 ^ 16) (hH : Hh < 4) (hs : s ≤ 35040) (he : e ≤ 35040) : ∀ (j i : Nat) (l7 l8 : Option Value), i + j = n → (hmL (hmQ b M Hh s e) i).length ≤ 1 → vh_E 115 19 [some (.ref 0), some (.int (nI Hh)), some (.int (nI s)), some (.int (nI e)), some (.int (nI M)), some (.int (oneI (hmL (hmQ b M Hh s e) i))), some (.int (nI i)), l7, l8] [] (vh_K d mi ml) = some (some (.int (oneI (hmL (hmQ b M Hh s e) n))), vh_K d mi ml) := by
  have hn := B.1
  intro j
  induction j with
  | zero =>
    intro i l7 l8 hi hl
    have : i = n := by omega
    subst this
    simp only [e115_19, e115_21, e115_22, e115_25, e115_28, e115_104, e115_106, ok0, ok42, rf0_4, H.sz, nI_le (Nat.le_refl i) (show i < 2 ^ 31 by omega), if_true]
  | succ j ih =>
    intro i l7 l8 hi hl
    have hin : i < n := by omega
    have hi6 : i < 16 := by omega
    have b0 := (B.2.1 i hin).1
    have := fun l7 l8 => ih (i + 1) l7 l8 (by omega)
    rw [e115_19]
    simp only [e115_0, e115_1, e115_4, e115_7, e115_10, e115_12, e115_14, e115_16, e115_17, e115_21, e115_22, e115_25, e115_28, e115_31, e115_32, e115_35, e115_37, e115_40, e115_42, e115_44, e115_46, e115_47, e115_48, e115_49, e115_50, e115_53, e115_55, e115_58, e115_59, e115_62, e115_63, e115_66, e115_67, e115_69, e115_71, e115_74, e115_76, e115_77, e115_78, e115_81, e115_84, e115_86, e115_88, e115_91, e115_93, e115_94, e115_96, e115_98, e115_101, e115_104, e115_106, ok0, ok42, rf0_4, H.sz, s73 hi6, okB hi6, H.f0 hin, bt (show M < 2 ^ 31 by omega) (show i < 31 by omega), vbe, nI_eq (show b i 0 < 2 ^ 31 by omega) (show Hh < 2 ^ 31 by omega), s116 H B hin hs he, nI_ge hin (show n < 2 ^ 31 by omega), show ¬ (1 : Int32) = 0 by decide, nI_1, not_true_eq_false, not_false_eq_true, if_true, if_false, and_self, vh_bds, vh_ps1, vh_ps0, vb0, vb1, vbz, vbo]
    have no : ¬ hmQ b M Hh s e i = true → ∀ l7 l8, vh_E 115 19 [some (.ref 0), some (.int (nI Hh)), some (.int (nI s)), some (.int (nI e)), some (.int (nI M)), some (.int (oneI (hmL (hmQ b M Hh s e) i))), some (.int (nI (i + 1))), l7, l8] [] (vh_K d mi ml) = some (some (.int (oneI (hmL (hmQ b M Hh s e) n))), vh_K d mi ml) := by
      intro q l7 l8
      have := this l7 l8
      rw [hl_f q] at this
      exact this hl
    by_cases q1 : M.testBit i = true
    · rw [if_neg (not_not_intro q1)]
      by_cases q2 : b i 0 = Hh
      · rw [if_neg (not_not_intro q2)]
        by_cases q3 : 96 * b i 2 + b i 3 < e ∧ s < 96 * b i 2 + b i 4 ∧ s < e
        · have q : hmQ b M Hh s e i = true := hq_i.mpr ⟨q1, q2, q3⟩
          rw [if_neg (not_not_intro q3)]
          have hle := hl_le (Q := hmQ b M Hh s e) (i := i + 1) (n - (i + 1))
          rw [show i + 1 + (n - (i + 1)) = n by omega] at hle
          cases e1 : hmL (hmQ b M Hh s e) i with
          | nil =>
            rw [if_pos (show oneI [] = -1000000 from rfl)]
            have := this (some (.ref (47 + i))) (some (.int 1))
            rw [hl_t q, e1] at this
            exact this (by simp)
          | cons x l =>
            have hx : x < i := by
              have : x ∈ hmL (hmQ b M Hh s e) i := by rw [e1]; simp
              exact List.mem_range.mp (List.mem_filter.mp this).1
            rw [e1] at hl
            have : l = [] := by
              cases l with
              | nil => rfl
              | cons y l => simp at hl
            subst this
            rw [if_neg (show ¬ oneI [x] = -1000000 from nmN (by omega))]
            rw [hl_t q, e1] at hle
            rw [one_2 (l := hmL (hmQ b M Hh s e) n) (by simp at hle; omega)]
        · rw [if_pos q3]
          exact no (fun z => q3 (hq_i.mp z).2.2) _ _
      · rw [if_pos q2]
        exact no (fun z => q2 (hq_i.mp z).2.1) _ _
    · rw [if_pos q1]
      exact no (fun z => q1 (hq_i.mp z).1) _ _
theorem s115 {Hh s e : Nat} (H : DiC mi n b g) (B : DiB n b g) (hH : Hh < 4) (hs : s ≤ 35040) (he : e ≤ 35040) : ∃ f45 f44, vh_C 115 [.ref 0, .int (nI Hh), .int (nI s), .int (nI e)] (vh_K d mi ml) = some (some (.int (oneI (hmL (hmQ b (hld b g n 364) Hh s e) n))), vh_K d (vh_sA (vh_sA mi 45 f45) 44 f44) ml) := by
  have hn := B.1
  obtain ⟨f45, f44, h1⟩ := s82 (d := d) (ml := ml) H B (show 364 ≤ 364 by decide)
  refine ⟨f45, f44, ?_⟩
  have H2 : DiC (vh_sA (vh_sA mi 45 f45) 44 f44) n b g := (H.fr hn (by omega)).fr hn (by omega)
  have := l115 (d := d) (ml := ml) H2 B (hld_lt (D := 364) B) hH hs he n 0 none none (by omega) (by simp [hmL])
  simp only [c115, e115_0, e115_1, e115_4, e115_7, e115_10, e115_12, e115_14, e115_16, e115_17, e115_21, e115_22, e115_25, e115_28, e115_31, e115_32, e115_35, e115_37, e115_40, e115_42, e115_44, e115_46, e115_47, e115_48, e115_49, e115_50, e115_53, e115_55, e115_58, e115_59, e115_62, e115_63, e115_66, e115_67, e115_69, e115_71, e115_74, e115_76, e115_77, e115_78, e115_81, e115_84, e115_86, e115_88, e115_91, e115_93, e115_94, e115_96, e115_98, e115_101, e115_104, e115_106, ok0, ok42, rf0_4, show (364 : Int32) = nI 364 from rfl, h1, not_true_eq_false, not_false_eq_true, if_true, if_false, and_self, vh_bds, vh_ps1, vh_ps0, vb0, vb1, vbz, vbo]
  exact this
def hmA (h : Int32) (D : Nat) : List (Int32 × Int32 × Int32 × Int32) → Int32 → Option (Int32 × Int32)
  | [], _ => none
  | x :: l, w => if x.2.1 = h then (if x.2.2.1.toNatClampNeg.testBit D = true then (if w = -1000000 then none else some (w, x.1)) else hmA h D l x.1) else hmA h D l w
theorem l114 {h : Int32} {D : Nat} {R : vh_R} (hD : D ≤ 7) (hn : n ≤ 40) (h4 : mi 77 4 = nI n) (hok : ∀ i, i < n → okL (mi 78 i, mi 79 i, mi 80 i, mi 81 i)) : ∀ (j i : Nat) (w : Int32), i + j = n → (hmA h D ((lgL n (mi 78) (mi 79) (mi 80) (mi 81)).drop i) w = none → R = some (some (.int (-1000000)), vh_K d mi ml)) → (∀ s e, hmA h D ((lgL n (mi 78) (mi 79) (mi 80) (mi 81)).drop i) w = some (s, e) → ∃ v w', vh_C 115 [.ref 0, .int h, .int s, .int e] (vh_K d mi ml) = some (some (.int v), w') ∧ R = some (some (.int v), w')) → vh_E 114 26 [some (.ref 0), some (.int h), some (.int (nI D)), some (.int w), some (.int (nI i))] [] (vh_K d mi ml) = R := by
  intro j
  induction j with
  | zero =>
    intro i w hi h1 h2
    have : i = n := by omega
    subst this
    rw [List.drop_eq_nil_of_le (by rw [lgL_len]; exact Nat.le_refl _)] at h1
    rw [h1 rfl]
    simp only [e114_26, e114_28, e114_29, e114_32, e114_35, e114_118, e114_120, ok0, ok77, rf0_8, h4, nI_le (Nat.le_refl i) (show i < 2 ^ 31 by omega), if_true]
  | succ j ih =>
    intro i w hi h1 h2
    have hin : i < n := by omega
    have x1 : vh_ixa 78 (nI i) = true := ixa (by rw [kd78]; omega) (by omega)
    have x2 : vh_ixa 79 (nI i) = true := ixa (by rw [kd79]; omega) (by omega)
    have x3 : vh_ixa 80 (nI i) = true := ixa (by rw [kd80]; omega) (by omega)
    obtain ⟨-, -, ⟨q, -, hq, eq⟩⟩ := hok i hin
    have eq : mi 80 i = nI q := eq
    rw [lgL_drop hin] at h1 h2
    rw [e114_26]
    simp only [e114_0, e114_1, e114_4, e114_7, e114_8, e114_9, e114_11, e114_14, e114_17, e114_19, e114_20, e114_22, e114_23, e114_24, e114_28, e114_29, e114_32, e114_35, e114_38, e114_39, e114_42, e114_45, e114_47, e114_48, e114_49, e114_52, e114_55, e114_56, e114_59, e114_62, e114_64, e114_65, e114_66, e114_67, e114_68, e114_69, e114_70, e114_73, e114_74, e114_76, e114_79, e114_81, e114_84, e114_85, e114_86, e114_87, e114_88, e114_91, e114_94, e114_96, e114_97, e114_100, e114_101, e114_102, e114_105, e114_108, e114_110, e114_111, e114_112, e114_115, e114_118, e114_120, ok0, ok77, ok78, ok79, ok80, rf0_8, rf77_0, rf77_1, rf77_2, h4, nI_ge hin (show n < 2 ^ 31 by omega), if_false, x1, x2, x3, clK (show i < 1000 by omega), nI_1, eq, bt (show q < 2 ^ 31 by omega) (show D < 31 by omega), vbe]
    simp only [hmA, eq, nI_clamp (show q < 2 ^ 31 by omega)] at h1 h2
    by_cases q0 : mi 79 i = h
    · rw [if_pos q0] at h1 h2 ⊢
      by_cases q1 : q.testBit D = true
      · rw [if_pos q1] at h1 h2
        rw [if_neg (not_not_intro q1)]
        by_cases q2 : w = -1000000
        · rw [if_pos q2] at h1
          rw [if_neg (not_not_intro q2), h1 rfl]
        · rw [if_neg q2] at h2
          rw [if_pos q2]
          obtain ⟨v, w', z1, z2⟩ := h2 _ _ rfl
          rw [z1, z2]
          simp only [e114_100, not_true_eq_false, not_false_eq_true, if_true, if_false, and_self, vh_bds, vh_ps1, vh_ps0, vb0, vb1, vbz, vbo]
      · rw [if_neg q1] at h1 h2
        rw [if_pos q1]
        exact ih (i + 1) (mi 78 i) (by omega) h1 h2
    · rw [if_neg q0] at h1 h2 ⊢
      exact ih (i + 1) w (by omega) h1 h2
end

def fdn (k : Int32) (l : List (Int32 × Int32 × Int32 × Int32)) : Nat → Nat → Int32 × Int32 → Int32 × Int32
  | 0, _, c => c
  | j + 1, D, c => fdn k l j (D + 1) ((l.filter (fun y => decide (y.1 = nI D))).foldl (gst k) c)
theorem fdn_snoc {k : Int32} {l : List (Int32 × Int32 × Int32 × Int32)} : ∀ {j D : Nat} {c : Int32 × Int32}, fdn k l (j + 1) D c = (l.filter (fun y => decide (y.1 = nI (D + j)))).foldl (gst k) (fdn k l j D c) := by
  intro j
  induction j with
  | zero => intro D c; rfl
  | succ j ih =>
    intro D c
    show fdn k l (j + 1) (D + 1) _ = _
    rw [ih, show D + 1 + j = D + (j + 1) by omega]
    rfl
theorem key_eq {k : Int32} {l : List (Int32 × Int32 × Int32 × Int32)} (hl : ∀ x ∈ l, ∃ T, T ≤ 364 ∧ x.1 = nI T) {c : Int32 × Int32} : ∀ e, e ≤ 364 → ((lgSort l).takeWhile (fun y => decide (y.1 ≤ nI e))).foldl (gst k) c = fdn k l (e + 1) 0 c := by
  have hf : ∀ E : Int32, (lgSort l).filter (fun y => decide (y.1 = E)) = l.filter (fun y => decide (y.1 = E)) := by
    intro E
    apply lgSort_filter _ l.length l rfl
    intro y z hy hz
    rw [of_decide_eq_true hy, of_decide_eq_true hz]
  have hm : ∀ x ∈ lgSort l, ¬ x.1 < 0 := by
    intro x hx h0
    have hx2 : x ∈ (lgSort l).filter (fun y => decide (y.1 = x.1)) := List.mem_filter.mpr ⟨hx, by simp⟩
    rw [hf] at hx2
    obtain ⟨T, hT, e⟩ := hl x (List.mem_filter.mp hx2).1
    rw [e] at h0
    exact nI_pos (by omega) h0
  intro e
  induction e with
  | zero =>
    intro _
    rw [tw_step (A := -1) (B := nI 0) (by decide) (by
      intro z h1 h2
      rw [i32_ltI] at h1
      rw [i32_leI] at h2
      rw [i32_eqI]
      have : (-1 : Int32).toInt = -1 := rfl
      have : (nI 0).toInt = 0 := rfl
      omega) (by decide) _ (lgSort_S l), tw_all (by
      intro x hx hd
      have := of_decide_eq_true hd
      exact hm x hx (Int32.lt_of_le_of_lt this (by decide))), List.nil_append, hf]
    rfl
  | succ e ih =>
    intro he
    rw [tw_step (A := nI e) (B := nI (e + 1)) (nI_le (by omega) (by omega)) (by
      intro z h1 h2
      rw [i32_ltI, nI_toInt (by omega)] at h1
      rw [i32_leI, nI_toInt (by omega)] at h2
      rw [i32_eqI, nI_toInt (by omega)]
      omega) (nI_lt (by omega) (by omega)) _ (lgSort_S l), List.foldl_append, ih (by omega), hf, fdn_snoc (j := e + 1), Nat.zero_add]
section
variable {d : Nat} {mi : Nat → Nat → Int32} {ml : Nat → Nat → Int64}
theorem l200i {k dy x DD : Int32} {n : Nat} (hn : n ≤ 40) (h4 : mi 88 37 = nI n) : ∀ (j i : Nat) (c : Int32 × Int32) (l8 : Option Value), i + j = n → ∃ l8', vh_E 200 56 [some (.ref 88), some (.int k), some (.int dy), some (.int x), some (.int c.1), some (.int c.2), some (.int DD), some (.int (nI i)), l8] [] (vh_K d mi ml) = vh_E 200 154 [some (.ref 88), some (.int k), some (.int dy), some (.int x), some (.int ((((lgL n (mi 112) (mi 109) (mi 110) (mi 111)).drop i).filter (fun y => decide (y.1 = DD))).foldl (gst k) c).1), some (.int ((((lgL n (mi 112) (mi 109) (mi 110) (mi 111)).drop i).filter (fun y => decide (y.1 = DD))).foldl (gst k) c).2), some (.int DD), some (.int (nI n)), l8'] [] (vh_K d mi ml) := by
  intro j
  induction j with
  | zero =>
    intro i c l8 hi
    have : i = n := by omega
    subst this
    refine ⟨l8, ?_⟩
    rw [List.drop_eq_nil_of_le (by rw [lgL_len]; exact Nat.le_refl _)]
    simp only [e200_56, e200_58, e200_59, e200_62, ok88, h4, nI_le (Nat.le_refl i) (show i < 2 ^ 31 by omega), if_true, List.filter_nil, List.foldl_nil]
  | succ j ih =>
    intro i c l8 hi
    have hin : i < n := by omega
    have x1 : vh_ixa 109 (nI i) = true := ixa (by rw [kd109]; omega) (by omega)
    have x2 : vh_ixa 110 (nI i) = true := ixa (by rw [kd110]; omega) (by omega)
    have x3 : vh_ixa 111 (nI i) = true := ixa (by rw [kd111]; omega) (by omega)
    have x4 : vh_ixa 112 (nI i) = true := ixa (by rw [kd112]; omega) (by omega)
    rw [lgL_drop hin, e200_56]
    simp only [e200_0, e200_1, e200_2, e200_5, e200_6, e200_7, e200_8, e200_11, e200_14, e200_17, e200_18, e200_21, e200_24, e200_25, e200_26, e200_27, e200_28, e200_31, e200_34, e200_36, e200_37, e200_39, e200_41, e200_42, e200_44, e200_45, e200_47, e200_49, e200_50, e200_53, e200_54, e200_58, e200_59, e200_62, e200_65, e200_66, e200_69, e200_71, e200_72, e200_73, e200_76, e200_77, e200_80, e200_82, e200_83, e200_85, e200_88, e200_90, e200_92, e200_95, e200_96, e200_99, e200_101, e200_102, e200_104, e200_107, e200_108, e200_111, e200_112, e200_114, e200_116, e200_119, e200_120, e200_123, e200_125, e200_126, e200_129, e200_131, e200_133, e200_135, e200_137, e200_140, e200_141, e200_144, e200_145, e200_146, e200_148, e200_151, e200_157, e200_160, e200_161, e200_164, e200_166, e200_169, e200_171, ok88, ok109, ok110, ok111, ok112, rf88_38, rf88_39, rf88_40, rf88_41, h4, nI_ge hin (show n < 2 ^ 31 by omega), if_false, x1, x2, x3, x4, clK (show i < 1000 by omega), nI_1, Int32.add_zero, show ¬ (1 : Int32) = 0 by decide, if_true]
    by_cases q0 : mi 112 i = DD
    · rw [List.filter_cons_of_pos (by simpa using q0), List.foldl_cons]
      by_cases q1 : mi 109 i = k
      · rw [if_neg (not_not_intro q1), if_neg (not_not_intro q0)]
        by_cases q2 : c.1 = -1000000
        · rw [if_pos q2, show gst k c (mi 112 i, mi 109 i, mi 110 i, mi 111 i) = (mi 111 i, c.2) from (if_pos q1).trans (if_pos (Or.inl q2))]
          exact ih (i + 1) (mi 111 i, c.2) _ (by omega)
        · rw [if_neg q2]
          by_cases q3 : mi 110 i = c.1
          · rw [if_neg (not_not_intro q3), show gst k c (mi 112 i, mi 109 i, mi 110 i, mi 111 i) = (mi 111 i, c.2) from (if_pos q1).trans (if_pos (Or.inr q3.symm))]
            exact ih (i + 1) (mi 111 i, c.2) _ (by omega)
          · rw [if_pos q3, show gst k c (mi 112 i, mi 109 i, mi 110 i, mi 111 i) = (c.1, c.2 + 1) from (if_pos q1).trans (if_neg (fun z => by rcases z with z | z; exact q2 z; exact q3 z.symm))]
            exact ih (i + 1) (c.1, c.2 + 1) _ (by omega)
      · rw [if_pos q1, show gst k c (mi 112 i, mi 109 i, mi 110 i, mi 111 i) = c from if_neg q1]
        exact ih (i + 1) c _ (by omega)
    · rw [List.filter_cons_of_neg (by simpa using q0)]
      by_cases q1 : mi 109 i = k
      · rw [if_neg (not_not_intro q1), if_pos q0]
        exact ih (i + 1) c _ (by omega)
      · rw [if_pos q1]
        exact ih (i + 1) c _ (by omega)
end

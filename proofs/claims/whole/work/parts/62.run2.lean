section
variable {d : Nat} {mi : Nat → Nat → Int32} {ml : Nat → Nat → Int64} {n : Nat}
def rnP (mi : Nat → Nat → Int32) (h : Int32) (T : Nat → Nat) (U : Nat) (x : Nat) : Bool := decide (mi 106 x = h) && decide (T x ≤ U)
theorem rn_i {h : Int32} {T : Nat → Nat} {U x : Nat} : rnP mi h T U x = true ↔ mi 106 x = h ∧ T x ≤ U := by unfold rnP; rw [Bool.and_eq_true, decide_eq_true_iff, decide_eq_true_iff]
theorem l197a {h : Int32} {U M : Nat} {T : Nat → Nat} {l4 l5 l6 l7 : Option Value} (hn : n ≤ 40) (hU : U ≤ 35040) (h88 : mi 88 33 = nI n) (hT : ∀ i, i < n → mi 107 i = nI (T i) ∧ T i ≤ 35039) (hM : M < 2 ^ 48) : ∀ (j i : Nat) (o : Option Nat) (l10 : Option Value), i + j = n → Best T (fun x => rnP mi h T U x && !M.testBit x) i o →
    ∃ o' l10', vh_E 197 23 [some (.ref 88), some (.int h), some (.int (nI U)), some (.long (lN M)), l4, l5, l6, l7, some (.int (bvI o)), some (.int (nI i)), l10] [] (vh_K d mi ml) = vh_E 197 116 [some (.ref 88), some (.int h), some (.int (nI U)), some (.long (lN M)), l4, l5, l6, l7, some (.int (bvI o')), some (.int (nI n)), l10'] [] (vh_K d mi ml) ∧ Best T (fun x => rnP mi h T U x && !M.testBit x) n o' := by
  intro j
  induction j with
  | zero =>
    intro i o l10 hi ho
    have : i = n := by omega
    subst this
    refine ⟨o, l10, ?_, ho⟩
    simp only [e197_23, e197_25, e197_26, e197_29, ok88, h88, nI_le (Nat.le_refl i) (show i < 2 ^ 31 by omega), if_true]
  | succ j ih =>
    intro i o l10 hi ho
    have hin : i < n := by omega
    have x1 : vh_ixa 106 (nI i) = true := ixa (by rw [kd106]; omega) (by omega)
    have x2 : vh_ixa 107 (nI i) = true := ixa (by rw [kd107]; omega) (by omega)
    obtain ⟨eT, bT⟩ := hT i hin
    have nl : nI U < nI (T i) ↔ ¬ T i ≤ U := by rw [nI_ltI (by omega) (by omega)]; omega
    rw [e197_23]
    simp only [e197_0, e197_1, e197_2, e197_3, e197_5, e197_6, e197_8, e197_9, e197_11, e197_13, e197_16, e197_18, e197_20, e197_21, e197_25, e197_26, e197_29, e197_32, e197_33, e197_36, e197_38, e197_39, e197_40, e197_43, e197_44, e197_47, e197_49, e197_50, e197_51, e197_54, e197_55, e197_57, e197_58, e197_59, e197_60, e197_61, e197_62, e197_65, e197_66, e197_69, e197_70, e197_72, e197_74, e197_77, e197_79, e197_81, e197_84, e197_85, e197_88, e197_90, e197_91, e197_92, e197_95, e197_97, e197_98, e197_101, e197_103, e197_106, e197_108, e197_110, e197_113, e197_118, e197_120, e197_123, e197_124, e197_127, e197_128, e197_130, e197_132, e197_135, e197_136, e197_137, e197_139, e197_140, e197_141, e197_142, e197_144, e197_146, e197_147, e197_150, e197_152, e197_153, e197_154, e197_157, e197_159, e197_162, e197_164, e197_165, e197_168, e197_170, e197_171, e197_172, e197_174, e197_176, e197_177, e197_180, e197_182, e197_183, e197_184, e197_186, e197_188, e197_190, e197_191, e197_192, e197_195, e197_197, e197_200, e197_202, e197_203, e197_204, e197_206, e197_208, e197_210, e197_212, e197_215, e197_217, e197_219, e197_220, e197_223, e197_224, e197_225, e197_227, e197_230, e197_232, ok88, ok106, ok107, rf88_34, rf88_35, x1, x2, h88, nI_ge hin (show n < 2 ^ 31 by omega), if_false, clK (show i < 1000 by omega), eT, nl, lbt hM (show i < 48 by omega), show ¬ (1 : Int32) = 0 by decide, nI_1, not_true_eq_false, not_false_eq_true, if_true, if_false, and_self, vh_bds, vh_ps1, vh_ps0, vb0, vb1, vbz, vbo, Classical.not_not]
    by_cases q : mi 106 i = h
    · rw [if_neg (not_not_intro q)]
      by_cases q1 : T i ≤ U
      · rw [if_neg (not_not_intro q1)]
        by_cases q2 : M.testBit i = true
        · rw [if_pos q2]
          exact ih (i + 1) o _ (by omega) (best_skip ho (by rw [q2]; simp))
        · rw [if_neg q2]
          have hr : (rnP mi h T U i && !M.testBit i) = true := by rw [rn_i.mpr ⟨q, q1⟩]; simp at q2; rw [q2]; rfl
          cases o with
          | none =>
            rw [if_pos (show bvI none = -1000000 from rfl)]
            exact ih (i + 1) (some i) _ (by omega) (best_none ho hr)
          | some x =>
            have hxi : x < i := ho.1
            have y2 : vh_ixa 107 (nI x) = true := ixa (by rw [kd107]; omega) (by omega)
            obtain ⟨eX, bX⟩ := hT x (by omega)
            rw [if_neg (show ¬ bvI (some x) = -1000000 from nmN (by omega))]
            simp only [e197_0, e197_1, e197_2, e197_3, e197_5, e197_6, e197_8, e197_9, e197_11, e197_13, e197_16, e197_18, e197_20, e197_21, e197_25, e197_26, e197_29, e197_32, e197_33, e197_36, e197_38, e197_39, e197_40, e197_43, e197_44, e197_47, e197_49, e197_50, e197_51, e197_54, e197_55, e197_57, e197_58, e197_59, e197_60, e197_61, e197_62, e197_65, e197_66, e197_69, e197_70, e197_72, e197_74, e197_77, e197_79, e197_81, e197_84, e197_85, e197_88, e197_90, e197_91, e197_92, e197_95, e197_97, e197_98, e197_101, e197_103, e197_106, e197_108, e197_110, e197_113, e197_118, e197_120, e197_123, e197_124, e197_127, e197_128, e197_130, e197_132, e197_135, e197_136, e197_137, e197_139, e197_140, e197_141, e197_142, e197_144, e197_146, e197_147, e197_150, e197_152, e197_153, e197_154, e197_157, e197_159, e197_162, e197_164, e197_165, e197_168, e197_170, e197_171, e197_172, e197_174, e197_176, e197_177, e197_180, e197_182, e197_183, e197_184, e197_186, e197_188, e197_190, e197_191, e197_192, e197_195, e197_197, e197_200, e197_202, e197_203, e197_204, e197_206, e197_208, e197_210, e197_212, e197_215, e197_217, e197_219, e197_220, e197_223, e197_224, e197_225, e197_227, e197_230, e197_232, show bvI (some x) = nI x from rfl, ok88, ok107, rf88_35, x2, y2, clK (show x < 1000 by omega), clK (show i < 1000 by omega), eX, eT, nI_leI (show T x < 2 ^ 31 by omega) (show T i < 2 ^ 31 by omega), nI_1, not_true_eq_false, not_false_eq_true, if_true, if_false, and_self, vh_bds, vh_ps1, vh_ps0, vb0, vb1, vbz, vbo]
            by_cases q3 : T x ≤ T i
            · rw [if_pos q3]
              exact ih (i + 1) (some x) _ (by omega) (best_old ho (fun z => by unfold ahd at z; omega))
            · rw [if_neg q3]
              exact ih (i + 1) (some i) _ (by omega) (best_new ho hr (by unfold ahd; omega))
      · rw [if_pos q1]
        exact ih (i + 1) o _ (by omega) (best_skip ho (by rw [Bool.and_eq_true]; exact fun z => q1 (rn_i.mp z.1).2))
    · rw [if_pos q]
      exact ih (i + 1) o _ (by omega) (best_skip ho (by rw [Bool.and_eq_true]; exact fun z => q (rn_i.mp z.1).1))
theorem l197 {h : Int32} {U : Nat} {T m : Nat → Nat} (hn : n ≤ 40) (hU : U ≤ 35040) (h88 : mi 88 33 = nI n) (hT : ∀ i, i < n → mi 107 i = nI (T i) ∧ T i ≤ 35039) (hm : ∀ i, i < n → mi 108 i = nI (m i) ∧ m i ≤ 600) {L : List Nat} (hL : OrdL T (rnP mi h T U) n L) : ∀ (R S : List Nat) (M : Nat) (c : Nat × Nat) (l4 l8 l9 l10 : Option Value), S ++ R = L → M < 2 ^ 48 → (∀ x, M.testBit x = true ↔ x ∈ S) → c.1 ≤ 525600 + 600 * S.length → c.2 ≤ 600 * S.length →
    vh_E 197 11 [some (.ref 88), some (.int h), some (.int (nI U)), some (.long (lN M)), l4, some (.int (nI c.1)), some (.int (nI c.2)), some (.int 1), l8, l9, l10] [] (vh_K d mi ml) = some (some (.int (nI (R.foldl (fun c k => rnS U c (T k) (m k)) c).2)), vh_K d mi ml) := by
  intro R
  induction R with
  | nil =>
    intro S M c l4 l8 l9 l10 hS hM hb hc1 hc2
    have hSL : S = L := by simpa using hS
    obtain ⟨o, l10', h1, h2⟩ := l197a (d := d) (ml := ml) (h := h) (l4 := l4) (l5 := some (.int (nI c.1))) (l6 := some (.int (nI c.2))) (l7 := some (.int 1)) hn hU h88 hT hM n 0 none l10 (by omega) (fun x hx => by omega)
    have ho : o = none := by
      cases o with
      | none => rfl
      | some x =>
        obtain ⟨a1, a2, a3⟩ := h2
        rw [Bool.and_eq_true] at a2
        have : x ∈ S := by rw [hSL]; exact (hL.2.1 x).mpr ⟨a1, a2.1⟩
        rw [(hb x).mpr this] at a2
        exact absurd a2.2 (by decide)
    subst ho
    simp only [e197_11, e197_13, e197_16, e197_18, e197_20, e197_21, show ¬ (1 : Int32) = 0 by decide, if_false]
    rw [show (-1000000 : Int32) = bvI none from rfl, show (0 : Int32) = nI 0 from rfl, h1]
    simp only [e197_116, e197_118, e197_120, e197_127, e197_128, e197_130, e197_132, e197_227, e197_11, e197_13, e197_230, e197_232, show bvI none = (-1000000 : Int32) from rfl, if_true, List.foldl_nil]
  | cons y R ih =>
    intro S M c l4 l8 l9 l10 hS hM hb hc1 hc2
    have hyL : y ∈ L := by rw [← hS]; simp
    have hy := (hL.2.1 y).mp hyL
    have hSl : S.length + 1 ≤ n := by
      have := hL.2.2
      rw [← hS, List.length_append, List.length_cons] at this
      omega
    have hP := hL.1
    rw [← hS, List.pairwise_append] at hP
    have hP2 := List.pairwise_cons.mp hP.2.1
    have hyM : M.testBit y = false := by
      cases e : M.testBit y with
      | false => rfl
      | true =>
        have := hP.2.2 y ((hb y).mp e) y (by simp)
        unfold ahd at this; omega
    obtain ⟨o, l10', h1, h2⟩ := l197a (d := d) (ml := ml) (h := h) (l4 := l4) (l5 := some (.int (nI c.1))) (l6 := some (.int (nI c.2))) (l7 := some (.int 1)) hn hU h88 hT hM n 0 none l10 (by omega) (fun x hx => by omega)
    have hry : (rnP mi h T U y && !M.testBit y) = true := by rw [hy.2, hyM]; rfl
    have ho : o = some y := by
      cases o with
      | none => exact absurd hry (h2 y hy.1)
      | some x =>
        obtain ⟨a1, a2, a3⟩ := h2
        rcases a3 y hy.1 hry with z | z
        · rw [z]
        · rw [Bool.and_eq_true] at a2
          have hxL : x ∈ L := (hL.2.1 x).mpr ⟨a1, a2.1⟩
          rw [← hS] at hxL
          rcases List.mem_append.mp hxL with w | w
          · rw [(hb x).mpr w] at a2; exact absurd a2.2 (by decide)
          · rcases List.mem_cons.mp w with w | w
            · rw [w]
            · have := hP2.1 x w
              unfold ahd at z this
              omega
    subst ho
    have y40 : y < 40 := by omega
    obtain ⟨eT, bT⟩ := hT y hy.1
    obtain ⟨em, bm⟩ := hm y hy.1
    have x2 : vh_ixa 107 (nI y) = true := ixa (by rw [kd107]; omega) (by omega)
    have x3 : vh_ixa 108 (nI y) = true := ixa (by rw [kd108]; omega) (by omega)
    have hb' : ∀ x, (M ||| 2 ^ y).testBit x = true ↔ x ∈ S ++ [y] := by
      intro x
      rw [bitor, Bool.or_eq_true, decide_eq_true_iff, hb x, List.mem_append, List.mem_singleton]
      constructor
      · rintro (z | z)
        · exact Or.inl z
        · exact Or.inr z.symm
      · rintro (z | z)
        · exact Or.inl z
        · exact Or.inr z.symm
    have hS' : (S ++ [y]) ++ R = L := by rw [← hS]; simp
    have m1 : (15 : Int32) * nI (T y) = nI (15 * T y) := pk_mul 15 (T y)
    have m2 : (15 : Int32) * nI U = nI (15 * U) := pk_mul 15 U
    have hfin := fun l8 l9 l10 => ih (S ++ [y]) (M ||| 2 ^ y) (rnS U c (T y) (m y)) none l8 l9 l10 hS' (lsl hM (by omega)) hb' (by rw [List.length_append, List.length_singleton]; unfold rnS; show max c.1 (15 * T y) + m y ≤ _; omega) (by rw [List.length_append, List.length_singleton]; unfold rnS; show c.2 + _ ≤ _; omega)
    rw [List.foldl_cons]
    simp only [e197_11, e197_13, e197_16, e197_18, e197_20, e197_21, show ¬ (1 : Int32) = 0 by decide, if_false]
    rw [show (-1000000 : Int32) = bvI none from rfl, show (0 : Int32) = nI 0 from rfl, h1]
    have c31 : c.1 < 2 ^ 31 := by omega
    have A : vh_E 197 116 [some (.ref 88), some (.int h), some (.int (nI U)), some (.long (lN M)), l4, some (.int (nI c.1)), some (.int (nI c.2)), some (.int 1), some (.int (bvI (some y))), some (.int (nI n)), l10'] [] (vh_K d mi ml) = vh_E 197 172 [some (.ref 88), some (.int h), some (.int (nI U)), some (.long (lN (M ||| 2 ^ y))), none, some (.int (nI c.1)), some (.int (nI c.2)), some (.int 1), some (.int (nI y)), some (.int (nI n)), l10'] [.int (nI (max c.1 (15 * T y)))] (vh_K d mi ml) := by
      simp only [e197_0, e197_1, e197_2, e197_3, e197_5, e197_6, e197_8, e197_9, e197_13, e197_16, e197_18, e197_20, e197_21, e197_25, e197_26, e197_29, e197_32, e197_33, e197_36, e197_38, e197_39, e197_40, e197_43, e197_44, e197_47, e197_49, e197_50, e197_51, e197_54, e197_55, e197_57, e197_58, e197_59, e197_60, e197_61, e197_62, e197_65, e197_66, e197_69, e197_70, e197_72, e197_74, e197_77, e197_79, e197_81, e197_84, e197_85, e197_88, e197_90, e197_91, e197_92, e197_95, e197_97, e197_98, e197_101, e197_103, e197_106, e197_108, e197_110, e197_113, e197_116, e197_118, e197_120, e197_123, e197_124, e197_127, e197_128, e197_130, e197_132, e197_135, e197_136, e197_137, e197_139, e197_140, e197_141, e197_142, e197_144, e197_146, e197_147, e197_150, e197_152, e197_153, e197_154, e197_157, e197_159, e197_162, e197_164, e197_165, e197_168, e197_170, e197_171, e197_174, e197_176, e197_177, e197_180, e197_182, e197_183, e197_184, e197_186, e197_188, e197_190, e197_191, e197_192, e197_195, e197_197, e197_200, e197_202, e197_203, e197_204, e197_206, e197_208, e197_210, e197_212, e197_215, e197_217, e197_219, e197_220, e197_223, e197_224, e197_225, e197_227, e197_230, e197_232, show bvI (some y) = nI y from rfl, show ¬ nI y = (-1000000 : Int32) from nmN (by omega), lsb hM (show y < 48 by omega), ok88, ok107, rf88_35, x2, clK (show y < 1000 by omega), eT, m1, nI_leI c31 (show 15 * T y < 2 ^ 31 by omega), show ¬ (1 : Int32) = 0 by decide, not_true_eq_false, not_false_eq_true, if_true, if_false, and_self, vh_bds, vh_ps1, vh_ps0, vb0, vb1, vbz, vbo]
      by_cases q1 : c.1 ≤ 15 * T y
      · rw [if_pos q1, show max c.1 (15 * T y) = 15 * T y by omega]
      · rw [if_neg q1, show max c.1 (15 * T y) = c.1 by omega]
    rw [A]
    unfold rnS at hfin ⊢
    generalize hs : max c.1 (15 * T y) = s at hfin ⊢
    have s31 : s ≤ 560000 := by omega
    have Bq : vh_E 197 172 [some (.ref 88), some (.int h), some (.int (nI U)), some (.long (lN (M ||| 2 ^ y))), none, some (.int (nI c.1)), some (.int (nI c.2)), some (.int 1), some (.int (nI y)), some (.int (nI n)), l10'] [.int (nI s)] (vh_K d mi ml) = vh_E 197 204 [some (.ref 88), some (.int h), some (.int (nI U)), some (.long (lN (M ||| 2 ^ y))), none, some (.int (nI (s + m y))), some (.int (nI c.2)), some (.int 1), some (.int (nI y)), some (.int (nI s)), l10'] [.int (nI (min (s + m y) (15 * U)))] (vh_K d mi ml) := by
      simp only [e197_0, e197_1, e197_2, e197_3, e197_5, e197_6, e197_8, e197_9, e197_13, e197_16, e197_18, e197_20, e197_21, e197_25, e197_26, e197_29, e197_32, e197_33, e197_36, e197_38, e197_39, e197_40, e197_43, e197_44, e197_47, e197_49, e197_50, e197_51, e197_54, e197_55, e197_57, e197_58, e197_59, e197_60, e197_61, e197_62, e197_65, e197_66, e197_69, e197_70, e197_72, e197_74, e197_77, e197_79, e197_81, e197_84, e197_85, e197_88, e197_90, e197_91, e197_92, e197_95, e197_97, e197_98, e197_101, e197_103, e197_106, e197_108, e197_110, e197_113, e197_116, e197_118, e197_120, e197_123, e197_124, e197_127, e197_128, e197_130, e197_132, e197_135, e197_136, e197_137, e197_139, e197_140, e197_141, e197_142, e197_144, e197_146, e197_147, e197_150, e197_152, e197_153, e197_154, e197_157, e197_159, e197_162, e197_164, e197_165, e197_168, e197_170, e197_171, e197_172, e197_174, e197_176, e197_177, e197_180, e197_182, e197_183, e197_184, e197_186, e197_188, e197_190, e197_191, e197_192, e197_195, e197_197, e197_200, e197_202, e197_203, e197_206, e197_208, e197_210, e197_212, e197_215, e197_217, e197_219, e197_220, e197_223, e197_224, e197_225, e197_227, e197_230, e197_232, ok88, ok108, rf88_36, x3, clK (show y < 1000 by omega), em, m2, nI_add, nI_leI (show 15 * U < 2 ^ 31 by omega) (show s + m y < 2 ^ 31 by omega)]
      by_cases q1 : 15 * U ≤ s + m y
      · rw [if_pos q1, show min (s + m y) (15 * U) = 15 * U by omega]
      · rw [if_neg q1, show min (s + m y) (15 * U) = s + m y by omega]
    rw [Bq]
    generalize hz : min (s + m y) (15 * U) = z at hfin ⊢
    simp only [e197_0, e197_1, e197_2, e197_3, e197_5, e197_6, e197_8, e197_9, e197_13, e197_16, e197_18, e197_20, e197_21, e197_25, e197_26, e197_29, e197_32, e197_33, e197_36, e197_38, e197_39, e197_40, e197_43, e197_44, e197_47, e197_49, e197_50, e197_51, e197_54, e197_55, e197_57, e197_58, e197_59, e197_60, e197_61, e197_62, e197_65, e197_66, e197_69, e197_70, e197_72, e197_74, e197_77, e197_79, e197_81, e197_84, e197_85, e197_88, e197_90, e197_91, e197_92, e197_95, e197_97, e197_98, e197_101, e197_103, e197_106, e197_108, e197_110, e197_113, e197_116, e197_118, e197_120, e197_123, e197_124, e197_127, e197_128, e197_130, e197_132, e197_135, e197_136, e197_137, e197_139, e197_140, e197_141, e197_142, e197_144, e197_146, e197_147, e197_150, e197_152, e197_153, e197_154, e197_157, e197_159, e197_162, e197_164, e197_165, e197_168, e197_170, e197_171, e197_172, e197_174, e197_176, e197_177, e197_180, e197_182, e197_183, e197_184, e197_186, e197_188, e197_190, e197_191, e197_192, e197_195, e197_197, e197_200, e197_202, e197_203, e197_204, e197_206, e197_208, e197_210, e197_212, e197_215, e197_217, e197_219, e197_220, e197_223, e197_224, e197_225, e197_227, e197_230, e197_232, nI_leI (show z < 2 ^ 31 by omega) (show s < 2 ^ 31 by omega), Int32.add_zero]
    by_cases q1 : z ≤ s
    · rw [if_pos q1]
      rw [show z - s = 0 by omega, Nat.add_zero] at hfin ⊢
      exact hfin _ _ _
    · rw [if_neg q1, pk_sub (by omega), nI_add]
      exact hfin _ _ _
end

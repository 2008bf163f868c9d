section
variable {d : Nat} {mi : Nat → Nat → Int32} {ml : Nat → Nat → Int64} {n k h : Nat} {b g : Nat → Nat → Nat}
/-- no clash with those below -/
def okN (b g : Nat → Nat → Nat) (M y i : Nat) (f : Bool) : Bool := f && decide (∀ x, x < i → ¬ cwP b g M (b y) x = true)
theorem ok_t {M y i : Nat} {f : Bool} (h : ¬ cwP b g M (b y) i = true) : okN b g M y (i + 1) f = okN b g M y i f := by
  unfold okN
  congr 1
  apply decide_eq_decide.mpr
  constructor
  · intro z x hx; exact z x (by omega)
  · intro z x hx
    by_cases e : x = i
    · rw [e]; exact h
    · exact z x (by omega)
theorem ok_f {M y i : Nat} {f : Bool} (h : cwP b g M (b y) i = true) : okN b g M y (i + 1) f = false := by
  unfold okN
  rw [decide_eq_false (fun z => z i (by omega) h), Bool.and_false]
theorem nI_z {a : Nat} : nI a + 0 = nI (a + 0) := nI_add a 0
theorem vb_01 {x : Bool} : (vb (x = true) = 0) = ¬ x = true := vb0
theorem l184b {M y : Nat} {f : Bool} {l1 l2 l4 : Option Value} (H : DiM mi n b g) (B : DiB n b g) (hM : M < 2 ^ 16) (hy : y < n) : ∀ (j i : Nat), i + j = n →
    vh_E 184 146 [some (.ref 88), l1, l2, some (.int (nI M)), l4, some (.int (nI y)), some (.int (vb (okN b g M y i f = true))), some (.int (nI (lcN b M (b y 0) i))), some (.int (nI i))] [] (vh_K d mi ml) = vh_E 184 228 [some (.ref 88), l1, l2, some (.int (nI M)), l4, some (.int (nI y)), some (.int (vb (okN b g M y n f = true))), some (.int (nI (lcN b M (b y 0) n))), some (.int (nI n))] [] (vh_K d mi ml) := by
  have hn := B.1
  have y6 : y < 16 := by omega
  have by0 := (B.2.1 y hy).1
  intro j
  induction j with
  | zero =>
    intro i hi
    have : i = n := by omega
    subst this
    simp only [e184_146, e184_148, e184_149, e184_152, ok88, H.sz, nI_le (Nat.le_refl i) (show i < 2 ^ 31 by omega), if_true]
  | succ j ih =>
    intro i hi
    have hin : i < n := by omega
    have hi6 : i < 16 := by omega
    have bi0 := (B.2.1 i hin).1
    have := ih (i + 1) (by omega)
    rw [e184_146]
    simp only [e184_0, e184_1, e184_2, e184_3, e184_4, e184_5, e184_7, e184_9, e184_12, e184_14, e184_16, e184_17, e184_19, e184_21, e184_22, e184_25, e184_28, e184_29, e184_31, e184_32, e184_35, e184_38, e184_39, e184_41, e184_42, e184_43, e184_44, e184_47, e184_48, e184_51, e184_52, e184_54, e184_56, e184_59, e184_61, e184_63, e184_66, e184_67, e184_69, e184_71, e184_74, e184_77, e184_79, e184_82, e184_84, e184_86, e184_89, e184_92, e184_94, e184_96, e184_99, e184_100, e184_103, e184_104, e184_106, e184_108, e184_111, e184_112, e184_113, e184_115, e184_116, e184_117, e184_118, e184_119, e184_121, e184_122, e184_124, e184_125, e184_128, e184_129, e184_131, e184_132, e184_135, e184_138, e184_140, e184_141, e184_143, e184_144, e184_148, e184_149, e184_152, e184_155, e184_156, e184_158, e184_159, e184_160, e184_161, e184_162, e184_165, e184_167, e184_170, e184_171, e184_173, e184_175, e184_178, e184_181, e184_182, e184_185, e184_186, e184_188, e184_190, e184_191, e184_193, e184_194, e184_197, e184_198, e184_200, e184_201, e184_204, e184_207, e184_208, e184_210, e184_212, e184_215, e184_218, e184_219, e184_220, e184_222, e184_225, e184_230, e184_233, e184_234, e184_236, e184_238, e184_241, e184_244, e184_246, e184_247, e184_250, e184_251, e184_253, e184_254, e184_257, e184_258, e184_261, e184_262, e184_265, e184_266, e184_268, e184_269, e184_271, e184_274, e184_275, e184_277, e184_278, e184_281, e184_282, e184_283, e184_284, e184_287, e184_288, ok88, H.sz, nI_ge hin (show n < 2 ^ 31 by omega), if_false, bt (show M < 2 ^ 31 by omega) (show i < 31 by omega), vbe, s181 H B hin hy, s177_0 hi6, s177_0 y6, s177_7 hi6, H.f0 hin, H.f0 hy, H.f7 hin, nI_eq (show b i 0 < 2 ^ 31 by omega) (show b y 0 < 2 ^ 31 by omega), nI_1, nI_add, not_true_eq_false, not_false_eq_true, if_true, if_false, and_self, vh_bds, vh_ps1, vh_ps0, vb0, vb1, vbz, vbo, Classical.not_not, nI_z]
    by_cases q : M.testBit i = true
    · have el : ∀ (v : Nat), v = (if b i 0 = b y 0 then b i 7 else 0) → lcN b M (b y 0) i + v = lcN b M (b y 0) (i + 1) := by
        intro v hv
        rw [hv]
        by_cases e : b i 0 = b y 0
        · rw [if_pos e, lc_t q e]
        · rw [if_neg e, lc_f (fun z => e z.2), Nat.add_zero]
      rw [if_neg (not_not_intro q)]
      by_cases q1 : okN b g M y i f = true
      · rw [if_neg (not_not_intro q1)]
        by_cases q2 : clsh g (b i) (b y) = true
        · rw [if_pos q2]
          have hc : cwP b g M (b y) i = true := by unfold cwP; rw [q, clsh_s, q2]; rfl
          rw [ok_f hc, vb_f (by decide)] at this
          by_cases e : b i 0 = b y 0
          · rw [if_neg (not_not_intro e), el _ (if_pos e).symm]; exact this
          · rw [if_pos e, el 0 (if_neg e).symm]; exact this
        · rw [if_neg q2]
          have hc : ¬ cwP b g M (b y) i = true := by unfold cwP; rw [Bool.and_eq_true, clsh_s]; exact fun z => q2 z.2
          rw [ok_t hc, vb_t q1] at this
          by_cases e : b i 0 = b y 0
          · rw [if_neg (not_not_intro e), el _ (if_pos e).symm]; exact this
          · rw [if_pos e, el 0 (if_neg e).symm]; exact this
      · rw [if_pos q1]
        have : okN b g M y (i + 1) f = false := by
          unfold okN at q1 ⊢
          cases f with
          | false => rfl
          | true =>
            simp only [Bool.true_and, decide_eq_true_eq] at q1
            rw [Bool.true_and]
            exact decide_eq_false (fun z => q1 (fun x hx => z x (by omega)))
        rename_i th
        rw [this, vb_f (by decide)] at th
        by_cases e : b i 0 = b y 0
        · rw [if_neg (not_not_intro e), el _ (if_pos e).symm]; exact th
        · rw [if_pos e, el 0 (if_neg e).symm]; exact th
    · rw [if_pos q]
      rw [ok_t (by unfold cwP; rw [Bool.and_eq_true]; exact fun z => q z.1), lc_f (fun z => q z.1)] at this
      exact this
theorem l184 {D : Nat} (H : DiM mi n b g) (B : DiB n b g) (hD : D ≤ 364) {L : List Nat} (hL : OrdL (hkey b g) (fun k => thB (b k) D) n L) : ∀ (T S : List Nat) (M E : Nat) (l5 l6 l7 l8 : Option Value), S ++ T = L → M < 2 ^ 16 → E < 2 ^ 16 → (∀ x, E.testBit x = true ↔ x ∈ S) →
    vh_E 184 7 [some (.ref 88), some (.int (nI D)), some (.int (nI E)), some (.int (nI M)), some (.int 1), l5, l6, l7, l8] [] (vh_K d mi ml) = some (some (.int (nI (T.foldl (hstep b g n) M))), vh_K d mi ml) := by
  have hn := B.1
  intro T
  induction T with
  | nil =>
    intro S M E l5 l6 l7 l8 hS hM hE hb
    have hSL : S = L := by simpa using hS
    obtain ⟨o, l7', h1, h2⟩ := l184a (d := d) (ml := ml) (l3 := some (.int (nI M))) (l4 := some (.int 1)) (l8 := l8) H B hD hE n 0 none l7 (by omega) (fun x hx => by omega)
    have ho : o = none := by
      cases o with
      | none => rfl
      | some x =>
        obtain ⟨a1, a2, a3⟩ := h2
        rw [Bool.and_eq_true] at a2
        have : x ∈ S := by rw [hSL]; exact (hL.2.1 x).mpr ⟨a1, a2.1⟩
        rw [(hb x).mpr this] at a2
        exact absurd a2.2 (by decide)
    subst ho
    simp only [e184_7, e184_9, e184_12, e184_14, e184_16, e184_17, show ¬ (1 : Int32) = 0 by decide, if_false]
    rw [show (-1000000 : Int32) = bvI none from rfl, show (0 : Int32) = nI 0 from rfl, h1]
    simp only [e184_92, e184_94, e184_96, e184_103, e184_104, e184_106, e184_108, e184_284, e184_7, e184_9, e184_287, e184_288, show bvI none = (-1000000 : Int32) from rfl, if_true, List.foldl_nil]
  | cons y T ih =>
    intro S M E l5 l6 l7 l8 hS hM hE hb
    have hyL : y ∈ L := by rw [← hS]; simp
    have hy := (hL.2.1 y).mp hyL
    have hyt : thB (b y) D = true := hy.2
    have y6 : y < 16 := by omega
    obtain ⟨o, l7', h1, h2⟩ := l184a (d := d) (ml := ml) (l3 := some (.int (nI M))) (l4 := some (.int 1)) (l8 := l8) H B hD hE n 0 none l7 (by omega) (fun x hx => by omega)
    have hP := hL.1
    rw [← hS, List.pairwise_append] at hP
    have hP2 := List.pairwise_cons.mp hP.2.1
    have hyS : y ∉ S := fun z => by have := hP.2.2 y z y (by simp); unfold ahd at this; omega
    have hyE : E.testBit y = false := by
      cases z : E.testBit y with
      | false => rfl
      | true => exact absurd ((hb y).mp z) hyS
    have ho : o = some y := by
      cases o with
      | none => exact absurd (show (thB (b y) D && !E.testBit y) = true by rw [hyt, hyE]; rfl) (h2 y hy.1)
      | some x =>
        obtain ⟨a1, a2, a3⟩ := h2
        rcases a3 y hy.1 (by show (thB (b y) D && !E.testBit y) = true; rw [hyt, hyE]; rfl) with z | z
        · rw [z]
        · rw [Bool.and_eq_true] at a2
          have hxL : x ∈ L := (hL.2.1 x).mpr ⟨a1, a2.1⟩
          rw [← hS] at hxL
          rcases List.mem_append.mp hxL with w | w
          · rw [(hb x).mpr w] at a2; exact absurd a2.2 (by decide)
          · rcases List.mem_cons.mp w with w | w
            · rw [w]
            · have := hP2.1 x w
              unfold ahd at z this
              omega
    subst ho
    obtain ⟨a0, a1, a2, a3, a4, a5, a5', a6, a7, a8, a9⟩ := B.2.1 y hy.1
    have h0 : b y 0 < 4 := by omega
    have hg := (B.2.2.2 _ h0).2.1
    have hl := lcN_le (M := M) (h := b y 0) B (Nat.le_refl n)
    have x1 : vh_ixa 90 (nI (b y 0)) = true := ixa (by rw [kd90]; omega) (by omega)
    have h3 := l184b (d := d) (ml := ml) (M := M) (y := y) (f := frB g (b y)) (l1 := some (.int (nI D))) (l2 := some (.int (nI (E ||| 2 ^ y)))) (l4 := some (.int 1)) H B hM hy.1 n 0 (by omega)
    have e0 : okN b g M y 0 (frB g (b y)) = frB g (b y) := by unfold okN; rw [decide_eq_true (fun x hx => by omega), Bool.and_true]
    rw [e0] at h3
    have hfr : vb (b y 5 ≤ g (b y 0) (4 + b y 1)) = vb (frB g (b y) = true) := vbc fr_i.symm
    simp only [e184_7, e184_9, e184_12, e184_14, e184_16, e184_17, show ¬ (1 : Int32) = 0 by decide, if_false]
    rw [show (-1000000 : Int32) = bvI none from rfl, show (0 : Int32) = nI 0 from rfl, h1]
    simp only [e184_0, e184_1, e184_2, e184_3, e184_4, e184_5, e184_9, e184_12, e184_14, e184_16, e184_17, e184_21, e184_22, e184_25, e184_28, e184_29, e184_31, e184_32, e184_35, e184_38, e184_39, e184_41, e184_42, e184_43, e184_44, e184_47, e184_48, e184_51, e184_52, e184_54, e184_56, e184_59, e184_61, e184_63, e184_66, e184_67, e184_69, e184_71, e184_74, e184_77, e184_79, e184_82, e184_84, e184_86, e184_89, e184_92, e184_94, e184_96, e184_99, e184_100, e184_103, e184_104, e184_106, e184_108, e184_111, e184_112, e184_113, e184_115, e184_116, e184_117, e184_118, e184_119, e184_121, e184_122, e184_124, e184_125, e184_128, e184_129, e184_131, e184_132, e184_135, e184_138, e184_140, e184_141, e184_143, e184_144, e184_148, e184_149, e184_152, e184_155, e184_156, e184_158, e184_159, e184_160, e184_161, e184_162, e184_165, e184_167, e184_170, e184_171, e184_173, e184_175, e184_178, e184_181, e184_182, e184_185, e184_186, e184_188, e184_190, e184_191, e184_193, e184_194, e184_197, e184_198, e184_200, e184_201, e184_204, e184_207, e184_208, e184_210, e184_212, e184_215, e184_218, e184_219, e184_220, e184_222, e184_225, e184_228, e184_230, e184_233, e184_234, e184_236, e184_238, e184_241, e184_244, e184_246, e184_247, e184_250, e184_251, e184_253, e184_254, e184_257, e184_258, e184_261, e184_262, e184_265, e184_266, e184_268, e184_269, e184_271, e184_274, e184_275, e184_277, e184_278, e184_281, e184_282, e184_283, e184_284, e184_287, e184_288, show bvI (some y) = nI y from rfl, show ¬ nI y = bvI none from nmN (by omega), show bvI none = (-1000000 : Int32) from rfl, show ¬ nI y = (-1000000 : Int32) from nmN (by omega), sbt hE y6, s177_0 y6, s177_1 y6, H.f0 hy.1, H.f1 hy.1, s188 H B hy.1 h0 (show b y 1 < 2 by omega), hfr, ok88, show ¬ (1 : Int32) = 0 by decide, not_true_eq_false, not_false_eq_true, if_true, if_false, and_self, vh_bds, vh_ps1, vh_ps0, vb0, vb1, vbz, vbo]
    refine Eq.trans h3 ?_
    simp only [e184_0, e184_1, e184_2, e184_3, e184_4, e184_5, e184_9, e184_12, e184_14, e184_16, e184_17, e184_21, e184_22, e184_25, e184_28, e184_29, e184_31, e184_32, e184_35, e184_38, e184_39, e184_41, e184_42, e184_43, e184_44, e184_47, e184_48, e184_51, e184_52, e184_54, e184_56, e184_59, e184_61, e184_63, e184_66, e184_67, e184_69, e184_71, e184_74, e184_77, e184_79, e184_82, e184_84, e184_86, e184_89, e184_92, e184_94, e184_96, e184_99, e184_100, e184_103, e184_104, e184_106, e184_108, e184_111, e184_112, e184_113, e184_115, e184_116, e184_117, e184_118, e184_119, e184_121, e184_122, e184_124, e184_125, e184_128, e184_129, e184_131, e184_132, e184_135, e184_138, e184_140, e184_141, e184_143, e184_144, e184_148, e184_149, e184_152, e184_155, e184_156, e184_158, e184_159, e184_160, e184_161, e184_162, e184_165, e184_167, e184_170, e184_171, e184_173, e184_175, e184_178, e184_181, e184_182, e184_185, e184_186, e184_188, e184_190, e184_191, e184_193, e184_194, e184_197, e184_198, e184_200, e184_201, e184_204, e184_207, e184_208, e184_210, e184_212, e184_215, e184_218, e184_219, e184_220, e184_222, e184_225, e184_228, e184_230, e184_233, e184_234, e184_236, e184_238, e184_241, e184_244, e184_246, e184_247, e184_250, e184_251, e184_253, e184_254, e184_257, e184_258, e184_261, e184_262, e184_265, e184_266, e184_268, e184_269, e184_271, e184_274, e184_275, e184_277, e184_278, e184_281, e184_282, e184_283, e184_284, e184_287, e184_288, s177_0 y6, s177_7 y6, H.f0 hy.1, H.f7 hy.1, ok88, ok90, rf88_3, x1, clK (show b y 0 < 1000 by omega), H.h1 h0, sbt hM y6, show ¬ (1 : Int32) = 0 by decide, not_true_eq_false, not_false_eq_true, if_true, if_false, and_self, vh_bds, vh_ps1, vh_ps0, vb0, vb1, vbz, vbo]
    have hok : okN b g M y n (frB g (b y)) = true ↔ (frB g (b y) = true ∧ msk (cwP b g M (b y)) n = 0) := by
      unfold okN
      rw [Bool.and_eq_true, decide_eq_true_iff, msk_0]
    have hb' : ∀ x, (E ||| 2 ^ y).testBit x = true ↔ x ∈ S ++ [y] := by
      intro x
      rw [bitor, Bool.or_eq_true, decide_eq_true_iff, hb x, List.mem_append, List.mem_singleton]
      constructor
      · rintro (z | z)
        · exact Or.inl z
        · exact Or.inr z.symm
      · rintro (z | z)
        · exact Or.inl z
        · exact Or.inr z.symm
    have hS' : (S ++ [y]) ++ T = L := by rw [← hS]; simp
    have zz : nI M ||| 0 = nI M := by rw [show (0 : Int32) = nI 0 from rfl, orN (by omega) (by omega), Nat.or_zero]
    rw [List.foldl_cons]
    have yes : chB b g n M (b y) = true → ∀ l6 l7 l8, vh_E 184 7 [some (.ref 88), some (.int (nI D)), some (.int (nI (E ||| 2 ^ y))), some (.int (nI (M ||| 2 ^ y))), some (.int 1), some (.int (nI y)), l6, l7, l8] [] (vh_K d mi ml) = some (some (.int (nI (T.foldl (hstep b g n) (hstep b g n M y)))), vh_K d mi ml) := by
      intro q l6 l7 l8
      rw [show hstep b g n M y = M ||| 2 ^ y from if_pos q]
      exact ih (S ++ [y]) (M ||| 2 ^ y) (E ||| 2 ^ y) _ _ _ _ hS' (sbl hM y6) (sbl hE y6) hb'
    have no : ¬ chB b g n M (b y) = true → ∀ l6 l7 l8, vh_E 184 7 [some (.ref 88), some (.int (nI D)), some (.int (nI (E ||| 2 ^ y))), some (.int (nI M ||| 0)), some (.int 1), some (.int (nI y)), l6, l7, l8] [] (vh_K d mi ml) = some (some (.int (nI (T.foldl (hstep b g n) (hstep b g n M y)))), vh_K d mi ml) := by
      intro q l6 l7 l8
      rw [show hstep b g n M y = M from if_neg q, zz]
      exact ih (S ++ [y]) M (E ||| 2 ^ y) _ _ _ _ hS' hM (sbl hE y6) hb'
    have e0 : ∀ x : Nat, x < 2 ^ 31 → ((nI x = 0) ↔ x = 0) := fun x hx => nI_eq (b := 0) hx (by decide)
    by_cases q1 : okN b g M y n (frB g (b y)) = true
    · rw [if_neg (not_not_intro q1)]
      have q1' := hok.mp q1
      by_cases q3 : b y 7 = 0
      · rw [if_pos ((e0 _ (by omega)).mpr q3)]
        exact yes (ch_i.mpr ⟨q1'.1, q1'.2, Or.inl q3⟩) _ _ _
      · rw [if_neg (fun z => q3 ((e0 _ (by omega)).mp z))]
        by_cases q4 : lcN b M (b y 0) n < g (b y 0) 1
        · rw [if_neg (nI_ge q4 (by omega))]
          exact yes (ch_i.mpr ⟨q1'.1, q1'.2, Or.inr q4⟩) _ _ _
        · rw [if_pos (nI_le (by omega) (by omega))]
          exact no (fun z => by have := (ch_i.mp z).2.2; omega) _ _ _
    · rw [if_pos q1]
      exact no (fun z => q1 (hok.mpr ⟨(ch_i.mp z).1, (ch_i.mp z).2.1⟩)) _ _ _
theorem s184 {D : Nat} (H : DiM mi n b g) (B : DiB n b g) (hD : D ≤ 364) : vh_C 184 [.ref 88, .int (nI D)] (vh_K d mi ml) = some (some (.int (nI (hld b g n D))), vh_K d mi ml) := by
  simp only [c184, e184_0, e184_1, e184_2, e184_3, e184_4, e184_5]
  exact l184 H B hD (ordN_o n) _ [] 0 0 _ _ _ _ rfl (by decide) (by decide) (fun x => by rw [Nat.zero_testBit]; simp)
end

theorem near_s {s f1 t1 u1 f2 t2 u2 : Nat} : nearB s f1 t1 u1 f2 t2 u2 = nearB s f2 t2 u2 f1 t1 u1 := by
  apply Bool.eq_iff_iff.mpr
  by_cases e : u1 = u2
  · rw [near_e e, near_e e.symm]; omega
  · rw [near_n e, near_n (fun z => e z.symm)]; omega
theorem clsh_s {g : Nat → Nat → Nat} {p q : Nat → Nat} : clsh g p q = clsh g q p := by
  apply Bool.eq_iff_iff.mpr
  rw [clsh_i, clsh_i]
  constructor
  · rintro ⟨⟨a, b, c⟩, h⟩
    refine ⟨⟨a.symm, b.symm, c.symm⟩, ?_⟩
    rw [near_s, a]; exact h
  · rintro ⟨⟨a, b, c⟩, h⟩
    refine ⟨⟨a.symm, b.symm, c.symm⟩, ?_⟩
    rw [near_s, a]; exact h
theorem msk_0 {P : Nat → Bool} {n : Nat} : msk P n = 0 ↔ ∀ k, k < n → ¬ P k = true := by
  constructor
  · intro h k hk hp
    have := msk_bit (P := P) (j := k) (k := n)
    rw [h, Nat.zero_testBit, decide_eq_true hk, hp] at this
    cases this
  · intro h
    apply Nat.eq_of_testBit_eq
    intro j
    rw [msk_bit, Nat.zero_testBit]
    by_cases hj : j < n
    · have := h j hj
      simp at this
      rw [this, Bool.and_false]
    · rw [decide_eq_false hj, Bool.false_and]
section
variable {d : Nat} {mi : Nat → Nat → Int32} {ml : Nat → Nat → Int64} {n k h : Nat} {b g : Nat → Nat → Nat}
def rkN (b g : Nat → Nat → Nat) (k : Nat) : Nat := g (b k 0) (20 + b k 6)
theorem rk_le (B : DiB n b g) (hk : k < n) : rkN b g k ≤ 4 := by
  obtain ⟨a0, a1, a2, a3, a4, a5, a5', a6, a7, a8, a9⟩ := B.2.1 k hk
  exact (B.2.2.2 (b k 0) (by omega)).2.2.2.2.2.2.1 (b k 6) (by omega)
theorem s187 (H : DiM mi n b g) (B : DiB n b g) (hk : k < n) : vh_C 187 [.ref 88, .int (nI k)] (vh_K d mi ml) = some (some (.int (nI (rkN b g k))), vh_K d mi ml) := by
  have hk6 : k < 16 := by have := B.1; omega
  obtain ⟨a0, a1, a2, a3, a4, a5, a5', a6, a7, a8, a9⟩ := B.2.1 k hk
  have e : (5 : Int32) * nI (b k 0) + nI (b k 6) = nI (5 * b k 0 + b k 6) := by rw [show (5 : Int32) = nI 5 from rfl, pk_mul, nI_add]
  have x1 : vh_ixa 95 (nI (5 * b k 0 + b k 6)) = true := ixa (by rw [kd95]; omega) (by omega)
  simp only [c187, e187_0, e187_1, e187_4, e187_5, e187_6, e187_7, e187_8, e187_11, e187_12, e187_13, e187_14, e187_16, e187_19, e187_20, e187_21, s177_0 hk6, s177_6 hk6, H.f0 hk, H.f6 hk, ok88, ok95, rf88_8, e, x1, clK (show 5 * b k 0 + b k 6 < 1000 by omega), H.rk (show b k 0 < 4 by omega) (show b k 6 < 5 by omega), not_true_eq_false, not_false_eq_true, if_true, if_false, and_self, vh_bds, vh_ps1, vh_ps0, vb0, vb1, vbz, vbo]
  rfl
theorem s188 {h f : Nat} (H : DiM mi n b g) (B : DiB n b g) (hk : k < n) (hh : h < 4) (hf : f < 2) : vh_C 188 [.ref 88, .int (nI k), .int (nI h), .int (nI f)] (vh_K d mi ml) = some (some (.int (vb (b k 5 ≤ g h (4 + f)))), vh_K d mi ml) := by
  have hk6 : k < 16 := by have := B.1; omega
  obtain ⟨a0, a1, a2, a3, a4, a5, a5', a6, a7, a8, a9⟩ := B.2.1 k hk
  have hg := (B.2.2.2 h hh).2.2.2.2.1 f hf
  have e : (2 : Int32) * nI h + nI f = nI (2 * h + f) := by rw [show (2 : Int32) = nI 2 from rfl, pk_mul, nI_add]
  have x1 : vh_ixa 93 (nI (2 * h + f)) = true := ixa (by rw [kd93]; omega) (by omega)
  simp only [c188, e188_0, e188_1, e188_2, e188_3, e188_6, e188_7, e188_10, e188_11, e188_12, e188_13, e188_14, e188_15, e188_16, e188_19, e188_20, e188_23, e188_24, s177_5 hk6, H.f5 hk, ok88, ok93, rf88_6, e, x1, clK (show 2 * h + f < 1000 by omega), H.fi hh hf, not_true_eq_false, not_false_eq_true, if_true, if_false, and_self, vh_bds, vh_ps1, vh_ps0, vb0, vb1, vbz, vbo]
  by_cases q : b k 5 ≤ g h (4 + f)
  · rw [if_neg (nI_nlt q (by omega)), vb_t q]
  · rw [if_pos (nI_lt (by omega) (by omega)), vb_f q]
end
section
variable {d : Nat} {mi : Nat → Nat → Int32} {ml : Nat → Nat → Int64} {n k h : Nat} {b g : Nat → Nat → Nat}
def ahB (b g : Nat → Nat → Nat) (x y : Nat) : Bool := decide (hkey b g x < hkey b g y ∨ (hkey b g x = hkey b g y ∧ x < y))
theorem ah_i {x y : Nat} : ahB b g x y = true ↔ ahd (hkey b g) x y := decide_eq_true_iff
theorem s186 {x y : Nat} (H : DiM mi n b g) (B : DiB n b g) (hx : x < n) (hy : y < n) : vh_C 186 [.ref 88, .int (nI x), .int (nI y)] (vh_K d mi ml) = some (some (.int (vb (ahB b g x y = true))), vh_K d mi ml) := by
  have hn := B.1
  have hx6 : x < 16 := by omega
  have hy6 : y < 16 := by omega
  have rx := rk_le B hx
  have ry := rk_le B hy
  have cx := (B.2.1 x hx).2.2.2.2.2.2.2.2.2.1
  have cy := (B.2.1 y hy).2.2.2.2.2.2.2.2.2.1
  have dx := (B.2.1 x hx).2.2.1
  have dy := (B.2.1 y hy).2.2.1
  have kx : hkey b g x = rkN b g x * 365 + b x 8 := rfl
  have ky : hkey b g y = rkN b g y * 365 + b y 8 := rfl
  have neg : ∀ u v : Nat, u < 1000 → v < 1000 → ((0 ≤ nI u - nI v) ↔ v ≤ u) := by
    intro u v hu hv
    rw [i32_leI, pk_sub_toInt (by omega) (by omega)]
    show (0 : Int) ≤ _ ↔ _
    omega
  simp only [c186, e186_0, e186_1, e186_2, e186_5, e186_6, e186_7, e186_10, e186_13, e186_14, e186_15, e186_18, e186_19, e186_20, e186_23, e186_24, e186_27, e186_28, e186_29, e186_31, e186_34, e186_35, e186_36, e186_38, e186_41, e186_44, e186_45, e186_46, e186_48, e186_51, e186_52, e186_53, e186_55, e186_58, e186_59, e186_62, e186_63, e186_64, e186_65, e186_66, e186_67, e186_70, e186_71, e186_74, e186_75, s187 H B hx, s187 H B hy, s177_8 hx6, s177_8 hy6, H.f8 hx, H.f8 hy, ok88, nI_eq (show rkN b g x < 2 ^ 31 by omega) (show rkN b g y < 2 ^ 31 by omega), nI_eq (show b x 8 < 2 ^ 31 by omega) (show b y 8 < 2 ^ 31 by omega), neg _ _ (show rkN b g x < 1000 by omega) (show rkN b g y < 1000 by omega), neg _ _ (show b x 8 < 1000 by omega) (show b y 8 < 1000 by omega), neg _ _ (show x < 1000 by omega) (show y < 1000 by omega), not_true_eq_false, not_false_eq_true, if_true, if_false, and_self, vh_bds, vh_ps1, vh_ps0, vb0, vb1, vbz, vbo]
  have hi : ahB b g x y = true ↔ (rkN b g x < rkN b g y ∨ (rkN b g x = rkN b g y ∧ (b x 8 < b y 8 ∨ (b x 8 = b y 8 ∧ x < y)))) := by
    rw [ah_i]; unfold ahd; rw [kx, ky]; omega
  by_cases q1 : rkN b g x = rkN b g y
  · rw [if_pos q1]
    by_cases q2 : b x 8 = b y 8
    · rw [if_pos q2]
      by_cases q3 : y ≤ x
      · rw [if_pos q3, vb_f (fun z => by have := hi.mp z; omega)]
      · rw [if_neg q3, vb_t (hi.mpr (by omega))]
    · rw [if_neg q2]
      by_cases q3 : b y 8 ≤ b x 8
      · rw [if_pos q3, vb_f (fun z => by have := hi.mp z; omega)]
      · rw [if_neg q3, vb_t (hi.mpr (by omega))]
  · rw [if_neg q1]
    by_cases q3 : rkN b g y ≤ rkN b g x
    · rw [if_pos q3, vb_f (fun z => by have := hi.mp z; omega)]
    · rw [if_neg q3, vb_t (hi.mpr (by omega))]
/-- the first of those left -/
def bvI : Option Nat → Int32
  | none => -1000000
  | some x => nI x
def Best (key : Nat → Nat) (R : Nat → Bool) (i : Nat) : Option Nat → Prop
  | none => ∀ x, x < i → ¬ R x = true
  | some x => x < i ∧ R x = true ∧ ∀ y, y < i → R y = true → y = x ∨ ahd key x y
theorem best_skip {key : Nat → Nat} {R : Nat → Bool} {i : Nat} {o : Option Nat} (h : Best key R i o) (hr : ¬ R i = true) : Best key R (i + 1) o := by
  cases o with
  | none =>
    intro x hx
    by_cases e : x = i
    · rw [e]; exact hr
    · exact h x (by omega)
  | some x =>
    obtain ⟨h1, h2, h3⟩ := h
    refine ⟨by omega, h2, ?_⟩
    intro y hy hry
    by_cases e : y = i
    · rw [e] at hry; exact absurd hry hr
    · exact h3 y (by omega) hry
theorem best_none {key : Nat → Nat} {R : Nat → Bool} {i : Nat} (h : Best key R i none) (hr : R i = true) : Best key R (i + 1) (some i) := by
  refine ⟨by omega, hr, ?_⟩
  intro y hy hry
  by_cases e : y = i
  · exact Or.inl e
  · exact absurd hry (h y (by omega))
theorem best_new {key : Nat → Nat} {R : Nat → Bool} {i x : Nat} (h : Best key R i (some x)) (hr : R i = true) (ha : ahd key i x) : Best key R (i + 1) (some i) := by
  obtain ⟨h1, h2, h3⟩ := h
  refine ⟨by omega, hr, ?_⟩
  intro y hy hry
  by_cases e : y = i
  · exact Or.inl e
  · right
    rcases h3 y (by omega) hry with z | z
    · rw [z]; exact ha
    · unfold ahd at *; omega
theorem best_old {key : Nat → Nat} {R : Nat → Bool} {i x : Nat} (h : Best key R i (some x)) (ha : ¬ ahd key i x) : Best key R (i + 1) (some x) := by
  obtain ⟨h1, h2, h3⟩ := h
  refine ⟨by omega, h2, ?_⟩
  intro y hy hry
  by_cases e : y = i
  · right; rw [e]; unfold ahd at *; omega
  · exact h3 y (by omega) hry
theorem l184a {D M : Nat} {l3 l4 l8 : Option Value} (H : DiM mi n b g) (B : DiB n b g) (hD : D ≤ 364) (hM : M < 2 ^ 16) : ∀ (j i : Nat) (o : Option Nat) (l7 : Option Value), i + j = n → Best (hkey b g) (fun x => thB (b x) D && !M.testBit x) i o →
    ∃ o' l7', vh_E 184 19 [some (.ref 88), some (.int (nI D)), some (.int (nI M)), l3, l4, some (.int (bvI o)), some (.int (nI i)), l7, l8] [] (vh_K d mi ml) = vh_E 184 92 [some (.ref 88), some (.int (nI D)), some (.int (nI M)), l3, l4, some (.int (bvI o')), some (.int (nI n)), l7', l8] [] (vh_K d mi ml) ∧ Best (hkey b g) (fun x => thB (b x) D && !M.testBit x) n o' := by
  have hn := B.1
  intro j
  induction j with
  | zero =>
    intro i o l7 hi ho
    have : i = n := by omega
    subst this
    refine ⟨o, l7, ?_, ho⟩
    simp only [e184_19, e184_21, e184_22, e184_25, ok88, H.sz, nI_le (Nat.le_refl i) (show i < 2 ^ 31 by omega), if_true]
  | succ j ih =>
    intro i o l7 hi ho
    have hin : i < n := by omega
    rw [e184_19]
    simp only [e184_0, e184_1, e184_2, e184_3, e184_4, e184_5, e184_7, e184_9, e184_12, e184_14, e184_16, e184_17, e184_21, e184_22, e184_25, e184_28, e184_29, e184_31, e184_32, e184_35, e184_38, e184_39, e184_41, e184_42, e184_43, e184_44, e184_47, e184_48, e184_51, e184_52, e184_54, e184_56, e184_59, e184_61, e184_63, e184_66, e184_67, e184_69, e184_71, e184_74, e184_77, e184_79, e184_82, e184_84, e184_86, e184_89, e184_94, e184_96, e184_99, e184_100, e184_103, e184_104, e184_106, e184_108, e184_111, e184_112, e184_113, e184_115, e184_116, e184_117, e184_118, e184_119, e184_121, e184_122, e184_124, e184_125, e184_128, e184_129, e184_131, e184_132, e184_135, e184_138, e184_140, e184_141, e184_143, e184_144, e184_146, e184_148, e184_149, e184_152, e184_155, e184_156, e184_158, e184_159, e184_160, e184_161, e184_162, e184_165, e184_167, e184_170, e184_171, e184_173, e184_175, e184_178, e184_181, e184_182, e184_185, e184_186, e184_188, e184_190, e184_191, e184_193, e184_194, e184_197, e184_198, e184_200, e184_201, e184_204, e184_207, e184_208, e184_210, e184_212, e184_215, e184_218, e184_219, e184_220, e184_222, e184_225, e184_228, e184_230, e184_233, e184_234, e184_236, e184_238, e184_241, e184_244, e184_246, e184_247, e184_250, e184_251, e184_253, e184_254, e184_257, e184_258, e184_261, e184_262, e184_265, e184_266, e184_268, e184_269, e184_271, e184_274, e184_275, e184_277, e184_278, e184_281, e184_282, e184_283, e184_284, e184_287, e184_288, ok88, H.sz, nI_ge hin (show n < 2 ^ 31 by omega), if_false, s185 H B hin hD, bt (show M < 2 ^ 31 by omega) (show i < 31 by omega), show ¬ (1 : Int32) = 0 by decide, nI_1, not_true_eq_false, not_false_eq_true, if_true, if_false, and_self, vh_bds, vh_ps1, vh_ps0, vb0, vb1, vbz, vbo, Classical.not_not]
    by_cases q : thB (b i) D = true
    · rw [if_neg (not_not_intro q)]
      by_cases q2 : M.testBit i = true
      · rw [if_pos q2]
        exact ih (i + 1) o _ (by omega) (best_skip ho (by rw [q2]; simp))
      · rw [if_neg q2]
        have hr : (thB (b i) D && !M.testBit i) = true := by rw [q]; simp at q2; rw [q2]; rfl
        cases o with
        | none =>
          rw [if_pos (show bvI none = -1000000 from rfl)]
          exact ih (i + 1) (some i) _ (by omega) (best_none ho hr)
        | some x =>
          have hxn : x < n := by have := ho.1; omega
          rw [if_neg (show ¬ bvI (some x) = -1000000 from nmN (by omega))]
          simp only [e184_0, e184_1, e184_2, e184_3, e184_4, e184_5, e184_7, e184_9, e184_12, e184_14, e184_16, e184_17, e184_21, e184_22, e184_25, e184_28, e184_29, e184_31, e184_32, e184_35, e184_38, e184_39, e184_41, e184_42, e184_43, e184_44, e184_47, e184_48, e184_51, e184_52, e184_54, e184_56, e184_59, e184_61, e184_63, e184_66, e184_67, e184_69, e184_71, e184_74, e184_77, e184_79, e184_82, e184_84, e184_86, e184_89, e184_94, e184_96, e184_99, e184_100, e184_103, e184_104, e184_106, e184_108, e184_111, e184_112, e184_113, e184_115, e184_116, e184_117, e184_118, e184_119, e184_121, e184_122, e184_124, e184_125, e184_128, e184_129, e184_131, e184_132, e184_135, e184_138, e184_140, e184_141, e184_143, e184_144, e184_146, e184_148, e184_149, e184_152, e184_155, e184_156, e184_158, e184_159, e184_160, e184_161, e184_162, e184_165, e184_167, e184_170, e184_171, e184_173, e184_175, e184_178, e184_181, e184_182, e184_185, e184_186, e184_188, e184_190, e184_191, e184_193, e184_194, e184_197, e184_198, e184_200, e184_201, e184_204, e184_207, e184_208, e184_210, e184_212, e184_215, e184_218, e184_219, e184_220, e184_222, e184_225, e184_228, e184_230, e184_233, e184_234, e184_236, e184_238, e184_241, e184_244, e184_246, e184_247, e184_250, e184_251, e184_253, e184_254, e184_257, e184_258, e184_261, e184_262, e184_265, e184_266, e184_268, e184_269, e184_271, e184_274, e184_275, e184_277, e184_278, e184_281, e184_282, e184_283, e184_284, e184_287, e184_288, show bvI (some x) = nI x from rfl, s186 H B hin hxn, ok88, nI_1, not_true_eq_false, not_false_eq_true, if_true, if_false, and_self, vh_bds, vh_ps1, vh_ps0, vb0, vb1, vbz, vbo]
          by_cases q3 : ahB b g i x = true
          · rw [if_neg (not_not_intro q3)]
            exact ih (i + 1) (some i) _ (by omega) (best_new ho hr (ah_i.mp q3))
          · rw [if_pos q3]
            exact ih (i + 1) (some x) _ (by omega) (best_old ho (fun z => q3 (ah_i.mpr z)))
    · rw [if_pos q]
      exact ih (i + 1) o _ (by omega) (best_skip ho (by rw [Bool.and_eq_true]; exact fun z => q z.1))
end

/-! FUNERAL -/
theorem upU {f : Nat → Int32} {k : Nat} {x y : Int32} : upd (upd f k x) k y = upd f k y := by
  funext c
  unfold upd
  by_cases h : c = k
  · rw [if_pos h, if_pos h]
  · rw [if_neg h, if_neg h, if_neg h]
def fuB (b g : Nat → Nat → Nat) (H D F E M f : Nat) (k : Nat) : Bool := M.testBit k && decide ((b k 0 = H ∧ b k 1 = f ∧ b k 2 = D) ∧ nearB (g H 0) (b k 3) (b k 4) (b k 6) F E 3 = true)
theorem fu_i {b g : Nat → Nat → Nat} {H D F E M f k : Nat} : fuB b g H D F E M f k = true ↔ M.testBit k = true ∧ (b k 0 = H ∧ b k 1 = f ∧ b k 2 = D) ∧ nearB (g H 0) (b k 3) (b k 4) (b k 6) F E 3 = true := by unfold fuB; rw [Bool.and_eq_true, decide_eq_true_iff]
def flS (P : Nat) (fire cl : Nat → Nat) (c : Option Nat × Nat) (f : Nat) : Option Nat × Nat := if P ≤ fire f ∧ (c.1 = none ∨ pc (cl f) 16 < pc c.2 16) then (some f, cl f) else c
def fl2 (P : Nat) (fire cl : Nat → Nat) : Option Nat × Nat := flS P fire cl (flS P fire cl (none, 0) 0) 1
/-- is booking k free at hall h, floor f -/
def bdB (b g : Nat → Nat → Nat) (M mv : Nat) (go : Nat → Option Nat) (k h f a : Nat) : Bool := decide ((if mv.testBit a = true then go a = some (2 * h + f) else (M.testBit a = true ∧ b a 0 = h ∧ b a 1 = f)) ∧ b a 2 = b k 2 ∧ nearB (g h 0) (b a 3) (b a 4) (b a 6) (b k 3) (b k 4) (b k 6) = true)
theorem bd_i {b g : Nat → Nat → Nat} {M mv : Nat} {go : Nat → Option Nat} {k h f a : Nat} : bdB b g M mv go k h f a = true ↔ (if mv.testBit a = true then go a = some (2 * h + f) else (M.testBit a = true ∧ b a 0 = h ∧ b a 1 = f)) ∧ b a 2 = b k 2 ∧ nearB (g h 0) (b a 3) (b a 4) (b a 6) (b k 3) (b k 4) (b k 6) = true := decide_eq_true_iff
def fv1 (b g : Nat → Nat → Nat) (H F E : Nat) (fl : Option Nat) (k h f : Nat) : Bool := decide (b k 5 ≤ g h (4 + f) ∧ ¬ (h = H ∧ fl = some f ∧ nearB (g h 0) (b k 3) (b k 4) (b k 6) F E 3 = true))
theorem fv1_i {b g : Nat → Nat → Nat} {H F E : Nat} {fl : Option Nat} {k h f : Nat} : fv1 b g H F E fl k h f = true ↔ b k 5 ≤ g h (4 + f) ∧ ¬ (h = H ∧ fl = some f ∧ nearB (g h 0) (b k 3) (b k 4) (b k 6) F E 3 = true) := decide_eq_true_iff
def fvA (b g : Nat → Nat → Nat) (H F E M mv : Nat) (go : Nat → Option Nat) (fl : Option Nat) (k h f i : Nat) : Bool := fv1 b g H F E fl k h f && decide (∀ a, a < i → ¬ bdB b g M mv go k h f a = true)
theorem fvA_i {b g : Nat → Nat → Nat} {H F E M mv : Nat} {go : Nat → Option Nat} {fl : Option Nat} {k h f i : Nat} : fvA b g H F E M mv go fl k h f i = true ↔ fv1 b g H F E fl k h f = true ∧ ∀ a, a < i → ¬ bdB b g M mv go k h f a = true := by unfold fvA; rw [Bool.and_eq_true, decide_eq_true_iff]
section
variable {d : Nat} {mi : Nat → Nat → Int32} {ml : Nat → Nat → Int64} {n : Nat} {b g : Nat → Nat → Nat} {H D F E P M mv : Nat} {go : Nat → Option Nat} {fl : Option Nat}
theorem l191 (HM : DiM mi n b g) (B : DiB n b g) {f : Nat} (hM : M < 2 ^ 16) (hH : H < 4) (hf : f < 2) (hD : D ≤ 364) (hF : F < E) (hE : E ≤ 96) : ∀ (j i : Nat) (l9 : Option Value), i + j = n → vh_E 191 6 [some (.ref 88), some (.int (nI M)), some (.int (nI H)), some (.int (nI f)), some (.int (nI D)), some (.int (nI F)), some (.int (nI E)), some (.int (nI (msk (fuB b g H D F E M f) i))), some (.int (nI i)), l9] [] (vh_K d mi ml) = some (some (.int (nI (msk (fuB b g H D F E M f) n))), vh_K d mi ml) := by
  have hn := B.1
  intro j
  induction j with
  | zero =>
    intro i l9 hi
    have : i = n := by omega
    subst this
    simp only [e191_6, e191_8, e191_9, e191_12, e191_125, e191_127, ok88, HM.sz, nI_le (Nat.le_refl i) (show i < 2 ^ 31 by omega), if_true]
  | succ j ih =>
    intro i l9 hi
    have hin : i < n := by omega
    have hi6 : i < 16 := by omega
    obtain ⟨a0, a1, a2, a3, a4, a5, a5', a6, a7, a8, a9⟩ := B.2.1 i hin
    have hm := msk_l (P := fuB b g H D F E M f) (show i ≤ 16 by omega)
    have zz : nI (msk (fuB b g H D F E M f) i) ||| 0 = nI (msk (fuB b g H D F E M f) i) := by rw [show (0 : Int32) = nI 0 from rfl, orN (by omega) (by omega), Nat.or_zero]
    have s82' := s182 (d := d) (mi := mi) (ml := ml) (h := H) (s := g H 0) (f1 := b i 3) (t1 := b i 4) (u1 := b i 6) (f2 := F) (t2 := E) (u2 := 3) hH (HM.h0 hH) (by omega) (by omega) (by omega) (by omega) (by omega) (by omega) (by have := (B.2.2.2 H hH).1; omega)
    have s82' : vh_C 182 [.ref 88, .int (nI H), .int (nI (b i 3)), .int (nI (b i 4)), .int (nI (b i 6)), .int (nI F), .int (nI E), .int 3] (vh_K d mi ml) = some (some (.int (vb (nearB (g H 0) (b i 3) (b i 4) (b i 6) F E 3 = true))), vh_K d mi ml) := s82'
    rw [e191_6]
    simp only [e191_0, e191_1, e191_3, e191_4, e191_8, e191_9, e191_12, e191_15, e191_16, e191_18, e191_19, e191_20, e191_21, e191_22, e191_25, e191_26, e191_28, e191_29, e191_32, e191_33, e191_36, e191_37, e191_39, e191_40, e191_43, e191_44, e191_47, e191_48, e191_50, e191_51, e191_54, e191_56, e191_59, e191_60, e191_61, e191_62, e191_64, e191_65, e191_68, e191_69, e191_71, e191_72, e191_75, e191_76, e191_78, e191_80, e191_83, e191_85, e191_87, e191_88, e191_91, e191_94, e191_95, e191_98, e191_99, e191_101, e191_103, e191_105, e191_108, e191_109, e191_111, e191_112, e191_115, e191_116, e191_117, e191_119, e191_122, e191_125, e191_127, ok88, HM.sz, nI_ge hin (show n < 2 ^ 31 by omega), bt (show M < 2 ^ 31 by omega) (show i < 31 by omega), vbe, s177_0 hi6, s177_1 hi6, s177_2 hi6, s177_3 hi6, s177_4 hi6, s177_6 hi6, HM.f0 hin, HM.f1 hin, HM.f2 hin, HM.f3 hin, HM.f4 hin, HM.f6 hin, nI_eq (show b i 0 < 2 ^ 31 by omega) (show H < 2 ^ 31 by omega), nI_eq (show b i 1 < 2 ^ 31 by omega) (show f < 2 ^ 31 by omega), nI_eq (show b i 2 < 2 ^ 31 by omega) (show D < 2 ^ 31 by omega), s82', sbt hm hi6, zz, nI_1, show ¬ (1 : Int32) = 0 by decide, not_true_eq_false, not_false_eq_true, if_true, if_false, and_self, vh_bds, vh_ps1, vh_ps0, vb0, vb1, vbz, vbo]
    have yes : fuB b g H D F E M f i = true → ∀ l9, vh_E 191 6 [some (.ref 88), some (.int (nI M)), some (.int (nI H)), some (.int (nI f)), some (.int (nI D)), some (.int (nI F)), some (.int (nI E)), some (.int (nI (msk (fuB b g H D F E M f) i ||| 2 ^ i))), some (.int (nI (i + 1))), l9] [] (vh_K d mi ml) = some (some (.int (nI (msk (fuB b g H D F E M f) n))), vh_K d mi ml) := by
      intro q l9
      have := ih (i + 1) l9 (by omega)
      rw [msk_t q] at this
      exact this
    have no : ¬ fuB b g H D F E M f i = true → ∀ l9, vh_E 191 6 [some (.ref 88), some (.int (nI M)), some (.int (nI H)), some (.int (nI f)), some (.int (nI D)), some (.int (nI F)), some (.int (nI E)), some (.int (nI (msk (fuB b g H D F E M f) i))), some (.int (nI (i + 1))), l9] [] (vh_K d mi ml) = some (some (.int (nI (msk (fuB b g H D F E M f) n))), vh_K d mi ml) := by
      intro q l9
      have := ih (i + 1) l9 (by omega)
      rw [msk_f q] at this
      exact this
    by_cases q0 : M.testBit i = true
    · rw [if_neg (not_not_intro q0)]
      by_cases q1 : b i 0 = H
      · rw [if_neg (not_not_intro q1)]
        by_cases q2 : b i 1 = f
        · rw [if_neg (not_not_intro q2)]
          by_cases q3 : b i 2 = D
          · rw [if_neg (not_not_intro q3)]
            by_cases q4 : nearB (g H 0) (b i 3) (b i 4) (b i 6) F E 3 = true
            · rw [if_neg (not_not_intro q4)]
              exact yes (fu_i.mpr ⟨q0, ⟨q1, q2, q3⟩, q4⟩) _
            · rw [if_pos q4]
              exact no (fun z => q4 (fu_i.mp z).2.2) _
          · rw [if_pos q3]
            exact no (fun z => q3 (fu_i.mp z).2.1.2.2) _
        · rw [if_pos q2]
          exact no (fun z => q2 (fu_i.mp z).2.1.2.1) _
      · rw [if_pos q1]
        exact no (fun z => q1 (fu_i.mp z).2.1.1) _
    · rw [if_pos q0]
      exact no (fun z => q0 (fu_i.mp z).1) _
theorem s191 (HM : DiM mi n b g) (B : DiB n b g) {f : Nat} (hM : M < 2 ^ 16) (hH : H < 4) (hf : f < 2) (hD : D ≤ 364) (hF : F < E) (hE : E ≤ 96) : vh_C 191 [.ref 88, .int (nI M), .int (nI H), .int (nI f), .int (nI D), .int (nI F), .int (nI E)] (vh_K d mi ml) = some (some (.int (nI (msk (fuB b g H D F E M f) n))), vh_K d mi ml) := by
  have := l191 (d := d) (ml := ml) HM B hM hH hf hD hF hE n 0 none (by omega)
  simp only [c191, e191_0, e191_1, e191_3, e191_4, e191_8, e191_9, e191_12, e191_15, e191_16, e191_18, e191_19, e191_20, e191_21, e191_22, e191_25, e191_26, e191_28, e191_29, e191_32, e191_33, e191_36, e191_37, e191_39, e191_40, e191_43, e191_44, e191_47, e191_48, e191_50, e191_51, e191_54, e191_56, e191_59, e191_60, e191_61, e191_62, e191_64, e191_65, e191_68, e191_69, e191_71, e191_72, e191_75, e191_76, e191_78, e191_80, e191_83, e191_85, e191_87, e191_88, e191_91, e191_94, e191_95, e191_98, e191_99, e191_101, e191_103, e191_105, e191_108, e191_109, e191_111, e191_112, e191_115, e191_116, e191_117, e191_119, e191_122, e191_125, e191_127]
  exact this
theorem bvI_e {o : Option Nat} {x : Nat} (ho : ∀ y, o = some y → y < 1000) (hx : x < 1000) : bvI o = nI x ↔ o = some x := by
  cases o with
  | none => exact ⟨fun z => absurd z.symm (nmN (by omega)), fun z => by cases z⟩
  | some y =>
    have := ho y rfl
    exact ⟨fun z => by rw [(nI_eq (by omega) (by omega)).mp z], fun z => by cases z; rfl⟩
theorem bvI_n {o : Option Nat} (ho : ∀ y, o = some y → y < 1000) : bvI o = -1000000 ↔ o = none := by
  cases o with
  | none => exact ⟨fun _ => rfl, fun _ => rfl⟩
  | some y => exact ⟨fun z => absurd z (nmN (by have := ho y rfl; omega)), fun z => by cases z⟩
theorem fvA_t {k h f i : Nat} (hb : ¬ bdB b g M mv go k h f i = true) : fvA b g H F E M mv go fl k h f (i + 1) = fvA b g H F E M mv go fl k h f i := by
  apply Bool.eq_iff_iff.mpr
  rw [fvA_i, fvA_i]
  refine and_congr Iff.rfl ⟨fun z a ha => z a (by omega), fun z a ha => ?_⟩
  by_cases e : a = i
  · rw [e]; exact hb
  · exact z a (by omega)
theorem fvA_f {k h f i : Nat} (hb : bdB b g M mv go k h f i = true) : fvA b g H F E M mv go fl k h f (i + 1) = false := by
  cases e : fvA b g H F E M mv go fl k h f (i + 1) with
  | false => rfl
  | true => exact absurd hb ((fvA_i.mp e).2 i (by omega))
theorem l193 (HM : DiM mi n b g) (B : DiB n b g) {k h f : Nat} {l5 l6 l7 l8 : Option Value} (hM : M < 2 ^ 16) (hmv : mv < 2 ^ 16) (hk : k < n) (hh : h < 4) (hf : f < 2) (h32 : mi 88 32 = nI mv) (hgo : ∀ c y, go c = some y → y < 1000) (h105 : ∀ c, c < 16 → mi 105 c = bvI (go c)) : ∀ (j i : Nat) (l11 : Option Value), i + j = n → vh_E 193 64 [some (.ref 88), some (.int (nI k)), some (.int (nI h)), some (.int (nI f)), some (.int (nI M)), l5, l6, l7, l8, some (.int (vb (fvA b g H F E M mv go fl k h f i = true))), some (.int (nI i)), l11] [] (vh_K d mi ml) = some (some (.int (vb (fvA b g H F E M mv go fl k h f n = true))), vh_K d mi ml) := by
  have hn := B.1
  have hk6 : k < 16 := by omega
  obtain ⟨k0, k1, k2, k3, k4, k5, k5', k6, k7, k8, k9⟩ := B.2.1 k hk
  intro j
  induction j with
  | zero =>
    intro i l11 hi
    have : i = n := by omega
    subst this
    simp only [e193_64, e193_66, e193_67, e193_70, e193_236, e193_238, ok88, HM.sz, nI_le (Nat.le_refl i) (show i < 2 ^ 31 by omega), if_true, vb1]
  | succ j ih =>
    intro i l11 hi
    have hin : i < n := by omega
    have hi6 : i < 16 := by omega
    obtain ⟨a0, a1, a2, a3, a4, a5, a5', a6, a7, a8, a9⟩ := B.2.1 i hin
    have x1 : vh_ixa 105 (nI i) = true := ixa (by rw [kd105]; omega) (by omega)
    have e2 : (2 : Int32) * nI h + nI f = nI (2 * h + f) := by rw [show (2 : Int32) * nI h = nI (2 * h) from pk_mul 2 h, nI_add]
    have hnr := s182 (d := d) (mi := mi) (ml := ml) (h := h) (s := g h 0) (f1 := b i 3) (t1 := b i 4) (u1 := b i 6) (f2 := b k 3) (t2 := b k 4) (u2 := b k 6) hh (HM.h0 hh) (by omega) (by omega) (by omega) (by omega) (by omega) (by omega) (by have := (B.2.2.2 h hh).1; omega)
    have st : ∀ S : Bool, (S = true ↔ if mv.testBit i = true then go i = some (2 * h + f) else (M.testBit i = true ∧ b i 0 = h ∧ b i 1 = f)) → vh_E 193 146 [some (.ref 88), some (.int (nI k)), some (.int (nI h)), some (.int (nI f)), some (.int (nI M)), l5, l6, l7, l8, some (.int (vb (fvA b g H F E M mv go fl k h f i = true))), some (.int (nI i)), l11] [.int (vb (S = true))] (vh_K d mi ml) = some (some (.int (vb (fvA b g H F E M mv go fl k h f n = true))), vh_K d mi ml) := by
      intro S hS
      simp only [e193_0, e193_1, e193_2, e193_3, e193_4, e193_7, e193_10, e193_11, e193_13, e193_16, e193_17, e193_19, e193_22, e193_23, e193_24, e193_25, e193_26, e193_27, e193_30, e193_31, e193_32, e193_33, e193_36, e193_37, e193_38, e193_40, e193_43, e193_45, e193_47, e193_48, e193_51, e193_54, e193_55, e193_58, e193_59, e193_61, e193_62, e193_66, e193_67, e193_70, e193_73, e193_74, e193_77, e193_79, e193_80, e193_81, e193_82, e193_85, e193_87, e193_89, e193_90, e193_91, e193_92, e193_93, e193_96, e193_97, e193_99, e193_100, e193_103, e193_104, e193_107, e193_108, e193_110, e193_111, e193_114, e193_115, e193_118, e193_119, e193_122, e193_123, e193_126, e193_127, e193_130, e193_132, e193_133, e193_134, e193_135, e193_136, e193_137, e193_138, e193_141, e193_142, e193_145, e193_146, e193_148, e193_150, e193_153, e193_155, e193_158, e193_159, e193_161, e193_162, e193_165, e193_166, e193_167, e193_168, e193_171, e193_174, e193_175, e193_176, e193_177, e193_179, e193_180, e193_183, e193_184, e193_186, e193_187, e193_190, e193_191, e193_193, e193_195, e193_198, e193_199, e193_200, e193_201, e193_204, e193_205, e193_206, e193_207, e193_210, e193_211, e193_212, e193_214, e193_217, e193_220, e193_223, e193_224, e193_227, e193_228, e193_230, e193_233, e193_236, e193_238, ok88, s177_2 hi6, s177_2 hk6, s177_3 hi6, s177_4 hi6, s177_6 hi6, s177_3 hk6, s177_4 hk6, s177_6 hk6, HM.f2 hin, HM.f3 hin, HM.f4 hin, HM.f6 hin, HM.f2 hk, HM.f3 hk, HM.f4 hk, HM.f6 hk, nI_eq (show b i 2 < 2 ^ 31 by omega) (show b k 2 < 2 ^ 31 by omega), hnr, nI_1, not_true_eq_false, not_false_eq_true, if_true, if_false, and_self, vh_bds, vh_ps1, vh_ps0, vb0, vb1, vbz, vbo, Classical.not_not]
      have good : ∀ l11, ¬ bdB b g M mv go k h f i = true → vh_E 193 64 [some (.ref 88), some (.int (nI k)), some (.int (nI h)), some (.int (nI f)), some (.int (nI M)), l5, l6, l7, l8, some (.int (vb (fvA b g H F E M mv go fl k h f i = true))), some (.int (nI (i + 1))), l11] [] (vh_K d mi ml) = some (some (.int (vb (fvA b g H F E M mv go fl k h f n = true))), vh_K d mi ml) := by
        intro l11 q
        have := ih (i + 1) l11 (by omega)
        rw [fvA_t q] at this
        exact this
      by_cases w : fvA b g H F E M mv go fl k h f i = true
      · rw [if_neg (not_not_intro w)]
        rw [vb_t w] at good
        by_cases w1 : S = true
        · rw [if_neg (not_not_intro w1)]
          by_cases w2 : b i 2 = b k 2
          · rw [if_neg (not_not_intro w2)]
            by_cases w3 : nearB (g h 0) (b i 3) (b i 4) (b i 6) (b k 3) (b k 4) (b k 6) = true
            · rw [if_pos w3]
              have hb : bdB b g M mv go k h f i = true := bd_i.mpr ⟨hS.mp w1, w2, w3⟩
              have := fun l11 => ih (i + 1) l11 (by omega)
              rw [fvA_f hb, vb_f (by decide)] at this
              exact this _
            · rw [if_neg w3]
              exact good _ (fun z => w3 (bd_i.mp z).2.2)
          · rw [if_pos w2]
            exact good _ (fun z => w2 (bd_i.mp z).2.1)
        · rw [if_pos w1]
          exact good _ (fun z => w1 (hS.mpr (bd_i.mp z).1))
      · rw [if_pos w]
        have hno : ¬ fvA b g H F E M mv go fl k h f (i + 1) = true := fun z => w (fvA_i.mpr ⟨(fvA_i.mp z).1, fun a ha => (fvA_i.mp z).2 a (by omega)⟩)
        have := fun l11 => ih (i + 1) l11 (by omega)
        rw [vb_f hno] at this
        exact this _
    rw [e193_64]
    simp only [e193_0, e193_1, e193_2, e193_3, e193_4, e193_7, e193_10, e193_11, e193_13, e193_16, e193_17, e193_19, e193_22, e193_23, e193_24, e193_25, e193_26, e193_27, e193_30, e193_31, e193_32, e193_33, e193_36, e193_37, e193_38, e193_40, e193_43, e193_45, e193_47, e193_48, e193_51, e193_54, e193_55, e193_58, e193_59, e193_61, e193_62, e193_66, e193_67, e193_70, e193_73, e193_74, e193_77, e193_79, e193_80, e193_81, e193_82, e193_85, e193_87, e193_89, e193_90, e193_91, e193_92, e193_93, e193_96, e193_97, e193_99, e193_100, e193_103, e193_104, e193_107, e193_108, e193_110, e193_111, e193_114, e193_115, e193_118, e193_119, e193_122, e193_123, e193_126, e193_127, e193_130, e193_132, e193_133, e193_134, e193_135, e193_136, e193_137, e193_138, e193_141, e193_142, e193_145, e193_148, e193_150, e193_153, e193_155, e193_158, e193_159, e193_161, e193_162, e193_165, e193_166, e193_167, e193_168, e193_171, e193_174, e193_175, e193_176, e193_177, e193_179, e193_180, e193_183, e193_184, e193_186, e193_187, e193_190, e193_191, e193_193, e193_195, e193_198, e193_199, e193_200, e193_201, e193_204, e193_205, e193_206, e193_207, e193_210, e193_211, e193_212, e193_214, e193_217, e193_220, e193_223, e193_224, e193_227, e193_228, e193_230, e193_233, e193_236, e193_238, ok88, ok105, rf88_31, x1, clK (show i < 1000 by omega), h105 i hi6, e2, HM.sz, h32, nI_ge hin (show n < 2 ^ 31 by omega), bt (show mv < 2 ^ 31 by omega) (show i < 31 by omega), bt (show M < 2 ^ 31 by omega) (show i < 31 by omega), vbe, s177_0 hi6, s177_1 hi6, HM.f0 hin, HM.f1 hin, nI_eq (show b i 0 < 2 ^ 31 by omega) (show h < 2 ^ 31 by omega), nI_eq (show b i 1 < 2 ^ 31 by omega) (show f < 2 ^ 31 by omega), bvI_e (hgo i) (show 2 * h + f < 1000 by omega), not_true_eq_false, not_false_eq_true, if_true, if_false, and_self, vh_bds, vh_ps1, vh_ps0, vb0, vb1, vbz, vbo, Classical.not_not]
    have t := st true
    have u := st false
    rw [vb_t rfl] at t
    rw [vb_f (show ¬ (false = true) by decide)] at u
    by_cases q0 : mv.testBit i = true
    · rw [if_pos q0]
      rw [if_pos q0] at t u
      by_cases q1 : go i = some (2 * h + f)
      · rw [if_neg (not_not_intro q1)]
        exact t ⟨fun _ => q1, fun _ => rfl⟩
      · rw [if_pos q1]
        exact u ⟨fun z => absurd z (by decide), fun z => absurd z q1⟩
    · rw [if_neg q0]
      rw [if_neg q0] at t u
      by_cases q1 : M.testBit i = true
      · rw [if_neg (not_not_intro q1)]
        by_cases q2 : b i 0 = h
        · rw [if_neg (not_not_intro q2)]
          by_cases q3 : b i 1 = f
          · rw [if_neg (not_not_intro q3)]
            exact t ⟨fun _ => ⟨q1, q2, q3⟩, fun _ => rfl⟩
          · rw [if_pos q3]
            exact u ⟨fun z => absurd z (by decide), fun z => absurd z.2.2 q3⟩
        · rw [if_pos q2]
          exact u ⟨fun z => absurd z (by decide), fun z => absurd z.2.1 q2⟩
      · rw [if_pos q1]
        exact u ⟨fun z => absurd z (by decide), fun z => absurd z.1 q1⟩
end

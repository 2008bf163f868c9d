section
variable {d : Nat} {mi : Nat → Nat → Int32} {ml : Nat → Nat → Int64} {n : Nat} {b g : Nat → Nat → Nat} {H f D t : Nat}
def clN (b g : Nat → Nat → Nat) (k a : Nat) : Bool := clsh g (b a) (b k)
def agB (W : Nat → Bool) (b g : Nat → Nat → Nat) (k i : Nat) : Nat := (if W k = true then 0 else 2 ^ k) ||| msk (clN b g k) i
theorem ag_lt {W : Nat → Bool} {k i : Nat} (hk : k < 16) (hi : i ≤ 16) : agB W b g k i < 2 ^ 16 := by
  unfold agB
  apply Nat.or_lt_two_pow
  · split
    · decide
    · exact p16 hk
  · exact msk_l hi
theorem ag_bit {W : Nat → Bool} {k i j : Nat} : (agB W b g k i).testBit j = true ↔ (j = k ∧ ¬ W k = true) ∨ (j < i ∧ clsh g (b j) (b k) = true) := by
  unfold agB
  rw [Nat.testBit_or, msk_bit, Bool.or_eq_true, Bool.and_eq_true, decide_eq_true_iff]
  refine or_congr ?_ Iff.rfl
  by_cases q : W k = true
  · rw [if_pos q, Nat.zero_testBit]
    exact ⟨fun z => (by cases z), fun z => absurd q z.2⟩
  · rw [if_neg q, Nat.testBit_two_pow, decide_eq_true_iff]
    exact ⟨fun z => ⟨z.symm, q⟩, fun z => z.1.symm⟩
theorem okx104 {k : Nat} (h : k < 16) : vh_ixa 104 (nI k) = true := ixa (by rw [kd104]; exact h) (by omega)
theorem l189a {W : Nat → Bool} {k : Nat} {l1 l2 l3 l4 l6 l8 : Option Value} (B : DiB n b g) (hk : k < n) : ∀ (r j : Nat) (mi : Nat → Nat → Int32), j + r = k → DiM mi n b g → mi 104 k = nI (agB W b g k j) → ∃ f', vh_E 189 142 [some (.ref 88), l1, l2, l3, l4, some (.int (nI k)), l6, some (.int (nI j)), l8] [] (vh_K d mi ml) = vh_E 189 184 [some (.ref 88), l1, l2, l3, l4, some (.int (nI k)), l6, some (.int (nI k)), l8] [] (vh_K d (vh_sA mi 104 f') ml) ∧ f' k = nI (agB W b g k k) ∧ ∀ c, c ≠ k → f' c = mi 104 c := by
  have hn := B.1
  have hk6 : k < 16 := by omega
  intro r
  induction r with
  | zero =>
    intro j mi hj HM h104
    have : j = k := by omega
    subst this
    refine ⟨mi 104, ?_, h104, fun _ _ => rfl⟩
    rw [sAe]
    simp only [e189_142, e189_144, e189_146, nI_le (Nat.le_refl j) (show j < 2 ^ 31 by omega), if_true]
  | succ r ih =>
    intro j mi hj HM h104
    have hjk : j < k := by omega
    have hal := ag_lt (b := b) (g := g) (W := W) hk6 (show j ≤ 16 by omega)
    have zz : nI (agB W b g k j) ||| 0 = nI (agB W b g k j) := by rw [show (0 : Int32) = nI 0 from rfl, orN (by omega) (by omega), Nat.or_zero]
    have hs : agB W b g k (j + 1) = if clsh g (b j) (b k) = true then agB W b g k j ||| 2 ^ j else agB W b g k j := by
      unfold agB
      by_cases q : clsh g (b j) (b k) = true
      · rw [if_pos q, msk_t (P := clN b g k) q, Nat.or_assoc]
      · rw [if_neg q, msk_f (P := clN b g k) q]
    have fin : ∀ v, v = nI (agB W b g k (j + 1)) → ∃ f', vh_E 189 142 [some (.ref 88), l1, l2, l3, l4, some (.int (nI k)), l6, some (.int (nI (j + 1))), l8] [] (vh_K d (vh_sA mi 104 (upd (mi 104) k v)) ml) = vh_E 189 184 [some (.ref 88), l1, l2, l3, l4, some (.int (nI k)), l6, some (.int (nI k)), l8] [] (vh_K d (vh_sA mi 104 f') ml) ∧ f' k = nI (agB W b g k k) ∧ ∀ c, c ≠ k → f' c = mi 104 c := by
      intro v hv
      obtain ⟨f', h1, h2, h3⟩ := ih (j + 1) (vh_sA mi 104 (upd (mi 104) k v)) (by omega) (HM.fr (by omega)) (by rw [sAs, ups]; exact hv)
      rw [sAA] at h1
      refine ⟨f', h1, h2, fun c hc => ?_⟩
      rw [h3 c hc, sAs, upn hc]
    rw [e189_142]
    simp only [e189_144, e189_146, e189_149, e189_150, e189_153, e189_155, e189_156, e189_157, e189_158, e189_160, e189_162, e189_165, e189_168, e189_169, e189_171, e189_172, e189_175, e189_176, e189_177, e189_178, e189_181, ok88, ok104, rf88_30, okx104 hk6, clK (show k < 1000 by omega), h104, s181 HM B (show j < n by omega) hk, sbt hal (show j < 16 by omega), zz, nI_ge hjk (show k < 2 ^ 31 by omega), nI_1, not_true_eq_false, not_false_eq_true, if_true, if_false, and_self, vh_bds, vh_ps1, vh_ps0, vb0, vb1, vbz, vbo]
    by_cases q : clsh g (b j) (b k) = true
    · rw [if_neg (not_not_intro q)]
      exact fin _ (by rw [hs, if_pos q])
    · rw [if_pos q]
      exact fin _ (by rw [hs, if_neg q])
theorem l189b {l4 : Option Value} (B : DiB n b g) (hH : H < 4) (hf : f < 2) (hD : D ≤ 364) (ht : t ≤ 364) : ∀ (r i : Nat) (mi : Nat → Nat → Int32) (l6 l7 l8 : Option Value), i + r = n → DiM mi n b g → mi 88 27 = nI t → (∀ k, k < i → mi 104 k = nI (agB (mwB b g H f D t) b g k k)) → ∃ f' l6' l7', vh_E 189 46 [some (.ref 88), some (.int (nI H)), some (.int (nI f)), some (.int (nI D)), l4, some (.int (nI i)), l6, l7, l8] [] (vh_K d mi ml) = vh_E 189 190 [some (.ref 88), some (.int (nI H)), some (.int (nI f)), some (.int (nI D)), l4, some (.int (nI n)), l6', l7', l8] [] (vh_K d (vh_sA mi 104 f') ml) ∧ ∀ k, k < n → f' k = nI (agB (mwB b g H f D t) b g k k) := by
  have hn := B.1
  intro r
  induction r with
  | zero =>
    intro i mi l6 l7 l8 hi HM h27 h104
    have : i = n := by omega
    subst this
    refine ⟨mi 104, l6, l7, ?_, h104⟩
    rw [sAe]
    simp only [e189_46, e189_48, e189_49, e189_52, ok88, HM.sz, nI_le (Nat.le_refl i) (show i < 2 ^ 31 by omega), if_true]
  | succ r ih =>
    intro i mi l6 l7 l8 hi HM h27 h104
    have hin : i < n := by omega
    have hi6 : i < 16 := by omega
    obtain ⟨a0, a1, a2, a3, a4, a5, a5', a6, a7, a8, a9⟩ := B.2.1 i hin
    have fin : ∀ (v : Int32) (l6 : Option Value), v = nI (agB (mwB b g H f D t) b g i 0) → ∃ f' l6' l7', vh_E 189 142 [some (.ref 88), some (.int (nI H)), some (.int (nI f)), some (.int (nI D)), l4, some (.int (nI i)), l6, some (.int 0), l8] [] (vh_K d (vh_sA mi 104 (upd (mi 104) i v)) ml) = vh_E 189 190 [some (.ref 88), some (.int (nI H)), some (.int (nI f)), some (.int (nI D)), l4, some (.int (nI n)), l6', l7', l8] [] (vh_K d (vh_sA mi 104 f') ml) ∧ ∀ k, k < n → f' k = nI (agB (mwB b g H f D t) b g k k) := by
      intro v l6 hv
      obtain ⟨f1, h1, h2, h3⟩ := l189a (d := d) (ml := ml) (W := mwB b g H f D t) (k := i) (l1 := some (.int (nI H))) (l2 := some (.int (nI f))) (l3 := some (.int (nI D))) (l4 := l4) (l6 := l6) (l8 := l8) B hin i 0 (vh_sA mi 104 (upd (mi 104) i v)) (by omega) (HM.fr (by omega)) (by rw [sAs, ups]; exact hv)
      rw [sAA] at h1
      obtain ⟨f', l6', l7', h4, h5⟩ := ih (i + 1) (vh_sA mi 104 f1) l6 (some (.int (nI i))) l8 (by omega) (HM.fr (by omega)) (by simp only [sAn, sAs, sAA, ups, upn, bkv_n, hlv_n, ne_eq, Nat.reduceEqDiff, Nat.reduceLT, Nat.reduceLeDiff, or_true, true_or, not_false_eq_true]; exact h27) (by
        intro k hk
        rw [sAs]
        by_cases e : k = i
        · rw [e]; exact h2
        · rw [h3 k e, sAs, upn e]; exact h104 k (by omega))
      rw [sAA] at h4
      refine ⟨f', l6', l7', ?_, h5⟩
      refine Eq.trans h1 ?_
      simp only [e189_184, e189_187, nI_1]
      exact h4
    have ag0 : agB (mwB b g H f D t) b g i 0 = if mwB b g H f D t i = true then 0 else 2 ^ i := by
      unfold agB
      rw [show msk (clN b g i) 0 = 0 from rfl, Nat.or_zero]
    rw [e189_46]
    simp only [e189_48, e189_49, e189_52, e189_55, e189_56, e189_58, e189_59, e189_62, e189_63, e189_66, e189_67, e189_69, e189_70, e189_73, e189_74, e189_77, e189_78, e189_80, e189_81, e189_84, e189_85, e189_88, e189_89, e189_91, e189_92, e189_95, e189_98, e189_101, e189_102, e189_104, e189_105, e189_106, e189_109, e189_112, e189_113, e189_116, e189_117, e189_119, e189_120, e189_123, e189_125, e189_127, e189_130, e189_131, e189_134, e189_135, e189_137, e189_138, e189_139, e189_140, ok88, ok104, rf88_30, okx104 hi6, clK (show i < 1000 by omega), HM.sz, h27, s177_0 hi6, s177_1 hi6, s177_2 hi6, HM.f0 hin, HM.f1 hin, HM.f2 hin, nI_eq (show b i 0 < 2 ^ 31 by omega) (show H < 2 ^ 31 by omega), nI_eq (show b i 1 < 2 ^ 31 by omega) (show f < 2 ^ 31 by omega), nI_eq (show b i 2 < 2 ^ 31 by omega) (show D < 2 ^ 31 by omega), s185 HM B hin ht, s188 HM B hin hH hf, sh1 hi6, nI_ge hin (show n < 2 ^ 31 by omega), show ¬ (1 : Int32) = 0 by decide, not_true_eq_false, not_false_eq_true, if_true, if_false, and_self, vh_bds, vh_ps1, vh_ps0, vb0, vb1, vbz, vbo]
    by_cases q0 : b i 0 = H
    · rw [if_neg (not_not_intro q0)]
      by_cases q1 : b i 1 = f
      · rw [if_neg (not_not_intro q1)]
        by_cases q2 : b i 2 = D
        · rw [if_neg (not_not_intro q2)]
          by_cases q3 : thB (b i) t = true
          · rw [if_neg (not_not_intro q3)]
            have hfr : frB g (b i) = true ↔ b i 5 ≤ g H (4 + f) := by rw [fr_i, q0, q1]
            by_cases q4 : b i 5 ≤ g H (4 + f)
            · rw [if_neg (not_not_intro q4)]
              exact fin _ _ (by rw [ag0, if_pos (mw_i.mpr ⟨⟨q0, q1, q2⟩, q3, hfr.mpr q4⟩)]; rfl)
            · rw [if_pos q4]
              exact fin _ _ (by rw [ag0, if_neg (fun z => q4 (hfr.mp (mw_i.mp z).2.2))])
          · rw [if_pos q3]
            exact fin _ _ (by rw [ag0, if_neg (fun z => q3 (mw_i.mp z).2.1)])
        · rw [if_pos q2]
          exact fin _ _ (by rw [ag0, if_neg (fun z => q2 (mw_i.mp z).1.2.2)])
      · rw [if_pos q1]
        exact fin _ _ (by rw [ag0, if_neg (fun z => q1 (mw_i.mp z).1.2.1)])
    · rw [if_pos q0]
      exact fin _ _ (by rw [ag0, if_neg (fun z => q0 (mw_i.mp z).1.1)])
end

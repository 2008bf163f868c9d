/-! BOOK -/
def bkU (f x : Nat → Int32) : Nat → Int32 := fun c => if c < 9 then x c else f c
theorem bkU_e {f x : Nat → Int32} : upd (upd (upd (upd (upd (upd (upd (upd (upd f 0 (x 0)) 1 (x 1)) 2 (x 2)) 3 (x 3)) 4 (x 4)) 5 (x 5)) 6 (x 6)) 7 (x 7)) 8 (x 8) = bkU f x := by
  funext c
  unfold bkU upd
  by_cases h : c < 9
  · rw [if_pos h]
    rcases (show c = 0 ∨ c = 1 ∨ c = 2 ∨ c = 3 ∨ c = 4 ∨ c = 5 ∨ c = 6 ∨ c = 7 ∨ c = 8 by omega) with rfl | rfl | rfl | rfl | rfl | rfl | rfl | rfl | rfl <;> rfl
  · rw [if_neg h, if_neg (by omega), if_neg (by omega), if_neg (by omega), if_neg (by omega), if_neg (by omega), if_neg (by omega), if_neg (by omega), if_neg (by omega), if_neg (by omega)]
def bkG (x : Nat → Int32) : Prop := (0 ≤ x 0 ∧ x 0 ≤ 3) ∧ (0 ≤ x 1 ∧ x 1 ≤ 1) ∧ (0 ≤ x 2 ∧ x 2 ≤ 364) ∧ (0 ≤ x 3 ∧ x 3 < x 4 ∧ x 4 ≤ 96) ∧ (0 ≤ x 8 ∧ x 8 ≤ x 2) ∧ (1 ≤ x 5 ∧ x 5 ≤ 999) ∧ (0 ≤ x 6 ∧ x 6 ≤ 4) ∧ (0 ≤ x 7 ∧ x 7 ≤ 1)
section
variable {d : Nat} {mi : Nat → Nat → Int32} {ml : Nat → Nat → Int64} {n s k : Nat}
theorem s66 (hn : n < 16) (hs : s < 8) (hk : k + 9 ≤ 60) : vh_C 66 [.ref (47 + n), .ref 1, .int (nI s), .int (nI k)] (vh_K d mi ml) = some (none, vh_K d (vh_sA mi (47 + n) (bkU (mi (47 + n)) (fun f => mi 4 (s * 60 + (k + f))))) ml) := by
  have a4 : ∀ f : Nat → Int32, vh_sA mi (47 + n) f 4 = mi 4 := fun f => sAn (by omega)
  simp only [c66, e66_0, e66_1, e66_2, e66_3, e66_4, e66_7, e66_10, e66_11, e66_12, e66_13, e66_14, e66_15, e66_16, e66_19, e66_22, e66_23, e66_24, e66_25, e66_26, e66_27, e66_28, e66_31, e66_34, e66_35, e66_36, e66_37, e66_38, e66_39, e66_40, e66_43, e66_46, e66_47, e66_48, e66_49, e66_50, e66_51, e66_52, e66_55, e66_58, e66_59, e66_60, e66_61, e66_62, e66_63, e66_64, e66_67, e66_70, e66_71, e66_72, e66_73, e66_74, e66_76, e66_77, e66_80, e66_83, e66_84, e66_85, e66_86, e66_87, e66_89, e66_90, e66_93, e66_96, e66_97, e66_98, e66_99, e66_100, e66_102, e66_103, e66_106, e66_109, okB hn, ok1, show nI k + 1 = nI (k + 1) from nI_1 k, show nI k + 2 = nI (k + 2) from nI_add k 2, show nI k + 3 = nI (k + 3) from nI_add k 3, show nI k + 4 = nI (k + 4) from nI_add k 4, show nI k + 5 = nI (k + 5) from nI_add k 5, show nI k + 6 = nI (k + 6) from nI_add k 6, show nI k + 7 = nI (k + 7) from nI_add k 7, show nI k + 8 = nI (k + 8) from nI_add k 8, s67 (show s * 60 + k < 480 by omega), s67 (show s * 60 + (k + 1) < 480 by omega), s67 (show s * 60 + (k + 2) < 480 by omega), s67 (show s * 60 + (k + 3) < 480 by omega), s67 (show s * 60 + (k + 4) < 480 by omega), s67 (show s * 60 + (k + 5) < 480 by omega), s67 (show s * 60 + (k + 6) < 480 by omega), s67 (show s * 60 + (k + 7) < 480 by omega), s67 (show s * 60 + (k + 8) < 480 by omega), sAs, sAA, a4, not_true_eq_false, not_false_eq_true, if_true, if_false, and_self, vh_bds, vh_ps1, vh_ps0, vb0, vb1, vbz, vbo]
  rw [← bkU_e]
  rfl
theorem s68 {a : Nat} (ha : vh_okk a 1 = true) : ∃ v, vh_C 68 [.ref a] (vh_K d mi ml) = some (some (.int v), vh_K d mi ml) ∧ (v = 0 ∨ v = 1) ∧ (v = 1 ↔ bkG (mi a)) := by
  have part3 : ∀ l1 l2 : Int32, (l1 = 0 ∨ l1 = 1) → (l2 = 0 ∨ l2 = 1) → ∃ v, vh_E 68 73 [some (.ref a), some (.int l1), some (.int l2), none] [] (vh_K d mi ml) = some (some (.int v), vh_K d mi ml) ∧ (v = 0 ∨ v = 1) ∧ (v = 1 ↔ l1 = 1 ∧ l2 = 1 ∧ (1 ≤ mi a 5 ∧ mi a 5 ≤ 999) ∧ (0 ≤ mi a 6 ∧ mi a 6 ≤ 4) ∧ (0 ≤ mi a 7 ∧ mi a 7 ≤ 1)) := by
    intro l1 l2 h1 h2
    simp only [e68_0, e68_1, e68_4, e68_7, e68_10, e68_11, e68_14, e68_15, e68_16, e68_19, e68_22, e68_23, e68_26, e68_27, e68_28, e68_29, e68_32, e68_35, e68_38, e68_39, e68_42, e68_43, e68_46, e68_49, e68_52, e68_53, e68_56, e68_57, e68_58, e68_61, e68_64, e68_67, e68_68, e68_71, e68_72, e68_73, e68_74, e68_77, e68_78, e68_81, e68_84, e68_87, e68_88, e68_91, e68_92, e68_93, e68_96, e68_99, e68_100, e68_103, e68_104, e68_105, e68_108, e68_111, e68_112, e68_115, e68_116, e68_117, e68_118, e68_121, e68_122, e68_125, e68_126, e68_129, e68_130, e68_133, e68_134, ha, s14, not_true_eq_false, not_false_eq_true, if_true, if_false, and_self, vh_bds, vh_ps1, vh_ps0, vb0, vb1, vbz, vbo, show ¬ (1 : Int32) = 0 by decide]
    by_cases q1 : 1 ≤ mi a 5 ∧ mi a 5 ≤ 999
    · rw [if_neg (not_not_intro q1)]
      by_cases q2 : 0 ≤ mi a 6 ∧ mi a 6 ≤ 4
      · rw [if_neg (not_not_intro q2)]
        by_cases q3 : 0 ≤ mi a 7 ∧ mi a 7 ≤ 1
        · rw [if_neg (not_not_intro q3)]
          rcases h1 with z1 | z1
          · rw [if_pos z1]
            exact ⟨0, rfl, Or.inl rfl, fun z => absurd z (by decide), fun z => absurd z.1 (by rw [z1]; decide)⟩
          · rw [if_neg (by rw [z1]; decide)]
            rcases h2 with z2 | z2
            · rw [if_pos z2]
              exact ⟨0, rfl, Or.inl rfl, fun z => absurd z (by decide), fun z => absurd z.2.1 (by rw [z2]; decide)⟩
            · rw [if_neg (by rw [z2]; decide)]
              exact ⟨1, rfl, Or.inr rfl, fun _ => ⟨z1, z2, q1, q2, q3⟩, fun _ => rfl⟩
        · rw [if_pos q3]
          refine ⟨0, ?_, Or.inl rfl, fun z => absurd z (by decide), fun z => absurd z.2.2.2.2 q3⟩
          rcases h1 with z1 | z1
          · rw [if_pos z1]
          · rw [if_neg (by rw [z1]; decide)]
            rcases h2 with z2 | z2
            · rw [if_pos z2]
            · rw [if_neg (by rw [z2]; decide)]
      · rw [if_pos q2]
        refine ⟨0, ?_, Or.inl rfl, fun z => absurd z (by decide), fun z => absurd z.2.2.2.1 q2⟩
        rcases h1 with z1 | z1
        · rw [if_pos z1]
        · rw [if_neg (by rw [z1]; decide)]
          rcases h2 with z2 | z2
          · rw [if_pos z2]
          · rw [if_neg (by rw [z2]; decide)]
    · rw [if_pos q1]
      refine ⟨0, ?_, Or.inl rfl, fun z => absurd z (by decide), fun z => absurd z.2.2.1 q1⟩
      rcases h1 with z1 | z1
      · rw [if_pos z1]
      · rw [if_neg (by rw [z1]; decide)]
        rcases h2 with z2 | z2
        · rw [if_pos z2]
        · rw [if_neg (by rw [z2]; decide)]
  have part2 : ∀ l1 : Int32, (l1 = 0 ∨ l1 = 1) → ∃ v, vh_E 68 28 [some (.ref a), some (.int l1), none, none] [] (vh_K d mi ml) = some (some (.int v), vh_K d mi ml) ∧ (v = 0 ∨ v = 1) ∧ (v = 1 ↔ l1 = 1 ∧ ((0 ≤ mi a 2 ∧ mi a 2 ≤ 364) ∧ (0 ≤ mi a 3 ∧ mi a 3 < mi a 4 ∧ mi a 4 ≤ 96) ∧ (0 ≤ mi a 8 ∧ mi a 8 ≤ mi a 2)) ∧ (1 ≤ mi a 5 ∧ mi a 5 ≤ 999) ∧ (0 ≤ mi a 6 ∧ mi a 6 ≤ 4) ∧ (0 ≤ mi a 7 ∧ mi a 7 ≤ 1)) := by
    intro l1 h1
    have t := part3 l1 1 h1 (Or.inr rfl)
    have f := part3 l1 0 h1 (Or.inl rfl)
    simp only [e68_0, e68_1, e68_4, e68_7, e68_10, e68_11, e68_14, e68_15, e68_16, e68_19, e68_22, e68_23, e68_26, e68_27, e68_28, e68_29, e68_32, e68_35, e68_38, e68_39, e68_42, e68_43, e68_46, e68_49, e68_52, e68_53, e68_56, e68_57, e68_58, e68_61, e68_64, e68_67, e68_68, e68_71, e68_72, e68_74, e68_77, e68_78, e68_81, e68_84, e68_87, e68_88, e68_91, e68_92, e68_93, e68_96, e68_99, e68_100, e68_103, e68_104, e68_105, e68_108, e68_111, e68_112, e68_115, e68_116, e68_117, e68_118, e68_121, e68_122, e68_125, e68_126, e68_129, e68_130, e68_133, e68_134, ha, s14, s69, s70, not_true_eq_false, not_false_eq_true, if_true, if_false, and_self, vh_bds, vh_ps1, vh_ps0, vb0, vb1, vbz, vbo]
    by_cases q1 : 0 ≤ mi a 2 ∧ mi a 2 ≤ 364
    · rw [if_neg (not_not_intro q1)]
      by_cases q2 : 0 ≤ mi a 3 ∧ mi a 3 < mi a 4 ∧ mi a 4 ≤ 96
      · rw [if_neg (not_not_intro q2)]
        by_cases q3 : 0 ≤ mi a 8 ∧ mi a 8 ≤ mi a 2
        · rw [if_neg (not_not_intro q3)]
          obtain ⟨v, e1, e2, e3⟩ := t
          exact ⟨v, e1, e2, fun z => by have := e3.mp z; exact ⟨this.1, ⟨q1, q2, q3⟩, this.2.2⟩, fun z => e3.mpr ⟨z.1, rfl, z.2.2⟩⟩
        · rw [if_pos q3]
          obtain ⟨v, e1, e2, e3⟩ := f
          exact ⟨v, e1, e2, fun z => absurd (e3.mp z).2.1 (by decide), fun z => absurd z.2.1.2.2 q3⟩
      · rw [if_pos q2]
        obtain ⟨v, e1, e2, e3⟩ := f
        exact ⟨v, e1, e2, fun z => absurd (e3.mp z).2.1 (by decide), fun z => absurd z.2.1.2.1 q2⟩
    · rw [if_pos q1]
      obtain ⟨v, e1, e2, e3⟩ := f
      exact ⟨v, e1, e2, fun z => absurd (e3.mp z).2.1 (by decide), fun z => absurd z.2.1.1 q1⟩
  have t := part2 1 (Or.inr rfl)
  have f := part2 0 (Or.inl rfl)
  simp only [c68, e68_0, e68_1, e68_4, e68_7, e68_10, e68_11, e68_14, e68_15, e68_16, e68_19, e68_22, e68_23, e68_26, e68_27, e68_29, e68_32, e68_35, e68_38, e68_39, e68_42, e68_43, e68_46, e68_49, e68_52, e68_53, e68_56, e68_57, e68_58, e68_61, e68_64, e68_67, e68_68, e68_71, e68_72, e68_73, e68_74, e68_77, e68_78, e68_81, e68_84, e68_87, e68_88, e68_91, e68_92, e68_93, e68_96, e68_99, e68_100, e68_103, e68_104, e68_105, e68_108, e68_111, e68_112, e68_115, e68_116, e68_117, e68_118, e68_121, e68_122, e68_125, e68_126, e68_129, e68_130, e68_133, e68_134, ha, s14, s61, not_true_eq_false, not_false_eq_true, if_true, if_false, and_self, vh_bds, vh_ps1, vh_ps0, vb0, vb1, vbz, vbo]
  unfold bkG
  by_cases q1 : 0 ≤ mi a 0 ∧ mi a 0 ≤ 3
  · rw [if_neg (not_not_intro q1)]
    by_cases q2 : 0 ≤ mi a 1 ∧ mi a 1 ≤ 1
    · rw [if_neg (not_not_intro q2)]
      obtain ⟨v, e1, e2, e3⟩ := t
      exact ⟨v, e1, e2, fun z => by have := (e3.mp z).2; exact ⟨q1, q2, this.1.1, this.1.2.1, this.1.2.2, this.2⟩, fun z => e3.mpr ⟨rfl, ⟨z.2.2.1, z.2.2.2.1, z.2.2.2.2.1⟩, z.2.2.2.2.2⟩⟩
    · rw [if_pos q2]
      obtain ⟨v, e1, e2, e3⟩ := f
      exact ⟨v, e1, e2, fun z => absurd (e3.mp z).1 (by decide), fun z => absurd z.2.1 q2⟩
  · rw [if_pos q1]
    obtain ⟨v, e1, e2, e3⟩ := f
    exact ⟨v, e1, e2, fun z => absurd (e3.mp z).1 (by decide), fun z => absurd z.1 q1⟩
theorem s64 (hn : n ≤ 16) (h5 : mi 42 5 = nI n) : vh_C 64 [.ref 42] (vh_K d mi ml) = some (some (.int (vb (n = 16))), vh_K d mi ml) := by
  simp only [c64, e64_0, e64_1, e64_4, e64_6, e64_9, e64_10, e64_13, e64_14, ok42, h5, not_true_eq_false, not_false_eq_true, if_true, if_false, and_self, vh_bds, vh_ps1, vh_ps0, vb0, vb1, vbz, vbo]
  by_cases q : n = 16
  · subst q
    rw [if_neg (by decide), vb_t rfl]
  · rw [if_pos (show nI n < 16 from nI_lt (b := 16) (by omega) (by decide)), vb_f q]
theorem s65 (hn : n < 16) (hs : s < 8) (hk : k + 9 ≤ 60) (h5 : mi 42 5 = nI n) : (bkG (fun f => mi 4 (s * 60 + (k + f))) → vh_C 65 [.ref 42, .ref 1, .int (nI s), .int (nI k)] (vh_K d mi ml) = some (some (.int (nI n)), vh_K d (vh_sA (vh_sA mi (47 + n) (bkU (mi (47 + n)) (fun f => mi 4 (s * 60 + (k + f))))) 42 (upd (mi 42) 5 (nI (n + 1)))) ml)) ∧
    (¬ bkG (fun f => mi 4 (s * 60 + (k + f))) → vh_C 65 [.ref 42, .ref 1, .int (nI s), .int (nI k)] (vh_K d mi ml) = some (some (.int (-1000000)), vh_K d (vh_sA mi (47 + n) (bkU (mi (47 + n)) (fun f => mi 4 (s * 60 + (k + f))))) ml)) := by
  have a42 : ∀ f : Nat → Int32, vh_sA mi (47 + n) f 42 = mi 42 := fun f => sAn (by omega)
  obtain ⟨v, e1, e2, e3⟩ := s68 (d := d) (mi := vh_sA mi (47 + n) (bkU (mi (47 + n)) (fun f => mi 4 (s * 60 + (k + f))))) (ml := ml) (okB hn)
  rw [sAs] at e3
  have e4 : bkG (bkU (mi (47 + n)) (fun f => mi 4 (s * 60 + (k + f)))) ↔ bkG (fun f => mi 4 (s * 60 + (k + f))) := Iff.rfl
  rw [e4] at e3
  constructor
  · intro h
    have hv : v = 1 := e3.mpr h
    subst hv
    simp only [c65, e65_0, e65_1, e65_4, e65_5, e65_8, e65_9, e65_10, e65_11, e65_12, e65_15, e65_16, e65_19, e65_20, e65_23, e65_24, e65_27, e65_30, e65_32, e65_33, e65_34, e65_35, e65_38, e65_39, e65_40, e65_43, e65_44, e65_47, e65_48, e65_49, s66 hn hs hk, e1, okB hn, ok1, ok42, ok43, rf42_1, Bool.or_true, ixB hn, clK (show n < 1000 by omega), rfB hn, h5, a42, sAs, ups, nI_1, nI_pred, show ¬ (1 : Int32) = 0 by decide, not_true_eq_false, not_false_eq_true, if_true, if_false, and_self, vh_bds, vh_ps1, vh_ps0, vb0, vb1, vbz, vbo]
  · intro h
    have hv : v = 0 := e2.resolve_right (fun z => h (e3.mp z))
    subst hv
    simp only [c65, e65_0, e65_1, e65_4, e65_5, e65_8, e65_9, e65_10, e65_11, e65_12, e65_15, e65_16, e65_19, e65_20, e65_23, e65_24, e65_27, e65_30, e65_32, e65_33, e65_34, e65_35, e65_38, e65_39, e65_40, e65_43, e65_44, e65_47, e65_48, e65_49, s66 hn hs hk, e1, okB hn, ok1, ok42, ok43, rf42_1, Bool.or_true, ixB hn, clK (show n < 1000 by omega), rfB hn, h5, a42, not_true_eq_false, not_false_eq_true, if_true, if_false, and_self, vh_bds, vh_ps1, vh_ps0, vb0, vb1, vbz, vbo]
end

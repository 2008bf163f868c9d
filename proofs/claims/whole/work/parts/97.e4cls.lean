def hlC (mi : Nat → Nat → Int32) (G : Nat → Nat → Nat) : Prop := ∀ h, h < 4 → (∀ f, f < 4 → mi (6 + 4 * h) f = nI (G h f)) ∧ (∀ f, f < 2 → mi (7 + 4 * h) f = nI (G h (4 + f))) ∧ (∀ u, u < 5 → mi (8 + 4 * h) u = nI (G h (10 + u))) ∧ (∀ u, u < 5 → mi (9 + 4 * h) u = nI (G h (20 + u)))
section
variable {d : Nat} {ml : Nat → Nat → Int64} {a b a1 a2 a3 b1 b2 b3 : Nat}
theorem l32a (oa : vh_okk a 4 = true) (ob : vh_okk b 4 = true) (ra : va_rf (vh_RR d a 4) = .ref a1) (rb : va_rf (vh_RR d b 4) = .ref b1) (oa1 : vh_okk a1 20 = true) (ob1 : vh_okk b1 20 = true) (ka : (vh_kd a1).2 = 2) (kb : (vh_kd b1).2 = 2) (hn : b1 ≠ a1) : ∀ (r i : Nat) (mi : Nat → Nat → Int32), i + r = 2 → (∀ c, c < i → mi a1 c = mi b1 c) → ∃ f, vh_E 32 34 [some (.ref a), some (.ref b), some (.int (nI i))] [] (vh_K d mi ml) = vh_E 32 57 [some (.ref a), some (.ref b), some (.int (nI 2))] [] (vh_K d (vh_sA mi a1 f) ml) ∧ ∀ c, c < 2 → f c = mi b1 c := by
  intro r
  induction r with
  | zero =>
    intro i mi hi h
    have : i = 2 := by omega
    subst this
    refine ⟨mi a1, ?_, h⟩
    rw [sAe]
    simp only [e32_34, e32_35, e32_36, show (2 : Int32) ≤ nI 2 by decide, if_true]
  | succ r ih =>
    intro i mi hi h
    have x1 : vh_ixa a1 (nI i) = true := ixa (by rw [ka]; omega) (by omega)
    have x2 : vh_ixa b1 (nI i) = true := ixa (by rw [kb]; omega) (by omega)
    obtain ⟨f, h1, h2⟩ := ih (i + 1) (vh_sA mi a1 (upd (mi a1) i (mi b1 i))) (by omega) (by
      intro c hc
      rw [sAs, sAn hn]
      by_cases e : c = i
      · rw [e, ups]
      · rw [upn e]; exact h c (by omega))
    rw [sAA] at h1
    rw [sAn hn] at h2
    refine ⟨f, ?_, h2⟩
    rw [← h1, e32_34]
    simp only [e32_35, e32_36, e32_39, e32_40, e32_43, e32_44, e32_45, e32_48, e32_49, e32_50, e32_51, e32_54, oa, ob, ra, rb, oa1, ob1, x1, x2, clK (show i < 1000 by omega), show ¬ (2 : Int32) ≤ nI i from nI_ge (b := 2) (by omega) (by decide), if_false, nI_1]
theorem l32b (oa : vh_okk a 4 = true) (ob : vh_okk b 4 = true) (ra : va_rf (vh_RR d a 5) = .ref a2) (rb : va_rf (vh_RR d b 5) = .ref b2) (ra3 : va_rf (vh_RR d a 6) = .ref a3) (rb3 : va_rf (vh_RR d b 6) = .ref b3) (oa1 : vh_okk a2 20 = true) (ob1 : vh_okk b2 20 = true) (oa3 : vh_okk a3 20 = true) (ob3 : vh_okk b3 20 = true) (ka : (vh_kd a2).2 = 5) (kb : (vh_kd b2).2 = 5) (ka3 : (vh_kd a3).2 = 5) (kb3 : (vh_kd b3).2 = 5) (n1 : b2 ≠ a2) (n2 : b3 ≠ a3) (n3 : b2 ≠ a3) (n4 : b3 ≠ a2) (n5 : a3 ≠ a2) : ∀ (r i : Nat) (mi : Nat → Nat → Int32), i + r = 5 → (∀ c, c < i → mi a2 c = mi b2 c ∧ mi a3 c = mi b3 c) → ∃ f2 f3, vh_E 32 59 [some (.ref a), some (.ref b), some (.int (nI i))] [] (vh_K d mi ml) = some (none, vh_K d (vh_sA (vh_sA mi a2 f2) a3 f3) ml) ∧ ∀ c, c < 5 → f2 c = mi b2 c ∧ f3 c = mi b3 c := by
  intro r
  induction r with
  | zero =>
    intro i mi hi h
    have : i = 5 := by omega
    subst this
    refine ⟨mi a2, mi a3, ?_, h⟩
    rw [sAe, sAe]
    simp only [e32_59, e32_60, e32_61, e32_94, show (5 : Int32) ≤ nI 5 by decide, if_true]
  | succ r ih =>
    intro i mi hi h
    have x1 : vh_ixa a2 (nI i) = true := ixa (by rw [ka]; omega) (by omega)
    have x2 : vh_ixa b2 (nI i) = true := ixa (by rw [kb]; omega) (by omega)
    have x3 : vh_ixa a3 (nI i) = true := ixa (by rw [ka3]; omega) (by omega)
    have x4 : vh_ixa b3 (nI i) = true := ixa (by rw [kb3]; omega) (by omega)
    obtain ⟨f2, f3, h1, h2⟩ := ih (i + 1) (vh_sA (vh_sA mi a2 (upd (mi a2) i (mi b2 i))) a3 (upd (mi a3) i (mi b3 i))) (by omega) (by
      intro c hc
      rw [sAn (fun z => n5 z.symm), sAs, sAs, sAn n3, sAn n1, sAn n2, sAn n4]
      by_cases e : c = i
      · rw [e, ups, ups]; exact ⟨rfl, rfl⟩
      · rw [upn e, upn e]; exact h c (by omega))
    rw [sAn n3, sAn n1, sAn n2, sAn n4] at h2
    have e : vh_sA (vh_sA (vh_sA (vh_sA mi a2 (upd (mi a2) i (mi b2 i))) a3 (upd (mi a3) i (mi b3 i))) a2 f2) a3 f3 = vh_sA (vh_sA mi a2 f2) a3 f3 := by
      funext c
      unfold vh_sA
      by_cases c1 : c = a3
      · simp only [c1, if_true]
      · by_cases c2 : c = a2
        · simp only [c1, c2, if_true, if_false]
        · simp only [c1, c2, if_false]
    rw [e] at h1
    refine ⟨f2, f3, ?_, h2⟩
    rw [← h1, e32_59]
    simp only [e32_60, e32_61, e32_64, e32_65, e32_68, e32_69, e32_70, e32_73, e32_74, e32_75, e32_76, e32_77, e32_80, e32_81, e32_82, e32_85, e32_86, e32_87, e32_88, e32_91, oa, ob, ra, rb, ra3, rb3, oa1, ob1, oa3, ob3, x1, x2, x3, x4, clK (show i < 1000 by omega), sAn n5, sAn n4, show ¬ (5 : Int32) ≤ nI i from nI_ge (b := 5) (by omega) (by decide), if_false, nI_1]
/-- take over -/
theorem s32 {mi : Nat → Nat → Int32} {x y : Nat} (hxy : (x = 26 ∧ y = 6) ∨ (x = 6 ∧ y = 26)) {h : Nat} (hh : h < 4) : ∃ mi', vh_C 32 [.ref (x + 4 * h), .ref (y + 4 * h)] (vh_K d mi ml) = some (none, vh_K d mi' ml) ∧ (∀ a, (a < x + 4 * h ∨ x + 4 * h + 3 < a) → mi' a = mi a) ∧ (∀ f, f < 4 → mi' (x + 4 * h) f = mi (y + 4 * h) f) ∧ (∀ f, f < 2 → mi' (x + 1 + 4 * h) f = mi (y + 1 + 4 * h) f) ∧ (∀ u, u < 5 → mi' (x + 2 + 4 * h) u = mi (y + 2 + 4 * h) u) ∧ (∀ u, u < 5 → mi' (x + 3 + 4 * h) u = mi (y + 3 + 4 * h) u) := by
  have key : ∀ z, z = 26 ∨ z = 6 → vh_okk (z + 4 * h) 4 = true ∧ va_rf (vh_RR d (z + 4 * h) 4) = .ref (z + 1 + 4 * h) ∧ va_rf (vh_RR d (z + 4 * h) 5) = .ref (z + 2 + 4 * h) ∧ va_rf (vh_RR d (z + 4 * h) 6) = .ref (z + 3 + 4 * h) ∧ vh_okk (z + 1 + 4 * h) 20 = true ∧ vh_okk (z + 2 + 4 * h) 20 = true ∧ vh_okk (z + 3 + 4 * h) 20 = true ∧ (vh_kd (z + 1 + 4 * h)).2 = 2 ∧ (vh_kd (z + 2 + 4 * h)).2 = 5 ∧ (vh_kd (z + 3 + 4 * h)).2 = 5 := by
    rintro z (rfl | rfl)
    · exact ⟨okE hh, rfEf hh, rfEr hh, rfEk hh, okEf hh, okEr hh, okEk hh, kdEf hh, kdEr hh, kdEk hh⟩
    · exact ⟨okH hh, rfHf hh, rfHr hh, rfHk hh, okHf hh, okHr hh, okHk hh, kdHf hh, kdHr hh, kdHk hh⟩
  obtain ⟨x0, x1, x2, x3, x4, x5, x6, x7, x8, x9⟩ := key x (by omega)
  obtain ⟨y0, y1, y2, y3, y4, y5, y6, y7, y8, y9⟩ := key y (by omega)
  have nb : y + 4 * h ≠ x + 4 * h := by omega
  generalize hm : vh_sA mi (x + 4 * h) (upd (upd (upd (upd (mi (x + 4 * h)) 0 (mi (y + 4 * h) 0)) 1 (mi (y + 4 * h) 1)) 2 (mi (y + 4 * h) 2)) 3 (mi (y + 4 * h) 3)) = m1
  obtain ⟨f1, A1, h1⟩ := l32a (d := d) (ml := ml) x0 y0 x1 y1 x4 y4 x7 y7 (show y + 1 + 4 * h ≠ x + 1 + 4 * h by omega) 2 0 m1 (by omega) (fun c hc => by omega)
  obtain ⟨f2, f3, A2, h2⟩ := l32b (d := d) (ml := ml) x0 y0 x2 y2 x3 y3 x5 y5 x6 y6 x8 y8 x9 y9 (show y + 2 + 4 * h ≠ x + 2 + 4 * h by omega) (show y + 3 + 4 * h ≠ x + 3 + 4 * h by omega) (show y + 2 + 4 * h ≠ x + 3 + 4 * h by omega) (show y + 3 + 4 * h ≠ x + 2 + 4 * h by omega) (show x + 3 + 4 * h ≠ x + 2 + 4 * h by omega) 5 0 (vh_sA m1 (x + 1 + 4 * h) f1) (by omega) (fun c hc => by omega)
  have mo : ∀ a, a ≠ x + 4 * h → m1 a = mi a := by intro a ha; subst hm; rw [sAn ha]
  refine ⟨vh_sA (vh_sA (vh_sA m1 (x + 1 + 4 * h) f1) (x + 2 + 4 * h) f2) (x + 3 + 4 * h) f3, ?_, ?_, ?_, ?_, ?_, ?_⟩
  · rw [← A2]
    simp only [c32, e32_0, e32_1, e32_2, e32_5, e32_8, e32_9, e32_10, e32_13, e32_16, e32_17, e32_18, e32_21, e32_24, e32_25, e32_26, e32_29, e32_32, e32_33, e32_35, e32_36, e32_39, e32_40, e32_43, e32_44, e32_45, e32_48, e32_49, e32_50, e32_51, e32_54, e32_57, e32_58, e32_60, e32_61, e32_64, e32_65, e32_68, e32_69, e32_70, e32_73, e32_74, e32_75, e32_76, e32_77, e32_80, e32_81, e32_82, e32_85, e32_86, e32_87, e32_88, e32_91, e32_94, x0, y0, sAs, sAA, sAn nb, hm]
    refine Eq.trans A1 ?_
    simp only [e32_57, e32_58]
    rfl
  · intro a ha
    rw [sAn (by omega), sAn (by omega), sAn (by omega), mo a (by omega)]
  · intro f hf
    rw [sAn (by omega), sAn (by omega), sAn (by omega)]
    subst hm
    rw [sAs]
    rcases (show f = 0 ∨ f = 1 ∨ f = 2 ∨ f = 3 by omega) with rfl | rfl | rfl | rfl <;> rfl
  · intro f hf
    rw [sAn (by omega), sAn (by omega), sAs, h1 f hf, mo _ (by omega)]
  · intro u hu
    rw [sAn (by omega), sAs, (h2 u hu).1, sAn (by omega), mo _ (by omega)]
  · intro u hu
    rw [sAs, (h2 u hu).2, sAn (by omega), mo _ (by omega)]
end
section
variable {d : Nat} {ml : Nat → Nat → Int64} {G : Nat → Nat → Nat}
theorem l31a {l2 : Option Value} : ∀ (r i : Nat) (mi : Nat → Nat → Int32), i + r = 4 → hlC mi G → (∀ h, h < i → (∀ f, f < 4 → mi (26 + 4 * h) f = nI (G h f)) ∧ (∀ f, f < 2 → mi (27 + 4 * h) f = nI (G h (4 + f))) ∧ (∀ u, u < 5 → mi (28 + 4 * h) u = nI (G h (10 + u))) ∧ (∀ u, u < 5 → mi (29 + 4 * h) u = nI (G h (20 + u)))) → ∃ mi', vh_E 31 2 [some (.ref 24), some (.int (nI i)), l2] [] (vh_K d mi ml) = vh_E 31 28 [some (.ref 24), some (.int (nI 4)), l2] [] (vh_K d mi' ml) ∧ (∀ a, (a < 26 ∨ 41 < a) → mi' a = mi a) ∧ drf mi' G := by
  intro r
  induction r with
  | zero =>
    intro i mi hi hl h
    have : i = 4 := by omega
    subst this
    refine ⟨mi, ?_, fun _ _ => rfl, h⟩
    simp only [e31_2, e31_3, e31_4, show (4 : Int32) ≤ nI 4 by decide, if_true]
  | succ r ih =>
    intro i mi hi hl h
    have hi4 : i < 4 := by omega
    have x5 : vh_ixa 5 (nI i) = true := ixa (by rw [kd5]; omega) (by omega)
    have x25 : vh_ixa 25 (nI i) = true := ixa (by rw [kd25]; omega) (by omega)
    obtain ⟨m1, A, ho, g1, g2, g3, g4⟩ := s32 (d := d) (ml := ml) (mi := mi) (x := 26) (y := 6) (by omega) hi4
    obtain ⟨l1, l2', l3, l4⟩ := hl i hi4
    obtain ⟨mi', A2, ho2, hd⟩ := ih (i + 1) m1 (by omega) (by
      intro h' hh'
      rw [ho _ (by omega), ho _ (by omega), ho _ (by omega), ho _ (by omega)]
      exact hl h' hh') (by
      intro h' hh'
      by_cases e : h' = i
      · subst e
        exact ⟨fun f hf => by rw [g1 f hf]; exact l1 f hf, fun f hf => by rw [g2 f hf]; exact l2' f hf, fun u hu => by rw [g3 u hu]; exact l3 u hu, fun u hu => by rw [g4 u hu]; exact l4 u hu⟩
      · rw [ho _ (by omega), ho _ (by omega), ho _ (by omega), ho _ (by omega)]
        exact h h' (by omega))
    refine ⟨mi', ?_, fun a ha => by rw [ho2 a ha, ho a (by omega)], hd⟩
    rw [← A2, e31_2]
    simp only [e31_3, e31_4, e31_7, e31_8, e31_11, e31_12, e31_13, e31_14, e31_17, e31_18, e31_19, e31_22, e31_25, ok24, ok5, ok25, rf24_1, rf24_2, Bool.true_or, x5, x25, clK (show i < 1000 by omega), rfE hi4, rfH hi4, okE hi4, A, show ¬ (4 : Int32) ≤ nI i from nI_ge (b := 4) (by omega) (by decide), nI_1, not_true_eq_false, not_false_eq_true, if_true, if_false, and_self, vh_bds, vh_ps1, vh_ps0, vb0, vb1, vbz, vbo]
theorem l31b : ∀ (r i : Nat) (mi : Nat → Nat → Int32), i + r = 4 → drf mi G → (∀ h, h < i → (∀ f, f < 4 → mi (6 + 4 * h) f = nI (G h f)) ∧ (∀ f, f < 2 → mi (7 + 4 * h) f = nI (G h (4 + f))) ∧ (∀ u, u < 5 → mi (8 + 4 * h) u = nI (G h (10 + u))) ∧ (∀ u, u < 5 → mi (9 + 4 * h) u = nI (G h (20 + u)))) → ∃ mi', vh_E 31 78 [some (.ref 24), some (.int 1), some (.int (nI i))] [] (vh_K d mi ml) = vh_E 31 108 [some (.ref 24), some (.int 1), some (.int (nI 4))] [] (vh_K d mi' ml) ∧ (∀ a, (a < 6 ∨ 21 < a) → mi' a = mi a) ∧ hlC mi' G := by
  intro r
  induction r with
  | zero =>
    intro i mi hi hl h
    have : i = 4 := by omega
    subst this
    refine ⟨mi, ?_, fun _ _ => rfl, h⟩
    simp only [e31_78, e31_79, e31_80, show (4 : Int32) ≤ nI 4 by decide, if_true]
  | succ r ih =>
    intro i mi hi hl h
    have hi4 : i < 4 := by omega
    have x5 : vh_ixa 5 (nI i) = true := ixa (by rw [kd5]; omega) (by omega)
    have x25 : vh_ixa 25 (nI i) = true := ixa (by rw [kd25]; omega) (by omega)
    obtain ⟨m1, A, ho, g1, g2, g3, g4⟩ := s32 (d := d) (ml := ml) (mi := mi) (x := 6) (y := 26) (by omega) hi4
    obtain ⟨l1, l2', l3, l4⟩ := hl i hi4
    obtain ⟨mi', A2, ho2, hd⟩ := ih (i + 1) m1 (by omega) (by
      intro h' hh'
      rw [ho _ (by omega), ho _ (by omega), ho _ (by omega), ho _ (by omega)]
      exact hl h' hh') (by
      intro h' hh'
      by_cases e : h' = i
      · subst e
        exact ⟨fun f hf => by rw [g1 f hf]; exact l1 f hf, fun f hf => by rw [g2 f hf]; exact l2' f hf, fun u hu => by rw [g3 u hu]; exact l3 u hu, fun u hu => by rw [g4 u hu]; exact l4 u hu⟩
      · rw [ho _ (by omega), ho _ (by omega), ho _ (by omega), ho _ (by omega)]
        exact h h' (by omega))
    refine ⟨mi', ?_, fun a ha => by rw [ho2 a ha, ho a (by omega)], hd⟩
    rw [← A2, e31_78]
    simp only [e31_79, e31_80, e31_83, e31_84, e31_87, e31_88, e31_91, e31_92, e31_93, e31_94, e31_97, e31_98, e31_99, e31_102, e31_105, ok24, ok5, ok25, rf24_1, rf24_2, Bool.true_or, x5, x25, clK (show i < 1000 by omega), rfE hi4, rfH hi4, okH hi4, A, show ¬ (4 : Int32) ≤ nI i from nI_ge (b := 4) (by omega) (by decide), show ¬ (1 : Int32) = 0 by decide, nI_1, not_true_eq_false, not_false_eq_true, if_true, if_false, and_self, vh_bds, vh_ps1, vh_ps0, vb0, vb1, vbz, vbo]
end

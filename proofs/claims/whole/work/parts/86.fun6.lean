section
variable {d : Nat} {ml : Nat → Nat → Int64} {n : Nat} {b g : Nat → Nat → Nat} {H D F E P M mv : Nat} {go : Nat → Option Nat} {fl : Option Nat} {ps : Nat → Nat}
theorem l99 {k f0 : Nat} {mi : Nat → Nat → Int32} (HC : DiC mi n b g) (B : DiB n b g) (hk : k < n) (hS : BkA mi 64 ps) (hM : M < 2 ^ 16) (hmv : mv < 2 ^ 16) (h5 : mi 63 5 = nI M) (h6 : mi 63 6 = nI mv) (hgo : ∀ c y, go c = some y → y < 8 ∧ c < n ∧ mv.testBit c = true) (h66 : ∀ c, c < 16 → mi 66 c = bvI (go c)) (hH : H < 4)
    (es0 : ps 0 = H) (es1 : ps 1 = f0) (es2 : ps 2 = D) (es3 : ps 3 = F) (es4 : ps 4 = E) (es6 : ps 6 = 3) (hfl : fl = some f0) (hk0 : b k 0 = H) (hk2 : b k 2 = D) (hday : ∀ a, mv.testBit a = true → b a 2 = D) : ∀ (r s : Nat) (f65 : Nat → Int32), s + r = 8 → (∀ j, 2 ≤ j → j ≤ 6 → f65 j = nI (b k j)) → ∃ f65', vh_E 99 66 [some (.ref 63), some (.int (nI k)), some (.ref (47 + k)), some (.int (nI s))] [] (vh_K d (vh_sA mi 65 f65) ml) = some (some (.int (bvI ((fnd (fun s => fvA b g H F E M mv go fl k ((H + s / 2) % 4) (s % 2) n) r s).map (plS H)))), vh_K d (vh_sA mi 65 f65') ml) := by
  have hn := B.1
  have hk6 : k < 16 := by omega
  obtain ⟨k0, k1, k2, k3, k4, k5, k5', k6, k7, k8, k9⟩ := B.2.1 k hk
  intro r
  induction r with
  | zero =>
    intro s f65 hs hf
    have : s = 8 := by omega
    subst this
    refine ⟨f65, ?_⟩
    simp only [e99_66, e99_67, e99_69, e99_130, e99_132, show (8 : Int32) ≤ nI 8 by decide, if_true]
    rfl
  | succ r ih =>
    intro s f65 hs hf
    have d1 : nI s / 2 = nI (s / 2) := pk_div (d := 2) (by omega) (by decide) (by decide)
    have d2 : nI s - nI (s / 2) * 2 = nI (s % 2) := by rw [← d1]; exact pk_rem (d := 2) (by omega) (by decide) (by decide)
    have d3 : nI (H + s / 2) - nI (H + s / 2) / 4 * 4 = nI ((H + s / 2) % 4) := pk_rem (d := 4) (by omega) (by decide) (by decide)
    have e2 : (2 : Int32) * nI ((H + s / 2) % 4) + nI (s % 2) = nI (plS H s) := by rw [show (2 : Int32) * nI ((H + s / 2) % 4) = nI (2 * ((H + s / 2) % 4)) from pk_mul 2 _, nI_add]; rfl
    have HC2 : ∀ f, DiC (vh_sA mi 65 f) n b g := fun f => HC.fr hn (by omega)
    have hk0' : mi (47 + k) 0 = nI H := by rw [HC.f0 hk, hk0]
    have a47 : ∀ f : Nat → Int32, vh_sA mi 65 f (47 + k) = mi (47 + k) := fun f => sAn (by omega)
    have hS2 : ∀ f, BkA (vh_sA mi 65 f) 64 ps := by
      intro f
      obtain ⟨u1, u2, u3⟩ := hS
      exact ⟨u1, fun j hj => by rw [sAn (by decide)]; exact u2 j hj, u3⟩
    have hG : BkA (vh_sA mi 65 (upd (upd f65 0 (nI ((H + s / 2) % 4))) 1 (nI (s % 2)))) 65 (fun j => if j = 0 then (H + s / 2) % 4 else if j = 1 then s % 2 else if j = 7 then (f65 7).toBitVec.toNat else if j = 8 then (f65 8).toBitVec.toNat else b k j) := by
      refine ⟨ok65, ?_, ?_⟩
      · intro j hj
        rw [sAs]
        rcases (show j = 0 ∨ j = 1 ∨ j = 7 ∨ j = 8 ∨ (2 ≤ j ∧ j ≤ 6) by omega) with rfl | rfl | rfl | rfl | ⟨j1, j2⟩
        · rfl
        · rfl
        · exact (nI_all _).symm
        · exact (nI_all _).symm
        · rw [upn (by omega), upn (by omega), hf j j1 j2]
          show _ = nI (if j = 0 then _ else _)
          rw [if_neg (by omega), if_neg (by omega), if_neg (by omega), if_neg (by omega)]
      · simp only [Nat.reduceEqDiff, if_true, if_false]
        exact ⟨by omega, by omega, k2, k3, k4, k6, k5'⟩
    have hfr := s100 (d := d) (ml := ml) (k := k) (h := (H + s / 2) % 4) (f := s % 2) (f0 := f0) (fl := fl) (go := go) (HC2 _) B hG (hS2 _) hM hmv (by simp only [sAn, sAs, sAA, ups, upn, bkv_n, hlv_n, ne_eq, Nat.reduceEqDiff, Nat.reduceLT, Nat.reduceLeDiff, or_true, true_or, not_false_eq_true]; exact h5) (by simp only [sAn, sAs, sAA, ups, upn, bkv_n, hlv_n, ne_eq, Nat.reduceEqDiff, Nat.reduceLT, Nat.reduceLeDiff, or_true, true_or, not_false_eq_true]; exact h6) hgo (by simp only [sAn, sAs, sAA, ups, upn, bkv_n, hlv_n, ne_eq, Nat.reduceEqDiff, Nat.reduceLT, Nat.reduceLeDiff, or_true, true_or, not_false_eq_true]; exact h66) rfl rfl (by
      intro j j1 j2
      show (if j = 0 then _ else _) = _
      rw [if_neg (by omega), if_neg (by omega), if_neg (by omega), if_neg (by omega)]) es0 es1 es2 es3 es4 es6 hfl hk2 hday
    rw [e99_66]
    simp only [e99_67, e99_69, e99_72, e99_73, e99_76, e99_77, e99_80, e99_81, e99_82, e99_83, e99_84, e99_85, e99_86, e99_89, e99_90, e99_93, e99_94, e99_95, e99_96, e99_99, e99_100, e99_103, e99_106, e99_107, e99_108, e99_111, e99_114, e99_115, e99_116, e99_119, e99_122, e99_123, e99_124, e99_127, ok63, ok65, okB hk6, rf63_3, a47, hk0', sAs, sAA, show ¬ (8 : Int32) ≤ nI s from nI_ge (b := 8) (by omega) (by decide), show ¬ (2 : Int32) = 0 by decide, show ¬ (4 : Int32) = 0 by decide, d2, d1, nI_add, d3, hfr, ups, upn (show 0 ≠ 1 by decide), e2, nI_1, not_true_eq_false, not_false_eq_true, if_true, if_false, and_self, vh_bds, vh_ps1, vh_ps0, vb0, vb1, vbz, vbo]
    unfold fnd
    by_cases q : fvA b g H F E M mv go fl k ((H + s / 2) % 4) (s % 2) n = true
    · rw [if_neg (not_not_intro q), if_pos q]
      exact ⟨_, rfl⟩
    · rw [if_pos q, if_neg q]
      exact ih (s + 1) _ (by omega) (fun j j1 j2 => by rw [upn (by omega), upn (by omega)]; exact hf j j1 j2)
theorem s99 {k f0 : Nat} {mi : Nat → Nat → Int32} (HC : DiC mi n b g) (B : DiB n b g) (hk : k < n) (hS : BkA mi 64 ps) (hM : M < 2 ^ 16) (hmv : mv < 2 ^ 16) (h5 : mi 63 5 = nI M) (h6 : mi 63 6 = nI mv) (hgo : ∀ c y, go c = some y → y < 8 ∧ c < n ∧ mv.testBit c = true) (h66 : ∀ c, c < 16 → mi 66 c = bvI (go c)) (hH : H < 4)
    (es0 : ps 0 = H) (es1 : ps 1 = f0) (es2 : ps 2 = D) (es3 : ps 3 = F) (es4 : ps 4 = E) (es6 : ps 6 = 3) (hfl : fl = some f0) (hk0 : b k 0 = H) (hk2 : b k 2 = D) (hday : ∀ a, mv.testBit a = true → b a 2 = D) : ∃ f65', vh_C 99 [.ref 63, .int (nI k)] (vh_K d mi ml) = some (some (.int (bvI ((fnd (fun s => fvA b g H F E M mv go fl k ((H + s / 2) % 4) (s % 2) n) 8 0).map (plS H)))), vh_K d (vh_sA mi 65 f65') ml) := by
  have hn := B.1
  have hk6 : k < 16 := by omega
  have a47 : ∀ f : Nat → Int32, vh_sA mi 65 f (47 + k) = mi (47 + k) := fun f => sAn (by omega)
  obtain ⟨f65', h⟩ := l99 (d := d) (ml := ml) (f0 := f0) (fl := fl) HC B hk hS hM hmv h5 h6 hgo h66 hH es0 es1 es2 es3 es4 es6 hfl hk0 hk2 hday 8 0 (upd (upd (upd (upd (upd (mi 65) 2 (nI (b k 2))) 3 (nI (b k 3))) 4 (nI (b k 4))) 5 (nI (b k 5))) 6 (nI (b k 6))) (by omega) (by
    intro j j1 j2
    rcases (show j = 2 ∨ j = 3 ∨ j = 4 ∨ j = 5 ∨ j = 6 by omega) with rfl | rfl | rfl | rfl | rfl <;> rfl)
  refine ⟨f65', ?_⟩
  rw [← h]
  simp only [c99, e99_0, e99_1, e99_4, e99_5, e99_8, e99_9, e99_10, e99_13, e99_14, e99_17, e99_20, e99_21, e99_24, e99_25, e99_28, e99_31, e99_32, e99_35, e99_36, e99_39, e99_42, e99_43, e99_46, e99_47, e99_50, e99_53, e99_54, e99_57, e99_58, e99_61, e99_64, e99_65, ok63, ok65, ok42, okB hk6, rf63_0, rf63_3, s73 hk6, a47, HC.f2 hk, HC.f3 hk, HC.f4 hk, HC.f5 hk, HC.f6 hk, sAs, sAA, not_true_eq_false, not_false_eq_true, if_true, if_false, and_self, vh_bds, vh_ps1, vh_ps0, vb0, vb1, vbz, vbo]
  rfl
theorem l96n {l1 l2 l3 l4 l5 l6 : Option Value} : ∀ (j i : Nat) (mi : Nat → Nat → Int32), i + j = 16 → (∀ c, c < i → mi 66 c = -1000000) → ∃ f', vh_E 96 70 [some (.ref 63), l1, l2, l3, l4, l5, l6, some (.int (nI i))] [] (vh_K d mi ml) = vh_E 96 92 [some (.ref 63), l1, l2, l3, l4, l5, l6, some (.int (nI 16))] [] (vh_K d (vh_sA mi 66 f') ml) ∧ ∀ c, c < 16 → f' c = -1000000 := by
  intro j
  induction j with
  | zero =>
    intro i mi hi h
    have : i = 16 := by omega
    subst this
    refine ⟨mi 66, ?_, h⟩
    rw [sAe]
    simp only [e96_70, e96_72, e96_74, show (16 : Int32) ≤ nI 16 by decide, if_true]
  | succ j ih =>
    intro i mi hi h
    obtain ⟨f', h1, h2⟩ := ih (i + 1) (vh_sA mi 66 (upd (mi 66) i (-1000000))) (by omega) (by
      intro c hc
      rw [sAs]
      by_cases e : c = i
      · rw [e, ups]
      · rw [upn e]; exact h c (by omega))
    refine ⟨f', ?_, h2⟩
    rw [sAA] at h1
    rw [← h1, e96_70]
    simp only [e96_72, e96_74, e96_77, e96_78, e96_81, e96_83, e96_85, e96_86, e96_89, ok63, ok66, rf63_4, okx66 (show i < 16 by omega), clK (show i < 1000 by omega), show ¬ (16 : Int32) ≤ nI i from nI_ge (b := 16) (by omega) (by decide), if_false, nI_1]
theorem l96o {l1 l2 l3 l4 l5 l6 : Option Value} {B0 : DiB n b g} (hM : M < 2 ^ 16) (hmv : mv < 2 ^ 16) (hH : H < 4) (hbits : ∀ a, mv.testBit a = true → a < n ∧ b a 0 = H ∧ b a 2 = D) : ∀ (j i : Nat) (mi : Nat → Nat → Int32), i + j = 16 → DiC mi n b g → mi 63 5 = nI M → mi 63 6 = nI mv → (mv = 0 ∨ ∃ f0 ps, fl = some f0 ∧ BkA mi 64 ps ∧ ps 0 = H ∧ ps 1 = f0 ∧ ps 2 = D ∧ ps 3 = F ∧ ps 4 = E ∧ ps 6 = 3) → (∀ c, c < 16 → mi 66 c = bvI (goT b g H F E M mv fl n i c)) → ∃ f65 f66, vh_E 96 95 [some (.ref 63), l1, l2, l3, l4, l5, l6, some (.int (nI i))] [] (vh_K d mi ml) = some (none, vh_K d (vh_sA (vh_sA mi 65 f65) 66 f66) ml) ∧ ∀ c, c < 16 → f66 c = bvI (goT b g H F E M mv fl n 16 c) := by
  have hn := B0.1
  intro j
  induction j with
  | zero =>
    intro i mi hi HC h5 h6 hs h66
    have : i = 16 := by omega
    subst this
    refine ⟨mi 65, mi 66, ?_, h66⟩
    rw [sAe, sAe]
    simp only [e96_95, e96_97, e96_99, e96_134, show (16 : Int32) ≤ nI 16 by decide, if_true]
  | succ j ih =>
    intro i mi hi HC h5 h6 hs h66
    have hi6 : i < 16 := by omega
    by_cases q : mv.testBit i = true
    · obtain ⟨hin, hb0, hb2⟩ := hbits i q
      rcases hs with z | ⟨f0, ps, hfl, hS, es0, es1, es2, es3, es4, es6⟩
      · rw [z, Nat.zero_testBit] at q; cases q
      obtain ⟨f65', A⟩ := s99 (d := d) (ml := ml) (f0 := f0) (fl := fl) (go := goT b g H F E M mv fl n i) HC B0 hin hS hM hmv h5 h6 (fun c y h => ⟨(go_lt h).1, (hbits c (go_lt h).2).1, (go_lt h).2⟩) h66 hH es0 es1 es2 es3 es4 es6 hfl hb0 hb2 (fun a ha => (hbits a ha).2.2)
      rw [← go_at q] at A
      have HC2 : DiC (vh_sA (vh_sA mi 65 f65') 66 (upd (mi 66) i (bvI (goT b g H F E M mv fl n (i + 1) i)))) n b g := (HC.fr hn (by omega)).fr hn (by omega)
      obtain ⟨f65, f66, h1, h2⟩ := ih (i + 1) (vh_sA (vh_sA mi 65 f65') 66 (upd (mi 66) i (bvI (goT b g H F E M mv fl n (i + 1) i)))) (by omega) HC2 (by simp only [sAn, sAs, sAA, ups, upn, bkv_n, hlv_n, ne_eq, Nat.reduceEqDiff, Nat.reduceLT, Nat.reduceLeDiff, or_true, true_or, not_false_eq_true]; exact h5) (by simp only [sAn, sAs, sAA, ups, upn, bkv_n, hlv_n, ne_eq, Nat.reduceEqDiff, Nat.reduceLT, Nat.reduceLeDiff, or_true, true_or, not_false_eq_true]; exact h6) (Or.inr ⟨f0, ps, hfl, by
        obtain ⟨u1, u2, u3⟩ := hS
        exact ⟨u1, fun j hj => by simp only [sAn, sAs, sAA, ups, upn, bkv_n, hlv_n, ne_eq, Nat.reduceEqDiff, Nat.reduceLT, Nat.reduceLeDiff, or_true, true_or, not_false_eq_true]; exact u2 j hj, u3⟩, es0, es1, es2, es3, es4, es6⟩) (by
        intro c hc
        rw [sAs]
        by_cases e : c = i
        · rw [e, ups]
        · rw [upn e, go_ne e]; exact h66 c hc)
      refine ⟨f65, f66, ?_, h2⟩
      have e : vh_sA (vh_sA (vh_sA (vh_sA mi 65 f65') 66 (upd (mi 66) i (bvI (goT b g H F E M mv fl n (i + 1) i)))) 65 f65) 66 f66 = vh_sA (vh_sA mi 65 f65) 66 f66 := by
        funext c
        unfold vh_sA
        by_cases c1 : c = 66
        · subst c1; rfl
        · by_cases c2 : c = 65
          · subst c2; rfl
          · simp only [c1, c2, if_false]
      rw [e] at h1
      rw [← h1, e96_95]
      simp only [e96_97, e96_99, e96_102, e96_103, e96_106, e96_108, e96_109, e96_110, e96_111, e96_112, e96_115, e96_116, e96_119, e96_121, e96_122, e96_124, e96_127, e96_128, e96_131, ok63, ok66, rf63_4, okx66 hi6, clK (show i < 1000 by omega), h6, A, bt (show mv < 2 ^ 31 by omega) (show i < 31 by omega), vbe, q, show ¬ (16 : Int32) ≤ nI i from nI_ge (b := 16) (by omega) (by decide), sAn (show 66 ≠ 65 by decide), nI_1, not_true_eq_false, not_false_eq_true, if_true, if_false, and_self, vh_bds, vh_ps1, vh_ps0, vb0, vb1, vbz, vbo]
    · have e1 : ∀ c, goT b g H F E M mv fl n (i + 1) c = goT b g H F E M mv fl n i c := fun c => go_no q
      obtain ⟨f65, f66, h1, h2⟩ := ih (i + 1) mi (by omega) HC h5 h6 hs (fun c hc => by rw [e1]; exact h66 c hc)
      refine ⟨f65, f66, ?_, h2⟩
      rw [← h1, e96_95]
      simp only [e96_97, e96_99, e96_102, e96_103, e96_106, e96_108, e96_109, e96_110, e96_111, e96_112, e96_128, e96_131, ok63, h6, bt (show mv < 2 ^ 31 by omega) (show i < 31 by omega), vbe, q, Bool.false_eq_true, show ¬ (16 : Int32) ≤ nI i from nI_ge (b := 16) (by omega) (by decide), nI_1, not_true_eq_false, not_false_eq_true, if_true, if_false, and_self, vh_bds, vh_ps1, vh_ps0, vb0, vb1, vbz, vbo]
end

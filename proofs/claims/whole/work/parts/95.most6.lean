section
variable {d : Nat} {mi : Nat → Nat → Int32} {ml : Nat → Nat → Int64} {n : Nat} {b g : Nat → Nat → Nat} {W : Nat → Bool}
noncomputable def wlB (W : Nat → Bool) (b g : Nat → Nat → Nat) (S : Nat) : Bool := @decide (∀ a, a < 16 → S.testBit a = true → W a = true ∧ ∀ c, c < a → S.testBit c = true → ¬ clsh g (b c) (b a) = true) (Classical.propDecidable _)
theorem wl_i {S : Nat} : wlB W b g S = true ↔ ∀ a, a < 16 → S.testBit a = true → W a = true ∧ ∀ c, c < a → S.testBit c = true → ¬ clsh g (b c) (b a) = true := @decide_eq_true_iff _ (Classical.propDecidable _)
theorem top_bits {s T : Nat} (h1 : 2 ^ T ≤ s) (h2 : s < 2 ^ (T + 1)) : s.testBit T = true ∧ (∀ j, T < j → s.testBit j = false) ∧ ∀ j, (s % 2 ^ T).testBit j = (decide (j < T) && s.testBit j) := by
  refine ⟨?_, ?_, fun j => Nat.testBit_mod_two_pow s T j⟩
  · rw [Nat.testBit_eq_decide_div_mod_eq]
    have : s / 2 ^ T = 1 := by
      apply Nat.div_eq_of_lt_le
      · omega
      · rw [Nat.pow_succ] at h2; omega
    rw [this]; rfl
  · intro j hj
    exact Nat.testBit_lt_two_pow (Nat.lt_of_lt_of_le h2 (Nat.pow_le_pow_right (by decide) (by omega)))
theorem ag_and {s T : Nat} (h1 : 2 ^ T ≤ s) (h2 : s < 2 ^ (T + 1)) : (agB W b g T T &&& s = 0) ↔ (W T = true ∧ ∀ c, c < T → s.testBit c = true → ¬ clsh g (b c) (b T) = true) := by
  obtain ⟨t1, t2, t3⟩ := top_bits h1 h2
  constructor
  · intro h
    have hz : ∀ j, (agB W b g T T).testBit j = true → ¬ s.testBit j = true := by
      intro j a1 a2
      have := congrArg (fun z => z.testBit j) h
      simp only [Nat.testBit_and, Nat.zero_testBit] at this
      rw [a1, a2] at this
      cases this
    refine ⟨?_, fun c hc hb hcl => hz c (ag_bit.mpr (Or.inr ⟨hc, hcl⟩)) hb⟩
    cases e : W T with
    | true => rfl
    | false => exact absurd t1 (hz T (ag_bit.mpr (Or.inl ⟨rfl, by rw [e]; decide⟩)))
  · rintro ⟨h3, h4⟩
    apply Nat.eq_of_testBit_eq
    intro j
    rw [Nat.testBit_and, Nat.zero_testBit]
    cases e : (agB W b g T T).testBit j with
    | false => rfl
    | true =>
      rcases ag_bit.mp e with ⟨-, q⟩ | ⟨q1, q2⟩
      · exact absurd h3 q
      · cases e2 : s.testBit j with
        | false => rfl
        | true => exact absurd q2 (h4 j q1 e2)
theorem wl_step {s T : Nat} (hT : T < 16) (h1 : 2 ^ T ≤ s) (h2 : s < 2 ^ (T + 1)) : wlB W b g s = true ↔ wlB W b g (s % 2 ^ T) = true ∧ agB W b g T T &&& s = 0 := by
  obtain ⟨t1, t2, t3⟩ := top_bits h1 h2
  rw [ag_and h1 h2, wl_i, wl_i]
  have hb : ∀ j, (s % 2 ^ T).testBit j = true ↔ j < T ∧ s.testBit j = true := by
    intro j
    rw [t3, Bool.and_eq_true, decide_eq_true_iff]
  constructor
  · intro h
    refine ⟨fun a ha hba => ?_, h T hT t1⟩
    have hba := (hb a).mp hba
    obtain ⟨q1, q2⟩ := h a ha hba.2
    exact ⟨q1, fun c hc hbc => q2 c hc ((hb c).mp hbc).2⟩
  · rintro ⟨h3, h4⟩ a ha hba
    by_cases e : a = T
    · rw [e]; exact h4
    · have haT : a < T := by
        rcases Nat.lt_or_ge T a with q | q
        · rw [t2 a q] at hba; cases hba
        · omega
      obtain ⟨q1, q2⟩ := h3 a ha ((hb a).mpr ⟨haT, hba⟩)
      exact ⟨q1, fun c hc hbc => q2 c hc ((hb c).mpr ⟨by omega, hbc⟩)⟩
theorem wt_hi {p : Nat → Nat} {S : Nat → Bool} {a : Nat} (h : ∀ j, a ≤ j → S j = false) : ∀ {k : Nat}, wtF p S (a + k) = wtF p S a := by
  intro k
  induction k with
  | zero => rfl
  | succ k ih => rw [← Nat.add_assoc, wt_f (by rw [h _ (Nat.le_add_right _ _)]; decide), ih]
theorem wt_step {p : Nat → Nat} {s T : Nat} (hT : T < 16) (h1 : 2 ^ T ≤ s) (h2 : s < 2 ^ (T + 1)) : wtF p s.testBit 16 = wtF p (s % 2 ^ T).testBit 16 + p T := by
  obtain ⟨t1, t2, t3⟩ := top_bits h1 h2
  have e1 := wt_hi (p := p) (S := s.testBit) (a := T + 1) (fun j hj => t2 j (by omega)) (k := 16 - (T + 1))
  have e2 := wt_hi (p := p) (S := (s % 2 ^ T).testBit) (a := T) (fun j hj => by rw [t3, decide_eq_false (by omega), Bool.false_and]) (k := 16 - T)
  rw [show T + 1 + (16 - (T + 1)) = 16 by omega] at e1
  rw [show T + (16 - T) = 16 by omega] at e2
  rw [e1, e2, wt_t t1]
  congr 1
  exact wt_c (fun j hj => by rw [t3, decide_eq_true hj, Bool.true_and])
theorem md_top {s T : Nat} (hs : s < 2 ^ 16) (hT : T < 16) (h1 : 2 ^ T ≤ s) (h2 : s < 2 ^ (T + 1)) : mdN s (2 ^ T) = s % 2 ^ T := by
  obtain ⟨t1, t2, t3⟩ := top_bits h1 h2
  apply mext
  · intro j hj
    rw [md_bit hj, t3, Nat.testBit_two_pow]
    by_cases e : j < T
    · rw [decide_eq_true e, decide_eq_false (by omega)]; simp
    · rw [decide_eq_false e]
      by_cases e2 : T = j
      · rw [decide_eq_true e2]; simp
      · rw [t2 j (by omega)]; simp
  · exact md_lt
  · exact Nat.lt_of_le_of_lt (Nat.mod_le _ _) hs
theorem sh1' {k : Nat} (hk : k ≤ 16) : (1 : Int32) <<< (nI k &&& 31) = nI (2 ^ k) := by
  have : 2 ^ k ≤ 2 ^ 16 := Nat.pow_le_pow_right (by decide) hk
  rw [a31 (by omega), show (1 : Int32) = nI 1 from rfl, pk_shlN (nI k) k (sm32 k (by omega)) (by omega), Nat.one_mul]
def BI (W : Nat → Bool) (b g : Nat → Nat → Nat) (s best : Nat) : Prop := best < s ∧ wlB W b g best = true ∧ ∀ S, S < s → wlB W b g S = true → wtF (fun k => pN g (b k)) S.testBit 16 < wtF (fun k => pN g (b k)) best.testBit 16 ∨ (wtF (fun k => pN g (b k)) S.testBit 16 = wtF (fun k => pN g (b k)) best.testBit 16 ∧ best ≤ S)
theorem okx102 {k : Nat} (h : k < 65536) : vh_ixa 102 (nI k) = true := ixa (by rw [kd102]; exact h) (by omega)
theorem okx103 {k : Nat} (h : k < 65536) : vh_ixa 103 (nI k) = true := ixa (by rw [kd103]; exact h) (by omega)
theorem l189c {l1 l2 l3 : Option Value} {x : Int32} (B : DiB n b g) : ∀ (r s best T : Nat) (mi : Nat → Nat → Int32) (l8 : Option Value), s + r = 2 ^ n → 1 ≤ s → s - 1 < 2 ^ (T + 1) → (s = 1 ∧ T = 0 ∨ 2 ^ T ≤ s - 1) → DiM mi n b g → (∀ S, S < s → mi 102 S = vb (wlB W b g S = true) ∧ mi 103 S = nI (wtF (fun k => pN g (b k)) S.testBit 16)) → (∀ k, k < n → mi 104 k = nI (agB W b g k k)) → BI W b g s best → ∃ best' f102 f103, vh_E 189 213 [some (.ref 88), l1, l2, l3, some (.int x), some (.int (nI best)), some (.int (nI T)), some (.int (nI s)), l8] [] (vh_K d mi ml) = some (some (.int (if x = 0 then nI best' else nI (wtF (fun k => pN g (b k)) best'.testBit 16))), vh_K d (vh_sA (vh_sA mi 102 f102) 103 f103) ml) ∧ BI W b g (2 ^ n) best' := by
  have hn := B.1
  have h2n : 2 ^ n ≤ 2 ^ 16 := Nat.pow_le_pow_right (by decide) hn
  intro r
  induction r with
  | zero =>
    intro s best T mi l8 hs h1 hT1 hT2 HM hA h104 hB
    have : s = 2 ^ n := by omega
    have hb16 : best < 65536 := by have := hB.1; omega
    refine ⟨best, mi 102, mi 103, ?_, by rw [← this]; exact hB⟩
    rw [sAe, sAe]
    simp only [e189_213, e189_215, e189_216, e189_217, e189_220, e189_221, e189_353, e189_355, e189_358, e189_360, e189_363, e189_364, e189_367, e189_369, e189_370, ok88, ok103, rf88_29, okx103 hb16, nI_clamp (show best < 2 ^ 31 by omega), (hA best hB.1).2, HM.sz, sh1' hn, nI_leI (show 2 ^ n < 2 ^ 31 by omega) (show s < 2 ^ 31 by omega), show 2 ^ n ≤ s by omega, if_true]
    by_cases q : x = 0
    · rw [if_neg (not_not_intro q), if_pos q]
    · rw [if_pos q, if_neg q]
  | succ r ih =>
    intro s best T mi l8 hs h1 hT1 hT2 HM hA h104 hB
    have hs2 : s < 2 ^ n := by omega
    have hs16 : s < 65536 := by omega
    -- the new top
    obtain ⟨T', hT', t1, t2⟩ : ∃ T', T' = (if s < 2 ^ (T + 1) then T else T + 1) ∧ 2 ^ T' ≤ s ∧ s < 2 ^ (T' + 1) := by
      have e2 : 2 ^ (T + 1 + 1) = 2 ^ (T + 1) * 2 := Nat.pow_succ ..
      by_cases q : s < 2 ^ (T + 1)
      · refine ⟨T, (if_pos q).symm, ?_, q⟩
        rcases hT2 with ⟨z1, z2⟩ | z
        · rw [z1, z2]; decide
        · omega
      · exact ⟨T + 1, (if_neg q).symm, by omega, by omega⟩
    have hTn : T' < n := by
      rcases Nat.lt_or_ge T' n with q | q
      · exact q
      · have := Nat.pow_le_pow_right (show 0 < 2 by decide) q
        omega
    have hT16 : T' < 16 := by omega
    have hTT : T ≤ T' := by rw [hT']; split <;> omega
    have hrest := Nat.mod_lt s (Nat.two_pow_pos T')
    have hrs : s % 2 ^ T' < s := by omega
    obtain ⟨r1, r2⟩ := hA _ hrs
    have hp := B.pr hTn
    have hw1 := wt_le (p := fun k => pN g (b k)) (S := (s % 2 ^ T').testBit) (c := 96000) (k := n) (fun j hj => (B.pr hj).2)
    have hstep := wt_step (p := fun k => pN g (b k)) hT16 t1 t2
    have hwl := wl_step (W := W) (b := b) (g := g) hT16 t1 t2
    have hal := ag_lt (b := b) (g := g) (W := W) hT16 (Nat.le_of_lt hT16)
    have hand : nI (agB W b g T' T') &&& nI s = nI (agB W b g T' T' &&& s) := andN (by omega) (by omega)
    have hand0 : nI (agB W b g T' T' &&& s) = 0 ↔ agB W b g T' T' &&& s = 0 := nI_eq (b := 0) (Nat.lt_of_le_of_lt Nat.and_le_left (by omega)) (by decide)
    have wbound : ∀ S, S < 2 ^ n → wtF (fun k => pN g (b k)) S.testBit 16 ≤ 96000 * 16 := by
      intro S hS
      have e := wt_hi (p := fun k => pN g (b k)) (S := S.testBit) (a := n) (fun j hj => Nat.testBit_lt_two_pow (Nat.lt_of_lt_of_le hS (Nat.pow_le_pow_right (by decide) hj))) (k := 16 - n)
      rw [show n + (16 - n) = 16 by omega] at e
      rw [e]
      have := wt_le (p := fun k => pN g (b k)) (S := S.testBit) (c := 96000) (k := n) (fun j hj => (B.pr hj).2)
      have h96 : 96000 * n ≤ 96000 * 16 := Nat.mul_le_mul_left _ hn
      omega
    have shr : nI s >>> (nI (T + 1) &&& 31) = nI (s / 2 ^ (T + 1)) := by
      rw [a31 (by omega), pk_shrN (by omega) _ (T + 1) (sm32 (T + 1) (by omega))]
    have hz : nI (s / 2 ^ (T + 1)) ≤ 0 ↔ s < 2 ^ (T + 1) := by
      rw [show (0 : Int32) = nI 0 from rfl, nI_leI (Nat.lt_of_le_of_lt (Nat.div_le_self _ _) (by omega)) (by decide), Nat.le_zero, Nat.div_eq_zero_iff]
      constructor
      · rintro (z | z)
        · have := Nat.two_pow_pos (T + 1); omega
        · exact z
      · intro z; exact Or.inr z
    have top : vh_E 189 213 [some (.ref 88), l1, l2, l3, some (.int x), some (.int (nI best)), some (.int (nI T)), some (.int (nI s)), l8] [] (vh_K d mi ml) = vh_E 189 242 [some (.ref 88), l1, l2, l3, some (.int x), some (.int (nI best)), some (.int (nI T)), some (.int (nI s)), l8] [.int (nI T')] (vh_K d mi ml) := by
      rw [e189_213]
      simp only [e189_215, e189_216, e189_217, e189_220, e189_221, e189_224, e189_226, e189_228, e189_230, e189_231, e189_232, e189_233, e189_236, e189_237, e189_240, e189_241, ok88, HM.sz, sh1' hn, nI_leI (show 2 ^ n < 2 ^ 31 by omega) (show s < 2 ^ 31 by omega), show ¬ 2 ^ n ≤ s by omega, if_false, nI_1, shr, hz, Int32.add_zero]
      by_cases q : s < 2 ^ (T + 1)
      · rw [if_pos q, hT', if_pos q]
      · rw [if_neg q, hT', if_neg q]
    have well : ∀ l6 : Option Value, vh_E 189 255 [some (.ref 88), l1, l2, l3, some (.int x), some (.int (nI best)), some (.int (nI T')), some (.int (nI s)), some (.int (nI (s % 2 ^ T')))] [] (vh_K d mi ml) = vh_E 189 290 [some (.ref 88), l1, l2, l3, some (.int x), some (.int (nI best)), some (.int (nI T')), some (.int (nI s)), some (.int (nI (s % 2 ^ T')))] [] (vh_K d (vh_sA mi 102 (upd (mi 102) s (vb (wlB W b g s = true)))) ml) := by
      intro l6
      simp only [e189_255, e189_256, e189_259, e189_261, e189_262, e189_265, e189_267, e189_268, e189_271, e189_272, e189_275, e189_277, e189_278, e189_280, e189_281, e189_284, e189_285, e189_288, e189_289, ok88, ok102, ok104, rf88_28, rf88_30, okx102 hs16, okx102 (show s % 2 ^ T' < 65536 by omega), okx104 hT16, nI_clamp (show s < 2 ^ 31 by omega), nI_clamp (show s % 2 ^ T' < 2 ^ 31 by omega), clK (show T' < 1000 by omega), r1, h104 T' hTn, hand, hand0, not_true_eq_false, not_false_eq_true, if_true, if_false, and_self, vh_bds, vh_ps1, vh_ps0, vb0, vb1, vbz, vbo]
      by_cases q1 : wlB W b g (s % 2 ^ T') = true
      · rw [if_neg (not_not_intro q1)]
        by_cases q2 : agB W b g T' T' &&& s = 0
        · rw [if_neg (not_not_intro q2), vb_t (hwl.mpr ⟨q1, q2⟩)]
        · rw [if_pos q2, vb_f (fun z => q2 (hwl.mp z).2)]
      · rw [if_pos q1, vb_f (fun z => q1 (hwl.mp z).1)]
    have hmd : nI s &&& (nI (2 ^ T') ^^^ -1) = nI (s % 2 ^ T') := by rw [andNot (by omega) (p16 hT16), md_top (by omega) hT16 t1 t2]
    have wr : nI (wtF (fun k => pN g (b k)) (s % 2 ^ T').testBit 16) + nI (pN g (b T')) = nI (wtF (fun k => pN g (b k)) s.testBit 16) := by rw [nI_add, hstep]
    have HM2 : DiM (vh_sA mi 102 (upd (mi 102) s (vb (wlB W b g s = true)))) n b g := HM.fr (by omega)
    have hbs := hB.1
    have hA' : ∀ S, S < s + 1 → (vh_sA (vh_sA mi 102 (upd (mi 102) s (vb (wlB W b g s = true)))) 103 (upd (mi 103) s (nI (wtF (fun k => pN g (b k)) s.testBit 16)))) 102 S = vb (wlB W b g S = true) ∧ (vh_sA (vh_sA mi 102 (upd (mi 102) s (vb (wlB W b g s = true)))) 103 (upd (mi 103) s (nI (wtF (fun k => pN g (b k)) s.testBit 16)))) 103 S = nI (wtF (fun k => pN g (b k)) S.testBit 16) := by
      intro S hS
      rw [sAn (by decide), sAs, sAs]
      by_cases e : S = s
      · subst e; rw [ups, ups]; exact ⟨rfl, rfl⟩
      · rw [upn e, upn e]; exact hA S (by omega)
    have fin : ∀ best1, BI W b g (s + 1) best1 → ∃ best' f102 f103, vh_E 189 213 [some (.ref 88), l1, l2, l3, some (.int x), some (.int (nI best1)), some (.int (nI T')), some (.int (nI (s + 1))), some (.int (nI (s % 2 ^ T')))] [] (vh_K d (vh_sA (vh_sA mi 102 (upd (mi 102) s (vb (wlB W b g s = true)))) 103 (upd (mi 103) s (nI (wtF (fun k => pN g (b k)) s.testBit 16)))) ml) = some (some (.int (if x = 0 then nI best' else nI (wtF (fun k => pN g (b k)) best'.testBit 16))), vh_K d (vh_sA (vh_sA mi 102 f102) 103 f103) ml) ∧ BI W b g (2 ^ n) best' := by
      intro best1 hB1
      obtain ⟨best', f102, f103, h3, h4⟩ := ih (s + 1) best1 T' _ (some (.int (nI (s % 2 ^ T')))) (by omega) (by omega) (by omega) (Or.inr (by omega)) (HM2.fr (by omega)) hA' (by simp only [sAn, sAs, sAA, ups, upn, bkv_n, hlv_n, ne_eq, Nat.reduceEqDiff, Nat.reduceLT, Nat.reduceLeDiff, or_true, true_or, not_false_eq_true]; exact h104) hB1
      refine ⟨best', f102, f103, ?_, h4⟩
      have e : vh_sA (vh_sA (vh_sA (vh_sA mi 102 (upd (mi 102) s (vb (wlB W b g s = true)))) 103 (upd (mi 103) s (nI (wtF (fun k => pN g (b k)) s.testBit 16)))) 102 f102) 103 f103 = vh_sA (vh_sA mi 102 f102) 103 f103 := by
        funext c
        unfold vh_sA
        by_cases c1 : c = 103
        · subst c1; rfl
        · by_cases c2 : c = 102
          · subst c2; rfl
          · simp only [c1, c2, if_false]
      rw [e] at h3
      exact h3
    rw [top]
    simp only [e189_242, e189_244, e189_246, e189_247, e189_249, e189_250, e189_251, e189_252, e189_253, sh1' (show T' ≤ 16 by omega), hmd]
    rw [well none]
    have hble := wbound best (by omega)
    have hsle := wbound s hs2
    simp only [e189_290, e189_291, e189_294, e189_296, e189_297, e189_300, e189_302, e189_303, e189_304, e189_306, e189_309, e189_310, e189_311, e189_312, e189_315, e189_317, e189_318, e189_321, e189_322, e189_325, e189_327, e189_328, e189_329, e189_332, e189_334, e189_335, e189_338, e189_340, e189_343, e189_345, e189_347, e189_350, ok88, ok102, ok103, rf88_28, rf88_29, okx102 hs16, okx103 hs16, okx103 (show s % 2 ^ T' < 65536 by omega), okx103 (show best < 65536 by omega), nI_clamp (show s < 2 ^ 31 by omega), nI_clamp (show best < 2 ^ 31 by omega), nI_clamp (show s % 2 ^ T' < 2 ^ 31 by omega), sAn (show 103 ≠ 102 by decide), sAn (show 102 ≠ 103 by decide), sAs, ups, upn (show best ≠ s by omega), r2, (hA best hbs).2, s179 HM2 B hTn, hp.1, wr, nI_leI (show wtF (fun k => pN g (b k)) s.testBit 16 < 2 ^ 31 by omega) (show wtF (fun k => pN g (b k)) best.testBit 16 < 2 ^ 31 by omega), nI_1, not_true_eq_false, not_false_eq_true, if_true, if_false, and_self, vh_bds, vh_ps1, vh_ps0, vb0, vb1, vbz, vbo]
    by_cases q1 : wlB W b g s = true
    · rw [if_neg (not_not_intro q1)]
      by_cases q2 : wtF (fun k => pN g (b k)) s.testBit 16 ≤ wtF (fun k => pN g (b k)) best.testBit 16
      · rw [if_pos q2]
        refine fin best ⟨by omega, hB.2.1, ?_⟩
        intro S hS hw
        by_cases e : S = s
        · subst e; omega
        · exact hB.2.2 S (by omega) hw
      · rw [if_neg q2]
        refine fin s ⟨by omega, q1, ?_⟩
        intro S hS hw
        by_cases e : S = s
        · subst e; exact Or.inr ⟨rfl, Nat.le_refl _⟩
        · rcases hB.2.2 S (by omega) hw with z | z <;> omega
    · rw [if_pos q1]
      refine fin best ⟨by omega, hB.2.1, ?_⟩
      intro S hS hw
      by_cases e : S = s
      · subst e; exact absurd hw q1
      · exact hB.2.2 S (by omega) hw
end

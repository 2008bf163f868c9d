section
variable {d : Nat} {ml : Nat → Nat → Int64} {n : Nat} {b g : Nat → Nat → Nat} {H D F E P M mv : Nat} {go : Nat → Option Nat} {fl : Option Nat}
theorem l190s {i : Nat} {x : Int32} {l2 l5 : Option Value} {mi : Nat → Nat → Int32} (HM : DiM mi n b g) (B : DiB n b g) (hi : i < n) (hM : M < 2 ^ 16) (hmv : mv < 2 ^ 16) (hH : H < 4) (hF : F < E) (hE : E ≤ 96) (hfl : ∀ y, fl = some y → y < 1000) (h32 : mi 88 32 = nI mv) (hgo : ∀ c y, go c = some y → y < 1000) (h105 : ∀ c, c < 16 → mi 105 c = bvI (go c)) (hgi : go i = none) (hbit : mv.testBit i = true) : ∀ (r s cnt : Nat) (l12 : Option Value), s + r = 8 → ∃ l11' l12', vh_E 190 216 [some (.ref 88), some (.int (nI H)), l2, some (.int (nI F)), some (.int (nI E)), l5, some (.int x), some (.int (nI M)), some (.int (bvI fl)), some (.int (nI cnt)), some (.int (nI i)), some (.int (nI s)), l12] [] (vh_K d mi ml) = vh_E 190 306 [some (.ref 88), some (.int (nI H)), l2, some (.int (nI F)), some (.int (nI E)), l5, some (.int x), some (.int (nI M)), some (.int (bvI fl)), some (.int (nI (cnt + (if (fnd (fun s => fvA b g H F E M mv go fl i ((H + s / 2) % 4) (s % 2) n) r s).isSome = true then 1 else 0)))), some (.int (nI i)), l11', l12'] [] (vh_K d (match fnd (fun s => fvA b g H F E M mv go fl i ((H + s / 2) % 4) (s % 2) n) r s with
    | none => mi
    | some s0 => vh_sA mi 105 (upd (mi 105) i (nI (plS H s0)))) ml) := by
  have hn := B.1
  have hi6 : i < 16 := by omega
  have x1 : vh_ixa 105 (nI i) = true := ixa (by rw [kd105]; omega) (by omega)
  intro r
  induction r with
  | zero =>
    intro s cnt l12 hs
    have : s = 8 := by omega
    subst this
    refine ⟨some (.int (nI 8)), l12, ?_⟩
    simp only [e190_216, e190_218, e190_220, show (8 : Int32) ≤ nI 8 by decide, if_true, fnd, Option.isSome_none, Bool.false_eq_true, if_false, Nat.add_zero]
  | succ r ih =>
    intro s cnt l12 hs
    have d1 : nI s / 2 = nI (s / 2) := pk_div (d := 2) (by omega) (by decide) (by decide)
    have d2 : nI s - nI (s / 2) * 2 = nI (s % 2) := by rw [← d1]; exact pk_rem (d := 2) (by omega) (by decide) (by decide)
    have d3 : nI (H + s / 2) - nI (H + s / 2) / 4 * 4 = nI ((H + s / 2) % 4) := pk_rem (d := 4) (by omega) (by decide) (by decide)
    have hfr := s193 (d := d) (ml := ml) (k := i) (h := (H + s / 2) % 4) (f := s % 2) HM B hM hmv hi (by omega) (by omega) hH hF hE hfl h32 hgo h105
    have e2 : (2 : Int32) * nI ((H + s / 2) % 4) + nI (s % 2) = nI (plS H s) := by rw [show (2 : Int32) * nI ((H + s / 2) % 4) = nI (2 * ((H + s / 2) % 4)) from pk_mul 2 _, nI_add]; rfl
    have hgi' : mi 105 i = -1000000 := by rw [h105 i hi6, hgi]; rfl
    rw [e190_216]
    simp only [e190_218, e190_220, e190_223, e190_224, e190_227, e190_229, e190_230, e190_231, e190_232, e190_233, e190_236, e190_237, e190_240, e190_242, e190_243, e190_245, e190_248, e190_249, e190_251, e190_252, e190_253, e190_254, e190_255, e190_256, e190_258, e190_259, e190_261, e190_263, e190_265, e190_266, e190_267, e190_269, e190_270, e190_272, e190_273, e190_275, e190_278, e190_281, e190_282, e190_285, e190_287, e190_288, e190_290, e190_291, e190_293, e190_294, e190_295, e190_296, e190_297, e190_300, e190_303, ok88, ok105, rf88_31, x1, clK (show i < 1000 by omega), h32, hgi', show ¬ (8 : Int32) ≤ nI s from nI_ge (b := 8) (by omega) (by decide), bt (show mv < 2 ^ 31 by omega) (show i < 31 by omega), hbit, vbe, show ¬ (2 : Int32) = 0 by decide, show ¬ (4 : Int32) = 0 by decide, d2, d1, nI_add, d3, e2, hfr, nI_1, not_true_eq_false, not_false_eq_true, if_true, if_false, and_self, vh_bds, vh_ps1, vh_ps0, vb0, vb1, vbz, vbo]
    unfold fnd
    by_cases q : fvA b g H F E M mv go fl i ((H + s / 2) % 4) (s % 2) n = true
    · rw [if_neg (not_not_intro q), if_pos q]
      have nm : ¬ nI (plS H s) = (-1000000 : Int32) := nmN (by have := plS_lt (H := H) (s := s); omega)
      by_cases q8 : s = 7
      · subst q8
        refine ⟨some (.int (nI 8)), some (.int (nI ((H + 7 / 2) % 4))), ?_⟩
        simp only [e190_216, e190_218, e190_220, show (8 : Int32) ≤ nI (7 + 1) by decide, if_true, Option.isSome_some]
      · refine ⟨some (.int (nI (s + 1))), some (.int (nI ((H + s / 2) % 4))), ?_⟩
        simp only [e190_216, e190_218, e190_220, e190_223, e190_224, e190_227, e190_229, e190_230, e190_231, e190_232, e190_233, e190_236, e190_237, e190_240, e190_242, e190_243, e190_245, ok88, ok105, rf88_31, x1, clK (show i < 1000 by omega), sAn, sAs, sAA, ups, upn, bkv_n, hlv_n, ne_eq, Nat.reduceEqDiff, Nat.reduceLT, Nat.reduceLeDiff, or_true, true_or, not_false_eq_true, h32, nm, show ¬ (8 : Int32) ≤ nI (s + 1) from nI_ge (b := 8) (by omega) (by decide), bt (show mv < 2 ^ 31 by omega) (show i < 31 by omega), hbit, vbe, Option.isSome_some, not_true_eq_false, not_false_eq_true, if_true, if_false, and_self, vh_bds, vh_ps1, vh_ps0, vb0, vb1, vbz, vbo]
    · rw [if_pos q, if_neg q]
      exact ih (s + 1) cnt _ (by omega)
theorem l190o {x : Int32} {l2 l5 : Option Value} {B0 : DiB n b g} (hM : M < 2 ^ 16) (hmv : mv < 2 ^ 16) (hH : H < 4) (hF : F < E) (hE : E ≤ 96) (hfl : ∀ y, fl = some y → y < 1000) : ∀ (j i : Nat) (l11 l12 : Option Value) (mi : Nat → Nat → Int32), i + j = n → DiM mi n b g → mi 88 32 = nI mv → (∀ c, c < 16 → mi 105 c = bvI (goT b g H F E M mv fl n i c)) → ∃ l11' l12' f', vh_E 190 204 [some (.ref 88), some (.int (nI H)), l2, some (.int (nI F)), some (.int (nI E)), l5, some (.int x), some (.int (nI M)), some (.int (bvI fl)), some (.int (nI (cntG b g H F E M mv fl n i))), some (.int (nI i)), l11, l12] [] (vh_K d mi ml) = vh_E 190 312 [some (.ref 88), some (.int (nI H)), l2, some (.int (nI F)), some (.int (nI E)), l5, some (.int x), some (.int (nI M)), some (.int (bvI fl)), some (.int (nI (cntG b g H F E M mv fl n n))), some (.int (nI n)), l11', l12'] [] (vh_K d (vh_sA mi 105 f') ml) ∧ ∀ c, c < 16 → f' c = bvI (goT b g H F E M mv fl n n c) := by
  have hn := B0.1
  intro j
  induction j with
  | zero =>
    intro i l11 l12 mi hi HM h32 h105
    have : i = n := by omega
    subst this
    refine ⟨l11, l12, mi 105, ?_, h105⟩
    rw [sAe]
    simp only [e190_204, e190_206, e190_207, e190_210, ok88, HM.sz, nI_le (Nat.le_refl i) (show i < 2 ^ 31 by omega), if_true]
  | succ j ih =>
    intro i l11 l12 mi hi HM h32 h105
    have hin : i < n := by omega
    by_cases q : mv.testBit i = true
    · obtain ⟨l11', l12', A⟩ := l190s (d := d) (ml := ml) (x := x) (l2 := l2) (l5 := l5) (go := goT b g H F E M mv fl n i) HM B0 hin hM hmv hH hF hE hfl h32 (fun c y h => by have := (go_lt h).1; omega) h105 (go_hi (Nat.le_refl _)) q 8 0 (cntG b g H F E M mv fl n i) l12 (by omega)
      have hcnt : cntG b g H F E M mv fl n i + (if (fnd (fun s => fvA b g H F E M mv (goT b g H F E M mv fl n i) fl i ((H + s / 2) % 4) (s % 2) n) 8 0).isSome = true then 1 else 0) = cntG b g H F E M mv fl n (i + 1) := by
        show _ = _ + _
        rw [go_at q, Option.isSome_map]
      rw [hcnt] at A
      have key : ∀ mi', mi' = (match fnd (fun s => fvA b g H F E M mv (goT b g H F E M mv fl n i) fl i ((H + s / 2) % 4) (s % 2) n) 8 0 with
          | none => mi
          | some s0 => vh_sA mi 105 (upd (mi 105) i (nI (plS H s0)))) → DiM mi' n b g ∧ mi' 88 32 = nI mv ∧ (∀ c, c < 16 → mi' 105 c = bvI (goT b g H F E M mv fl n (i + 1) c)) ∧ ∀ f', vh_sA mi' 105 f' = vh_sA mi 105 f' := by
        intro mi' e
        cases e0 : fnd (fun s => fvA b g H F E M mv (goT b g H F E M mv fl n i) fl i ((H + s / 2) % 4) (s % 2) n) 8 0 with
        | none =>
          rw [e0] at e
          subst e
          refine ⟨HM, h32, ?_, fun _ => rfl⟩
          intro c hc
          by_cases ec : c = i
          · rw [ec, go_at q, e0, h105 i (by omega), go_hi (Nat.le_refl _)]; rfl
          · rw [go_ne ec]; exact h105 c hc
        | some s0 =>
          rw [e0] at e
          have e : mi' = vh_sA mi 105 (upd (mi 105) i (nI (plS H s0))) := e
          subst e
          refine ⟨HM.fr (by omega), by simp only [sAn, sAs, sAA, ups, upn, bkv_n, hlv_n, ne_eq, Nat.reduceEqDiff, Nat.reduceLT, Nat.reduceLeDiff, or_true, true_or, not_false_eq_true]; exact h32, ?_, fun _ => sAA⟩
          intro c hc
          rw [sAs]
          by_cases ec : c = i
          · rw [ec, ups, go_at q, e0]; rfl
          · rw [upn ec, go_ne ec]; exact h105 c hc
      obtain ⟨k1, k2, k3, k4⟩ := key _ rfl
      obtain ⟨l11'', l12'', f', h1, h2⟩ := ih (i + 1) l11' l12' _ (by omega) k1 k2 k3
      refine ⟨l11'', l12'', f', ?_, h2⟩
      rw [k4] at h1
      rw [← h1, e190_204]
      simp only [e190_206, e190_207, e190_210, e190_213, e190_214, ok88, HM.sz, nI_ge hin (show n < 2 ^ 31 by omega), if_false]
      refine Eq.trans A ?_
      simp only [e190_306, e190_309, nI_1]
    · have e1 : ∀ c, goT b g H F E M mv fl n (i + 1) c = goT b g H F E M mv fl n i c := fun c => go_no q
      obtain ⟨l11'', l12'', f', h1, h2⟩ := ih (i + 1) (some (.int (nI 0))) l12 mi (by omega) HM h32 (fun c hc => by rw [e1]; exact h105 c hc)
      refine ⟨l11'', l12'', f', ?_, h2⟩
      have hcnt : cntG b g H F E M mv fl n (i + 1) = cntG b g H F E M mv fl n i := by
        show _ + _ = _
        rw [e1, go_hi (Nat.le_refl _)]; rfl
      rw [hcnt] at h1
      rw [← h1, e190_204]
      simp only [e190_206, e190_207, e190_210, e190_213, e190_214, e190_216, e190_218, e190_220, e190_223, e190_224, e190_227, e190_229, e190_230, e190_231, e190_232, e190_233, e190_306, e190_309, ok88, HM.sz, h32, nI_ge hin (show n < 2 ^ 31 by omega), bt (show mv < 2 ^ 31 by omega) (show i < 31 by omega), q, vbe, show ¬ (8 : Int32) ≤ 0 by decide, nI_1, not_true_eq_false, not_false_eq_true, if_true, if_false, and_self, vh_bds, vh_ps1, vh_ps0, vb0, vb1, vbz, vbo]
      rfl
end

section
variable {G : Nat → Nat → Nat} {h u r : Nat}
theorem rs_v {h' j' : Nat} : rs G h u r h' j' = if h' = h ∧ 20 ≤ j' ∧ j' < 25 then (if j' = 20 + u then r else if r ≤ G h j' ∧ G h j' < G h (20 + u) then G h j' + 1 else G h j') else G h' j' := rfl
theorem rs_o {h' j' : Nat} (e : ¬ (h' = h ∧ 20 ≤ j' ∧ j' < 25)) : rs G h u r h' j' = G h' j' := if_neg e
theorem rs_u {c : Nat} (hc : c < 5) : rs G h u r h (20 + c) = if c = u then r else if r ≤ G h (20 + c) ∧ G h (20 + c) < G h (20 + u) then G h (20 + c) + 1 else G h (20 + c) := by
  rw [rs_v, if_pos ⟨rfl, by omega, by omega⟩]
  by_cases e : c = u
  · rw [if_pos (by omega), if_pos e]
  · rw [if_neg (by omega), if_neg e]
theorem rs_H (hG : ∀ h, h < 4 → HlB (G h)) (hh : h < 4) (hu : u < 5) (hr : r ≤ G h (20 + u)) : ∀ h', h' < 4 → HlB (rs G h u r h') := by
  intro h' hh'
  obtain ⟨a0, a1, a2, a3, a4, a5, a6, a7⟩ := hG h' hh'
  by_cases e : h' = h
  · subst e
    have hu4 := a6 u hu
    refine ⟨by rw [rs_o (by omega)]; exact a0, by rw [rs_o (by omega)]; exact a1, by rw [rs_o (by omega)]; exact a2, by rw [rs_o (by omega)]; exact a3, fun f hf => by rw [rs_o (by omega)]; exact a4 f hf, fun f hf => by rw [rs_o (by omega)]; exact a5 f hf, ?_, ?_⟩
    · intro v hv
      rw [rs_u hv]
      have := a6 v hv
      split
      · omega
      · split <;> omega
    · intro v w hv hw
      rw [rs_u hv, rs_u hw]
      have n1 : v ≠ u → G h' (20 + v) ≠ G h' (20 + u) := fun z w => z (a7 v u hv hu w)
      have n2 : w ≠ u → G h' (20 + w) ≠ G h' (20 + u) := fun z y => z (a7 w u hw hu y)
      have n3 : v ≠ w → G h' (20 + v) ≠ G h' (20 + w) := fun z y => z (a7 v w hv hw y)
      by_cases e1 : v = u
      · rw [if_pos e1]
        by_cases e2 : w = u
        · omega
        · rw [if_neg e2]
          have := n2 e2
          split <;> omega
      · rw [if_neg e1]
        have := n1 e1
        by_cases e2 : w = u
        · rw [if_pos e2]
          split <;> omega
        · rw [if_neg e2]
          have := n2 e2
          intro z
          by_cases e3 : v = w
          · exact e3
          · have := n3 e3
            split at z <;> split at z <;> omega
  · have hx : rs G h u r h' = G h' := by funext j; exact rs_o (fun z => e z.1)
    rw [hx]
    exact ⟨a0, a1, a2, a3, a4, a5, a6, a7⟩
theorem rs_met {met : Nat} (hB : HlB (G h)) (hu : u < 5) (hr : r ≤ G h (20 + u)) (hm : ∀ v, v < 5 → (met.testBit v = true ↔ G h (20 + v) < r)) : ∀ v, v < 5 → ((met ||| 2 ^ u).testBit v = true ↔ rs G h u r h (20 + v) < r + 1) := by
  intro v hv
  rw [bitor, Bool.or_eq_true, decide_eq_true_iff, hm v hv, rs_u hv]
  obtain ⟨a0, a1, a2, a3, a4, a5, a6, a7⟩ := hB
  have n1 : v ≠ u → G h (20 + v) ≠ G h (20 + u) := fun z w => z (a7 v u hv hu w)
  by_cases e : v = u
  · rw [if_pos e]; omega
  · rw [if_neg e]
    have := n1 e
    split <;> omega
end
section
variable {d : Nat} {mb : Nat → Nat → Int32} {ml : Nat → Nat → Int64} {N : Nat} {T : Nat → Nat} {q c : Nat} {G : Nat → Nat → Nat}
def rs0 (G : Nat → Nat → Nat) (h u r c : Nat) : Nat := if r ≤ G h (20 + c) ∧ G h (20 + c) < G h (20 + u) then G h (20 + c) + 1 else G h (20 + c)
theorem l55 {u r : Nat} (hd : d < 4) (hu : u < 5) (hr : r ≤ 5) (hG : ∀ v, v < 5 → G d (20 + v) ≤ 4) : ∀ (s i : Nat) (mi : Nat → Nat → Int32), i + s = 5 → (∀ v, v < i → mi (29 + 4 * d) v = nI (rs0 G d u r v)) → (∀ v, i ≤ v → v < 5 → mi (29 + 4 * d) v = nI (G d (20 + v))) → ∃ f, vh_E 55 10 [some (.ref (26 + 4 * d)), some (.int (nI u)), some (.int (nI r)), some (.int (nI (G d (20 + u)))), some (.int (nI i))] [] (vh_K d mi ml) = some (none, vh_K d (vh_sA mi (29 + 4 * d) f) ml) ∧ ∀ v, v < 5 → f v = nI (rs G d u r d (20 + v)) := by
  have ix : ∀ v, v < 5 → vh_ixa (29 + 4 * d) (nI v) = true := fun v hv => ixa (by rw [kdEk hd]; exact hv) (by omega)
  have hu4 := hG u hu
  intro s
  induction s with
  | zero =>
    intro i mi hi h1 h2
    have : i = 5 := by omega
    subst this
    refine ⟨upd (mi (29 + 4 * d)) u (nI r), ?_, ?_⟩
    · simp only [e55_10, e55_12, e55_13, e55_55, e55_56, e55_59, e55_60, e55_61, e55_62, okE hd, rfEk hd, okEk hd, ix u hu, clK (show u < 1000 by omega), show (5 : Int32) ≤ nI 5 by decide, if_true]
    · intro v hv
      rw [rs_u hv]
      by_cases e : v = u
      · rw [if_pos e, e, ups]
      · rw [if_neg e, upn e, h1 v hv]; rfl
  | succ s ih =>
    intro i mi hi h1 h2
    have hi5 : i < 5 := by omega
    have hgi := hG i hi5
    have ei := h2 i (Nat.le_refl _) hi5
    rw [e55_10]
    simp only [e55_0, e55_1, e55_4, e55_5, e55_6, e55_7, e55_8, e55_12, e55_13, e55_16, e55_17, e55_20, e55_22, e55_23, e55_24, e55_27, e55_28, e55_31, e55_33, e55_34, e55_35, e55_38, e55_39, e55_42, e55_44, e55_45, e55_46, e55_47, e55_48, e55_49, e55_52, e55_55, e55_56, e55_59, e55_60, e55_61, e55_62, okE hd, rfEk hd, okEk hd, ix i hi5, clK (show i < 1000 by omega), ei, nI_ltI (show G d (20 + i) < 2 ^ 31 by omega) (show r < 2 ^ 31 by omega), nI_leI (show G d (20 + u) < 2 ^ 31 by omega) (show G d (20 + i) < 2 ^ 31 by omega), show ¬ (5 : Int32) ≤ nI i from nI_ge (b := 5) hi5 (by decide), if_false, nI_1]
    have same : rs0 G d u r i = G d (20 + i) → ∃ f, vh_E 55 10 [some (.ref (26 + 4 * d)), some (.int (nI u)), some (.int (nI r)), some (.int (nI (G d (20 + u)))), some (.int (nI (i + 1)))] [] (vh_K d mi ml) = some (none, vh_K d (vh_sA mi (29 + 4 * d) f) ml) ∧ ∀ v, v < 5 → f v = nI (rs G d u r d (20 + v)) := by
      intro e
      refine ih (i + 1) mi (by omega) (fun v hv => ?_) (fun v hv1 hv2 => h2 v (by omega) hv2)
      by_cases ev : v = i
      · rw [ev, e]; exact ei
      · exact h1 v (by omega)
    by_cases q1 : G d (20 + i) < r
    · rw [if_pos q1]
      exact same (if_neg (by omega))
    · rw [if_neg q1]
      by_cases q2 : G d (20 + u) ≤ G d (20 + i)
      · rw [if_pos q2]
        exact same (if_neg (by omega))
      · rw [if_neg q2]
        have e : rs0 G d u r i = G d (20 + i) + 1 := if_pos (by omega)
        obtain ⟨f, h3, h4⟩ := ih (i + 1) (vh_sA mi (29 + 4 * d) (upd (mi (29 + 4 * d)) i (nI (G d (20 + i) + 1)))) (by omega) (fun v hv => by
          rw [sAs]
          by_cases ev : v = i
          · rw [ev, ups, e]
          · rw [upn ev]; exact h1 v (by omega)) (fun v hv1 hv2 => by rw [sAs, upn (by omega)]; exact h2 v (by omega) hv2)
        rw [sAA] at h3
        exact ⟨f, h3, h4⟩
theorem s55 {u r : Nat} {mi : Nat → Nat → Int32} (hd : d < 4) (hu : u < 5) (hr : r ≤ 5) (hm : drf mi G) (hG : ∀ v, v < 5 → G d (20 + v) ≤ 4) : ∃ f, vh_C 55 [.ref (26 + 4 * d), .int (nI u), .int (nI r)] (vh_K d mi ml) = some (none, vh_K d (vh_sA mi (29 + 4 * d) f) ml) ∧ drf (vh_sA mi (29 + 4 * d) f) (rs G d u r) := by
  have hx : vh_ixa (29 + 4 * d) (nI u) = true := ixa (by rw [kdEk hd]; exact hu) (by omega)
  obtain ⟨e1, e2, e3, e4⟩ := hm d hd
  obtain ⟨f, h1, h2⟩ := l55 (ml := ml) hd hu hr hG 5 0 mi (by omega) (fun v hv => by omega) (fun v _ hv => e4 v hv)
  refine ⟨f, ?_, ?_⟩
  · simp only [c55, e55_0, e55_1, e55_4, e55_5, e55_6, e55_7, e55_8, e55_12, e55_13, e55_16, e55_17, e55_20, e55_22, e55_23, e55_24, e55_27, e55_28, e55_31, e55_33, e55_34, e55_35, e55_38, e55_39, e55_42, e55_44, e55_45, e55_46, e55_47, e55_48, e55_49, e55_52, e55_55, e55_56, e55_59, e55_60, e55_61, e55_62, okE hd, rfEk hd, okEk hd, hx, clK (show u < 1000 by omega), e4 u hu]
    exact h1
  · intro h' hh'
    obtain ⟨g1, g2, g3, g4⟩ := hm h' hh'
    rw [sAn (show 26 + 4 * h' ≠ 29 + 4 * d by omega), sAn (show 27 + 4 * h' ≠ 29 + 4 * d by omega), sAn (show 28 + 4 * h' ≠ 29 + 4 * d by omega)]
    refine ⟨fun f hf => by rw [rs_o (by omega)]; exact g1 f hf, fun f hf => by rw [rs_o (by omega)]; exact g2 f hf, fun f hf => by rw [rs_o (by omega)]; exact g3 f hf, ?_⟩
    intro v hv
    by_cases e : h' = d
    · subst e; rw [sAs]; exact h2 v hv
    · rw [sAn (by omega), rs_o (fun z => e z.1)]; exact g4 v hv
theorem l54 (hd : d < 4) : ∀ (f q met r u : Nat) (G : Nat → Nat → Nat) (mi : Nat → Nat → Int32), 1 ≤ f → f + r = 6 → useN (tkL N T q) = some u → CI N T mb mi q G c → (∀ v, v < 5 → (met.testBit v = true ↔ G d (20 + v) < r)) → RuC N T mb d ml c (vh_E 54 19 [some (.ref 24), some (.int (nI u)), some (.int (nI r))] [] (vh_K d mi ml)) (pFst N T d f q met r G) := by
  intro f
  induction f with
  | zero =>
    intro q met r u G mi h1 hf eu h hm
    omega
  | succ f ih =>
    intro q met r u G mi _ hf eu h hm
    have hu := useN_lt eu
    have hB := h.2.2.2.2.2.2.1 d hd
    have hr4 := hB.2.2.2.2.2.2.1 u hu
    have e4 := (h.2.2.2.2.2.1 d hd).2.2.2 u hu
    have hix : vh_ixa (29 + 4 * d) (nI u) = true := ixa (by rw [kdEk hd]; exact hu) (by omega)
    have hn : ¬ nI u = (-1000000 : Int32) := nmN (by omega)
    have h5 : ¬ (5 : Int32) < nI r := nI_nlt (a := 5) (by omega) (by decide)
    unfold pFst
    rw [eu]
    simp only
    by_cases q1 : met.testBit u = true
    · rw [if_pos q1]
      obtain ⟨f', e, hfl⟩ := s45 (d := d) (ml := ml) (n := 3) h
      have e : vh_C 45 [.ref 24, .int 3] (vh_K d mi ml) = some (some (.int 0), vh_K d (vh_sA mi 24 f') ml) := e
      refine Or.inl ⟨_, _, rfl, ?_, hfl⟩
      rw [e54_19]
      simp only [e54_20, e54_21, e54_24, e54_25, e54_27, e54_30, e54_31, e54_34, e54_37, e54_38, e54_39, e54_40, e54_43, e54_44, e54_45, e54_48, h5, hn, ok24, rfD, okE hd, rfEk hd, okEk hd, hix, clK (show u < 1000 by omega), e4, nI_leI (show r < 2 ^ 31 by omega) (show G d (20 + u) < 2 ^ 31 by omega), show ¬ r ≤ G d (20 + u) by have := (hm u hu).mp q1; omega, e, not_true_eq_false, not_false_eq_true, if_true, if_false, and_self, vh_bds, vh_ps1, vh_ps0, vb0, vb1, vbz, vbo]
    · rw [if_neg q1]
      have hr : r ≤ G d (20 + u) := by
        rcases Nat.lt_or_ge (G d (20 + u)) r with z | z
        · exact absurd ((hm u hu).mpr z) q1
        · exact z
      obtain ⟨f1, e1, hd1⟩ := s55 (ml := ml) (mi := mi) (G := G) hd hu (show r ≤ 5 by omega) h.2.2.2.2.2.1 (fun v hv => hB.2.2.2.2.2.2.1 v hv)
      have h1 := h.dr (a := 29 + 4 * d) (f := f1) (G' := rs G d u r) (by omega) hd1 (rs_H h.2.2.2.2.2.2.1 hd hu hr)
      obtain ⟨f2, e2, h2⟩ := h1.adv (d := d) (ml := ml)
      have e3 := s53 (d := d) (ml := ml) h2
      have step : vh_E 54 19 [some (.ref 24), some (.int (nI u)), some (.int (nI r))] [] (vh_K d mi ml) = vh_E 54 19 [some (.ref 24), some (.int (bvI (useN (tkL N T (tkE N T q))))), some (.int (nI (r + 1)))] [] (vh_K d (vh_sA (vh_sA mi (29 + 4 * d) f1) 22 f2) ml) := by
        rw [e54_19]
        simp only [e54_20, e54_21, e54_24, e54_25, e54_27, e54_30, e54_31, e54_34, e54_37, e54_38, e54_39, e54_40, e54_49, e54_50, e54_53, e54_54, e54_55, e54_58, e54_59, e54_62, e54_65, e54_66, e54_69, e54_70, e54_73, h5, hn, ok24, ok22, rf24_0, rfD, okE hd, rfEk hd, okEk hd, hix, clK (show u < 1000 by omega), e4, nI_leI (show r < 2 ^ 31 by omega) (show G d (20 + u) < 2 ^ 31 by omega), hr, e1, e2, e3, nI_1, not_true_eq_false, not_false_eq_true, if_true, if_false, and_self, vh_bds, vh_ps1, vh_ps0, vb0, vb1, vbz, vbo]
      rw [step]
      cases eu2 : useN (tkL N T (tkE N T q)) with
      | none =>
        refine Or.inr ⟨_, _, _, rfl, ?_, h2⟩
        simp only [e54_19, e54_20, e54_21, e54_24, e54_25, e54_27, e54_76, e54_77, show bvI none = (-1000000 : Int32) from rfl, show ¬ (5 : Int32) < nI (r + 1) from nI_nlt (a := 5) (by omega) (by decide), if_true, if_false, vbo]
      | some u2 =>
        exact ih (tkE N T q) (met ||| 2 ^ u) (r + 1) u2 (rs G d u r) _ (by omega) (by omega) eu2 h2 (rs_met hB hu hr hm)
theorem s54 {mi : Nat → Nat → Int32} (hd : d < 4) (h : CI N T mb mi q G c) : RuC N T mb d ml c (vh_C 54 [.ref 24] (vh_K d mi ml)) (pFst N T d 6 q 0 0 G) := by
  cases eu : useN (tkL N T q) with
  | none =>
    obtain ⟨f, e, hfl⟩ := s45 (d := d) (ml := ml) (n := 1) h
    have e : vh_C 45 [.ref 24, .int 1] (vh_K d mi ml) = some (some (.int 0), vh_K d (vh_sA mi 24 f) ml) := e
    unfold pFst
    rw [eu]
    refine Or.inl ⟨_, _, rfl, ?_, hfl⟩
    simp only [c54, e54_0, e54_1, e54_4, e54_5, e54_6, e54_8, e54_11, e54_12, e54_13, e54_16, e54_18, e54_19, e54_20, e54_21, e54_24, e54_25, e54_27, e54_30, e54_31, e54_34, e54_37, e54_38, e54_39, e54_40, e54_43, e54_44, e54_45, e54_48, e54_49, e54_50, e54_53, e54_54, e54_55, e54_58, e54_59, e54_62, e54_65, e54_66, e54_69, e54_70, e54_73, e54_76, e54_77, ok24, s53 h, eu, e, show bvI none = (-1000000 : Int32) from rfl, not_true_eq_false, not_false_eq_true, if_true, if_false, and_self, vh_bds, vh_ps1, vh_ps0, vb0, vb1, vbz, vbo]
  | some u =>
    have hu := useN_lt eu
    have hn : ¬ nI u = (-1000000 : Int32) := nmN (by omega)
    have L := l54 (ml := ml) hd 6 q 0 0 u G mi (by omega) (by omega) eu h (fun v _ => by rw [Nat.zero_testBit]; exact ⟨fun z => (by cases z), fun z => (by omega)⟩)
    have e : vh_C 54 [.ref 24] (vh_K d mi ml) = vh_E 54 19 [some (.ref 24), some (.int (nI u)), some (.int (nI 0))] [] (vh_K d mi ml) := by
      simp only [c54, e54_0, e54_1, e54_4, e54_5, e54_6, e54_8, e54_11, e54_12, e54_13, e54_16, e54_17, e54_18, e54_20, e54_21, e54_24, e54_25, e54_27, e54_30, e54_31, e54_34, e54_37, e54_38, e54_39, e54_40, e54_43, e54_44, e54_45, e54_48, e54_49, e54_50, e54_53, e54_54, e54_55, e54_58, e54_59, e54_62, e54_65, e54_66, e54_69, e54_70, e54_73, e54_76, e54_77, ok24, s53 h, eu, show bvI (some u) = nI u from rfl, hn, not_true_eq_false, not_false_eq_true, if_true, if_false, and_self, vh_bds, vh_ps1, vh_ps0, vb0, vb1, vbz, vbo]
      rfl
    rw [e]
    exact L
theorem s48 {mi : Nat → Nat → Int32} (hd : d < 4) (h : CI N T mb mi q G c) : RuC N T mb d ml (c + 1) (vh_C 48 [.ref 24] (vh_K d mi ml)) (pRul N T d q G) := by
  cases er : rulN (tkL N T q) with
  | none =>
    obtain ⟨f, e, hfl⟩ := s45 (d := d) (ml := ml) (n := 1) h
    have e : vh_C 45 [.ref 24, .int 1] (vh_K d mi ml) = some (some (.int 0), vh_K d (vh_sA mi 24 f) ml) := e
    unfold pRul
    rw [er]
    refine Or.inl ⟨_, _, rfl, ?_, hfl⟩
    simp only [c48, e48_0, e48_1, e48_4, e48_5, e48_6, e48_8, e48_11, e48_12, e48_13, e48_16, e48_18, e48_21, e48_24, e48_25, e48_26, e48_29, e48_30, e48_31, e48_34, e48_35, e48_68, e48_69, e48_72, e48_73, e48_74, e48_77, e48_78, e48_79, e48_82, e48_83, e48_84, e48_87, e48_88, e48_89, e48_92, e48_93, e48_94, e48_97, ok24, s49 h, er, e, show bvI none = (-1000000 : Int32) from rfl, not_true_eq_false, not_false_eq_true, if_true, if_false, and_self, vh_bds, vh_ps1, vh_ps0, vb0, vb1, vbz, vbo]
  | some rl =>
    have hl := rulN_lt er
    have hn : ¬ nI rl = (-1000000 : Int32) := nmN (by omega)
    obtain ⟨f1, e1, h1⟩ := h.adv (d := d) (ml := ml)
    have h2 := h1.f24 (f := upd ((vh_sA mi 22 f1) 24) 5 (nI (c + 1))) (c' := c + 1) ups (upn (by decide))
    have k5 : (vh_sA mi 22 f1) 24 5 = nI c := h1.2.2.2.1
    have start : vh_C 48 [.ref 24] (vh_K d mi ml) = vh_E 48 35 [some (.ref 24), some (.int (nI rl))] [.int (nI rl)] (vh_K d (vh_sA (vh_sA mi 22 f1) 24 (upd ((vh_sA mi 22 f1) 24) 5 (nI (c + 1)))) ml) := by
      simp only [c48, e48_0, e48_1, e48_4, e48_5, e48_6, e48_8, e48_11, e48_12, e48_13, e48_16, e48_17, e48_18, e48_21, e48_24, e48_25, e48_26, e48_29, e48_30, e48_31, e48_34, e48_68, e48_69, e48_72, e48_73, e48_74, e48_77, e48_78, e48_79, e48_82, e48_83, e48_84, e48_87, e48_88, e48_89, e48_92, e48_93, e48_94, e48_97, ok24, ok22, rf24_0, s49 h, er, show bvI (some rl) = nI rl from rfl, hn, e1, k5, nI_1, not_true_eq_false, not_false_eq_true, if_true, if_false, and_self, vh_bds, vh_ps1, vh_ps0, vb0, vb1, vbz, vbo]
    rw [start]
    generalize vh_sA (vh_sA mi 22 f1) 24 (upd ((vh_sA mi 22 f1) 24) 5 (nI (c + 1))) = m2 at h2
    have fin : ∀ (R : vh_R) (p : pY), RuC N T mb d ml (c + 1) R p → ∀ pc l0 l1, (∀ v w, v &&& 1 = v → vh_E 48 pc [l0, l1] [.int v] w = some (some (.int v), w)) → RuC N T mb d ml (c + 1) (vh_bd R (fun v w => vh_E 48 pc [l0, l1] (vh_ps v []) w)) p := by
      intro R p hR pc l0 l1 hret
      rcases hR with ⟨x, mi', e1, e2, e3⟩ | ⟨q', G', mi', e1, e2, e3⟩
      · refine Or.inl ⟨x, mi', e1, ?_, e3⟩
        rw [e2, vh_bds, vh_ps1, hret _ _ (by decide)]
      · refine Or.inr ⟨q', G', mi', e1, ?_, e3⟩
        rw [e2, vh_bds, vh_ps1, hret _ _ (by decide)]
    unfold pRul
    rw [er]
    rcases (show rl = 0 ∨ rl = 1 ∨ rl = 2 ∨ rl = 3 ∨ rl = 4 ∨ rl = 5 by omega) with rfl | rfl | rfl | rfl | rfl | rfl
    · simp only [e48_35, e48_68, e48_69, ok24, show nI 0 = (0 : Int32) from rfl, if_true]
      exact fin _ _ (s50 hd h2) 72 _ _ (fun v w hv => e48_72 hv)
    · simp only [e48_35, e48_73, e48_74, ok24, show nI 1 = (1 : Int32) from rfl, show ¬ (1 : Int32) = 0 by decide, if_true, if_false]
      exact fin _ _ (s51 hd h2) 77 _ _ (fun v w hv => e48_77 hv)
    · simp only [e48_35, e48_78, e48_79, ok24, show nI 2 = (2 : Int32) from rfl, show ¬ (2 : Int32) = 0 by decide, show ¬ (2 : Int32) = 1 by decide, if_true, if_false]
      exact fin _ _ (s52 hd h2) 82 _ _ (fun v w hv => e48_82 hv)
    · simp only [e48_35, e48_83, e48_84, ok24, show nI 3 = (3 : Int32) from rfl, show ¬ (3 : Int32) = 0 by decide, show ¬ (3 : Int32) = 1 by decide, show ¬ (3 : Int32) = 2 by decide, if_true, if_false]
      exact fin _ _ (s54 hd h2) 87 _ _ (fun v w hv => e48_87 hv)
    · simp only [e48_35, e48_88, e48_89, ok24, show nI 4 = (4 : Int32) from rfl, show ¬ (4 : Int32) = 0 by decide, show ¬ (4 : Int32) = 1 by decide, show ¬ (4 : Int32) = 2 by decide, show ¬ (4 : Int32) = 3 by decide, if_true, if_false]
      exact fin _ _ (s56 hd h2) 92 _ _ (fun v w hv => e48_92 hv)
    · simp only [e48_35, e48_93, e48_94, ok24, show nI 5 = (5 : Int32) from rfl, show ¬ (5 : Int32) = 0 by decide, show ¬ (5 : Int32) = 1 by decide, show ¬ (5 : Int32) = 2 by decide, show ¬ (5 : Int32) = 3 by decide, show ¬ (5 : Int32) = 4 by decide, if_true, if_false]
      exact fin _ _ (s57 hd h2) 97 _ _ (fun v w hv => e48_97 hv)
end

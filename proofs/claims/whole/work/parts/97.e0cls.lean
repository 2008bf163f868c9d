/-! RULES: THE CLASS READS -/
def drf (mi : Nat → Nat → Int32) (G : Nat → Nat → Nat) : Prop := ∀ h, h < 4 → (∀ f, f < 4 → mi (26 + 4 * h) f = nI (G h f)) ∧ (∀ f, f < 2 → mi (27 + 4 * h) f = nI (G h (4 + f))) ∧ (∀ u, u < 5 → mi (28 + 4 * h) u = nI (G h (10 + u))) ∧ (∀ u, u < 5 → mi (29 + 4 * h) u = nI (G h (20 + u)))
def frC (mb mi : Nat → Nat → Int32) : Prop := ∀ a, a ≠ 22 → a ≠ 24 → (a < 26 ∨ 41 < a) → mi a = mb a
def CI (N : Nat) (T : Nat → Nat) (mb mi : Nat → Nat → Int32) (q : Nat) (G : Nat → Nat → Nat) (c : Nat) : Prop := TpC N T mi ∧ TkC N T q (mi 22) ∧ q ≤ N ∧ mi 24 5 = nI c ∧ mi 24 6 = mb 24 6 ∧ drf mi G ∧ (∀ h, h < 4 → HlB (G h)) ∧ frC mb mi
def CFl (mb mi : Nat → Nat → Int32) (x : Nat × Nat) : Prop := mi 24 6 = nI x.1 ∧ mi 24 7 = nI x.2 ∧ frC mb mi
section
variable {d : Nat} {mi mb : Nat → Nat → Int32} {ml : Nat → Nat → Int64} {N : Nat} {T : Nat → Nat} {q c : Nat} {G : Nat → Nat → Nat}
theorem drf.s {a : Nat} {f : Nat → Int32} (h : drf mi G) (ha : a < 26 ∨ 41 < a) : drf (vh_sA mi a f) G := by
  intro h' hh
  rw [sAn (by omega), sAn (by omega), sAn (by omega), sAn (by omega)]
  exact h h' hh
theorem CI.adv (h : CI N T mb mi q G c) : ∃ f, vh_C 34 [.ref 22] (vh_K d mi ml) = some (none, vh_K d (vh_sA mi 22 f) ml) ∧ CI N T mb (vh_sA mi 22 f) (tkE N T q) G c := by
  obtain ⟨h1, h2, h3, h4, h5, h6, h7, h8⟩ := h
  have hq := (tk_e (T := T) h3).2.1
  obtain ⟨f, e, k, f1⟩ := s34 (d := d) (ml := ml) h1 h2.2.2 hq
  refine ⟨f, e, h1.s f1, by rw [sAs]; exact k, hq, ?_, ?_, h6.s (by omega), h7, ?_⟩
  · rw [sAn (by decide)]; exact h4
  · rw [sAn (by decide)]; exact h5
  · intro a a1 a2 a3
    rw [sAn a1]; exact h8 a a1 a2 a3
theorem CI.f24 {f : Nat → Int32} {c' : Nat} (h : CI N T mb mi q G c) (h5 : f 5 = nI c') (h6 : f 6 = mi 24 6) : CI N T mb (vh_sA mi 24 f) q G c' := by
  obtain ⟨g1, g2, g3, g4, g5, g6, g7, g8⟩ := h
  refine ⟨⟨g1.1, by rw [sAn (by decide)]; exact g1.2.1, by rw [sAn (by decide)]; exact g1.2.2.1, g1.2.2.2⟩, by rw [sAn (by decide)]; exact g2, g3, by rw [sAs]; exact h5, by rw [sAs, h6]; exact g5, g6.s (by omega), g7, ?_⟩
  intro a a1 a2 a3
  rw [sAn a2]; exact g8 a a1 a2 a3
theorem s45 {n : Nat} (h : CI N T mb mi q G c) : ∃ f, vh_C 45 [.ref 24, .int (nI n)] (vh_K d mi ml) = some (some (.int 0), vh_K d (vh_sA mi 24 f) ml) ∧ CFl mb (vh_sA mi 24 f) (n, tkB N T q) := by
  obtain ⟨g1, g2, g3, g4, g5, g6, g7, g8⟩ := h
  refine ⟨upd (upd (mi 24) 6 (nI n)) 7 (nI (tkB N T q)), ?_, ?_, ?_, ?_⟩
  · simp only [c45, e45_0, e45_1, e45_2, e45_5, e45_6, e45_7, e45_10, e45_13, e45_16, e45_17, ok24, ok22, rf24_0, sAn, sAs, sAA, ups, upn, bkv_n, hlv_n, ne_eq, Nat.reduceEqDiff, Nat.reduceLT, Nat.reduceLeDiff, or_true, true_or, not_false_eq_true, g2.2.1, vbz]
  · rw [sAs]; rfl
  · rw [sAs]; rfl
  · intro a a1 a2 a3
    rw [sAn a2]; exact g8 a a1 a2 a3
theorem l47 {B E : Nat} (hT : TpC N T mi) (h3 : mi 22 3 = nI B) (h4 : mi 22 4 = nI E) (hBE : B ≤ E) (hE : E ≤ N) (hF : ∀ j, j < E - B → 48 ≤ T (B + j) ∧ T (B + j) ≤ 57) : ∀ (r j : Nat), B + j + r = E → vh_E 47 7 [some (.ref 22), some (.int (nI (vlN T B j))), some (.int (nI (B + j)))] [] (vh_K d mi ml) = some (some (.int (nI (vlN T B (E - B)))), vh_K d mi ml) := by
  have hN := hT.1
  intro r
  induction r with
  | zero =>
    intro j hj
    have e : j = E - B := by omega
    simp only [e47_7, e47_8, e47_9, e47_12, e47_36, e47_37, ok22, h4, nI_le (show E ≤ B + j by omega) (show B + j < 2 ^ 31 by omega), if_true]
    rw [e]
  | succ r ih =>
    intro j hj
    have hf := hF j (by omega)
    have e1 : nI (vlN T B j) * 10 + nI (T (B + j)) - 48 = nI (vlN T B (j + 1)) := by
      rw [show nI (vlN T B j) * 10 = nI (vlN T B j * 10) from pk_mul _ 10, nI_add, show (48 : Int32) = nI 48 from rfl, pk_sub (by omega)]
      congr 1
      show _ = vlN T B j * 10 + (T (B + j) - 48)
      omega
    rw [e47_7]
    simp only [e47_0, e47_1, e47_2, e47_3, e47_6, e47_8, e47_9, e47_12, e47_15, e47_16, e47_18, e47_19, e47_20, e47_23, e47_24, e47_25, e47_26, e47_28, e47_29, e47_30, e47_33, e47_36, e47_37, ok22, ok23, rf22_0, okx23 (show B + j < 400 by omega), clK (show B + j < 1000 by omega), h4, hT.2.2.1 (B + j) (by omega), nI_ge (show B + j < E by omega) (show E < 2 ^ 31 by omega), if_false, e1, nI_1]
    exact ih (j + 1) (by omega)
theorem s47 (hT : TpC N T mi) (hk : TkC N T q (mi 22)) (hq : q ≤ N) (h2 : tkK N T q = 2) : vh_C 47 [.ref 22] (vh_K d mi ml) = some (some (.int (nI (val N T q))), vh_K d mi ml) := by
  obtain ⟨c1, c2, c3⟩ := tk_e (T := T) hq
  have L := l47 (d := d) (ml := ml) (B := tkB N T q) (E := tkE N T q) hT hk.2.1 hk.2.2 c1 c2 (num_F h2).1 (tkE N T q - tkB N T q) 0 (by omega)
  simp only [c47, e47_0, e47_1, e47_2, e47_3, e47_6, e47_8, e47_9, e47_12, e47_15, e47_16, e47_18, e47_19, e47_20, e47_23, e47_24, e47_25, e47_26, e47_28, e47_29, e47_30, e47_33, e47_36, e47_37, ok22, hk.2.1]
  exact L
theorem s46 {mx : Nat} (h : CI N T mb mi q G c) (hmx : mx ≤ 1000) : ∃ v mi', vh_C 46 [.ref 24, .int (nI mx)] (vh_K d mi ml) = some (some (.int v), vh_K d mi' ml) ∧ ((∃ x, pNum N T mx q = .inl x ∧ v = 0 ∧ CFl mb mi' x) ∨ (∃ x q', pNum N T mx q = .inr (x, q') ∧ v = 1 ∧ CI N T mb mi' q' G c ∧ mi' 24 4 = nI x)) := by
  have h' := h
  obtain ⟨g1, g2, g3, g4, g5, g6, g7, g8⟩ := h
  have hle := tk_le (N := N) (T := T) (q := q)
  have e2 : nI (tkK N T q) = 2 ↔ tkK N T q = 2 := nI_eq (b := 2) (by omega) (by decide)
  unfold pNum
  by_cases q0 : tkK N T q = 2
  · rw [if_pos q0]
    have hv := val_lt q0
    have k2 : mi 22 2 = 2 := by rw [g2.1, q0]; rfl
    have s47' := s47 (d := d) (ml := ml) g1 g2 g3 q0
    have h1 : CI N T mb (vh_sA mi 24 (upd (mi 24) 4 (nI (val N T q)))) q G c := h'.f24 (by rw [upn (by decide)]; exact g4) (upn (by decide))
    by_cases q1 : val N T q ≤ mx
    · rw [if_pos q1]
      obtain ⟨f, e, hci⟩ := h1.adv (d := d) (ml := ml)
      refine ⟨1, _, ?_, Or.inr ⟨val N T q, tkE N T q, rfl, rfl, hci, by rw [sAn (by decide), sAs, ups]⟩⟩
      simp only [c46, e46_0, e46_1, e46_4, e46_7, e46_8, e46_11, e46_12, e46_13, e46_16, e46_17, e46_18, e46_19, e46_22, e46_25, e46_28, e46_29, e46_32, e46_33, e46_36, e46_37, e46_38, e46_41, e46_42, e46_43, e46_46, e46_49, e46_50, ok24, ok22, rf24_0, k2, s47', e, sAs, ups, nI_leI (show val N T q < 2 ^ 31 by omega) (show mx < 2 ^ 31 by omega), q1, not_true_eq_false, not_false_eq_true, if_true, if_false, and_self, vh_bds, vh_ps1, vh_ps0, vb0, vb1, vbz, vbo]
    · rw [if_neg q1]
      obtain ⟨f, e, hfl⟩ := s45 (d := d) (ml := ml) (n := 2) h1
      have e : vh_C 45 [.ref 24, .int 2] (vh_K d (vh_sA mi 24 (upd (mi 24) 4 (nI (val N T q)))) ml) = some (some (.int 0), vh_K d (vh_sA (vh_sA mi 24 (upd (mi 24) 4 (nI (val N T q)))) 24 f) ml) := e
      refine ⟨0, _, ?_, Or.inl ⟨_, rfl, rfl, hfl⟩⟩
      simp only [c46, e46_0, e46_1, e46_4, e46_7, e46_8, e46_11, e46_12, e46_13, e46_16, e46_17, e46_18, e46_19, e46_22, e46_25, e46_28, e46_29, e46_32, e46_33, e46_36, e46_37, e46_38, e46_41, e46_42, e46_43, e46_46, e46_49, e46_50, ok24, ok22, rf24_0, k2, s47', e, sAs, ups, nI_leI (show val N T q < 2 ^ 31 by omega) (show mx < 2 ^ 31 by omega), q1, not_true_eq_false, not_false_eq_true, if_true, if_false, and_self, vh_bds, vh_ps1, vh_ps0, vb0, vb1, vbz, vbo]
  · rw [if_neg q0]
    obtain ⟨f, e, hfl⟩ := s45 (d := d) (ml := ml) (n := 1) h'
    have e : vh_C 45 [.ref 24, .int 1] (vh_K d mi ml) = some (some (.int 0), vh_K d (vh_sA mi 24 f) ml) := e
    refine ⟨0, _, ?_, Or.inl ⟨_, rfl, rfl, hfl⟩⟩
    simp only [c46, e46_0, e46_1, e46_4, e46_7, e46_8, e46_11, e46_12, e46_13, e46_16, e46_17, e46_18, e46_19, e46_22, e46_25, e46_28, e46_29, e46_32, e46_33, e46_36, e46_37, e46_38, e46_41, e46_42, e46_43, e46_46, e46_49, e46_50, ok24, ok22, rf24_0, g2.1, e2, q0, e, not_true_eq_false, not_false_eq_true, if_true, if_false, and_self, vh_bds, vh_ps1, vh_ps0, vb0, vb1, vbz, vbo]
theorem s49 (h : CI N T mb mi q G c) : vh_C 49 [.ref 24] (vh_K d mi ml) = some (some (.int (bvI (rulN (tkL N T q)))), vh_K d mi ml) := by
  obtain ⟨g1, g2, g3, g4, g5, g6, g7, g8⟩ := h
  have w : ∀ i, i < 12 → vh_C 37 [.ref 22, .ref (1000 + i)] (vh_K d mi ml) = some (some (.int (vb (tkL N T q = wdS i))), vh_K d mi ml) := fun i hi => s37 hi g1 g2 g3
  have w1 := w 1 (by decide)
  have w2 := w 2 (by decide)
  have w3 := w 3 (by decide)
  have w4 := w 4 (by decide)
  have w5 := w 5 (by decide)
  have w6 := w 6 (by decide)
  simp only [Nat.reduceAdd] at w1 w2 w3 w4 w5 w6
  simp only [c49, e49_0, e49_1, e49_4, e49_6, e49_9, e49_12, e49_13, e49_14, e49_15, e49_18, e49_20, e49_23, e49_26, e49_27, e49_28, e49_29, e49_32, e49_34, e49_37, e49_40, e49_41, e49_42, e49_43, e49_46, e49_48, e49_51, e49_54, e49_55, e49_56, e49_57, e49_60, e49_62, e49_65, e49_68, e49_69, e49_70, e49_71, e49_74, e49_76, e49_79, e49_82, e49_83, e49_86, e49_88, ok24, ok22, rf24_0, w1, w2, w3, w4, w5, w6, not_true_eq_false, not_false_eq_true, if_true, if_false, and_self, vh_bds, vh_ps1, vh_ps0, vb0, vb1, vbz, vbo]
  unfold rulN
  by_cases q1 : tkL N T q = wdS 1
  · rw [if_neg (not_not_intro q1), if_pos q1]; rfl
  rw [if_pos q1, if_neg q1]
  by_cases q2 : tkL N T q = wdS 2
  · rw [if_neg (not_not_intro q2), if_pos q2]; rfl
  rw [if_pos q2, if_neg q2]
  by_cases q3 : tkL N T q = wdS 3
  · rw [if_neg (not_not_intro q3), if_pos q3]; rfl
  rw [if_pos q3, if_neg q3]
  by_cases q4 : tkL N T q = wdS 4
  · rw [if_neg (not_not_intro q4), if_pos q4]; rfl
  rw [if_pos q4, if_neg q4]
  by_cases q5 : tkL N T q = wdS 5
  · rw [if_neg (not_not_intro q5), if_pos q5]; rfl
  rw [if_pos q5, if_neg q5]
  by_cases q6 : tkL N T q = wdS 6
  · rw [if_neg (not_not_intro q6), if_pos q6]; rfl
  rw [if_pos q6, if_neg q6]; rfl
theorem s53 (h : CI N T mb mi q G c) : vh_C 53 [.ref 24] (vh_K d mi ml) = some (some (.int (bvI (useN (tkL N T q)))), vh_K d mi ml) := by
  obtain ⟨g1, g2, g3, g4, g5, g6, g7, g8⟩ := h
  have w : ∀ i, i < 12 → vh_C 37 [.ref 22, .ref (1000 + i)] (vh_K d mi ml) = some (some (.int (vb (tkL N T q = wdS i))), vh_K d mi ml) := fun i hi => s37 hi g1 g2 g3
  have w1 := w 7 (by decide)
  have w2 := w 8 (by decide)
  have w3 := w 9 (by decide)
  have w4 := w 10 (by decide)
  have w5 := w 11 (by decide)
  simp only [Nat.reduceAdd] at w1 w2 w3 w4 w5
  simp only [c53, e53_0, e53_1, e53_4, e53_6, e53_9, e53_12, e53_13, e53_14, e53_15, e53_18, e53_20, e53_23, e53_26, e53_27, e53_28, e53_29, e53_32, e53_34, e53_37, e53_40, e53_41, e53_42, e53_43, e53_46, e53_48, e53_51, e53_54, e53_55, e53_56, e53_57, e53_60, e53_62, e53_65, e53_68, e53_69, e53_72, e53_74, ok24, ok22, rf24_0, w1, w2, w3, w4, w5, not_true_eq_false, not_false_eq_true, if_true, if_false, and_self, vh_bds, vh_ps1, vh_ps0, vb0, vb1, vbz, vbo]
  unfold useN
  by_cases q1 : tkL N T q = wdS 7
  · rw [if_neg (not_not_intro q1), if_pos q1]; rfl
  rw [if_pos q1, if_neg q1]
  by_cases q2 : tkL N T q = wdS 8
  · rw [if_neg (not_not_intro q2), if_pos q2]; rfl
  rw [if_pos q2, if_neg q2]
  by_cases q3 : tkL N T q = wdS 9
  · rw [if_neg (not_not_intro q3), if_pos q3]; rfl
  rw [if_pos q3, if_neg q3]
  by_cases q4 : tkL N T q = wdS 10
  · rw [if_neg (not_not_intro q4), if_pos q4]; rfl
  rw [if_pos q4, if_neg q4]
  by_cases q5 : tkL N T q = wdS 11
  · rw [if_neg (not_not_intro q5), if_pos q5]; rfl
  rw [if_pos q5, if_neg q5]; rfl
end

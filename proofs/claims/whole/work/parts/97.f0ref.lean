/-! RULES: THE REFERENCE READS -/
def arr (mi : Nat → Nat → Int32) (G : Nat → Nat → Nat) : Prop := ∀ h, h < 4 → (mi 89 h = nI (G h 0) ∧ mi 90 h = nI (G h 1) ∧ mi 91 h = nI (G h 2) ∧ mi 92 h = nI (G h 3)) ∧ (∀ f, f < 2 → mi 93 (2 * h + f) = nI (G h (4 + f))) ∧ (∀ u, u < 5 → mi 94 (5 * h + u) = nI (G h (10 + u))) ∧ (∀ u, u < 5 → mi 95 (5 * h + u) = nI (G h (20 + u)))
def frM (mb mi : Nat → Nat → Int32) : Prop := (∀ a, a ≠ 88 → (a < 89 ∨ 95 < a) → mi a = mb a) ∧ ∀ f, (f < 16 ∨ 23 < f) → mi 88 f = mb 88 f
def RI (N : Nat) (T : Nat → Nat) (mb mi : Nat → Nat → Int32) (q : Nat) (GA : Nat → Nat → Nat) (c : Nat) (Dn : Bool) : Prop := TpM N T mi ∧ TkM N T q (mi 88) ∧ q ≤ N ∧ mi 88 20 = 0 ∧ mi 88 22 = (if Dn = true then 1 else 0) ∧ mi 88 23 = nI c ∧ arr mi GA ∧ frM mb mi
def RFl (mb mi : Nat → Nat → Int32) (GA : Nat → Nat → Nat) (Dn : Bool) (x : Nat × Nat) : Prop := mi 88 20 = nI x.1 ∧ 1 ≤ x.1 ∧ x.1 ≤ 3 ∧ mi 88 21 = nI x.2 ∧ mi 88 22 = (if Dn = true then 1 else 0) ∧ arr mi GA ∧ frM mb mi
section
variable {d : Nat} {mi mb : Nat → Nat → Int32} {ml : Nat → Nat → Int64} {N : Nat} {T : Nat → Nat} {q c : Nat} {GA : Nat → Nat → Nat} {Dn : Bool} {x : Nat × Nat}
theorem arr.s {a : Nat} {f : Nat → Int32} (h : arr mi GA) (ha : a < 89 ∨ 95 < a) : arr (vh_sA mi a f) GA := by
  intro h' hh
  rw [sAn (by omega), sAn (by omega), sAn (by omega), sAn (by omega), sAn (by omega), sAn (by omega), sAn (by omega)]
  exact h h' hh
theorem RI.step (h : RI N T mb mi q GA c Dn) : ∃ f, vh_C 157 [.ref 88] (vh_K d mi ml) = some (none, vh_K d (vh_sA mi 88 f) ml) ∧ RI N T mb (vh_sA mi 88 f) (tkE N T q) GA c Dn := by
  obtain ⟨h1, h2, h3, h4, h5, h6, h7, h8⟩ := h
  have hq := (tk_e (T := T) h3).2.1
  obtain ⟨f, e, k, fo⟩ := s157 (d := d) (ml := ml) h1 h2.1 hq
  refine ⟨f, e, h1.s (fo 15 (by decide)), by rw [sAs]; exact k, hq, ?_, ?_, ?_, h7.s (by omega), ?_, ?_⟩
  · rw [sAs, fo 20 (by decide)]; exact h4
  · rw [sAs, fo 22 (by decide)]; exact h5
  · rw [sAs, fo 23 (by decide)]; exact h6
  · intro a a1 a2
    rw [sAn a1]; exact h8.1 a a1 a2
  · intro f' hf
    rw [sAs, fo f' (by omega)]; exact h8.2 f' hf
theorem s163 {k : Nat} (hk : 1 ≤ k ∧ k ≤ 3) (h : RI N T mb mi q GA c Dn) : ∃ mi', vh_C 163 [.ref 88, .int (nI k)] (vh_K d mi ml) = some (none, vh_K d mi' ml) ∧ RFl mb mi' GA Dn (k, tkB N T q) ∧ mi' 88 17 = mi 88 17 := by
  obtain ⟨h1, h2, h3, h4, h5, h6, h7, h8⟩ := h
  refine ⟨vh_sA mi 88 (upd (upd (mi 88) 20 (nI k)) 21 (nI (tkB N T q))), ?_, ⟨?_, hk.1, hk.2, ?_, ?_, h7.s (by omega), ?_, ?_⟩, ?_⟩
  · simp only [c163, e163_0, e163_1, e163_4, e163_7, e163_8, e163_9, e163_12, e163_13, e163_14, e163_17, e163_20, ok88, h4, sAn, sAs, sAA, ups, upn, bkv_n, hlv_n, ne_eq, Nat.reduceEqDiff, Nat.reduceLT, Nat.reduceLeDiff, or_true, true_or, not_false_eq_true, h2.2.2.1, not_true_eq_false, not_false_eq_true, if_true, if_false, and_self, vh_bds, vh_ps1, vh_ps0, vb0, vb1, vbz, vbo]
  · rw [sAs, upn (by decide), ups]
  · rw [sAs, ups]
  · rw [sAs, upn (by decide), upn (by decide)]; exact h5
  · intro a a1 a2
    rw [sAn a1]; exact h8.1 a a1 a2
  · intro f' hf
    rw [sAs, upn (by omega), upn (by omega)]; exact h8.2 f' hf
  · rw [sAs, upn (by decide), upn (by decide)]
theorem RFl.ne (h : RFl mb mi GA Dn x) : ¬ mi 88 20 = 0 := by
  obtain ⟨h1, h2, h3, -⟩ := h
  rw [h1]
  exact nI_ne0 (by omega) (by omega)
theorem RFl.gt (h : RFl mb mi GA Dn x) : ¬ mi 88 20 ≤ 0 := by
  obtain ⟨h1, h2, h3, -⟩ := h
  rw [h1]
  exact nI_nle (by omega) (by omega)
theorem s163f {k : Int32} (h : RFl mb mi GA Dn x) : vh_C 163 [.ref 88, .int k] (vh_K d mi ml) = some (none, vh_K d mi ml) := by
  simp only [c163, e163_0, e163_1, e163_4, e163_7, e163_8, e163_9, e163_12, e163_13, e163_14, e163_17, e163_20, ok88, h.ne, not_true_eq_false, not_false_eq_true, if_true, if_false, and_self, vh_bds, vh_ps1, vh_ps0, vb0, vb1, vbz, vbo]
theorem s162f {v : Int32} (h : RFl mb mi GA Dn x) : vh_C 162 [.ref 88, .int v] (vh_K d mi ml) = some (none, vh_K d mi ml) := by
  have e : vh_C 163 [.ref 88, .int 1] (vh_K d mi ml) = some (none, vh_K d mi ml) := s163f h
  simp only [c162, e162_0, e162_1, e162_4, e162_5, e162_6, e162_9, e162_10, e162_13, e162_16, e162_17, e162_20, ok88, h.ne, e, not_true_eq_false, not_false_eq_true, if_true, if_false, and_self, vh_bds, vh_ps1, vh_ps0, vb0, vb1, vbz, vbo]
  by_cases z : v = 0
  · rw [if_neg (not_not_intro z)]
  · rw [if_pos z]
theorem s162t (h : RI N T mb mi q GA c Dn) : ∃ f, vh_C 162 [.ref 88, .int 1] (vh_K d mi ml) = some (none, vh_K d (vh_sA mi 88 f) ml) ∧ RI N T mb (vh_sA mi 88 f) (tkE N T q) GA c Dn := by
  obtain ⟨f, e, hh⟩ := h.step (d := d) (ml := ml)
  refine ⟨f, ?_, hh⟩
  simp only [c162, e162_0, e162_1, e162_4, e162_5, e162_6, e162_9, e162_10, e162_13, e162_16, e162_17, e162_20, ok88, h.2.2.2.1, e, show ¬ (1 : Int32) = 0 by decide, not_true_eq_false, not_false_eq_true, if_true, if_false, and_self, vh_bds, vh_ps1, vh_ps0, vb0, vb1, vbz, vbo]
theorem s162n (h : RI N T mb mi q GA c Dn) : ∃ mi', vh_C 162 [.ref 88, .int 0] (vh_K d mi ml) = some (none, vh_K d mi' ml) ∧ RFl mb mi' GA Dn (1, tkB N T q) := by
  obtain ⟨mi', e, hf, -⟩ := s163 (d := d) (ml := ml) (k := 1) (by decide) h
  have e : vh_C 163 [.ref 88, .int 1] (vh_K d mi ml) = some (none, vh_K d mi' ml) := e
  refine ⟨mi', ?_, hf⟩
  simp only [c162, e162_0, e162_1, e162_4, e162_5, e162_6, e162_9, e162_10, e162_13, e162_16, e162_17, e162_20, ok88, e, hf.ne, not_true_eq_false, not_false_eq_true, if_true, if_false, and_self, vh_bds, vh_ps1, vh_ps0, vb0, vb1, vbz, vbo]
theorem s164f {m : Int32} (h : RFl mb mi GA Dn x) : vh_C 164 [.ref 88, .int m] (vh_K d mi ml) = some (some (.int 0), vh_K d mi ml) := by
  simp only [c164, e164_0, e164_1, e164_4, e164_7, e164_8, e164_10, e164_11, e164_12, e164_15, e164_16, e164_17, e164_18, e164_21, e164_24, e164_25, e164_28, e164_29, e164_32, e164_34, e164_35, e164_36, e164_37, e164_40, e164_41, e164_42, e164_43, e164_45, e164_46, e164_47, e164_50, e164_53, e164_54, e164_57, e164_58, e164_61, e164_62, e164_63, e164_66, e164_67, e164_68, e164_71, e164_72, e164_73, e164_76, e164_77, e164_80, e164_81, e164_84, e164_85, e164_88, e164_89, ok88, h.gt, not_true_eq_false, not_false_eq_true, if_true, if_false, and_self, vh_bds, vh_ps1, vh_ps0, vb0, vb1, vbz, vbo]
theorem l164 {B E : Nat} {l1 : Option Value} (hT : TpM N T mi) (h17 : mi 88 17 = 3) (h19 : mi 88 19 = nI E) (hE : E ≤ N) (hF : ∀ j, j < E - B → 48 ≤ T (B + j) ∧ T (B + j) ≤ 57) : ∀ (r j : Nat), B + j + r = E → vh_E 164 16 [some (.ref 88), l1, some (.int (nI (vlN T B j))), some (.int (nI (B + j)))] [] (vh_K d mi ml) = vh_E 164 53 [some (.ref 88), l1, some (.int (nI (vlN T B (E - B)))), some (.int (nI E))] [] (vh_K d mi ml) := by
  have hN := hT.1
  intro r
  induction r with
  | zero =>
    intro j hj
    have e : j = E - B := by omega
    rw [e164_16]
    simp only [e164_17, e164_18, e164_21, ok88, h19, nI_le (show E ≤ B + j by omega) (show B + j < 2 ^ 31 by omega), if_true]
    rw [← e, show B + j = E by omega]
  | succ r ih =>
    intro j hj
    have hf := hF j (by omega)
    have e1 : 10 * nI (vlN T B j) + nI (T (B + j)) - 48 = nI (vlN T B (j + 1)) := by
      rw [show 10 * nI (vlN T B j) = nI (10 * vlN T B j) from pk_mul 10 _, nI_add, show (48 : Int32) = nI 48 from rfl, pk_sub (by omega)]
      congr 1
      show _ = vlN T B j * 10 + (T (B + j) - 48)
      omega
    rw [e164_16]
    simp only [e164_17, e164_18, e164_21, e164_24, e164_25, e164_28, e164_29, e164_32, e164_34, e164_35, e164_36, e164_37, e164_40, e164_41, e164_42, e164_43, e164_45, e164_46, e164_47, e164_50, ok88, ok99, rf88_12, okx99 (show B + j < 400 by omega), clK (show B + j < 1000 by omega), h17, h19, hT.2.2.1 (B + j) (by omega), nI_ge (show B + j < E by omega) (show E < 2 ^ 31 by omega), not_true_eq_false, if_false, e1, nI_1]
    exact ih (j + 1) (by omega)
theorem s164 {mx : Nat} (h : RI N T mb mi q GA c Dn) (hmx : mx ≤ 1000) : ∃ v mi', vh_C 164 [.ref 88, .int (nI mx)] (vh_K d mi ml) = some (some (.int v), vh_K d mi' ml) ∧ ((∃ x, pNum N T mx q = .inl x ∧ RFl mb mi' GA Dn x) ∨ (∃ y q', pNum N T mx q = .inr (y, q') ∧ v = nI y ∧ RI N T mb mi' q' GA c Dn)) := by
  have h' := h
  obtain ⟨h1, h2, h3, h4, h5, h6, h7, h8⟩ := h
  obtain ⟨c1, c2, c3⟩ := tk_e (T := T) h3
  have hle := tk_le (N := N) (T := T) (q := q)
  unfold pNum
  by_cases q0 : tkK N T q = 2
  · rw [if_pos q0]
    have k17 : mi 88 17 = 3 := by rw [h2.2.1, q0]; rfl
    have hv := val_lt q0
    have L := l164 (d := d) (ml := ml) (B := tkB N T q) (E := tkE N T q) (l1 := some (.int (nI mx))) h1 k17 h2.2.2.2 c2 (num_F q0).1 (tkE N T q - tkB N T q) 0 (by omega)
    have start : vh_C 164 [.ref 88, .int (nI mx)] (vh_K d mi ml) = vh_E 164 53 [some (.ref 88), some (.int (nI mx)), some (.int (nI (val N T q))), some (.int (nI (tkE N T q)))] [] (vh_K d mi ml) := by
      refine Eq.trans ?_ L
      simp only [c164, e164_0, e164_1, e164_4, e164_7, e164_8, e164_9, e164_10, e164_11, e164_12, e164_15, e164_17, e164_18, e164_21, e164_24, e164_25, e164_28, e164_29, e164_32, e164_34, e164_35, e164_36, e164_37, e164_40, e164_41, e164_42, e164_43, e164_45, e164_46, e164_47, e164_50, e164_53, e164_54, e164_57, e164_58, e164_61, e164_62, e164_63, e164_66, e164_67, e164_68, e164_71, e164_72, e164_73, e164_76, e164_77, e164_80, e164_81, e164_84, e164_85, e164_88, e164_89, ok88, h4, h2.2.2.1, show (0 : Int32) ≤ 0 by decide, not_true_eq_false, not_false_eq_true, if_true, if_false, and_self, vh_bds, vh_ps1, vh_ps0, vb0, vb1, vbz, vbo]
      rfl
    rw [start]
    by_cases q1 : val N T q ≤ mx
    · rw [if_pos q1]
      obtain ⟨f, e, hh⟩ := s162t (d := d) (ml := ml) h'
      refine ⟨nI (val N T q), _, ?_, Or.inr ⟨_, _, rfl, rfl, hh⟩⟩
      simp only [e164_53, e164_54, e164_57, e164_58, e164_61, e164_62, e164_63, e164_71, e164_72, e164_73, e164_76, e164_77, e164_80, e164_81, e164_85, e164_88, e164_89, ok88, k17, nI_leI (show val N T q < 2 ^ 31 by omega) (show mx < 2 ^ 31 by omega), q1, e, not_true_eq_false, not_false_eq_true, if_true, if_false, and_self, vh_bds, vh_ps1, vh_ps0, vb0, vb1, vbz, vbo]
    · rw [if_neg q1]
      obtain ⟨mi', e, hf, e17⟩ := s163 (d := d) (ml := ml) (k := 2) (by decide) h'
      have e : vh_C 163 [.ref 88, .int 2] (vh_K d mi ml) = some (none, vh_K d mi' ml) := e
      have e2 : vh_C 162 [.ref 88, .int 1] (vh_K d mi' ml) = some (none, vh_K d mi' ml) := s162f hf
      refine ⟨nI (val N T q), mi', ?_, Or.inl ⟨_, rfl, hf⟩⟩
      simp only [e164_53, e164_54, e164_57, e164_58, e164_61, e164_62, e164_63, e164_66, e164_67, e164_68, e164_71, e164_72, e164_73, e164_76, e164_77, e164_80, e164_81, e164_85, e164_88, e164_89, ok88, k17, e17, nI_leI (show val N T q < 2 ^ 31 by omega) (show mx < 2 ^ 31 by omega), q1, e, e2, not_true_eq_false, not_false_eq_true, if_true, if_false, and_self, vh_bds, vh_ps1, vh_ps0, vb0, vb1, vbz, vbo]
  · rw [if_neg q0]
    have k17 : ¬ mi 88 17 = 3 := by
      rw [h2.2.1]
      intro z
      have : rkK (tkK N T q) = 3 := (nI_eq (b := 3) (by unfold rkK; split <;> omega) (by decide)).mp z
      unfold rkK at this
      split at this <;> omega
    obtain ⟨mi', e, hf⟩ := s162n (d := d) (ml := ml) h'
    refine ⟨0, mi', ?_, Or.inl ⟨_, rfl, hf⟩⟩
    simp only [c164, e164_0, e164_1, e164_4, e164_7, e164_8, e164_9, e164_10, e164_11, e164_12, e164_15, e164_17, e164_18, e164_21, e164_24, e164_25, e164_28, e164_29, e164_32, e164_34, e164_35, e164_36, e164_37, e164_40, e164_41, e164_42, e164_43, e164_45, e164_46, e164_47, e164_50, e164_53, e164_54, e164_57, e164_58, e164_61, e164_62, e164_63, e164_66, e164_67, e164_68, e164_71, e164_72, e164_73, e164_76, e164_77, e164_80, e164_81, e164_84, e164_85, e164_88, e164_89, ok88, h4, h2.2.2.1, show (0 : Int32) ≤ 0 by decide, not_true_eq_false, not_false_eq_true, if_true, if_false, and_self, vh_bds, vh_ps1, vh_ps0, vb0, vb1, vbz, vbo]
    rw [e164_16]
    simp only [e164_17, e164_18, e164_21, e164_24, e164_25, e164_28, e164_29, e164_53, e164_54, e164_57, e164_58, e164_71, e164_72, e164_73, e164_76, e164_77, e164_84, e164_85, e164_88, e164_89, ok88, k17, e, not_true_eq_false, not_false_eq_true, if_true, if_false, and_self, vh_bds, vh_ps1, vh_ps0, vb0, vb1, vbz, vbo]
    by_cases z : mi 88 19 ≤ nI (tkB N T q)
    · rw [if_pos z]
    · rw [if_neg z]
theorem s166 (h : RI N T mb mi q GA c Dn) : vh_C 166 [.ref 88] (vh_K d mi ml) = some (some (.int (vb ((rulN (tkL N T q)).isSome = true))), vh_K d mi ml) := by
  obtain ⟨h1, h2, h3, -⟩ := h
  simp only [c166, e166_0, e166_1, e166_4, e166_5, e166_6, e166_9, e166_10, e166_13, e166_14, e166_17, e166_18, e166_21, e166_22, e166_25, e166_26, e166_29, e166_30, e166_33, e166_34, e166_37, e166_38, e166_41, e166_42, e166_45, e166_46, e166_49, e166_50, e166_53, e166_54, e166_57, e166_58, ok88, s161 h1 h2 h3, wcmp (i := 1) (c := 495623370096) (by decide) (by decide), wcmp (i := 2) (c := 7811884315945690483) (by decide) (by decide), wcmp (i := 3) (c := 1918989413) (by decide) (by decide), wcmp (i := 4) (c := 439855772532) (by decide) (by decide), wcmp (i := 5) (c := 1818326117) (by decide) (by decide), wcmp (i := 6) (c := 1718186597) (by decide) (by decide), not_true_eq_false, not_false_eq_true, if_true, if_false, and_self, vh_bds, vh_ps1, vh_ps0, vb0, vb1, vbz, vbo]
  unfold rulN
  by_cases q1 : tkL N T q = wdS 1
  · rw [if_pos q1, if_pos q1]; rfl
  rw [if_neg q1, if_neg q1]
  by_cases q2 : tkL N T q = wdS 2
  · rw [if_pos q2, if_pos q2]; rfl
  rw [if_neg q2, if_neg q2]
  by_cases q3 : tkL N T q = wdS 3
  · rw [if_pos q3, if_pos q3]; rfl
  rw [if_neg q3, if_neg q3]
  by_cases q4 : tkL N T q = wdS 4
  · rw [if_pos q4, if_pos q4]; rfl
  rw [if_neg q4, if_neg q4]
  by_cases q5 : tkL N T q = wdS 5
  · rw [if_pos q5, if_pos q5]; rfl
  rw [if_neg q5, if_neg q5]
  by_cases q6 : tkL N T q = wdS 6
  · rw [if_neg (not_not_intro q6), if_pos q6]; rfl
  rw [if_pos q6, if_neg q6]; rfl
theorem s167 (h : RI N T mb mi q GA c Dn) : vh_C 167 [.ref 88] (vh_K d mi ml) = some (some (.int (bvI (useN (tkL N T q)))), vh_K d mi ml) := by
  obtain ⟨h1, h2, h3, -⟩ := h
  simp only [c167, e167_0, e167_1, e167_4, e167_5, e167_6, e167_9, e167_10, e167_13, e167_14, e167_17, e167_18, e167_21, e167_22, e167_25, e167_26, e167_29, e167_30, e167_33, e167_34, e167_37, e167_38, e167_41, e167_42, e167_45, e167_46, e167_49, e167_50, e167_53, e167_54, e167_57, e167_58, e167_61, e167_62, e167_65, e167_67, ok88, s161 h1 h2 h3, wcmp (i := 7) (c := 32199642371088754) (by decide) (by decide), wcmp (i := 8) (c := 482671228025) (by decide) (by decide), wcmp (i := 9) (c := 1668052322) (by decide) (by decide), wcmp (i := 10) (c := 28839564633334124) (by decide) (by decide), wcmp (i := 11) (c := 126870791090028) (by decide) (by decide), not_true_eq_false, not_false_eq_true, if_true, if_false, and_self, vh_bds, vh_ps1, vh_ps0, vb0, vb1, vbz, vbo]
  unfold useN
  by_cases q1 : tkL N T q = wdS 7
  · rw [if_neg (not_not_intro q1), if_pos q1]; rfl
  rw [if_pos q1, if_neg q1]
  by_cases q2 : tkL N T q = wdS 8
  · rw [if_neg (not_not_intro q2), if_pos q2]; rfl
  rw [if_pos q2, if_neg q2]
  by_cases q3 : tkL N T q = wdS 9
  · rw [if_neg (not_not_intro q3), if_pos q3]; rfl
  rw [if_pos q3, if_neg q3]
  by_cases q4 : tkL N T q = wdS 10
  · rw [if_neg (not_not_intro q4), if_pos q4]; rfl
  rw [if_pos q4, if_neg q4]
  by_cases q5 : tkL N T q = wdS 11
  · rw [if_neg (not_not_intro q5), if_pos q5]; rfl
  rw [if_pos q5, if_neg q5]; rfl
end

abbrev pZ : Type := (Nat × Nat) ⊕ (Nat × (Nat → Nat → Nat) × Nat)
def pHl2 (N : Nat) (T : Nat → Nat) (h : Nat) : Nat → Nat → (Nat → Nat → Nat) → Nat → pZ
  | 0, _, _, _ => .inl (9, 9)
  | f + 1, q, G, c => if tkK N T q = 3 then .inr (tkE N T q, G, c) else (match pRul N T h q G with
    | .inl e => .inl e
    | .inr (q', G') => pHl2 N T h f q' G' (c + 1))
def pStm (N : Nat) (T : Nat → Nat) (q : Nat) (G : Nat → Nat → Nat) (c : Nat) : pZ := if tkL N T q = wdS 0 then (match pNum N T 3 (tkE N T q) with
  | .inl e => .inl e
  | .inr (h, q2) => (match pRul N T h q2 G with
    | .inl e => .inl e
    | .inr (q3, G3) => pHl2 N T h 401 q3 G3 (c + 1))) else .inl (1, tkB N T q)
def pAll (N : Nat) (T : Nat → Nat) : Nat → Nat → (Nat → Nat → Nat) → Nat → pZ
  | 0, _, _, _ => .inl (9, 9)
  | f + 1, q, G, c => if tkK N T q = 0 then .inr (q, G, c) else (match pStm N T q G c with
    | .inl e => .inl e
    | .inr (q', G', c') => pAll N T f q' G' c')
section
variable {N : Nat} {T : Nat → Nat}
theorem pHl2_go {h : Nat} : ∀ {f q c : Nat} {G : Nat → Nat → Nat} {q' c' : Nat} {G' : Nat → Nat → Nat}, q ≤ N → pHl2 N T h f q G c = .inr (q', G', c') → q < q' ∧ q' ≤ N := by
  intro f
  induction f with
  | zero => intro q c G q' c' G' _ e; cases e
  | succ f ih =>
    intro q c G q' c' G' hq e
    unfold pHl2 at e
    by_cases q0 : tkK N T q = 3
    · rw [if_pos q0] at e
      cases e
      exact tk_go hq (by omega)
    · rw [if_neg q0] at e
      cases e1 : pRul N T h q G with
      | inl x => rw [e1] at e; cases e
      | inr x =>
        obtain ⟨q1, G1⟩ := x
        rw [e1] at e
        have := pRul_go hq e1
        have := ih this.2 e
        omega
theorem pStm_go {q c q' c' : Nat} {G G' : Nat → Nat → Nat} (hq : q ≤ N) (e : pStm N T q G c = .inr (q', G', c')) : q < q' ∧ q' ≤ N := by
  unfold pStm at e
  by_cases q0 : tkL N T q = wdS 0
  · rw [if_pos q0] at e
    have hg := tk_go (T := T) hq (by rw [name_1 (by rw [q0]; decide)]; decide)
    cases e1 : pNum N T 3 (tkE N T q) with
    | inl x => rw [e1] at e; cases e
    | inr x =>
      obtain ⟨h, q2⟩ := x
      rw [e1] at e
      simp only at e
      have h1 := pNum_go hg.2 e1
      cases e2 : pRul N T h q2 G with
      | inl x => rw [e2] at e; cases e
      | inr x =>
        obtain ⟨q3, G3⟩ := x
        rw [e2] at e
        have h2 := pRul_go h1.2.2.2.2.2 e2
        have h3 := pHl2_go h2.2 e
        omega
  · rw [if_neg q0] at e; cases e
end
section
variable {mb : Nat → Nat → Int32} {ml : Nat → Nat → Int64} {N : Nat} {T : Nat → Nat} {c : Nat}
def HaC (N : Nat) (T : Nat → Nat) (mb : Nat → Nat → Int32) (ml : Nat → Nat → Int64) (R : vh_R) (p : pZ) : Prop := (∃ x mi' d', p = .inl x ∧ d' < 4 ∧ R = some (some (.int 0), vh_K d' mi' ml) ∧ CFl mb mi' x) ∨ (∃ q' G' c' mi' d', p = .inr (q', G', c') ∧ d' < 4 ∧ R = some (some (.int 1), vh_K d' mi' ml) ∧ CI N T mb mi' q' G' c')
theorem l36 {d : Nat} (hd : d < 4) : ∀ (f q i c : Nat) (G : Nat → Nat → Nat) (mi : Nat → Nat → Int32), N - q < f → i < q → CI N T mb mi q G c → HaC N T mb ml (vh_E 36 55 [some (.ref 24), some (.int 1), some (.int (nI i))] [] (vh_K d mi ml)) (pHl2 N T d f q G c) := by
  intro f
  induction f with
  | zero => intro q i c G mi hf _ _; omega
  | succ f ih =>
    intro q i c G mi hf hi h
    have hN := h.1.1
    have hq := h.2.2.1
    have k2 := h.2.1.1
    have hle := tk_le (N := N) (T := T) (q := q)
    have e3 : nI (tkK N T q) = 3 ↔ tkK N T q = 3 := nI_eq (b := 3) (by omega) (by decide)
    have hi4 : ¬ (400 : Int32) ≤ nI i := nI_ge (b := 400) (by omega) (by decide)
    unfold pHl2
    by_cases q0 : tkK N T q = 3
    · rw [if_pos q0]
      obtain ⟨f1, e1, h1⟩ := h.adv (d := d) (ml := ml)
      refine Or.inr ⟨_, _, _, _, d, rfl, hd, ?_, h1⟩
      have k3 : mi 22 2 = 3 := by rw [k2, q0]; rfl
      rw [e36_55]
      simp only [e36_56, e36_59, e36_62, e36_63, e36_66, e36_67, e36_70, e36_73, e36_74, e36_88, e36_89, e36_92, e36_93, e36_96, e36_99, e36_100, hi4, ok24, ok22, rf24_0, k3, e1, show ¬ (1 : Int32) = 0 by decide, vbo, not_true_eq_false, not_false_eq_true, if_true, if_false, and_self, vh_bds, vh_ps1, vh_ps0, vb0, vb1, vbz, vbo]
    · rw [if_neg q0]
      have hne : ¬ nI (tkK N T q) = 3 := fun z => q0 (e3.mp z)
      have step : ∀ v w', vh_C 48 [.ref 24] (vh_K d mi ml) = some (some (.int v), w') → vh_E 36 55 [some (.ref 24), some (.int 1), some (.int (nI i))] [] (vh_K d mi ml) = vh_E 36 55 [some (.ref 24), some (.int v), some (.int (nI (i + 1)))] [] w' := by
        intro v w' e
        rw [e36_55]
        simp only [e36_56, e36_59, e36_62, e36_63, e36_66, e36_67, e36_70, e36_73, e36_74, e36_77, e36_78, e36_81, e36_82, e36_85, hi4, ok24, ok22, rf24_0, k2, hne, e, nI_1, show ¬ (1 : Int32) = 0 by decide, not_true_eq_false, not_false_eq_true, if_true, if_false, and_self, vh_bds, vh_ps1, vh_ps0, vb0, vb1, vbz, vbo]
      rcases s48 (ml := ml) hd h with ⟨x, mi', p, e, hfl⟩ | ⟨q', G', mi', p, e, hci⟩
      · rw [p, step _ _ e]
        refine Or.inl ⟨x, mi', d, rfl, hd, ?_, hfl⟩
        rw [e36_55]
        simp only [e36_56, e36_59, e36_62, e36_63, e36_88, e36_89, e36_99, e36_100, vbz, if_true]
        by_cases z : (400 : Int32) ≤ nI (i + 1)
        · rw [if_pos z]
        · rw [if_neg z]
      · rw [p, step _ _ e]
        have hg := pRul_go hq p
        exact ih q' (i + 1) (c + 1) G' mi' (by omega) (by omega) hci
theorem s36 {d q : Nat} {G : Nat → Nat → Nat} {mi : Nat → Nat → Int32} (hd : d < 4) (h : CI N T mb mi q G c) : HaC N T mb ml (vh_C 36 [.ref 24] (vh_K d mi ml)) (pStm N T q G c) := by
  have w0 := s37 (d := d) (ml := ml) (i := 0) (by decide) h.1 h.2.1 h.2.2.1
  simp only [Nat.reduceAdd] at w0
  unfold pStm
  by_cases q0 : tkL N T q = wdS 0
  · rw [if_pos q0]
    have hg := tk_go (T := T) h.2.2.1 (by rw [name_1 (by rw [q0]; decide)]; decide)
    obtain ⟨f1, e1, h1⟩ := h.adv (d := d) (ml := ml)
    obtain ⟨v, mi2, e2, H⟩ := s46 (d := d) (ml := ml) (mx := 3) h1 (by decide)
    have e2 : vh_C 46 [.ref 24, .int 3] (vh_K d (vh_sA mi 22 f1) ml) = some (some (.int v), vh_K d mi2 ml) := e2
    rcases H with ⟨x, p, rfl, hf⟩ | ⟨x, q2, p, rfl, hc, h4⟩
    · rw [p]
      refine Or.inl ⟨x, mi2, d, rfl, hd, ?_, hf⟩
      simp only [c36, e36_0, e36_1, e36_4, e36_6, e36_9, e36_12, e36_13, e36_14, e36_17, e36_18, e36_19, e36_22, e36_25, e36_26, e36_27, e36_30, e36_33, e36_34, e36_36, e36_37, e36_40, e36_41, e36_44, e36_45, e36_48, e36_49, e36_52, e36_53, e36_54, e36_55, e36_56, e36_59, e36_62, e36_63, e36_66, e36_67, e36_70, e36_73, e36_74, e36_77, e36_78, e36_81, e36_82, e36_85, e36_88, e36_89, e36_92, e36_93, e36_96, e36_99, e36_100, ok24, ok22, rf24_0, w0, q0, e1, e2, not_true_eq_false, not_false_eq_true, if_true, if_false, and_self, vh_bds, vh_ps1, vh_ps0, vb0, vb1, vbz, vbo]
    · rw [p]
      have hx := pNum_go h1.2.2.1 p
      have hx4 : x < 4 := by omega
      have start : vh_C 36 [.ref 24] (vh_K d mi ml) = vh_bd (vh_C 48 [.ref 24] (vh_K x mi2 ml)) (fun v w => vh_E 36 52 [some (.ref 24), none, none] (vh_ps v []) w) := by
        have hix : vh_ixa 25 (nI x) = true := ixa (by rw [kd25]; omega) (by omega)
        simp only [c36, e36_0, e36_1, e36_4, e36_6, e36_9, e36_12, e36_13, e36_14, e36_17, e36_18, e36_19, e36_22, e36_25, e36_26, e36_27, e36_30, e36_33, e36_34, e36_35, e36_36, e36_37, e36_40, e36_41, e36_44, e36_48, e36_49, e36_53, e36_54, e36_55, e36_56, e36_59, e36_62, e36_63, e36_66, e36_67, e36_70, e36_73, e36_74, e36_77, e36_78, e36_81, e36_82, e36_85, e36_88, e36_89, e36_92, e36_93, e36_96, e36_99, e36_100, ok24, ok22, ok25, rf24_0, rf24_2, Bool.true_or, w0, q0, e1, e2, h4, hix, clK (show x < 1000 by omega), rfE hx4, e36_45 hx4, show ¬ (1 : Int32) = 0 by decide, not_true_eq_false, not_false_eq_true, if_true, if_false, and_self, vh_bds, vh_ps1, vh_ps0, vb0, vb1, vbz, vbo]
      rw [start]
      show HaC N T mb ml _ (match pRul N T x q2 G with
        | .inl e => .inl e
        | .inr (q3, G3) => pHl2 N T x 401 q3 G3 (c + 1))
      rcases s48 (ml := ml) hx4 hc with ⟨y, mi', p2, e, hfl⟩ | ⟨q', G', mi', p2, e, hci⟩
      · rw [p2, e]
        refine Or.inl ⟨y, mi', x, rfl, hx4, ?_, hfl⟩
        simp only [e36_52, e36_53, e36_54, e36_55, e36_56, e36_59, e36_62, e36_63, e36_88, e36_89, e36_99, e36_100, vbz, show ¬ (400 : Int32) ≤ 0 by decide, not_true_eq_false, not_false_eq_true, if_true, if_false, and_self, vh_bds, vh_ps1, vh_ps0, vb0, vb1, vbz, vbo]
      · rw [p2, e]
        have hg2 := pRul_go hc.2.2.1 p2
        have hN := h.1.1
        have L := l36 (ml := ml) hx4 401 q' 0 (c + 1) G' mi' (by omega) (by omega) hci
        simp only [e36_52, e36_53, e36_54, not_true_eq_false, not_false_eq_true, if_true, if_false, and_self, vh_bds, vh_ps1, vh_ps0, vb0, vb1, vbz, vbo]
        exact L
  · rw [if_neg q0]
    obtain ⟨f, e, hfl⟩ := s45 (d := d) (ml := ml) (n := 1) h
    have e : vh_C 45 [.ref 24, .int 1] (vh_K d mi ml) = some (some (.int 0), vh_K d (vh_sA mi 24 f) ml) := e
    refine Or.inl ⟨_, _, d, rfl, hd, ?_, hfl⟩
    simp only [c36, e36_0, e36_1, e36_4, e36_6, e36_9, e36_12, e36_13, e36_14, e36_17, e36_19, e36_22, e36_25, e36_26, e36_27, e36_30, e36_33, e36_34, e36_35, e36_36, e36_37, e36_40, e36_41, e36_44, e36_45, e36_48, e36_49, e36_52, e36_53, e36_54, e36_55, e36_56, e36_59, e36_62, e36_63, e36_66, e36_67, e36_70, e36_73, e36_74, e36_77, e36_78, e36_81, e36_82, e36_85, e36_88, e36_89, e36_92, e36_93, e36_96, e36_99, e36_100, ok24, ok22, rf24_0, w0, q0, e, not_true_eq_false, not_false_eq_true, if_true, if_false, and_self, vh_bds, vh_ps1, vh_ps0, vb0, vb1, vbz, vbo]
theorem l31 : ∀ (f q i c d : Nat) (G : Nat → Nat → Nat) (mi : Nat → Nat → Int32), N - q < f → i ≤ q → d < 4 → CI N T mb mi q G c → ∃ v i' d' mi', vh_E 31 44 [some (.ref 24), some (.int 1), some (.int (nI i))] [] (vh_K d mi ml) = vh_E 31 76 [some (.ref 24), some (.int v), i'] [] (vh_K d' mi' ml) ∧ d' < 4 ∧ ((∃ x, pAll N T f q G c = .inl x ∧ v = 0 ∧ CFl mb mi' x) ∨ (∃ q' G' c', pAll N T f q G c = .inr (q', G', c') ∧ v = 1 ∧ CI N T mb mi' q' G' c')) := by
  intro f
  induction f with
  | zero => intro q i c d G mi hf _ _ _; omega
  | succ f ih =>
    intro q i c d G mi hf hi hd h
    have hN := h.1.1
    have hq := h.2.2.1
    have k2 := h.2.1.1
    have hle := tk_le (N := N) (T := T) (q := q)
    have e0 : nI (tkK N T q) = 0 ↔ tkK N T q = 0 := nI_eq (b := 0) (by omega) (by decide)
    unfold pAll
    by_cases q0 : tkK N T q = 0
    · rw [if_pos q0]
      have k0 : mi 22 2 = 0 := by rw [k2, q0]; rfl
      refine ⟨1, some (.int (nI i)), d, mi, ?_, hd, Or.inr ⟨_, _, _, rfl, rfl, h⟩⟩
      rw [e31_44]
      simp only [e31_45, e31_48, e31_51, e31_52, e31_55, e31_56, e31_59, e31_62, ok24, ok22, rf24_0, k0, show ¬ (1 : Int32) = 0 by decide, not_true_eq_false, not_false_eq_true, if_true, if_false, and_self, vh_bds, vh_ps1, vh_ps0, vb0, vb1, vbz, vbo]
      by_cases z : (400 : Int32) ≤ nI i
      · rw [if_pos z]
      · rw [if_neg z]
    · rw [if_neg q0]
      have hg := tk_go (T := T) hq q0
      have hi4 : ¬ (400 : Int32) ≤ nI i := nI_ge (b := 400) (by omega) (by decide)
      have hne : ¬ nI (tkK N T q) = 0 := fun z => q0 (e0.mp z)
      have step : ∀ v w', vh_C 36 [.ref 24] (vh_K d mi ml) = some (some (.int v), w') → vh_E 31 44 [some (.ref 24), some (.int 1), some (.int (nI i))] [] (vh_K d mi ml) = vh_E 31 44 [some (.ref 24), some (.int v), some (.int (nI (i + 1)))] [] w' := by
        intro v w' e
        rw [e31_44]
        simp only [e31_45, e31_48, e31_51, e31_52, e31_55, e31_56, e31_59, e31_62, e31_65, e31_66, e31_69, e31_70, e31_73, hi4, ok24, ok22, rf24_0, k2, hne, e, nI_1, show ¬ (1 : Int32) = 0 by decide, not_true_eq_false, not_false_eq_true, if_true, if_false, and_self, vh_bds, vh_ps1, vh_ps0, vb0, vb1, vbz, vbo]
      rcases s36 (ml := ml) hd h with ⟨x, mi', d', p, hd', e, hfl⟩ | ⟨q', G', c', mi', d', p, hd', e, hci⟩
      · rw [p, step _ _ e]
        refine ⟨0, some (.int (nI (i + 1))), d', mi', ?_, hd', Or.inl ⟨x, rfl, rfl, hfl⟩⟩
        rw [e31_44]
        simp only [e31_45, e31_48, e31_51, e31_52, if_true]
        by_cases z : (400 : Int32) ≤ nI (i + 1)
        · rw [if_pos z]
        · rw [if_neg z]
      · rw [p, step _ _ e]
        have hg2 := pStm_go hq p
        exact ih q' (i + 1) c' d' G' mi' (by omega) (by omega) hd' hci
end

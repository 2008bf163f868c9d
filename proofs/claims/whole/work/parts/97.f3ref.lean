section
variable {N : Nat} {T : Nat → Nat} {q h : Nat} {G : Nat → Nat → Nat}
theorem pN1_H {j mx q' : Nat} {G' : Nat → Nat → Nat} (hq : q ≤ N) (hG : ∀ h, h < 4 → HlB (G h)) (hb : ∀ v, v ≤ mx → bnd j v) (e : pN1 N T h j mx q G = .inr (q', G')) : ∀ h, h < 4 → HlB (G' h) := by
  obtain ⟨v, e1, rfl, -⟩ := pN1_go hq e
  exact gs_H hG (hb v (pNum_go hq e1).2.2.1)
theorem pFst_H (hh : h < 4) : ∀ {f q met r : Nat} {G G' : Nat → Nat → Nat} {q' : Nat}, (∀ h, h < 4 → HlB (G h)) → (∀ v, v < 5 → (met.testBit v = true ↔ G h (20 + v) < r)) → pFst N T h f q met r G = .inr (q', G') → ∀ h, h < 4 → HlB (G' h) := by
  intro f
  induction f with
  | zero => intro q met r G G' q' _ _ e; cases e
  | succ f ih =>
    intro q met r G G' q' hG hm e
    unfold pFst at e
    cases e0 : useN (tkL N T q) with
    | none => rw [e0] at e; cases e
    | some u =>
      rw [e0] at e
      simp only at e
      have hu := useN_lt e0
      by_cases q1 : met.testBit u = true
      · rw [if_pos q1] at e; cases e
      · rw [if_neg q1] at e
        have hr : r ≤ G h (20 + u) := by
          rcases Nat.lt_or_ge (G h (20 + u)) r with z | z
          · exact absurd ((hm u hu).mpr z) q1
          · exact z
        cases e2 : useN (tkL N T (tkE N T q)) with
        | none => rw [e2] at e; cases e; exact rs_H hG hh hu hr
        | some u2 =>
          rw [e2] at e
          exact ih (rs_H hG hh hu hr) (rs_met (hG h hh) hu hr hm) e
theorem pRul_H {q' : Nat} {G' : Nat → Nat → Nat} (hh : h < 4) (hq : q ≤ N) (hG : ∀ h, h < 4 → HlB (G h)) (e : pRul N T h q G = .inr (q', G')) : ∀ h, h < 4 → HlB (G' h) := by
  unfold pRul at e
  cases e0 : rulN (tkL N T q) with
  | none => rw [e0] at e; cases e
  | some rl =>
    have hg := tk_go (T := T) hq (by rw [rul_1 e0]; decide)
    have hl := rulN_lt e0
    rw [e0] at e
    rcases (show rl = 0 ∨ rl = 1 ∨ rl = 2 ∨ rl = 3 ∨ rl = 4 ∨ rl = 5 by omega) with rfl | rfl | rfl | rfl | rfl | rfl
    · exact pN1_H hg.2 hG (fun v hv => by unfold bnd; omega) e
    · exact pN1_H hg.2 hG (fun v hv => by unfold bnd; omega) e
    · simp only at e
      cases e1 : useN (tkL N T (tkE N T q)) with
      | none => rw [e1] at e; cases e
      | some u =>
        rw [e1] at e
        have hu := useN_lt e1
        have hg2 := tk_go (T := T) hg.2 (by rw [use_1 e1]; decide)
        exact pN1_H hg2.2 hG (fun v hv => by unfold bnd; omega) e
    · exact pFst_H hh hG (fun v _ => by rw [Nat.zero_testBit]; exact ⟨fun z => (by cases z), fun z => (by omega)⟩) e
    · simp only at e
      cases e1 : pN1 N T h 2 60 (tkE N T q) G with
      | inl x => rw [e1] at e; cases e
      | inr x =>
        obtain ⟨q1, G1⟩ := x
        rw [e1] at e
        have hq1 := (pN1_go hg.2 e1).choose_spec.2.2.2
        exact pN1_H hq1 (pN1_H hg.2 hG (fun v hv => by unfold bnd; omega) e1) (fun v hv => by unfold bnd; omega) e
    · simp only at e
      cases e1 : pNum N T 1 (tkE N T q) with
      | inl x => rw [e1] at e; cases e
      | inr x =>
        obtain ⟨f, q1⟩ := x
        rw [e1] at e
        have h1 := pNum_go hg.2 e1
        exact pN1_H h1.2.2.2.2.2 hG (fun v hv => by unfold bnd; omega) e
theorem pHl2_H (hh : h < 4) : ∀ {f q c : Nat} {G : Nat → Nat → Nat} {q' c' : Nat} {G' : Nat → Nat → Nat}, q ≤ N → (∀ h, h < 4 → HlB (G h)) → pHl2 N T h f q G c = .inr (q', G', c') → ∀ h, h < 4 → HlB (G' h) := by
  intro f
  induction f with
  | zero => intro q c G q' c' G' _ _ e; cases e
  | succ f ih =>
    intro q c G q' c' G' hq hG e
    unfold pHl2 at e
    by_cases q0 : tkK N T q = 3
    · rw [if_pos q0] at e
      cases e
      exact hG
    · rw [if_neg q0] at e
      cases e1 : pRul N T h q G with
      | inl x => rw [e1] at e; cases e
      | inr x =>
        obtain ⟨q1, G1⟩ := x
        rw [e1] at e
        exact ih (pRul_go hq e1).2 (pRul_H hh hq hG e1) e
end
section
variable {d : Nat} {mb : Nat → Nat → Int32} {ml : Nat → Nat → Int64} {N : Nat} {T : Nat → Nat} {h : Nat} {Dn : Bool}
def HaM (N : Nat) (T : Nat → Nat) (mb : Nat → Nat → Int32) (d : Nat) (ml : Nat → Nat → Int64) (Dn : Bool) (GA : Nat → Nat → Nat) (R : vh_R) (p : pZ) : Prop := (∃ x, p = .inl x ∧ (Dn = false → ∃ mi' l1 l2, R = vh_E 156 14 [some (.ref 88), l1, l2] [] (vh_K d mi' ml) ∧ RFl mb mi' GA Dn x)) ∨ (∃ q' G' c' mi' l1 l2, p = .inr (q', G', c') ∧ R = vh_E 156 14 [some (.ref 88), l1, l2] [] (vh_K d mi' ml) ∧ RI N T mb mi' q' (if Dn = true then G' else GA) c' Dn)
theorem if_if {α : Type} {a b : α} : (if Dn = true then b else if Dn = true then a else b) = b := by cases Dn <;> rfl
theorem HaM.up {GA G1 : Nat → Nat → Nat} {R : vh_R} {p : pZ} (H : HaM N T mb d ml Dn (if Dn = true then G1 else GA) R p) : HaM N T mb d ml Dn GA R p := by
  cases eD : Dn with
  | false => rw [eD] at H; exact H
  | true =>
    rw [eD] at H
    rcases H with ⟨x, p1, hx⟩ | ⟨q', G', c', mi', l1, l2, p1, e, HH⟩
    · exact Or.inl ⟨x, p1, fun z => by cases z⟩
    · exact Or.inr ⟨q', G', c', mi', l1, l2, p1, e, HH⟩
theorem l156i (hh : h < 4) : ∀ (f q c : Nat) (G GA : Nat → Nat → Nat) (mi : Nat → Nat → Int32), N - q < f + 1 → RI N T mb mi q GA c Dn → (Dn = true → GA = G) → (∀ h, h < 4 → HlB (G h)) → HaM N T mb d ml Dn GA (vh_E 156 68 [some (.ref 88), some (.int (nI h)), some (.int 1)] [] (vh_K d mi ml)) (match pRul N T h q G with
    | .inl e => .inl e
    | .inr (q', G') => pHl2 N T h (f + 1) q' G' (c + 1)) := by
  intro f
  induction f with
  | zero =>
    intro q c G GA mi hf H hGA hBB
    have hq := H.2.2.1
    have hqN : q = N := by omega
    have hk : tkK N T q = 0 := by
      unfold tkK
      have := (tk_b (T := T) hq).1
      rw [if_pos (by omega)]
    have er : pRul N T h q G = .inl (1, tkB N T q) := by
      unfold pRul
      cases e0 : rulN (tkL N T q) with
      | none => rfl
      | some rl => have := rul_1 e0; omega
    rw [er]
    rcases s165 (d := d) (ml := ml) hh H hGA hBB with ⟨x, p, hx⟩ | ⟨q', G', m3, p, e3, H3⟩
    · rw [er] at p
      cases p
      refine Or.inl ⟨_, rfl, fun z => ?_⟩
      obtain ⟨mi', g1, g2⟩ := hx z
      refine ⟨mi', some (.int (nI h)), some (.int 0), ?_, g2⟩
      rw [e156_68]
      simp only [e156_69, e156_72, e156_73, e156_74, e156_77, e156_78, e156_81, e156_95, e156_96, e156_97, e156_68, e156_100, e156_101, e156_104, e156_124, ok88, g1, g2.ne, show ¬ (1 : Int32) = 0 by decide, not_true_eq_false, not_false_eq_true, if_true, if_false, and_self, vh_bds, vh_ps1, vh_ps0, vb0, vb1, vbz, vbo]
    · rw [er] at p; cases p
  | succ f ih =>
    intro q c G GA mi hf H hGA hBB
    have hq := H.2.2.1
    rcases s165 (d := d) (ml := ml) hh H hGA hBB with ⟨x, p, hx⟩ | ⟨q', G', m3, p, e3, H3⟩
    · rw [p]
      refine Or.inl ⟨x, rfl, fun z => ?_⟩
      obtain ⟨mi', g1, g2⟩ := hx z
      refine ⟨mi', some (.int (nI h)), some (.int 0), ?_, g2⟩
      rw [e156_68]
      simp only [e156_69, e156_72, e156_73, e156_74, e156_77, e156_78, e156_81, e156_95, e156_96, e156_97, e156_68, e156_100, e156_101, e156_104, e156_124, ok88, g1, g2.ne, show ¬ (1 : Int32) = 0 by decide, not_true_eq_false, not_false_eq_true, if_true, if_false, and_self, vh_bds, vh_ps1, vh_ps0, vb0, vb1, vbz, vbo]
    · rw [p]
      have hg := pRul_go hq p
      have hBB' := pRul_H hh hq hBB p
      have k20 := H3.2.2.2.1
      have hle := tk_le (N := N) (T := T) (q := q')
      show HaM N T mb d ml Dn GA _ (pHl2 N T h (f + 1 + 1) q' G' (c + 1))
      unfold pHl2
      cases er : rulN (tkL N T q') with
      | some rl =>
        have hk1 := rul_1 er
        rw [if_neg (by omega)]
        have step : vh_E 156 68 [some (.ref 88), some (.int (nI h)), some (.int 1)] [] (vh_K d mi ml) = vh_E 156 68 [some (.ref 88), some (.int (nI h)), some (.int 1)] [] (vh_K d m3 ml) := by
          rw [e156_68]
          simp only [e156_69, e156_72, e156_73, e156_74, e156_77, e156_78, e156_81, e156_84, e156_85, e156_88, e156_91, e156_92, e156_96, e156_97, ok88, e3, k20, s166 H3, er, show vb ((some rl).isSome = true) = 1 from rfl, show ¬ (1 : Int32) = 0 by decide, not_true_eq_false, not_false_eq_true, if_true, if_false, and_self, vh_bds, vh_ps1, vh_ps0, vb0, vb1, vbz, vbo]
        rw [step]
        have := ih q' (c + 1) G' _ m3 (by omega) H3 (fun z => by rw [if_pos z]) hBB'
        exact this.up
      | none =>
        have stop : vh_E 156 68 [some (.ref 88), some (.int (nI h)), some (.int 1)] [] (vh_K d mi ml) = vh_E 156 100 [some (.ref 88), some (.int (nI h)), some (.int 0)] [] (vh_K d m3 ml) := by
          rw [e156_68]
          simp only [e156_69, e156_72, e156_73, e156_74, e156_77, e156_78, e156_81, e156_84, e156_85, e156_88, e156_95, e156_96, e156_97, e156_68, ok88, e3, k20, s166 H3, er, show vb ((none : Option Nat).isSome = true) = 0 from rfl, show ¬ (1 : Int32) = 0 by decide, not_true_eq_false, not_false_eq_true, if_true, if_false, and_self, vh_bds, vh_ps1, vh_ps0, vb0, vb1, vbz, vbo]
        rw [stop]
        have k17 := H3.2.1.2.1
        by_cases q3 : tkK N T q' = 3
        · rw [if_pos q3]
          obtain ⟨f2, e2, H4⟩ := s162t (d := d) (ml := ml) H3
          have k17' : m3 88 17 = 4 := by rw [k17, q3]; rfl
          refine Or.inr ⟨_, _, _, _, some (.int (nI h)), some (.int 0), rfl, ?_, H4⟩
          simp only [e156_100, e156_101, e156_104, e156_107, e156_108, e156_109, e156_112, e156_113, e156_116, e156_117, e156_121, e156_124, ok88, k20, k17', e2, not_true_eq_false, not_false_eq_true, if_true, if_false, and_self, vh_bds, vh_ps1, vh_ps0, vb0, vb1, vbz, vbo]
        · rw [if_neg q3]
          have er2 : pRul N T h q' G' = .inl (1, tkB N T q') := by unfold pRul; rw [er]
          rw [er2]
          obtain ⟨m4, e4, hfl⟩ := s162n (d := d) (ml := ml) H3
          have k17' : ¬ m3 88 17 = 4 := by
            rw [k17]
            intro z
            have : rkK (tkK N T q') = 4 := (nI_eq (b := 4) (by unfold rkK; split <;> omega) (by decide)).mp z
            unfold rkK at this
            split at this <;> omega
          refine Or.inl ⟨_, rfl, fun z => ⟨m4, some (.int (nI h)), some (.int 0), ?_, ?_⟩⟩
          · simp only [e156_100, e156_101, e156_104, e156_107, e156_108, e156_109, e156_112, e156_113, e156_120, e156_121, e156_124, ok88, k20, k17', e4, not_true_eq_false, not_false_eq_true, if_true, if_false, and_self, vh_bds, vh_ps1, vh_ps0, vb0, vb1, vbz, vbo]
          · rw [z] at hfl ⊢; exact hfl
theorem st156 {q c : Nat} {G GA : Nat → Nat → Nat} {mi : Nat → Nat → Int32} {l1 l2 : Option Value} (H : RI N T mb mi q GA c Dn) (hGA : Dn = true → GA = G) (hBB : ∀ h, h < 4 → HlB (G h)) (h0 : ¬ tkK N T q = 0) : HaM N T mb d ml Dn GA (vh_E 156 14 [some (.ref 88), l1, l2] [] (vh_K d mi ml)) (pStm N T q G c) := by
  have hN := H.1.1
  have hq := H.2.2.1
  have k20 := H.2.2.2.1
  have k17 := H.2.1.2.1
  have hle := tk_le (N := N) (T := T) (q := q)
  have hw := s161 (d := d) (ml := ml) H.1 H.2.1 hq
  have w0 := wcmp (N := N) (T := T) (q := q) (i := 0) (c := 1751215212) (by decide) (by decide)
  have k17' : ¬ mi 88 17 = 1 := by
    rw [k17]
    intro z
    have : rkK (tkK N T q) = 1 := (nI_eq (b := 1) (by unfold rkK; split <;> omega) (by decide)).mp z
    unfold rkK at this
    split at this <;> omega
  unfold pStm
  by_cases q0 : tkL N T q = wdS 0
  · rw [if_pos q0]
    obtain ⟨f1, e1, H1⟩ := s162t (d := d) (ml := ml) H
    obtain ⟨v, m2, e2, HH⟩ := s164 (d := d) (ml := ml) (mx := 3) H1 (by decide)
    have e2 : vh_C 164 [.ref 88, .int 3] (vh_K d (vh_sA mi 88 f1) ml) = some (some (.int v), vh_K d m2 ml) := e2
    have start : vh_E 156 14 [some (.ref 88), l1, l2] [] (vh_K d mi ml) = vh_E 156 55 [some (.ref 88), some (.int v), l2] [] (vh_K d m2 ml) := by
      rw [e156_14]
      simp only [e156_15, e156_18, e156_21, e156_22, e156_25, e156_26, e156_29, e156_30, e156_31, e156_34, e156_37, e156_38, e156_41, e156_42, e156_46, e156_49, e156_50, e156_51, e156_54, ok88, k20, k17', hw, w0, q0, e1, e2, not_true_eq_false, not_false_eq_true, if_true, if_false, and_self, vh_bds, vh_ps1, vh_ps0, vb0, vb1, vbz, vbo]
    rw [start]
    rcases HH with ⟨x, p, hf⟩ | ⟨y, q2, p, rfl, H2⟩
    · rw [p]
      refine Or.inl ⟨x, rfl, fun z => ⟨m2, some (.int v), some (.int 0), ?_, hf⟩⟩
      simp only [e156_55, e156_56, e156_59, e156_66, e156_67, e156_68, e156_69, e156_100, e156_101, e156_104, e156_124, ok88, hf.ne, not_true_eq_false, not_false_eq_true, if_true, if_false, and_self, vh_bds, vh_ps1, vh_ps0, vb0, vb1, vbz, vbo]
    · rw [p]
      have hx := pNum_go H1.2.2.1 p
      have k20' := H2.2.2.2.1
      have L := l156i (d := d) (ml := ml) (h := y) (by omega) 400 q2 c G GA m2 (by omega) H2 hGA hBB
      have e : vh_E 156 55 [some (.ref 88), some (.int (nI y)), l2] [] (vh_K d m2 ml) = vh_E 156 68 [some (.ref 88), some (.int (nI y)), some (.int 1)] [] (vh_K d m2 ml) := by
        simp only [e156_55, e156_56, e156_59, e156_62, e156_63, e156_67, ok88, k20', not_true_eq_false, not_false_eq_true, if_true, if_false, and_self, vh_bds, vh_ps1, vh_ps0, vb0, vb1, vbz, vbo]
      rw [e]
      exact L
  · rw [if_neg q0]
    obtain ⟨m2, e, hf⟩ := s162n (d := d) (ml := ml) H
    have e2 : vh_C 164 [.ref 88, .int 3] (vh_K d m2 ml) = some (some (.int 0), vh_K d m2 ml) := s164f hf
    refine Or.inl ⟨_, rfl, fun z => ⟨m2, some (.int 0), some (.int 0), ?_, hf⟩⟩
    rw [e156_14]
    simp only [e156_15, e156_18, e156_21, e156_22, e156_25, e156_26, e156_29, e156_30, e156_31, e156_34, e156_37, e156_38, e156_45, e156_46, e156_49, e156_50, e156_51, e156_54, e156_55, e156_56, e156_59, e156_66, e156_67, e156_68, e156_69, e156_100, e156_101, e156_104, e156_124, ok88, k20, k17', hw, w0, q0, e, e2, hf.ne, not_true_eq_false, not_false_eq_true, if_true, if_false, and_self, vh_bds, vh_ps1, vh_ps0, vb0, vb1, vbz, vbo]
theorem pStm_H {q c q' c' : Nat} {G G' : Nat → Nat → Nat} (hq : q ≤ N) (hG : ∀ h, h < 4 → HlB (G h)) (e : pStm N T q G c = .inr (q', G', c')) : ∀ h, h < 4 → HlB (G' h) := by
  unfold pStm at e
  by_cases q0 : tkL N T q = wdS 0
  · rw [if_pos q0] at e
    have hg := tk_go (T := T) hq (by rw [name_1 (by rw [q0]; decide)]; decide)
    cases e1 : pNum N T 3 (tkE N T q) with
    | inl x => rw [e1] at e; cases e
    | inr x =>
      obtain ⟨h, q2⟩ := x
      rw [e1] at e
      simp only at e
      have h1 := pNum_go hg.2 e1
      cases e2 : pRul N T h q2 G with
      | inl x => rw [e2] at e; cases e
      | inr x =>
        obtain ⟨q3, G3⟩ := x
        rw [e2] at e
        have h2 := pRul_go h1.2.2.2.2.2 e2
        exact pHl2_H (show h < 4 by omega) h2.2 (pRul_H (by omega) h1.2.2.2.2.2 hG e2) e
  · rw [if_neg q0] at e; cases e
def RaM (N : Nat) (T : Nat → Nat) (mb : Nat → Nat → Int32) (d : Nat) (ml : Nat → Nat → Int64) (Dn : Bool) (GA : Nat → Nat → Nat) (R : vh_R) (p : pZ) : Prop := (∃ x, p = .inl x ∧ (Dn = false → ∃ mi', R = some (none, vh_K d mi' ml) ∧ RFl mb mi' GA Dn x)) ∨ (∃ q' G' c' mi', p = .inr (q', G', c') ∧ R = some (none, vh_K d mi' ml) ∧ RI N T mb mi' q' (if Dn = true then G' else GA) c' Dn)
theorem RaM.up {GA G1 : Nat → Nat → Nat} {R : vh_R} {p : pZ} (H : RaM N T mb d ml Dn (if Dn = true then G1 else GA) R p) : RaM N T mb d ml Dn GA R p := by
  cases eD : Dn with
  | false => rw [eD] at H; exact H
  | true =>
    rw [eD] at H
    rcases H with ⟨x, p1, hx⟩ | ⟨q', G', c', mi', p1, e, HH⟩
    · exact Or.inl ⟨x, p1, fun z => by cases z⟩
    · exact Or.inr ⟨q', G', c', mi', p1, e, HH⟩
theorem l156 : ∀ (f q c : Nat) (G GA : Nat → Nat → Nat) (mi : Nat → Nat → Int32) (l1 l2 : Option Value), N - q < f → RI N T mb mi q GA c Dn → (Dn = true → GA = G) → (∀ h, h < 4 → HlB (G h)) → RaM N T mb d ml Dn GA (vh_E 156 14 [some (.ref 88), l1, l2] [] (vh_K d mi ml)) (pAll N T f q G c) := by
  intro f
  induction f with
  | zero => intro q c G GA mi l1 l2 hf; omega
  | succ f ih =>
    intro q c G GA mi l1 l2 hf H hGA hBB
    have hq := H.2.2.1
    unfold pAll
    by_cases q0 : tkK N T q = 0
    · rw [if_pos q0]
      have k20 := H.2.2.2.1
      have k17 : mi 88 17 = 1 := by rw [H.2.1.2.1, q0]; rfl
      refine Or.inr ⟨q, G, c, mi, rfl, ?_, ?_⟩
      · rw [e156_14]
        simp only [e156_15, e156_18, e156_21, e156_22, e156_25, e156_26, e156_127, ok88, k20, k17, not_true_eq_false, not_false_eq_true, if_true, if_false, and_self, vh_bds, vh_ps1, vh_ps0, vb0, vb1, vbz, vbo]
      · cases eD : Dn with
        | false => rw [eD] at H; exact H
        | true => rw [eD, hGA eD] at H; exact H
    · rw [if_neg q0]
      rcases st156 (d := d) (ml := ml) (l1 := l1) (l2 := l2) H hGA hBB q0 with ⟨x, p, hx⟩ | ⟨q', G', c', m3, l1', l2', p, e3, H3⟩
      · rw [p]
        refine Or.inl ⟨x, rfl, fun z => ?_⟩
        obtain ⟨mi', l1', l2', g1, g2⟩ := hx z
        refine ⟨mi', ?_, g2⟩
        rw [g1, e156_14]
        simp only [e156_15, e156_18, e156_127, ok88, g2.ne, not_true_eq_false, not_false_eq_true, if_true, if_false, and_self, vh_bds, vh_ps1, vh_ps0, vb0, vb1, vbz, vbo]
      · rw [p, e3]
        have hg := pStm_go hq p
        exact (ih q' c' G' _ m3 l1' l2' (by omega) H3 (fun z => by rw [if_pos z]) (pStm_H hq hBB p)).up
end

section
variable {d : Nat} {ml : Nat → Nat → Int64} {G : Nat → Nat → Nat} {h j v : Nat}
theorem arr_0 {mi : Nat → Nat → Int32} (hm : arr mi G) (hh : h < 4) : arr (vh_sA mi 89 (upd (mi 89) h (nI v))) (gs G h 0 v) := by
  intro h' hh'
  obtain ⟨⟨e0, e1, e2, e3⟩, e4, e5, e6⟩ := hm h' hh'
  have hx : (vh_sA mi 89 (upd (mi 89) h (nI v))) 89 h' = nI (gs G h 0 v h' 0) := by
    rw [sAs]
    by_cases e : h' = h
    · subst e; rw [ups, gs_s]
    · rw [upn e, gs_n (fun z => e z.1)]; exact e0
  refine ⟨?_, ?_, ?_, ?_⟩
  · refine ⟨?_, ?_, ?_, ?_⟩
    · first | exact hx | (rw [sAn (by decide), gs_n (fun z => by cases z.2)]; exact e0)
    · first | exact hx | (rw [sAn (by decide), gs_n (fun z => by cases z.2)]; exact e1)
    · first | exact hx | (rw [sAn (by decide), gs_n (fun z => by cases z.2)]; exact e2)
    · first | exact hx | (rw [sAn (by decide), gs_n (fun z => by cases z.2)]; exact e3)
  · intro f hf
    rw [sAn (by decide), gs_n (by omega)]; exact e4 f hf
  · intro u hu
    rw [sAn (by decide), gs_n (by omega)]; exact e5 u hu
  · intro u hu
    rw [sAn (by decide), gs_n (by omega)]; exact e6 u hu
theorem arr_1 {mi : Nat → Nat → Int32} (hm : arr mi G) (hh : h < 4) : arr (vh_sA mi 90 (upd (mi 90) h (nI v))) (gs G h 1 v) := by
  intro h' hh'
  obtain ⟨⟨e0, e1, e2, e3⟩, e4, e5, e6⟩ := hm h' hh'
  have hx : (vh_sA mi 90 (upd (mi 90) h (nI v))) 90 h' = nI (gs G h 1 v h' 1) := by
    rw [sAs]
    by_cases e : h' = h
    · subst e; rw [ups, gs_s]
    · rw [upn e, gs_n (fun z => e z.1)]; exact e1
  refine ⟨?_, ?_, ?_, ?_⟩
  · refine ⟨?_, ?_, ?_, ?_⟩
    · first | exact hx | (rw [sAn (by decide), gs_n (fun z => by cases z.2)]; exact e0)
    · first | exact hx | (rw [sAn (by decide), gs_n (fun z => by cases z.2)]; exact e1)
    · first | exact hx | (rw [sAn (by decide), gs_n (fun z => by cases z.2)]; exact e2)
    · first | exact hx | (rw [sAn (by decide), gs_n (fun z => by cases z.2)]; exact e3)
  · intro f hf
    rw [sAn (by decide), gs_n (by omega)]; exact e4 f hf
  · intro u hu
    rw [sAn (by decide), gs_n (by omega)]; exact e5 u hu
  · intro u hu
    rw [sAn (by decide), gs_n (by omega)]; exact e6 u hu
theorem arr_2 {mi : Nat → Nat → Int32} (hm : arr mi G) (hh : h < 4) : arr (vh_sA mi 91 (upd (mi 91) h (nI v))) (gs G h 2 v) := by
  intro h' hh'
  obtain ⟨⟨e0, e1, e2, e3⟩, e4, e5, e6⟩ := hm h' hh'
  have hx : (vh_sA mi 91 (upd (mi 91) h (nI v))) 91 h' = nI (gs G h 2 v h' 2) := by
    rw [sAs]
    by_cases e : h' = h
    · subst e; rw [ups, gs_s]
    · rw [upn e, gs_n (fun z => e z.1)]; exact e2
  refine ⟨?_, ?_, ?_, ?_⟩
  · refine ⟨?_, ?_, ?_, ?_⟩
    · first | exact hx | (rw [sAn (by decide), gs_n (fun z => by cases z.2)]; exact e0)
    · first | exact hx | (rw [sAn (by decide), gs_n (fun z => by cases z.2)]; exact e1)
    · first | exact hx | (rw [sAn (by decide), gs_n (fun z => by cases z.2)]; exact e2)
    · first | exact hx | (rw [sAn (by decide), gs_n (fun z => by cases z.2)]; exact e3)
  · intro f hf
    rw [sAn (by decide), gs_n (by omega)]; exact e4 f hf
  · intro u hu
    rw [sAn (by decide), gs_n (by omega)]; exact e5 u hu
  · intro u hu
    rw [sAn (by decide), gs_n (by omega)]; exact e6 u hu
theorem arr_3 {mi : Nat → Nat → Int32} (hm : arr mi G) (hh : h < 4) : arr (vh_sA mi 92 (upd (mi 92) h (nI v))) (gs G h 3 v) := by
  intro h' hh'
  obtain ⟨⟨e0, e1, e2, e3⟩, e4, e5, e6⟩ := hm h' hh'
  have hx : (vh_sA mi 92 (upd (mi 92) h (nI v))) 92 h' = nI (gs G h 3 v h' 3) := by
    rw [sAs]
    by_cases e : h' = h
    · subst e; rw [ups, gs_s]
    · rw [upn e, gs_n (fun z => e z.1)]; exact e3
  refine ⟨?_, ?_, ?_, ?_⟩
  · refine ⟨?_, ?_, ?_, ?_⟩
    · first | exact hx | (rw [sAn (by decide), gs_n (fun z => by cases z.2)]; exact e0)
    · first | exact hx | (rw [sAn (by decide), gs_n (fun z => by cases z.2)]; exact e1)
    · first | exact hx | (rw [sAn (by decide), gs_n (fun z => by cases z.2)]; exact e2)
    · first | exact hx | (rw [sAn (by decide), gs_n (fun z => by cases z.2)]; exact e3)
  · intro f hf
    rw [sAn (by decide), gs_n (by omega)]; exact e4 f hf
  · intro u hu
    rw [sAn (by decide), gs_n (by omega)]; exact e5 u hu
  · intro u hu
    rw [sAn (by decide), gs_n (by omega)]; exact e6 u hu
theorem arr_i {mi : Nat → Nat → Int32} (hm : arr mi G) (hh : h < 4) (hj : j < 2) : arr (vh_sA mi 93 (upd (mi 93) (2 * h + j) (nI v))) (gs G h (4 + j) v) := by
  intro h' hh'
  obtain ⟨⟨e0, e1, e2, e3⟩, e4, e5, e6⟩ := hm h' hh'
  refine ⟨⟨by rw [sAn (by decide), gs_n (by omega)]; exact e0, by rw [sAn (by decide), gs_n (by omega)]; exact e1, by rw [sAn (by decide), gs_n (by omega)]; exact e2, by rw [sAn (by decide), gs_n (by omega)]; exact e3⟩, ?_, ?_, ?_⟩
  · intro f hf
    rw [sAs]
    by_cases e : h' = h ∧ f = j
    · rw [e.1, e.2, ups, gs_s]
    · rw [upn (by omega), gs_n (by omega)]; exact e4 f hf
  · intro u hu
    rw [sAn (by decide), gs_n (by omega)]; exact e5 u hu
  · intro u hu
    rw [sAn (by decide), gs_n (by omega)]; exact e6 u hu
theorem arr_r {mi : Nat → Nat → Int32} (hm : arr mi G) (hh : h < 4) (hj : j < 5) : arr (vh_sA mi 94 (upd (mi 94) (5 * h + j) (nI v))) (gs G h (10 + j) v) := by
  intro h' hh'
  obtain ⟨⟨e0, e1, e2, e3⟩, e4, e5, e6⟩ := hm h' hh'
  refine ⟨⟨by rw [sAn (by decide), gs_n (by omega)]; exact e0, by rw [sAn (by decide), gs_n (by omega)]; exact e1, by rw [sAn (by decide), gs_n (by omega)]; exact e2, by rw [sAn (by decide), gs_n (by omega)]; exact e3⟩, ?_, ?_, ?_⟩
  · intro f hf
    rw [sAn (by decide), gs_n (by omega)]; exact e4 f hf
  · intro u hu
    rw [sAs]
    by_cases e : h' = h ∧ u = j
    · rw [e.1, e.2, ups, gs_s]
    · rw [upn (by omega), gs_n (by omega)]; exact e5 u hu
  · intro u hu
    rw [sAn (by decide), gs_n (by omega)]; exact e6 u hu
theorem okx95 {k : Nat} (h : k < 20) : vh_ixa 95 (nI k) = true := ixa (by rw [kd95]; exact h) (by omega)
theorem l169 {u r : Nat} (hh : h < 4) (hu : u < 5) (hr : r ≤ 5) (hG : ∀ w, w < 5 → G h (20 + w) ≤ 4) : ∀ (s i : Nat) (mi : Nat → Nat → Int32) (l6 : Option Value), i + s = 5 → (∀ h', h' < 4 → ∀ w, w < 5 → mi 95 (5 * h' + w) = nI (if h' = h ∧ w < i then rs G h u r h (20 + w) else G h' (20 + w))) → ∃ f, vh_E 169 15 [some (.ref 88), some (.int (nI h)), some (.int (nI u)), some (.int (nI r)), some (.int (nI (G h (20 + u)))), some (.int (nI i)), l6] [] (vh_K d mi ml) = some (none, vh_K d (vh_sA mi 95 f) ml) ∧ ∀ h', h' < 4 → ∀ w, w < 5 → f (5 * h' + w) = nI (rs G h u r h' (20 + w)) := by
  have hu4 := hG u hu
  intro s
  induction s with
  | zero =>
    intro i mi l6 hi h1
    have : i = 5 := by omega
    subst this
    refine ⟨mi 95, ?_, ?_⟩
    · rw [sAe]
      simp only [e169_15, e169_17, e169_18, e169_83, show (5 : Int32) ≤ nI 5 by decide, if_true]
    · intro h' hh' w hw
      rw [h1 h' hh' w hw]
      by_cases e : h' = h
      · rw [if_pos ⟨e, hw⟩, e]
      · rw [if_neg (fun z => e z.1), rs_o (fun z => e z.1)]
  | succ s ih =>
    intro i mi l6 hi h1
    have hi5 : i < 5 := by omega
    have hgi := hG i hi5
    have ei : mi 95 (5 * h + i) = nI (G h (20 + i)) := by rw [h1 h hh i hi5, if_neg (by omega)]
    have e5 : (5 : Int32) * nI h + nI i = nI (5 * h + i) := by rw [show (5 : Int32) * nI h = nI (5 * h) from pk_mul 5 h, nI_add]
    have fin : ∀ x : Int32, x = nI (rs G h u r h (20 + i)) → ∃ f, vh_E 169 15 [some (.ref 88), some (.int (nI h)), some (.int (nI u)), some (.int (nI r)), some (.int (nI (G h (20 + u)))), some (.int (nI (i + 1))), some (.int (nI (G h (20 + i))))] [] (vh_K d (vh_sA mi 95 (upd (mi 95) (5 * h + i) x)) ml) = some (none, vh_K d (vh_sA mi 95 f) ml) ∧ ∀ h', h' < 4 → ∀ w, w < 5 → f (5 * h' + w) = nI (rs G h u r h' (20 + w)) := by
      intro x hx
      obtain ⟨f, h3, h4⟩ := ih (i + 1) (vh_sA mi 95 (upd (mi 95) (5 * h + i) x)) (some (.int (nI (G h (20 + i))))) (by omega) (by
        intro h' hh' w hw
        rw [sAs]
        by_cases e : h' = h ∧ w = i
        · rw [e.1, e.2, ups, if_pos ⟨rfl, by omega⟩]; exact hx
        · rw [upn (by omega), h1 h' hh' w hw]
          by_cases e2 : h' = h ∧ w < i
          · rw [if_pos e2, if_pos ⟨e2.1, by omega⟩]
          · rw [if_neg e2, if_neg (by omega)])
      rw [sAA] at h3
      exact ⟨f, h3, h4⟩
    rw [e169_15]
    simp only [e169_0, e169_1, e169_4, e169_5, e169_6, e169_7, e169_8, e169_9, e169_10, e169_12, e169_13, e169_17, e169_18, e169_21, e169_22, e169_25, e169_26, e169_27, e169_28, e169_30, e169_31, e169_32, e169_34, e169_35, e169_38, e169_39, e169_40, e169_41, e169_43, e169_44, e169_46, e169_47, e169_50, e169_51, e169_54, e169_56, e169_57, e169_60, e169_62, e169_64, e169_67, e169_69, e169_70, e169_71, e169_74, e169_76, e169_77, e169_80, e169_83, ok88, ok95, rf88_8, e5, okx95 (show 5 * h + i < 20 by omega), clK (show 5 * h + i < 1000 by omega), ei, nI_eq (show i < 2 ^ 31 by omega) (show u < 2 ^ 31 by omega), nI_ltI (show G h (20 + i) < 2 ^ 31 by omega) (show r < 2 ^ 31 by omega), nI_leI (show G h (20 + u) < 2 ^ 31 by omega) (show G h (20 + i) < 2 ^ 31 by omega), show ¬ (5 : Int32) ≤ nI i from nI_ge (b := 5) hi5 (by decide), if_false, nI_1]
    by_cases q0 : i = u
    · rw [if_neg (not_not_intro q0)]
      exact fin _ (by rw [rs_u hi5, if_pos q0])
    · rw [if_pos q0]
      by_cases q1 : G h (20 + i) < r
      · rw [if_pos q1]
        exact fin _ (by rw [rs_u hi5, if_neg q0, if_neg (by omega)])
      · rw [if_neg q1]
        by_cases q2 : G h (20 + u) ≤ G h (20 + i)
        · rw [if_pos q2]
          exact fin _ (by rw [rs_u hi5, if_neg q0, if_neg (by omega)])
        · rw [if_neg q2]
          exact fin _ (by rw [rs_u hi5, if_neg q0, if_pos (by omega)])
theorem s169 {u r : Nat} {mi : Nat → Nat → Int32} (hm : arr mi G) (hh : h < 4) (hu : u < 5) (hr : r ≤ 5) (hG : ∀ w, w < 5 → G h (20 + w) ≤ 4) : ∃ f, vh_C 169 [.ref 88, .int (nI h), .int (nI u), .int (nI r)] (vh_K d mi ml) = some (none, vh_K d (vh_sA mi 95 f) ml) ∧ arr (vh_sA mi 95 f) (rs G h u r) := by
  have e5 : (5 : Int32) * nI h + nI u = nI (5 * h + u) := by rw [show (5 : Int32) * nI h = nI (5 * h) from pk_mul 5 h, nI_add]
  obtain ⟨f, h1, h2⟩ := l169 (d := d) (ml := ml) (u := u) (r := r) hh hu hr hG 5 0 mi none (by omega) (fun h' hh' w hw => by rw [if_neg (by omega)]; exact (hm h' hh').2.2.2 w hw)
  refine ⟨f, ?_, ?_⟩
  · simp only [c169, e169_0, e169_1, e169_4, e169_5, e169_6, e169_7, e169_8, e169_9, e169_10, e169_12, e169_13, e169_17, e169_18, e169_21, e169_22, e169_25, e169_26, e169_27, e169_28, e169_30, e169_31, e169_32, e169_34, e169_35, e169_38, e169_39, e169_40, e169_41, e169_43, e169_44, e169_46, e169_47, e169_50, e169_51, e169_54, e169_56, e169_57, e169_60, e169_62, e169_64, e169_67, e169_69, e169_70, e169_71, e169_74, e169_76, e169_77, e169_80, e169_83, ok88, ok95, rf88_8, e5, okx95 (show 5 * h + u < 20 by omega), clK (show 5 * h + u < 1000 by omega), (hm h hh).2.2.2 u hu]
    exact h1
  · intro h' hh'
    obtain ⟨⟨e0, e1, e2, e3⟩, e4, e5, e6⟩ := hm h' hh'
    refine ⟨⟨by rw [sAn (by decide), rs_o (by omega)]; exact e0, by rw [sAn (by decide), rs_o (by omega)]; exact e1, by rw [sAn (by decide), rs_o (by omega)]; exact e2, by rw [sAn (by decide), rs_o (by omega)]; exact e3⟩, ?_, ?_, ?_⟩
    · intro f hf
      rw [sAn (by decide), rs_o (by omega)]; exact e4 f hf
    · intro u hu
      rw [sAn (by decide), rs_o (by omega)]; exact e5 u hu
    · intro w hw
      rw [sAs]; exact h2 h' hh' w hw
end
section
variable {d : Nat} {mb : Nat → Nat → Int32} {ml : Nat → Nat → Int64} {N : Nat} {T : Nat → Nat} {c h : Nat} {Dn : Bool}
theorem RI.ar {mi : Nat → Nat → Int32} {q a : Nat} {f : Nat → Int32} {GA G' : Nat → Nat → Nat} (H : RI N T mb mi q GA c Dn) (ha : 89 ≤ a ∧ a ≤ 95) (hm : arr (vh_sA mi a f) G') : RI N T mb (vh_sA mi a f) q G' c Dn := by
  obtain ⟨h1, h2, h3, h4, h5, h6, h7, h8⟩ := H
  refine ⟨⟨h1.1, by rw [sAn (by omega)]; exact h1.2.1, by rw [sAn (by omega)]; exact h1.2.2.1, h1.2.2.2⟩, by rw [sAn (by omega)]; exact h2, h3, by rw [sAn (by omega)]; exact h4, by rw [sAn (by omega)]; exact h5, by rw [sAn (by omega)]; exact h6, hm, ?_, ?_⟩
  · intro a' a1 a2
    rw [sAn (by omega)]; exact h8.1 a' a1 a2
  · intro f' hf
    rw [sAn (by omega)]; exact h8.2 f' hf
def RuM (N : Nat) (T : Nat → Nat) (mb : Nat → Nat → Int32) (d : Nat) (ml : Nat → Nat → Int64) (c : Nat) (Dn : Bool) (GA : Nat → Nat → Nat) (R : vh_R) (p : pY) : Prop := (∃ x, p = .inl x ∧ (Dn = false → ∃ mi', R = some (none, vh_K d mi' ml) ∧ RFl mb mi' GA Dn x)) ∨ (∃ q' G' mi', p = .inr (q', G') ∧ R = some (none, vh_K d mi' ml) ∧ RI N T mb mi' q' (if Dn = true then G' else GA) c Dn)
theorem l168 (hh : h < 4) : ∀ (f q met r : Nat) (G GA : Nat → Nat → Nat) (mi : Nat → Nat → Int32) (l5 : Option Value), 1 ≤ f → f + r = 6 → met < 2 ^ 16 → RI N T mb mi q GA c Dn → (Dn = true → GA = G) → HlB (G h) → (∀ h, h < 4 → HlB (G h)) → (∀ v, v < 5 → (met.testBit v = true ↔ G h (20 + v) < r)) → RuM N T mb d ml c Dn GA (vh_E 168 7 [some (.ref 88), some (.int (nI h)), some (.int (nI met)), some (.int (nI r)), some (.int 1), l5] [] (vh_K d mi ml)) (pFst N T h f q met r G) := by
  intro f
  induction f with
  | zero => intro q met r G GA mi l5 h1; omega
  | succ f ih =>
    intro q met r G GA mi l5 _ hf hmet H hGA hB hBB hm
    unfold pFst
    cases eu : useN (tkL N T q) with
    | none =>
      obtain ⟨mi', e, hfl⟩ := s162n (d := d) (ml := ml) H
      refine Or.inl ⟨_, rfl, fun _ => ⟨mi', ?_, hfl⟩⟩
      rw [e168_7]
      simp only [e168_9, e168_12, e168_13, e168_16, e168_18, e168_20, e168_22, e168_40, e168_41, e168_43, e168_45, e168_52, e168_53, e168_56, e168_57, e168_60, e168_88, e168_89, e168_92, e168_108, e168_109, e168_111, e168_7, e168_114, ok88, s167 H, eu, e, hfl.ne, show bvI none = (-1000000 : Int32) from rfl, show ¬ (1 : Int32) = 0 by decide, not_true_eq_false, not_false_eq_true, if_true, if_false, and_self, vh_bds, vh_ps1, vh_ps0, vb0, vb1, vbz, vbo]
    | some u =>
      have hu := useN_lt eu
      have hn : ¬ nI u = (-1000000 : Int32) := nmN (by omega)
      have hr4 := hB.2.2.2.2.2.2.1 u hu
      simp only
      by_cases q1 : met.testBit u = true
      · rw [if_pos q1]
        obtain ⟨mi', e, hfl, -⟩ := s163 (d := d) (ml := ml) (k := 3) (by decide) H
        have e : vh_C 163 [.ref 88, .int 3] (vh_K d mi ml) = some (none, vh_K d mi' ml) := e
        have e2 : vh_C 162 [.ref 88, .int 1] (vh_K d mi' ml) = some (none, vh_K d mi' ml) := s162f hfl
        refine Or.inl ⟨_, rfl, fun _ => ⟨mi', ?_, hfl⟩⟩
        rw [e168_7]
        simp only [e168_9, e168_12, e168_13, e168_16, e168_18, e168_20, e168_22, e168_25, e168_26, e168_28, e168_29, e168_30, e168_31, e168_32, e168_35, e168_36, e168_37, e168_40, e168_41, e168_43, e168_45, e168_48, e168_49, e168_53, e168_56, e168_57, e168_60, e168_88, e168_89, e168_92, e168_108, e168_109, e168_111, e168_7, e168_114, ok88, s167 H, eu, show bvI (some u) = nI u from rfl, hn, bt (show met < 2 ^ 31 by omega) (show u < 31 by omega), vbe, q1, e, e2, hfl.ne, show ¬ (1 : Int32) = 0 by decide, not_true_eq_false, not_false_eq_true, if_true, if_false, and_self, vh_bds, vh_ps1, vh_ps0, vb0, vb1, vbz, vbo]
      · rw [if_neg q1]
        have hr : r ≤ G h (20 + u) := by
          rcases Nat.lt_or_ge (G h (20 + u)) r with z | z
          · exact absurd ((hm u hu).mpr z) q1
          · exact z
        obtain ⟨f1, e1, H1⟩ := s162t (d := d) (ml := ml) H
        have hmet2 := sbl hmet (show u < 16 by omega)
        -- the state behind the raising
        have mid : ∃ m2, vh_E 168 7 [some (.ref 88), some (.int (nI h)), some (.int (nI met)), some (.int (nI r)), some (.int 1), l5] [] (vh_K d mi ml) = vh_E 168 88 [some (.ref 88), some (.int (nI h)), some (.int (nI (met ||| 2 ^ u))), some (.int (nI (r + 1))), some (.int 1), some (.int (nI u))] [] (vh_K d m2 ml) ∧ RI N T mb m2 (tkE N T q) (if Dn = true then rs G h u r else GA) c Dn := by
          have k20 := H1.2.2.2.1
          have k22 := H1.2.2.2.2.1
          have run : ∀ m2, vh_E 168 70 [some (.ref 88), some (.int (nI h)), some (.int (nI (met ||| 2 ^ u))), some (.int (nI r)), some (.int 1), some (.int (nI u))] [] (vh_K d (vh_sA mi 88 f1) ml) = vh_E 168 85 [some (.ref 88), some (.int (nI h)), some (.int (nI (met ||| 2 ^ u))), some (.int (nI r)), some (.int 1), some (.int (nI u))] [] (vh_K d m2 ml) → vh_E 168 7 [some (.ref 88), some (.int (nI h)), some (.int (nI met)), some (.int (nI r)), some (.int 1), l5] [] (vh_K d mi ml) = vh_E 168 88 [some (.ref 88), some (.int (nI h)), some (.int (nI (met ||| 2 ^ u))), some (.int (nI (r + 1))), some (.int 1), some (.int (nI u))] [] (vh_K d m2 ml) := by
            intro m2 hm2
            rw [e168_7]
            simp only [e168_9, e168_12, e168_13, e168_16, e168_18, e168_20, e168_22, e168_25, e168_26, e168_28, e168_29, e168_30, e168_31, e168_32, e168_40, e168_41, e168_43, e168_45, e168_48, e168_49, e168_53, e168_56, e168_57, e168_60, e168_63, e168_64, e168_65, e168_67, e168_68, e168_69, ok88, s167 H, eu, show bvI (some u) = nI u from rfl, hn, bt (show met < 2 ^ 31 by omega) (show u < 31 by omega), vbe, q1, Bool.false_eq_true, e1, k20, sbt hmet (show u < 16 by omega), show ¬ (1 : Int32) = 0 by decide, not_true_eq_false, not_false_eq_true, if_true, if_false, and_self, vh_bds, vh_ps1, vh_ps0, vb0, vb1, vbz, vbo]
            refine Eq.trans hm2 ?_
            simp only [e168_85, nI_1]
          cases eD : Dn with
          | false =>
            rw [eD] at k22 H1
            refine ⟨vh_sA mi 88 f1, run _ ?_, H1⟩
            have k22 : (vh_sA mi 88 f1) 88 22 = 0 := k22
            simp only [e168_70, e168_71, e168_74, ok88, k22, not_true_eq_false, not_false_eq_true, if_true, if_false, and_self, vh_bds, vh_ps1, vh_ps0, vb0, vb1, vbz, vbo]
          | true =>
            have eG := hGA eD
            rw [eD] at k22 H1
            rw [eG] at H1
            obtain ⟨f2, e2, ha⟩ := s169 (d := d) (ml := ml) (u := u) (r := r) H1.2.2.2.2.2.2.1 hh hu (by omega) (fun w hw => hB.2.2.2.2.2.2.1 w hw)
            refine ⟨_, run _ ?_, H1.ar (by omega) ha⟩
            have k22 : (vh_sA mi 88 f1) 88 22 = 1 := k22
            simp only [e168_70, e168_71, e168_74, e168_77, e168_78, e168_79, e168_81, e168_82, ok88, k22, e2, show ¬ (1 : Int32) = 0 by decide, not_true_eq_false, not_false_eq_true, if_true, if_false, and_self, vh_bds, vh_ps1, vh_ps0, vb0, vb1, vbz, vbo]
        obtain ⟨m2, em, H2⟩ := mid
        rw [em]
        have k20 := H2.2.2.2.1
        cases eu2 : useN (tkL N T (tkE N T q)) with
        | none =>
          refine Or.inr ⟨_, _, m2, rfl, ?_, H2⟩
          simp only [e168_88, e168_89, e168_92, e168_95, e168_96, e168_99, e168_101, e168_108, e168_109, e168_111, e168_7, e168_9, e168_114, ok88, k20, s167 H2, eu2, show bvI none = (-1000000 : Int32) from rfl, not_true_eq_false, not_false_eq_true, if_true, if_false, and_self, vh_bds, vh_ps1, vh_ps0, vb0, vb1, vbz, vbo]
        | some u2 =>
          have hn2 : ¬ nI u2 = (-1000000 : Int32) := nmN (by have := useN_lt eu2; omega)
          have step : vh_E 168 88 [some (.ref 88), some (.int (nI h)), some (.int (nI (met ||| 2 ^ u))), some (.int (nI (r + 1))), some (.int 1), some (.int (nI u))] [] (vh_K d m2 ml) = vh_E 168 7 [some (.ref 88), some (.int (nI h)), some (.int (nI (met ||| 2 ^ u))), some (.int (nI (r + 1))), some (.int 1), some (.int (nI u))] [] (vh_K d m2 ml) := by
            simp only [e168_88, e168_89, e168_92, e168_95, e168_96, e168_99, e168_101, e168_104, e168_105, e168_109, e168_111, ok88, k20, s167 H2, eu2, show bvI (some u2) = nI u2 from rfl, hn2, not_true_eq_false, not_false_eq_true, if_true, if_false, and_self, vh_bds, vh_ps1, vh_ps0, vb0, vb1, vbz, vbo]
          rw [step]
          have := ih (tkE N T q) (met ||| 2 ^ u) (r + 1) (rs G h u r) (if Dn = true then rs G h u r else GA) m2 (some (.int (nI u))) (by omega) (by omega) hmet2 H2 (fun z => if_pos z) (rs_H hBB hh hu hr h hh) (rs_H hBB hh hu hr) (rs_met hB hu hr hm)
          rcases this with ⟨x, p, hx⟩ | ⟨q', G', m3, p, e3, H3⟩
          · refine Or.inl ⟨x, p, fun z => ?_⟩
            obtain ⟨mi', g1, g2⟩ := hx z
            rw [z] at g2
            exact ⟨mi', g1, by rw [z]; exact g2⟩
          · refine Or.inr ⟨q', G', m3, p, e3, ?_⟩
            cases eD : Dn with
            | false => rw [eD] at H3; exact H3
            | true => rw [eD] at H3; exact H3
end

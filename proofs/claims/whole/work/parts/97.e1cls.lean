def bnd (j v : Nat) : Prop := (j = 0 → v ≤ 8) ∧ (j = 1 → v ≤ 50) ∧ (j = 2 → v ≤ 60) ∧ (j = 3 → v ≤ 100) ∧ (4 ≤ j → j < 6 → v ≤ 500) ∧ (10 ≤ j → j < 15 → v ≤ 1000) ∧ j < 20
section
variable {mi mb : Nat → Nat → Int32} {N : Nat} {T : Nat → Nat} {q c : Nat} {G G' : Nat → Nat → Nat} {h j v : Nat}
theorem gs_s : gs G h j v h j = v := if_pos ⟨rfl, rfl⟩
theorem gs_n {h' j' : Nat} (e : ¬ (h' = h ∧ j' = j)) : gs G h j v h' j' = G h' j' := if_neg e
theorem gs_v {h' j' : Nat} : gs G h j v h' j' = if h' = h ∧ j' = j then v else G h' j' := rfl
theorem gs_H (hG : ∀ h, h < 4 → HlB (G h)) (hb : bnd j v) : ∀ h', h' < 4 → HlB (gs G h j v h') := by
  intro h' hh
  obtain ⟨a0, a1, a2, a3, a4, a5, a6, a7⟩ := hG h' hh
  obtain ⟨b0, b1, b2, b3, b4, b5, b6⟩ := hb
  refine ⟨?_, ?_, ?_, ?_, ?_, ?_, ?_, ?_⟩
  · rw [gs_v]; split
    · rename_i e; exact b0 e.2.symm
    · exact a0
  · rw [gs_v]; split
    · rename_i e; exact b1 e.2.symm
    · exact a1
  · rw [gs_v]; split
    · rename_i e; exact b2 e.2.symm
    · exact a2
  · rw [gs_v]; split
    · rename_i e; exact b3 e.2.symm
    · exact a3
  · intro f hf
    rw [gs_v]; split
    · rename_i e; exact b4 (by omega) (by omega)
    · exact a4 f hf
  · intro u hu
    rw [gs_v]; split
    · rename_i e; exact b5 (by omega) (by omega)
    · exact a5 u hu
  · intro u hu
    rw [gs_n (by omega)]
    exact a6 u hu
  · intro u v hu hv
    rw [gs_n (by omega), gs_n (by omega)]
    exact a7 u v hu hv
theorem CI.dr {a : Nat} {f : Nat → Int32} (H : CI N T mb mi q G c) (ha : 26 ≤ a ∧ a ≤ 41) (hd : drf (vh_sA mi a f) G') (hG : ∀ h, h < 4 → HlB (G' h)) : CI N T mb (vh_sA mi a f) q G' c := by
  obtain ⟨g1, g2, g3, g4, g5, g6, g7, g8⟩ := H
  refine ⟨⟨g1.1, by rw [sAn (by omega)]; exact g1.2.1, by rw [sAn (by omega)]; exact g1.2.2.1, g1.2.2.2⟩, by rw [sAn (by omega)]; exact g2, g3, by rw [sAn (by omega)]; exact g4, by rw [sAn (by omega)]; exact g5, hd, hG, ?_⟩
  intro a' a1 a2 a3
  rw [sAn (by omega)]; exact g8 a' a1 a2 a3
theorem drf_f (hd : drf mi G) (hh : h < 4) (hj : j < 4) : drf (vh_sA mi (26 + 4 * h) (upd (mi (26 + 4 * h)) j (nI v))) (gs G h j v) := by
  intro h' hh'
  obtain ⟨e1, e2, e3, e4⟩ := hd h' hh'
  rw [sAn (show 27 + 4 * h' ≠ 26 + 4 * h by omega), sAn (show 28 + 4 * h' ≠ 26 + 4 * h by omega), sAn (show 29 + 4 * h' ≠ 26 + 4 * h by omega)]
  refine ⟨?_, fun f hf => by rw [gs_n (by omega)]; exact e2 f hf, fun u hu => by rw [gs_n (by omega)]; exact e3 u hu, fun u hu => by rw [gs_n (by omega)]; exact e4 u hu⟩
  intro f hf
  by_cases e : h' = h
  · subst e
    rw [sAs]
    by_cases e2 : f = j
    · subst e2; rw [ups, gs_s]
    · rw [upn e2, gs_n (fun z => e2 z.2)]; exact e1 f hf
  · rw [sAn (by omega), gs_n (fun z => e z.1)]; exact e1 f hf
theorem drf_i (hd : drf mi G) (hh : h < 4) (hj : j < 2) : drf (vh_sA mi (27 + 4 * h) (upd (mi (27 + 4 * h)) j (nI v))) (gs G h (4 + j) v) := by
  intro h' hh'
  obtain ⟨e1, e2, e3, e4⟩ := hd h' hh'
  rw [sAn (show 26 + 4 * h' ≠ 27 + 4 * h by omega), sAn (show 28 + 4 * h' ≠ 27 + 4 * h by omega), sAn (show 29 + 4 * h' ≠ 27 + 4 * h by omega)]
  refine ⟨fun f hf => by rw [gs_n (by omega)]; exact e1 f hf, ?_, fun u hu => by rw [gs_n (by omega)]; exact e3 u hu, fun u hu => by rw [gs_n (by omega)]; exact e4 u hu⟩
  intro f hf
  by_cases e : h' = h
  · subst e
    rw [sAs]
    by_cases e5 : f = j
    · subst e5; rw [ups, gs_s]
    · rw [upn e5, gs_n (fun z => e5 (by omega))]; exact e2 f hf
  · rw [sAn (by omega), gs_n (fun z => e z.1)]; exact e2 f hf
theorem drf_r (hd : drf mi G) (hh : h < 4) (hj : j < 5) : drf (vh_sA mi (28 + 4 * h) (upd (mi (28 + 4 * h)) j (nI v))) (gs G h (10 + j) v) := by
  intro h' hh'
  obtain ⟨e1, e2, e3, e4⟩ := hd h' hh'
  rw [sAn (show 26 + 4 * h' ≠ 28 + 4 * h by omega), sAn (show 27 + 4 * h' ≠ 28 + 4 * h by omega), sAn (show 29 + 4 * h' ≠ 28 + 4 * h by omega)]
  refine ⟨fun f hf => by rw [gs_n (by omega)]; exact e1 f hf, fun f hf => by rw [gs_n (by omega)]; exact e2 f hf, ?_, fun u hu => by rw [gs_n (by omega)]; exact e4 u hu⟩
  intro f hf
  by_cases e : h' = h
  · subst e
    rw [sAs]
    by_cases e5 : f = j
    · subst e5; rw [ups, gs_s]
    · rw [upn e5, gs_n (fun z => e5 (by omega))]; exact e3 f hf
  · rw [sAn (by omega), gs_n (fun z => e z.1)]; exact e3 f hf
end
section
variable {d : Nat} {mi mb : Nat → Nat → Int32} {ml : Nat → Nat → Int64} {N : Nat} {T : Nat → Nat} {q c : Nat} {G : Nat → Nat → Nat}
/-- what a rule's reading comes to -/
def RuC (N : Nat) (T : Nat → Nat) (mb : Nat → Nat → Int32) (d : Nat) (ml : Nat → Nat → Int64) (c : Nat) (R : vh_R) (p : pY) : Prop := (∃ x mi', p = .inl x ∧ R = some (some (.int 0), vh_K d mi' ml) ∧ CFl mb mi' x) ∨ (∃ q' G' mi', p = .inr (q', G') ∧ R = some (some (.int 1), vh_K d mi' ml) ∧ CI N T mb mi' q' G' c)
theorem s50 (hd : d < 4) (h : CI N T mb mi q G c) : RuC N T mb d ml c (vh_C 50 [.ref 24] (vh_K d mi ml)) (pN1 N T d 0 8 q G) := by
  obtain ⟨v, mi', e, H⟩ := s46 (d := d) (ml := ml) (mx := 8) h (by decide)
  have e : vh_C 46 [.ref 24, .int 8] (vh_K d mi ml) = some (some (.int v), vh_K d mi' ml) := e
  unfold pN1
  rcases H with ⟨x, p, rfl, hf⟩ | ⟨x, q', p, rfl, hc, h4⟩
  · rw [p]
    refine Or.inl ⟨x, mi', rfl, ?_, hf⟩
    simp only [c50, e50_0, e50_1, e50_3, e50_6, e50_9, e50_10, e50_11, e50_12, e50_15, e50_16, e50_19, e50_22, e50_23, ok24, e, not_true_eq_false, not_false_eq_true, if_true, if_false, and_self, vh_bds, vh_ps1, vh_ps0, vb0, vb1, vbz, vbo]
  · rw [p]
    have hx := (pNum_go h.2.2.1 p).2.2.1
    refine Or.inr ⟨q', _, _, rfl, ?_, hc.dr (by omega) (drf_f hc.2.2.2.2.2.1 hd (by decide)) (gs_H hc.2.2.2.2.2.2.1 (by unfold bnd; omega))⟩
    simp only [c50, e50_0, e50_1, e50_3, e50_6, e50_9, e50_10, e50_11, e50_12, e50_15, e50_16, e50_19, e50_22, e50_23, ok24, e, rfD, okE hd, h4, show ¬ (1 : Int32) = 0 by decide, not_true_eq_false, not_false_eq_true, if_true, if_false, and_self, vh_bds, vh_ps1, vh_ps0, vb0, vb1, vbz, vbo]
theorem s51 (hd : d < 4) (h : CI N T mb mi q G c) : RuC N T mb d ml c (vh_C 51 [.ref 24] (vh_K d mi ml)) (pN1 N T d 1 50 q G) := by
  obtain ⟨v, mi', e, H⟩ := s46 (d := d) (ml := ml) (mx := 50) h (by decide)
  have e : vh_C 46 [.ref 24, .int 50] (vh_K d mi ml) = some (some (.int v), vh_K d mi' ml) := e
  unfold pN1
  rcases H with ⟨x, p, rfl, hf⟩ | ⟨x, q', p, rfl, hc, h4⟩
  · rw [p]
    refine Or.inl ⟨x, mi', rfl, ?_, hf⟩
    simp only [c51, e51_0, e51_1, e51_3, e51_6, e51_9, e51_10, e51_11, e51_12, e51_15, e51_16, e51_19, e51_22, e51_23, ok24, e, not_true_eq_false, not_false_eq_true, if_true, if_false, and_self, vh_bds, vh_ps1, vh_ps0, vb0, vb1, vbz, vbo]
  · rw [p]
    have hx := (pNum_go h.2.2.1 p).2.2.1
    refine Or.inr ⟨q', _, _, rfl, ?_, hc.dr (by omega) (drf_f hc.2.2.2.2.2.1 hd (by decide)) (gs_H hc.2.2.2.2.2.2.1 (by unfold bnd; omega))⟩
    simp only [c51, e51_0, e51_1, e51_3, e51_6, e51_9, e51_10, e51_11, e51_12, e51_15, e51_16, e51_19, e51_22, e51_23, ok24, e, rfD, okE hd, h4, show ¬ (1 : Int32) = 0 by decide, not_true_eq_false, not_false_eq_true, if_true, if_false, and_self, vh_bds, vh_ps1, vh_ps0, vb0, vb1, vbz, vbo]
theorem s52 (hd : d < 4) (h : CI N T mb mi q G c) : RuC N T mb d ml c (vh_C 52 [.ref 24] (vh_K d mi ml)) (match useN (tkL N T q) with
    | none => .inl (1, tkB N T q)
    | some u => pN1 N T d (10 + u) 1000 (tkE N T q) G) := by
  cases eu : useN (tkL N T q) with
  | none =>
    obtain ⟨f, e, hfl⟩ := s45 (d := d) (ml := ml) (n := 1) h
    have e : vh_C 45 [.ref 24, .int 1] (vh_K d mi ml) = some (some (.int 0), vh_K d (vh_sA mi 24 f) ml) := e
    refine Or.inl ⟨_, _, rfl, ?_, hfl⟩
    simp only [c52, e52_0, e52_1, e52_4, e52_5, e52_6, e52_8, e52_11, e52_12, e52_13, e52_16, e52_18, e52_21, e52_24, e52_25, e52_28, e52_31, e52_34, e52_35, e52_36, e52_37, e52_40, e52_43, e52_44, e52_45, e52_48, e52_49, e52_50, ok24, s53 h, eu, e, show bvI none = (-1000000 : Int32) from rfl, not_true_eq_false, not_false_eq_true, if_true, if_false, and_self, vh_bds, vh_ps1, vh_ps0, vb0, vb1, vbz, vbo]
  | some u =>
    have hu := useN_lt eu
    obtain ⟨f, ea, ha⟩ := h.adv (d := d) (ml := ml)
    obtain ⟨v, mi', e, H⟩ := s46 (d := d) (ml := ml) (mx := 1000) ha (by decide)
    have e : vh_C 46 [.ref 24, .int 1000] (vh_K d (vh_sA mi 22 f) ml) = some (some (.int v), vh_K d mi' ml) := e
    have hn : ¬ nI u = (-1000000 : Int32) := nmN (by omega)
    unfold pN1
    simp only
    rcases H with ⟨x, p, rfl, hf⟩ | ⟨x, q', p, rfl, hc, h4⟩
    · rw [p]
      refine Or.inl ⟨x, mi', rfl, ?_, hf⟩
      simp only [c52, e52_0, e52_1, e52_4, e52_5, e52_6, e52_8, e52_11, e52_12, e52_13, e52_16, e52_17, e52_18, e52_21, e52_24, e52_25, e52_28, e52_31, e52_34, e52_35, e52_36, e52_37, e52_40, e52_43, e52_44, e52_45, e52_48, e52_49, e52_50, ok24, ok22, rf24_0, s53 h, eu, ea, e, show bvI (some u) = nI u from rfl, hn, not_true_eq_false, not_false_eq_true, if_true, if_false, and_self, vh_bds, vh_ps1, vh_ps0, vb0, vb1, vbz, vbo]
    · rw [p]
      have hx := (pNum_go ha.2.2.1 p).2.2.1
      have hix : vh_ixa (28 + 4 * d) (nI u) = true := ixa (by rw [kdEr hd]; exact hu) (by omega)
      refine Or.inr ⟨q', _, _, rfl, ?_, hc.dr (by omega) (drf_r hc.2.2.2.2.2.1 hd hu) (gs_H hc.2.2.2.2.2.2.1 (by unfold bnd; omega))⟩
      simp only [c52, e52_0, e52_1, e52_4, e52_5, e52_6, e52_8, e52_11, e52_12, e52_13, e52_16, e52_17, e52_18, e52_21, e52_24, e52_25, e52_28, e52_31, e52_34, e52_35, e52_36, e52_37, e52_40, e52_43, e52_44, e52_45, e52_48, e52_49, e52_50, ok24, ok22, rf24_0, s53 h, eu, ea, e, rfD, okE hd, rfEr hd, okEr hd, hix, clK (show u < 1000 by omega), h4, show bvI (some u) = nI u from rfl, hn, show ¬ (1 : Int32) = 0 by decide, not_true_eq_false, not_false_eq_true, if_true, if_false, and_self, vh_bds, vh_ps1, vh_ps0, vb0, vb1, vbz, vbo]
theorem s56 (hd : d < 4) (h : CI N T mb mi q G c) : RuC N T mb d ml c (vh_C 56 [.ref 24] (vh_K d mi ml)) (match pN1 N T d 2 60 q G with
    | .inl e => .inl e
    | .inr (q', G') => pN1 N T d 3 100 q' G') := by
  obtain ⟨v, mi', e, H⟩ := s46 (d := d) (ml := ml) (mx := 60) h (by decide)
  have e : vh_C 46 [.ref 24, .int 60] (vh_K d mi ml) = some (some (.int v), vh_K d mi' ml) := e
  rcases H with ⟨x, p, rfl, hf⟩ | ⟨x, q', p, rfl, hc, h4⟩
  · have e1 : pN1 N T d 2 60 q G = .inl x := by unfold pN1; rw [p]
    rw [e1]
    refine Or.inl ⟨x, mi', rfl, ?_, hf⟩
    simp only [c56, e56_0, e56_1, e56_3, e56_6, e56_9, e56_10, e56_11, e56_12, e56_15, e56_16, e56_19, e56_22, e56_23, e56_25, e56_28, e56_31, e56_32, e56_33, e56_34, e56_37, e56_38, e56_41, e56_44, e56_45, ok24, e, not_true_eq_false, not_false_eq_true, if_true, if_false, and_self, vh_bds, vh_ps1, vh_ps0, vb0, vb1, vbz, vbo]
  · have e1 : pN1 N T d 2 60 q G = .inr (q', gs G d 2 x) := by unfold pN1; rw [p]
    rw [e1]
    have hx := (pNum_go h.2.2.1 p).2.2.1
    have hc2 := hc.dr (a := 26 + 4 * d) (f := upd (mi' (26 + 4 * d)) 2 (nI x)) (G' := gs G d 2 x) (by omega) (drf_f hc.2.2.2.2.2.1 hd (by decide)) (gs_H hc.2.2.2.2.2.2.1 (by unfold bnd; omega))
    obtain ⟨v2, mi2, e2, H2⟩ := s46 (d := d) (ml := ml) (mx := 100) hc2 (by decide)
    have e2 : vh_C 46 [.ref 24, .int 100] (vh_K d (vh_sA mi' (26 + 4 * d) (upd (mi' (26 + 4 * d)) 2 (nI x))) ml) = some (some (.int v2), vh_K d mi2 ml) := e2
    show RuC N T mb d ml c _ (pN1 N T d 3 100 q' (gs G d 2 x))
    unfold pN1
    rcases H2 with ⟨y, p2, rfl, hf⟩ | ⟨y, q2, p2, rfl, hc3, h42⟩
    · rw [p2]
      refine Or.inl ⟨y, mi2, rfl, ?_, hf⟩
      simp only [c56, e56_0, e56_1, e56_3, e56_6, e56_9, e56_10, e56_11, e56_12, e56_15, e56_16, e56_19, e56_22, e56_23, e56_25, e56_28, e56_31, e56_32, e56_33, e56_34, e56_37, e56_38, e56_41, e56_44, e56_45, ok24, e, rfD, okE hd, h4, e2, show ¬ (1 : Int32) = 0 by decide, not_true_eq_false, not_false_eq_true, if_true, if_false, and_self, vh_bds, vh_ps1, vh_ps0, vb0, vb1, vbz, vbo]
    · rw [p2]
      have hy := (pNum_go hc2.2.2.1 p2).2.2.1
      refine Or.inr ⟨q2, _, _, rfl, ?_, hc3.dr (by omega) (drf_f hc3.2.2.2.2.2.1 hd (by decide)) (gs_H hc3.2.2.2.2.2.2.1 (by unfold bnd; omega))⟩
      simp only [c56, e56_0, e56_1, e56_3, e56_6, e56_9, e56_10, e56_11, e56_12, e56_15, e56_16, e56_19, e56_22, e56_23, e56_25, e56_28, e56_31, e56_32, e56_33, e56_34, e56_37, e56_38, e56_41, e56_44, e56_45, ok24, e, rfD, okE hd, h4, e2, h42, show ¬ (1 : Int32) = 0 by decide, not_true_eq_false, not_false_eq_true, if_true, if_false, and_self, vh_bds, vh_ps1, vh_ps0, vb0, vb1, vbz, vbo]
theorem s57 (hd : d < 4) (h : CI N T mb mi q G c) : RuC N T mb d ml c (vh_C 57 [.ref 24] (vh_K d mi ml)) (match pNum N T 1 q with
    | .inl e => .inl e
    | .inr (f, q') => pN1 N T d (4 + f) 500 q' G) := by
  obtain ⟨v, mi', e, H⟩ := s46 (d := d) (ml := ml) (mx := 1) h (by decide)
  have e : vh_C 46 [.ref 24, .int 1] (vh_K d mi ml) = some (some (.int v), vh_K d mi' ml) := e
  rcases H with ⟨x, p, rfl, hf⟩ | ⟨x, q', p, rfl, hc, h4⟩
  · rw [p]
    refine Or.inl ⟨x, mi', rfl, ?_, hf⟩
    simp only [c57, e57_0, e57_1, e57_2, e57_5, e57_8, e57_9, e57_10, e57_11, e57_14, e57_15, e57_16, e57_19, e57_22, e57_25, e57_26, e57_27, e57_28, e57_31, e57_34, e57_35, e57_36, e57_39, e57_40, e57_41, ok24, e, not_true_eq_false, not_false_eq_true, if_true, if_false, and_self, vh_bds, vh_ps1, vh_ps0, vb0, vb1, vbz, vbo]
  · rw [p]
    have hx := (pNum_go h.2.2.1 p).2.2.1
    obtain ⟨v2, mi2, e2, H2⟩ := s46 (d := d) (ml := ml) (mx := 500) hc (by decide)
    have e2 : vh_C 46 [.ref 24, .int 500] (vh_K d mi' ml) = some (some (.int v2), vh_K d mi2 ml) := e2
    show RuC N T mb d ml c _ (pN1 N T d (4 + x) 500 q' G)
    unfold pN1
    rcases H2 with ⟨y, p2, rfl, hf⟩ | ⟨y, q2, p2, rfl, hc3, h42⟩
    · rw [p2]
      refine Or.inl ⟨y, mi2, rfl, ?_, hf⟩
      simp only [c57, e57_0, e57_1, e57_2, e57_5, e57_8, e57_9, e57_10, e57_11, e57_14, e57_15, e57_16, e57_19, e57_22, e57_25, e57_26, e57_27, e57_28, e57_31, e57_34, e57_35, e57_36, e57_39, e57_40, e57_41, ok24, e, h4, e2, show ¬ (1 : Int32) = 0 by decide, not_true_eq_false, not_false_eq_true, if_true, if_false, and_self, vh_bds, vh_ps1, vh_ps0, vb0, vb1, vbz, vbo]
    · rw [p2]
      have hy := (pNum_go hc.2.2.1 p2).2.2.1
      have hix : vh_ixa (27 + 4 * d) (nI x) = true := ixa (by rw [kdEf hd]; omega) (by omega)
      refine Or.inr ⟨q2, _, _, rfl, ?_, hc3.dr (by omega) (drf_i hc3.2.2.2.2.2.1 hd (show x < 2 by omega)) (gs_H hc3.2.2.2.2.2.2.1 (by unfold bnd; omega))⟩
      simp only [c57, e57_0, e57_1, e57_2, e57_5, e57_8, e57_9, e57_10, e57_11, e57_14, e57_15, e57_16, e57_19, e57_22, e57_25, e57_26, e57_27, e57_28, e57_31, e57_34, e57_35, e57_36, e57_39, e57_40, e57_41, ok24, e, rfD, okE hd, rfEf hd, okEf hd, hix, clK (show x < 1000 by omega), h4, e2, h42, show ¬ (1 : Int32) = 0 by decide, not_true_eq_false, not_false_eq_true, if_true, if_false, and_self, vh_bds, vh_ps1, vh_ps0, vb0, vb1, vbz, vbo]
end

section
variable {d : Nat} {mi : Nat → Nat → Int32} {ml : Nat → Nat → Int64} {N : Nat} {T : Nat → Nat} {G : Nat → Nat → Nat}
theorem s30 (hd : d < 4) (hT : TpC N T mi) (hl : hlC mi G) (hG : ∀ h, h < 4 → HlB (G h)) : ∃ d' mi', d' < 4 ∧ mi' 22 1 = 0 ∧ ((∃ x, pAll N T 401 0 G 0 = .inl x ∧ vh_C 30 [.ref 0] (vh_K d mi ml) = some (some (.int (-1000100 - nI x.2)), vh_K d' mi' ml) ∧ mi' 24 6 = nI x.1 ∧ ∀ a, a ≠ 22 → a ≠ 24 → (a < 26 ∨ 41 < a) → mi' a = mi a) ∨ (∃ q' G' c', pAll N T 401 0 G 0 = .inr (q', G', c') ∧ vh_C 30 [.ref 0] (vh_K d mi ml) = some (some (.int (nI c')), vh_K d' mi' ml) ∧ mi' 24 6 = mi 24 6 ∧ hlC mi' G' ∧ (∀ h, h < 4 → HlB (G' h)) ∧ ∀ a, a ≠ 22 → a ≠ 24 → (a < 6 ∨ 21 < a) → (a < 26 ∨ 41 < a) → mi' a = mi a)) := by
  have hN := hT.1
  obtain ⟨m1, A1, ho1, hd1⟩ := l31a (d := d) (ml := ml) (l2 := none) 4 0 mi (by omega) hl (fun h hh => by omega)
  have hT1 : TpC N T (vh_sA (vh_sA m1 24 (upd (m1 24) 5 0)) 22 (upd (m1 22) 4 0)) := by
    refine ⟨hN, ?_, ?_, hT.2.2.2⟩
    · rw [sAs, upn (by decide), ho1 22 (by decide)]; exact hT.2.1
    · rw [sAn (by decide), sAn (by decide), ho1 23 (by decide)]; exact hT.2.2.1
  obtain ⟨f, A2, hk, hf1⟩ := s34 (d := d) (ml := ml) (q := 0) hT1 (by rw [sAs, ups]; rfl) (Nat.zero_le _)
  rw [sAA] at A2
  have hci : CI N T mi (vh_sA (vh_sA m1 24 (upd (m1 24) 5 0)) 22 f) 0 G 0 := by
    refine ⟨⟨hN, ?_, ?_, hT.2.2.2⟩, by rw [sAs]; exact hk, Nat.zero_le _, ?_, ?_, (hd1.s (by omega)).s (by omega), hG, ?_⟩
    · rw [sAs, hf1]; exact hT1.2.1
    · rw [sAn (by decide), sAn (by decide), ho1 23 (by decide)]; exact hT.2.2.1
    · rw [sAn (by decide), sAs, ups]; rfl
    · rw [sAn (by decide), sAs, upn (by decide), ho1 24 (by decide)]
    · intro a a1 a2 a3
      rw [sAn a1, sAn a2, ho1 a a3]
  obtain ⟨v, i', d', m4, A3, hd', H⟩ := l31 (ml := ml) 401 0 0 0 d G _ (by omega) (Nat.le_refl _) hd hci
  have s33 : vh_C 33 [.ref 22] (vh_K d (vh_sA m1 24 (upd (m1 24) 5 0)) ml) = some (none, vh_K d (vh_sA (vh_sA m1 24 (upd (m1 24) 5 0)) 22 f) ml) := by
    simp only [c33, e33_0, e33_1, e33_2, e33_5, e33_6, e33_9, ok22, sAn (show 22 ≠ 24 by decide), A2, not_true_eq_false, not_false_eq_true, if_true, if_false, and_self, vh_bds, vh_ps1, vh_ps0, vb0, vb1, vbz, vbo]
  have start : vh_C 31 [.ref 24] (vh_K d mi ml) = vh_E 31 76 [some (.ref 24), some (.int v), i'] [] (vh_K d' m4 ml) := by
    rw [← A3]
    have e0 : vh_C 31 [.ref 24] (vh_K d mi ml) = vh_E 31 2 [some (.ref 24), some (.int (nI 0)), none] [] (vh_K d mi ml) := by
      simp only [c31, e31_0, e31_1]; rfl
    rw [e0, A1]
    simp only [e31_28, e31_29, e31_30, e31_33, e31_34, e31_37, e31_40, e31_41, e31_42, e31_43, ok24, ok22, rf24_0, s33, not_true_eq_false, not_false_eq_true, if_true, if_false, and_self, vh_bds, vh_ps1, vh_ps0, vb0, vb1, vbz, vbo]
    rfl
  have emp : ∀ m, vh_C 58 [.ref 22] (vh_K d' m ml) = some (none, vh_K d' (vh_sA m 22 (upd (m 22) 1 0)) ml) := by
    intro m
    simp only [c58, e58_0, e58_1, e58_2, e58_5, ok22]
  rcases H with ⟨x, p, rfl, hfl⟩ | ⟨q', G', c', p, rfl, hc⟩
  · refine ⟨d', vh_sA m4 22 (upd (m4 22) 1 0), hd', by rw [sAs, ups], Or.inl ⟨x, p, ?_, ?_, ?_⟩⟩
    · have e31 : vh_C 31 [.ref 24] (vh_K d mi ml) = some (some (.int 0), vh_K d' (vh_sA m4 22 (upd (m4 22) 1 0)) ml) := by
        rw [start]
        simp only [e31_76, e31_77, e31_78, e31_79, e31_80, e31_83, e31_84, e31_108, e31_109, e31_112, e31_115, e31_116, ok24, ok22, rf24_0, emp, show ¬ (4 : Int32) ≤ 0 by decide, vbz, not_true_eq_false, not_false_eq_true, if_true, if_false, and_self, vh_bds, vh_ps1, vh_ps0, vb0, vb1, vbz, vbo]
      simp only [c30, e30_0, e30_1, e30_4, e30_7, e30_10, e30_11, e30_14, e30_17, e30_20, e30_22, e30_23, e30_26, e30_29, e30_30, ok0, ok24, rf0_3, e31, sAn (show 24 ≠ 22 by decide), hfl.2.1, not_true_eq_false, not_false_eq_true, if_true, if_false, and_self, vh_bds, vh_ps1, vh_ps0, vb0, vb1, vbz, vbo]
    · rw [sAn (by decide)]; exact hfl.1
    · intro a a1 a2 a3
      rw [sAn a1]; exact hfl.2.2 a a1 a2 a3
  · obtain ⟨g1, g2, g3, g4, g5, g6, g7, g8⟩ := hc
    obtain ⟨m5, A4, ho5, hl5⟩ := l31b (d := d') (ml := ml) (G := G') 4 0 m4 (by omega) g6 (fun h hh => by omega)
    refine ⟨d', vh_sA m5 22 (upd (m5 22) 1 0), hd', by rw [sAs, ups], Or.inr ⟨q', G', c', p, ?_, ?_, ?_, g7, ?_⟩⟩
    · have e31 : vh_C 31 [.ref 24] (vh_K d mi ml) = some (some (.int 1), vh_K d' (vh_sA m5 22 (upd (m5 22) 1 0)) ml) := by
        rw [start]
        simp only [e31_76, e31_77]
        rw [show (0 : Int32) = nI 0 from rfl, A4]
        simp only [e31_108, e31_109, e31_112, e31_115, e31_116, ok24, ok22, rf24_0, emp, vbo, not_true_eq_false, not_false_eq_true, if_true, if_false, and_self, vh_bds, vh_ps1, vh_ps0, vb0, vb1, vbz, vbo]
        rfl
      simp only [c30, e30_0, e30_1, e30_4, e30_7, e30_10, e30_11, e30_14, e30_17, e30_20, e30_22, e30_23, e30_26, e30_29, e30_30, ok0, ok24, rf0_3, e31, sAn (show 24 ≠ 22 by decide), ho5 24 (by decide), g4, show ¬ (1 : Int32) = 0 by decide, not_true_eq_false, not_false_eq_true, if_true, if_false, and_self, vh_bds, vh_ps1, vh_ps0, vb0, vb1, vbz, vbo]
    · rw [sAn (by decide), ho5 24 (by decide)]; exact g5
    · intro h hh
      rw [sAn (by omega), sAn (by omega), sAn (by omega), sAn (by omega)]
      exact hl5 h hh
    · intro a a1 a2 a3 a4
      rw [sAn a1, ho5 a a3]; exact g8 a a1 a2 a4
end

section
variable {d : Nat} {mb mi : Nat → Nat → Int32} {ml : Nat → Nat → Int64} {N : Nat} {T : Nat → Nat} {Dn : Bool} {G GA : Nat → Nat → Nat}
theorem s156 (hT : TpM N T mi) (h20 : mi 88 20 = 0) (h22 : mi 88 22 = (if Dn = true then 1 else 0)) (ha : arr mi GA) (hf : frM mb mi) (hGA : Dn = true → GA = G) (hBB : ∀ h, h < 4 → HlB (G h)) : RaM N T mb d ml Dn GA (vh_C 156 [.ref 88] (vh_K d mi ml)) (pAll N T 401 0 G 0) := by
  have hN := hT.1
  have hT1 : TpM N T (vh_sA mi 88 (upd (upd (mi 88) 16 0) 23 0)) := hT.s (by rw [upn (by decide), upn (by decide)])
  obtain ⟨f, e, k, fo⟩ := s157 (d := d) (ml := ml) (q := 0) hT1 (by rw [sAs, upn (by decide), ups]; rfl) (Nat.zero_le _)
  rw [sAA] at e
  rw [sAs] at fo
  have H : RI N T mb (vh_sA mi 88 f) 0 GA 0 Dn := by
    refine ⟨hT.s ?_, by rw [sAs]; exact k, Nat.zero_le _, ?_, ?_, ?_, ha.s (by omega), ?_, ?_⟩
    · rw [fo 15 (by decide), upn (by decide), upn (by decide)]
    · rw [sAs, fo 20 (by decide), upn (by decide), upn (by decide)]; exact h20
    · rw [sAs, fo 22 (by decide), upn (by decide), upn (by decide)]; exact h22
    · rw [sAs, fo 23 (by decide), ups]; rfl
    · intro a a1 a2
      rw [sAn a1]; exact hf.1 a a1 a2
    · intro c hc
      rw [sAs, fo c (by omega), upn (by omega), upn (by omega)]; exact hf.2 c hc
  have L := l156 (d := d) (ml := ml) 401 0 0 G GA (vh_sA mi 88 f) none none (by omega) H hGA hBB
  have e0 : vh_C 156 [.ref 88] (vh_K d mi ml) = vh_E 156 14 [some (.ref 88), none, none] [] (vh_K d (vh_sA mi 88 f) ml) := by
    simp only [c156, e156_0, e156_1, e156_2, e156_5, e156_6, e156_7, e156_10, e156_11, ok88, sAs, sAA, e, not_true_eq_false, not_false_eq_true, if_true, if_false, and_self, vh_bds, vh_ps1, vh_ps0, vb0, vb1, vbz, vbo]
  rw [e0]
  exact L
theorem fb0 : fits .boolean (.int 0) = true := by decide
theorem fb1 : fits .boolean (.int 1) = true := by decide
theorem s155 (hT : N ≤ 400 ∧ mi 88 13 = nI N ∧ (∀ i, i < N → mi 99 i = nI (T i)) ∧ ∀ i, T i ≤ 255) (ha : arr mi G) (hBB : ∀ h, h < 4 → HlB (G h)) : ∃ mj, mj 88 13 = 0 ∧ (∀ a, a ≠ 88 → (a < 89 ∨ 95 < a) → mj a = mi a) ∧ (∀ f, f ≠ 0 → f ≠ 13 → f ≠ 14 → (f < 15 ∨ 23 < f) → mj 88 f = mi 88 f) ∧ ((∃ x, pAll N T 401 0 G 0 = .inl x ∧ vh_C 155 [.ref 88] (vh_K d mi ml) = some (some (.int (-1000100 - nI x.2)), vh_K d mj ml) ∧ mj 88 14 = nI x.1 ∧ arr mj G) ∨ (∃ q' G' c', pAll N T 401 0 G 0 = .inr (q', G', c') ∧ vh_C 155 [.ref 88] (vh_K d mi ml) = some (some (.int (nI c')), vh_K d mj ml) ∧ mj 88 14 = mi 88 14 ∧ arr mj G')) := by
  generalize hm0 : vh_sA mi 88 (upd (upd (upd (upd (upd (mi 88) 0 0) 15 (mi 88 13)) 13 0) 20 0) 22 0) = m0
  have m88 : m0 88 = upd (upd (upd (upd (upd (mi 88) 0 0) 15 (mi 88 13)) 13 0) 20 0) 22 0 := by subst hm0; rw [sAs]
  have mo : ∀ a, a ≠ 88 → m0 a = mi a := by intro a h; subst hm0; rw [sAn h]
  have hT0 : TpM N T m0 := ⟨hT.1, by rw [m88]; exact hT.2.1, by rw [mo 99 (by decide)]; exact hT.2.2.1, hT.2.2.2⟩
  have ha0 : arr m0 G := by subst hm0; exact ha.s (by omega)
  have hf0 : frM m0 m0 := ⟨fun _ _ _ => rfl, fun _ _ => rfl⟩
  have fld : ∀ f, f ≠ 0 → f ≠ 13 → (f < 15 ∨ 23 < f) → m0 88 f = mi 88 f := by
    intro f h1 h2 h3
    rw [m88, upn (by omega), upn (by omega), upn (by omega), upn (by omega), upn (by omega)]
  have start : ∀ w', vh_C 156 [.ref 88] (vh_K d m0 ml) = some (none, w') → vh_C 155 [.ref 88] (vh_K d mi ml) = vh_E 155 32 [some (.ref 88)] [] w' := by
    intro w' e
    simp only [c155, e155_0, e155_1, e155_2, e155_5, e155_6, e155_7, e155_10, e155_13, e155_14, e155_15, e155_18, e155_19, e155_20, e155_23, e155_24, e155_25, e155_28, e155_29, e155_33, e155_36, e155_39, e155_40, e155_41, e155_44, e155_47, e155_49, e155_50, e155_53, e155_54, e155_56, e155_57, e155_60, e155_61, e155_64, e155_65, e155_68, ok88, fb0, sAs, sAA, ups, upn (show 13 ≠ 0 by decide), hm0, e, not_true_eq_false, not_false_eq_true, if_true, if_false, and_self, vh_bds, vh_ps1, vh_ps0, vb0, vb1, vbz, vbo]
  have P1 := s156 (d := d) (ml := ml) (Dn := false) (mb := m0) (G := G) (GA := G) hT0 (by rw [m88]; rfl) (by rw [m88]; rfl) ha0 hf0 (fun z => by cases z) hBB
  rcases P1 with ⟨x, p, hx⟩ | ⟨q', G', c', m1, p, e1, H1⟩
  · obtain ⟨m1, e1, hfl⟩ := hx rfl
    obtain ⟨f1, f2, f3, f4, f5, f6, f7⟩ := hfl
    have hgt : ¬ m1 88 20 ≤ 0 := RFl.gt (mb := m0) (mi := m1) (GA := G) (Dn := false) (x := x) ⟨f1, f2, f3, f4, f5, f6, f7⟩
    rw [f1] at hgt
    refine ⟨vh_sA m1 88 (upd (m1 88) 14 (nI x.1)), ?_, ?_, ?_, Or.inl ⟨x, p, ?_, ?_, f6.s (by omega)⟩⟩
    · rw [sAs, upn (by decide), f7.2 13 (by decide), m88]; rfl
    · intro a a1 a2
      rw [sAn a1, f7.1 a a1 a2, mo a a1]
    · intro f h0 h13 h14 hf
      rw [sAs, upn h14, f7.2 f (by omega), fld f h0 h13 hf]
    · rw [start _ e1]
      simp only [e155_32, e155_33, e155_36, e155_39, e155_40, e155_41, e155_44, e155_47, e155_49, e155_50, e155_53, e155_54, ok88, hgt, if_false, f1, sAs, upn (show 21 ≠ 14 by decide), f4]
    · rw [sAs, ups]
  · have k20 := H1.2.2.2.1
    have H1' := H1
    obtain ⟨g1, g2, g3, g4, g5, g6, g7, g8⟩ := H1
    have g7 : arr m1 G := g7
    have P2 := s156 (d := d) (ml := ml) (Dn := true) (mb := m0) (mi := vh_sA m1 88 (upd (m1 88) 22 1)) (G := G) (GA := G) (g1.s (upn (by decide))) (by rw [sAs, upn (by decide)]; exact g4) (by rw [sAs, ups]; rfl) (g7.s (by omega)) ⟨fun a a1 a2 => by rw [sAn a1]; exact g8.1 a a1 a2, fun f hf => by rw [sAs, upn (by omega)]; exact g8.2 f hf⟩ (fun _ => rfl) hBB
    rcases P2 with ⟨x, p2, -⟩ | ⟨q2, G2, c2, m2, p2, e2, H2⟩
    · rw [p] at p2; cases p2
    · rw [p] at p2
      cases p2
      obtain ⟨i1, i2, i3, i4, i5, i6, i7, i8⟩ := H2
      have i7 : arr m2 G' := i7
      refine ⟨m2, ?_, ?_, ?_, Or.inr ⟨q', G', c', p, ?_, ?_, i7⟩⟩
      · rw [i8.2 13 (by decide), m88]; rfl
      · intro a a1 a2
        rw [i8.1 a a1 a2, mo a a1]
      · intro f h0 h13 h14 hf
        rw [i8.2 f (by omega), fld f h0 h13 hf]
      · rw [start _ e1]
        simp only [e155_32, e155_33, e155_36, e155_55, e155_56, e155_57, e155_60, e155_61, e155_64, e155_65, e155_68, ok88, fb1, k20, show (0 : Int32) ≤ 0 by decide, e2, i6, not_true_eq_false, not_false_eq_true, if_true, if_false, and_self, vh_bds, vh_ps1, vh_ps0, vb0, vb1, vbz, vbo]
      · rw [i8.2 14 (by decide), fld 14 (by decide) (by decide) (by decide)]
theorem RHl_of {mj : Nat → Nat → Int32} (hl : hlC mj G) (ha : arr mj G) (hB : ∀ h, h < 4 → HlB (G h)) : RHl (hlv mj 6) (hlv mj 7) (hlv mj 8) (hlv mj 9) (mj 89) (mj 90) (mj 91) (mj 92) (mj 93) (mj 94) (mj 95) := by
  intro h hh
  obtain ⟨l1, l2, l3, l4⟩ := hl h hh
  obtain ⟨⟨a0, a1, a2, a3⟩, a4, a5, a6⟩ := ha h hh
  obtain ⟨b0, b1, b2, b3, b4, b5, b6, b7⟩ := hB h hh
  rw [← hlv_g (mi := mj) (b := 6) hh, ← hlv_g (mi := mj) (b := 7) hh, ← hlv_g (mi := mj) (b := 8) hh, ← hlv_g (mi := mj) (b := 9) hh]
  refine ⟨⟨by rw [l1 0 (by decide), a0], by rw [l1 1 (by decide), a1], by rw [l1 2 (by decide), a2], by rw [l1 3 (by decide), a3]⟩, ⟨⟨_, Nat.zero_le _, b0, a0⟩, ⟨_, Nat.zero_le _, b1, a1⟩, ⟨_, Nat.zero_le _, b2, a2⟩, ⟨_, Nat.zero_le _, b3, a3⟩⟩, ?_, ?_, ?_, ?_⟩
  · intro f hf
    exact ⟨by rw [l2 f hf, a4 f hf], ⟨_, Nat.zero_le _, b4 f hf, a4 f hf⟩⟩
  · intro u hu
    exact ⟨by rw [l3 u hu, a5 u hu], ⟨_, Nat.zero_le _, b5 u hu, a5 u hu⟩⟩
  · intro u hu
    exact ⟨by rw [l4 u hu, a6 u hu], ⟨_, Nat.zero_le _, b6 u hu, a6 u hu⟩⟩
  · intro u v hu hv e
    rw [a6 u hu, a6 v hv] at e
    have h1 := b6 u hu
    have h2 := b6 v hv
    exact b7 u v hu hv ((nI_eq (by omega) (by omega)).mp e)
theorem Rel.rul {d' : Nat} {mj : Nat → Nat → Int32} (hR : Rel d mi) (hd : d' < 4) (h1 : ∀ a, a < 88 → a ≠ 22 → a ≠ 24 → (a < 6 ∨ 21 < a) → (a < 26 ∨ 41 < a) → mj a = mi a) (h2 : ∀ a, 95 < a → a ≤ 121 → mj a = mi a) (h3 : ∀ f, f ≠ 0 → f ≠ 13 → f ≠ 14 → (f < 15 ∨ 23 < f) → mj 88 f = mi 88 f) (h22 : mj 22 1 = 0) (h13 : mj 88 13 = 0) (h24 : mj 24 6 = mj 88 14) (hH : RHl (hlv mj 6) (hlv mj 7) (hlv mj 8) (hlv mj 9) (mj 89) (mj 90) (mj 91) (mj 92) (mj 93) (mj 94) (mj 95)) : Rel d' mj := by
  have hb : bkv mj = bkv mi := by
    funext k
    unfold bkv
    by_cases hk : k < 16
    · rw [if_pos hk, if_pos hk, h1 _ (by omega) (by omega) (by omega) (by omega) (by omega)]
    · rw [if_neg hk, if_neg hk]
  have hT : RTp (mj 22 1) (mj 23) (mj 88 13) (mj 99) := ⟨h22.trans h13.symm, 0, by decide, h22, fun i hi => by omega⟩
  unfold Rel at hR ⊢
  rw [hb]
  rw [h3 27 (by decide) (by decide) (by decide) (by decide), h3 1 (by decide) (by decide) (by decide) (by decide), h3 24 (by decide) (by decide) (by decide) (by decide), h3 33 (by decide) (by decide) (by decide) (by decide), h3 37 (by decide) (by decide) (by decide) (by decide), h3 42 (by decide) (by decide) (by decide) (by decide), h3 46 (by decide) (by decide) (by decide) (by decide), h3 53 (by decide) (by decide) (by decide) (by decide)]
  rw [h1 0 (by decide) (by decide) (by decide) (by decide) (by decide)]
  rw [h1 2 (by decide) (by decide) (by decide) (by decide) (by decide)]
  rw [h1 3 (by decide) (by decide) (by decide) (by decide) (by decide)]
  rw [h1 4 (by decide) (by decide) (by decide) (by decide) (by decide)]
  rw [h1 42 (by decide) (by decide) (by decide) (by decide) (by decide)]
  rw [h1 67 (by decide) (by decide) (by decide) (by decide) (by decide)]
  rw [h1 68 (by decide) (by decide) (by decide) (by decide) (by decide)]
  rw [h1 69 (by decide) (by decide) (by decide) (by decide) (by decide)]
  rw [h1 70 (by decide) (by decide) (by decide) (by decide) (by decide)]
  rw [h1 71 (by decide) (by decide) (by decide) (by decide) (by decide)]
  rw [h1 72 (by decide) (by decide) (by decide) (by decide) (by decide)]
  rw [h1 73 (by decide) (by decide) (by decide) (by decide) (by decide)]
  rw [h1 74 (by decide) (by decide) (by decide) (by decide) (by decide)]
  rw [h1 75 (by decide) (by decide) (by decide) (by decide) (by decide)]
  rw [h1 76 (by decide) (by decide) (by decide) (by decide) (by decide)]
  rw [h1 77 (by decide) (by decide) (by decide) (by decide) (by decide)]
  rw [h1 78 (by decide) (by decide) (by decide) (by decide) (by decide)]
  rw [h1 79 (by decide) (by decide) (by decide) (by decide) (by decide)]
  rw [h1 80 (by decide) (by decide) (by decide) (by decide) (by decide)]
  rw [h1 81 (by decide) (by decide) (by decide) (by decide) (by decide)]
  rw [h1 82 (by decide) (by decide) (by decide) (by decide) (by decide)]
  rw [h1 83 (by decide) (by decide) (by decide) (by decide) (by decide)]
  rw [h1 84 (by decide) (by decide) (by decide) (by decide) (by decide)]
  rw [h1 85 (by decide) (by decide) (by decide) (by decide) (by decide)]
  rw [h1 86 (by decide) (by decide) (by decide) (by decide) (by decide)]
  rw [h1 87 (by decide) (by decide) (by decide) (by decide) (by decide)]
  rw [h2 96 (by decide) (by decide)]
  rw [h2 97 (by decide) (by decide)]
  rw [h2 98 (by decide) (by decide)]
  rw [h2 100 (by decide) (by decide)]
  rw [h2 101 (by decide) (by decide)]
  rw [h2 106 (by decide) (by decide)]
  rw [h2 107 (by decide) (by decide)]
  rw [h2 108 (by decide) (by decide)]
  rw [h2 109 (by decide) (by decide)]
  rw [h2 110 (by decide) (by decide)]
  rw [h2 111 (by decide) (by decide)]
  rw [h2 112 (by decide) (by decide)]
  rw [h2 113 (by decide) (by decide)]
  rw [h2 114 (by decide) (by decide)]
  rw [h2 115 (by decide) (by decide)]
  rw [h2 117 (by decide) (by decide)]
  rw [h2 118 (by decide) (by decide)]
  rw [h2 119 (by decide) (by decide)]
  rw [h2 120 (by decide) (by decide)]
  rw [h2 121 (by decide) (by decide)]
  exact ⟨hd, hR.2.1, hR.2.2.1, hR.2.2.2.1, hH, hT, h24, hR.2.2.2.2.2.2.2⟩
theorem sim_rules (hR : Rel d mi) : Sim 30 155 [] d mi ml := by
  obtain ⟨n, b, g, B, C, M⟩ := hR.dia
  obtain ⟨e, N, hN, hc, hb⟩ := hR.2.2.2.2.2.1
  have hTb : ∀ i, (if i < N then (mi 99 i).toNatClampNeg else 0) ≤ 255 := by
    intro i
    by_cases q : i < N
    · rw [if_pos q]; exact (rng_c (by decide) (hb i q).2).2.2
    · rw [if_neg q]; exact Nat.zero_le _
  have hT : TpC N (fun i => if i < N then (mi 99 i).toNatClampNeg else 0) mi := by
    refine ⟨hN, hc, ?_, hTb⟩
    intro i hi
    show _ = nI (if i < N then _ else _)
    rw [if_pos hi, (hb i hi).1]
    exact (rng_c (by decide) (hb i hi).2).1
  obtain ⟨d', mi', hd', h22, H⟩ := s30 (ml := ml) (G := g) hR.1 hT C.2.2.2 B.2.2.2
  have mk : ∀ (P : ∀ a, 86 < a → mi' a = mi a), ∃ mj, mj 88 13 = 0 ∧ (∀ a, a ≠ 88 → (a < 89 ∨ 95 < a) → mj a = mi' a) ∧ (∀ f, f ≠ 0 → f ≠ 13 → f ≠ 14 → (f < 15 ∨ 23 < f) → mj 88 f = mi' 88 f) ∧ ((∃ x, pAll N (fun i => if i < N then (mi 99 i).toNatClampNeg else 0) 401 0 g 0 = .inl x ∧ vh_C 155 [.ref 88] (vh_K d' mi' ml) = some (some (.int (-1000100 - nI x.2)), vh_K d' mj ml) ∧ mj 88 14 = nI x.1 ∧ arr mj g) ∨ (∃ q' G' c', pAll N (fun i => if i < N then (mi 99 i).toNatClampNeg else 0) 401 0 g 0 = .inr (q', G', c') ∧ vh_C 155 [.ref 88] (vh_K d' mi' ml) = some (some (.int (nI c')), vh_K d' mj ml) ∧ mj 88 14 = mi' 88 14 ∧ arr mj G')) := by
    intro P
    apply s155 (d := d') (ml := ml)
    · refine ⟨hN, by rw [P 88 (by decide)]; exact e.symm.trans hc, ?_, hTb⟩
      intro i hi
      rw [P 99 (by decide)]
      show _ = nI (if i < N then _ else _)
      rw [if_pos hi]
      exact (rng_c (by decide) (hb i hi).2).1
    · intro h hh
      rw [P 89 (by decide), P 90 (by decide), P 91 (by decide), P 92 (by decide), P 93 (by decide), P 94 (by decide), P 95 (by decide)]
      exact M.2.2.2 h hh
    · exact B.2.2.2
  rcases H with ⟨x, p, eA, h24, ho⟩ | ⟨q', G', c', p, eA, h24, hl, hG, ho⟩
  · obtain ⟨mj, k13, ko, kf, HH⟩ := mk (fun a ha => ho a (by omega) (by omega) (by omega))
    rcases HH with ⟨x', p', eB, k14, ka⟩ | ⟨q', G', c', p', -⟩
    · rw [p] at p'
      cases p'
      refine Sim.mk eA eB rfl (hR.rul hd' ?_ ?_ ?_ ?_ k13 ?_ (RHl_of (G := g) ?_ ka B.2.2.2))
      · intro a a1 a2 a3 a4 a5
        rw [ko a (by omega) (by omega)]; exact ho a a2 a3 a5
      · intro a a1 a2
        rw [ko a (by omega) (by omega)]; exact ho a (by omega) (by omega) (by omega)
      · intro f f0 f13 f14 hf
        rw [kf f f0 f13 f14 hf, ho 88 (by decide) (by decide) (by decide)]
      · rw [ko 22 (by decide) (by decide)]; exact h22
      · rw [ko 24 (by decide) (by decide), h24, k14]
      · intro h hh
        rw [ko _ (by omega) (by omega), ko _ (by omega) (by omega), ko _ (by omega) (by omega), ko _ (by omega) (by omega), ho _ (by omega) (by omega) (by omega), ho _ (by omega) (by omega) (by omega), ho _ (by omega) (by omega) (by omega), ho _ (by omega) (by omega) (by omega)]
        exact C.2.2.2 h hh
    · rw [p] at p'; cases p'
  · obtain ⟨mj, k13, ko, kf, HH⟩ := mk (fun a ha => ho a (by omega) (by omega) (by omega) (by omega))
    rcases HH with ⟨x', p', -⟩ | ⟨q2, G2, c2, p', eB, k14, ka⟩
    · rw [p] at p'; cases p'
    · rw [p] at p'
      cases p'
      refine Sim.mk eA eB rfl (hR.rul hd' ?_ ?_ ?_ ?_ k13 ?_ (RHl_of (G := G') ?_ ka hG))
      · intro a a1 a2 a3 a4 a5
        rw [ko a (by omega) (by omega)]; exact ho a a2 a3 a4 a5
      · intro a a1 a2
        rw [ko a (by omega) (by omega)]; exact ho a (by omega) (by omega) (by omega) (by omega)
      · intro f f0 f13 f14 hf
        rw [kf f f0 f13 f14 hf, ho 88 (by decide) (by decide) (by decide) (by decide)]
      · rw [ko 22 (by decide) (by decide)]; exact h22
      · rw [ko 24 (by decide) (by decide), h24, k14, ho 88 (by decide) (by decide) (by decide) (by decide)]
        exact hR.2.2.2.2.2.2.1
      · intro h hh
        rw [ko _ (by omega) (by omega), ko _ (by omega) (by omega), ko _ (by omega) (by omega), ko _ (by omega) (by omega)]
        exact hl h hh
end

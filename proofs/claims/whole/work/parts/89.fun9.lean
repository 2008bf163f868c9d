theorem Rel.cong2 {d : Nat} {mi mj : Nat → Nat → Int32} (hR : Rel d mi) (h1 : ∀ a, a < 88 → (a < 44 ∨ 46 < a) → (a < 63 ∨ 66 < a) → mj a = mi a) (h2 : ∀ a, 88 < a → a ≤ 121 → (a < 102 ∨ 105 < a) → mj a = mi a) (h3 : ∀ f, f ≠ 0 → f ≠ 32 → mj 88 f = mi 88 f) : Rel d mj := by
  have hb : bkv mj = bkv mi := by
    funext k
    unfold bkv
    by_cases hk : k < 16
    · rw [if_pos hk, if_pos hk, h1 _ (by omega) (by omega) (by omega)]
    · rw [if_neg hk, if_neg hk]
  have hl : ∀ c, 6 ≤ c → c < 10 → hlv mj c = hlv mi c := by
    intro c c1 c2
    funext k
    unfold hlv
    by_cases hk : k < 4
    · rw [if_pos hk, if_pos hk, h1 _ (by omega) (by omega) (by omega)]
    · rw [if_neg hk, if_neg hk]
  unfold Rel at hR ⊢
  rw [hb, hl 6 (by decide) (by decide), hl 7 (by decide) (by decide), hl 8 (by decide) (by decide), hl 9 (by decide) (by decide)]
  rw [h3 27 (by decide) (by decide), h3 1 (by decide) (by decide), h3 13 (by decide) (by decide), h3 14 (by decide) (by decide), h3 24 (by decide) (by decide), h3 33 (by decide) (by decide), h3 37 (by decide) (by decide), h3 42 (by decide) (by decide), h3 46 (by decide) (by decide), h3 53 (by decide) (by decide)]
  rw [h1 0 (by decide) (by decide) (by decide)]
  rw [h1 2 (by decide) (by decide) (by decide)]
  rw [h1 3 (by decide) (by decide) (by decide)]
  rw [h1 4 (by decide) (by decide) (by decide)]
  rw [h1 22 (by decide) (by decide) (by decide)]
  rw [h1 23 (by decide) (by decide) (by decide)]
  rw [h1 24 (by decide) (by decide) (by decide)]
  rw [h1 42 (by decide) (by decide) (by decide)]
  rw [h1 67 (by decide) (by decide) (by decide)]
  rw [h1 68 (by decide) (by decide) (by decide)]
  rw [h1 69 (by decide) (by decide) (by decide)]
  rw [h1 70 (by decide) (by decide) (by decide)]
  rw [h1 71 (by decide) (by decide) (by decide)]
  rw [h1 72 (by decide) (by decide) (by decide)]
  rw [h1 73 (by decide) (by decide) (by decide)]
  rw [h1 74 (by decide) (by decide) (by decide)]
  rw [h1 75 (by decide) (by decide) (by decide)]
  rw [h1 76 (by decide) (by decide) (by decide)]
  rw [h1 77 (by decide) (by decide) (by decide)]
  rw [h1 78 (by decide) (by decide) (by decide)]
  rw [h1 79 (by decide) (by decide) (by decide)]
  rw [h1 80 (by decide) (by decide) (by decide)]
  rw [h1 81 (by decide) (by decide) (by decide)]
  rw [h1 82 (by decide) (by decide) (by decide)]
  rw [h1 83 (by decide) (by decide) (by decide)]
  rw [h1 84 (by decide) (by decide) (by decide)]
  rw [h1 85 (by decide) (by decide) (by decide)]
  rw [h1 86 (by decide) (by decide) (by decide)]
  rw [h1 87 (by decide) (by decide) (by decide)]
  rw [h2 89 (by decide) (by decide) (by decide)]
  rw [h2 90 (by decide) (by decide) (by decide)]
  rw [h2 91 (by decide) (by decide) (by decide)]
  rw [h2 92 (by decide) (by decide) (by decide)]
  rw [h2 93 (by decide) (by decide) (by decide)]
  rw [h2 94 (by decide) (by decide) (by decide)]
  rw [h2 95 (by decide) (by decide) (by decide)]
  rw [h2 96 (by decide) (by decide) (by decide)]
  rw [h2 97 (by decide) (by decide) (by decide)]
  rw [h2 98 (by decide) (by decide) (by decide)]
  rw [h2 99 (by decide) (by decide) (by decide)]
  rw [h2 100 (by decide) (by decide) (by decide)]
  rw [h2 101 (by decide) (by decide) (by decide)]
  rw [h2 106 (by decide) (by decide) (by decide)]
  rw [h2 107 (by decide) (by decide) (by decide)]
  rw [h2 108 (by decide) (by decide) (by decide)]
  rw [h2 109 (by decide) (by decide) (by decide)]
  rw [h2 110 (by decide) (by decide) (by decide)]
  rw [h2 111 (by decide) (by decide) (by decide)]
  rw [h2 112 (by decide) (by decide) (by decide)]
  rw [h2 113 (by decide) (by decide) (by decide)]
  rw [h2 114 (by decide) (by decide) (by decide)]
  rw [h2 115 (by decide) (by decide) (by decide)]
  rw [h2 117 (by decide) (by decide) (by decide)]
  rw [h2 118 (by decide) (by decide) (by decide)]
  rw [h2 119 (by decide) (by decide) (by decide)]
  rw [h2 120 (by decide) (by decide) (by decide)]
  rw [h2 121 (by decide) (by decide) (by decide)]
  exact hR
section
variable {d : Nat} {mi : Nat → Nat → Int32} {ml : Nat → Nat → Int64} {n : Nat} {b g : Nat → Nat → Nat} {H D F E P M mv t : Nat} {fl : Option Nat}
theorem go_16 (hn : n ≤ 16) (hmn : ∀ a, mv.testBit a = true → a < n) : goT b g H F E M mv fl n 16 = goT b g H F E M mv fl n n := by
  have : ∀ j, goT b g H F E M mv fl n (n + j) = goT b g H F E M mv fl n n := by
    intro j
    induction j with
    | zero => rfl
    | succ j ih =>
      rw [← ih]
      funext c
      exact go_no (fun z => by have : n + j < n := hmn _ z; omega)
  have h := this (16 - n)
  rw [show n + (16 - n) = 16 by omega] at h
  exact h
theorem s101 {x : Nat} (hn : n ≤ 16) (hx : x ≤ 18) (h6 : mi 63 6 = nI (fuC b g n H D F E P M).2) (h64 : mi 64 1 = bvI (fuC b g n H D F E P M).1) (h66 : ∀ c, c < 16 → mi 66 c = bvI (goT b g H F E M (fuC b g n H D F E P M).2 (fuC b g n H D F E P M).1 n 16 c)) : vh_C 101 [.ref 63, .int (nI x)] (vh_K d mi ml) = some (some (.int (fuA b g n H D F E P M x)), vh_K d mi ml) := by
  obtain ⟨hc2, hc1⟩ := fuC_b (b := b) (g := g) (H := H) (D := D) (F := F) (E := E) (P := P) (M := M) hn
  have hcm := fuC_m (b := b) (g := g) (H := H) (D := D) (F := F) (E := E) (P := P) (M := M) hn
  unfold fuA
  generalize fuC b g n H D F E P M = C at *
  rw [go_16 hn (fun a ha => (hcm a ha).1)] at h66
  by_cases x0 : x = 0
  · subst x0
    rw [if_pos rfl]
    simp only [c101, e101_0, e101_1, e101_28, e101_29, e101_32, e101_35, e101_36, e101_37, e101_40, e101_43, e101_44, e101_45, e101_48, e101_49, e101_50, e101_51, e101_53, e101_56, e101_59, e101_60, e101_63, e101_64, e101_65, e101_66, e101_67, e101_70, e101_72, ok63, ok64, rf63_2, h64, show nI 0 = (0 : Int32) from rfl, not_true_eq_false, not_false_eq_true, if_true, if_false, and_self, vh_bds, vh_ps1, vh_ps0, vb0, vb1, vbz, vbo]
  rw [if_neg x0]
  by_cases x1 : x = 1
  · subst x1
    rw [if_pos rfl]
    simp only [c101, e101_0, e101_1, e101_28, e101_29, e101_32, e101_35, e101_36, e101_37, e101_40, e101_43, e101_44, e101_45, e101_48, e101_49, e101_50, e101_51, e101_53, e101_56, e101_59, e101_60, e101_63, e101_64, e101_65, e101_66, e101_67, e101_70, e101_72, ok63, h6, s98 hc2, show nI 1 = (1 : Int32) from rfl, show ¬ (1 : Int32) = 0 by decide, not_true_eq_false, not_false_eq_true, if_true, if_false, and_self, vh_bds, vh_ps1, vh_ps0, vb0, vb1, vbz, vbo]
  rw [if_neg x1]
  by_cases x2 : x = 2
  · subst x2
    rw [if_pos rfl]
    have L := l102 (d := d) (ml := ml) hc2 h6 (fun c y h => by have := (go_lt h).1; omega) h66 16 0 (by omega)
    have e1 := wp_cnt (b := b) (g := g) (H := H) (F := F) (E := E) (M := M) (fl := C.1) (fun a ha => (hcm a ha).1) (Nat.le_refl n)
    have e2 := wp_hi (go := goT b g H F E M C.2 C.1 n n) (fun a ha => (hcm a ha).1) (j := 16 - n)
    rw [show n + (16 - n) = 16 by omega] at e2
    have e3 : pc C.2 16 = pc C.2 n := by
      have hlt : C.2 < 2 ^ n := by
        apply Nat.lt_of_not_le
        intro hge
        obtain ⟨i, hi1, hi2⟩ := Nat.exists_ge_and_testBit_of_ge_two_pow hge
        have := (hcm i hi2).1
        omega
      exact pc_hi hlt hn
    have s102 : vh_C 102 [.ref 63] (vh_K d mi ml) = some (some (.int (nI (wpN C.2 (goT b g H F E M C.2 C.1 n n) 16))), vh_K d mi ml) := by
      simp only [c102, e102_0, e102_1, e102_2, e102_3, e102_5, e102_7, e102_10, e102_11, e102_14, e102_15, e102_16, e102_17, e102_18, e102_19, e102_22, e102_23, e102_26, e102_27, e102_28, e102_30, e102_33, e102_36, e102_39, e102_42, e102_43]
      exact L
    simp only [c101, e101_0, e101_1, e101_28, e101_29, e101_32, e101_35, e101_36, e101_37, e101_40, e101_43, e101_44, e101_45, e101_48, e101_49, e101_50, e101_51, e101_53, e101_56, e101_59, e101_60, e101_63, e101_64, e101_65, e101_66, e101_67, e101_70, e101_72, ok63, s102, show nI 2 = (2 : Int32) from rfl, show ¬ (2 : Int32) = 0 by decide, show ¬ (2 : Int32) = 1 by decide, not_true_eq_false, not_false_eq_true, if_true, if_false, and_self, vh_bds, vh_ps1, vh_ps0, vb0, vb1, vbz, vbo]
    rw [e2, e3, ← e1, pk_sub (Nat.le_add_right _ _), Nat.add_sub_cancel_left]
  rw [if_neg x2]
  have y0 : ¬ nI x = 0 := fun z => x0 ((nI_eq (b := 0) (by omega) (by decide)).mp z)
  have y1 : ¬ nI x = 1 := fun z => x1 ((nI_eq (b := 1) (by omega) (by decide)).mp z)
  have y2 : ¬ nI x = 2 := fun z => x2 ((nI_eq (b := 2) (by omega) (by decide)).mp z)
  have x3 : nI x - 3 = nI (x - 3) := pk_sub (b := 3) (by omega)
  have r : 3 ≤ nI x ∧ nI x ≤ 18 := ⟨nI_le (a := 3) (by omega) (by omega), nI_le (b := 18) hx (by decide)⟩
  simp only [c101, e101_0, e101_1, e101_28, e101_29, e101_32, e101_35, e101_36, e101_37, e101_40, e101_43, e101_44, e101_45, e101_48, e101_49, e101_50, e101_51, e101_53, e101_56, e101_59, e101_60, e101_63, e101_64, e101_65, e101_66, e101_67, e101_70, e101_72, ok63, ok66, rf63_4, s14, r, y0, y1, y2, x3, okx66 (show x - 3 < 16 by omega), clK (show x - 3 < 1000 by omega), h66 (x - 3) (by omega), not_true_eq_false, not_false_eq_true, if_true, if_false, and_self, vh_bds, vh_ps1, vh_ps0, vb0, vb1, vbz, vbo]
theorem sim_funeral {h dy f e p x : Int32} (hR : Rel d mi) : Sim 95 190 [.int h, .int dy, .int f, .int e, .int p, .int x] d mi ml := by
  by_cases hg : (0 ≤ h ∧ h ≤ 3) ∧ (0 ≤ dy ∧ dy ≤ 364) ∧ (0 ≤ f ∧ f < e ∧ e ≤ 96) ∧ (1 ≤ p ∧ p ≤ 500) ∧ (0 ≤ x ∧ x ≤ 18)
  · obtain ⟨g1, g2, g3, g4, g5⟩ := hg
    obtain ⟨n, b, g, B, C, Mm⟩ := hR.dia
    obtain ⟨t, ht, ht1, ht2⟩ := hR.today
    obtain ⟨H, hH, rfl⟩ := nIr g1.1 (show h ≤ nI 3 from g1.2) (by decide)
    obtain ⟨D, hD, rfl⟩ := nIr g2.1 (show dy ≤ nI 364 from g2.2) (by decide)
    obtain ⟨E, hE, rfl⟩ := nIr (Int32.le_trans g3.1 (Int32.le_of_lt g3.2.1)) (show e ≤ nI 96 from g3.2.2) (by decide)
    obtain ⟨F, hF', rfl⟩ := nIr g3.1 (Int32.le_of_lt g3.2.1) (by omega)
    have hF : F < E := (nI_ltI (by omega) (by omega)).mp g3.2.1
    obtain ⟨P, hP, rfl⟩ := nIr (Int32.le_trans (by decide) g4.1) (show p ≤ nI 500 from g4.2) (by decide)
    have hP1 : 1 ≤ P := (nI_leI (a := 1) (by decide) (by omega)).mp g4.1
    obtain ⟨X, hX, rfl⟩ := nIr g5.1 (show x ≤ nI 18 from g5.2) (by decide)
    obtain ⟨mi', A, ho, h6, h64, h66⟩ := s96 (d := d) (ml := ml) C B ht (show H < 4 by omega) hD hF hE hP
    have A2 : vh_C 95 [.ref 0, .int (nI H), .int (nI D), .int (nI F), .int (nI E), .int (nI P), .int (nI X)] (vh_K d mi ml) = some (some (.int (fuA b g n H D F E P (hld b g n t) X)), vh_K d mi' ml) := by
      simp only [c95, e95_0, e95_1, e95_4, e95_7, e95_8, e95_11, e95_14, e95_16, e95_17, e95_20, e95_23, e95_26, e95_28, e95_29, e95_30, e95_32, e95_35, e95_38, e95_40, e95_41, e95_43, e95_46, e95_49, e95_51, e95_52, e95_53, e95_56, e95_57, e95_58, e95_59, e95_61, e95_63, e95_64, e95_67, e95_70, e95_71, e95_74, e95_76, e95_79, s61, s69, s14, s70, g1, g2, g3, g4, g5, ok0, ok63, rf0_5, ht1, A, s101 (d := d) (ml := ml) B.1 hX h6 h64 h66, not_true_eq_false, not_false_eq_true, if_true, if_false, and_self, vh_bds, vh_ps1, vh_ps0, vb0, vb1, vbz, vbo]
    have M2 : DiM mi' n b g := by
      obtain ⟨u1, u2, u3, u4⟩ := Mm
      refine ⟨by rw [ho 88 (by decide) (by decide) (by decide)]; exact u1, ?_, ?_, ?_⟩
      · rw [ho 100 (by decide) (by decide) (by decide)]; exact u2
      · rw [ho 101 (by decide) (by decide) (by decide)]; exact u3
      · rw [ho 89 (by decide) (by decide) (by decide), ho 90 (by decide) (by decide) (by decide), ho 91 (by decide) (by decide) (by decide), ho 92 (by decide) (by decide) (by decide), ho 93 (by decide) (by decide) (by decide), ho 94 (by decide) (by decide) (by decide), ho 95 (by decide) (by decide) (by decide)]; exact u4
    obtain ⟨f88, f105, Bq, h88⟩ := s190 (d := d) (ml := ml) (x := X) M2 B (by rw [ho 88 (by decide) (by decide) (by decide)]; exact ht2) ht (show H < 4 by omega) hD hF hE hP1 hP hX
    refine Sim.mk A2 Bq rfl ?_
    apply hR.cong2
    · intro a a1 a2 a3
      rw [sAn (by omega), sAn (by omega)]
      exact ho a (by omega) (by omega) a3
    · intro a a1 a2 a3
      rw [sAn (by omega), sAn (by omega)]
      exact ho a (by omega) (by omega) (by omega)
    · intro f h0 h32
      rw [sAn (by decide), sAs, h88 f h0 h32, ho 88 (by decide) (by decide) (by decide)]
  · have A : vh_C 95 [.ref 0, .int h, .int dy, .int f, .int e, .int p, .int x] (vh_K d mi ml) = some (some (.int (-1000001)), vh_K d mi ml) := by
      simp only [c95, e95_0, e95_1, e95_4, e95_7, e95_8, e95_11, e95_14, e95_16, e95_17, e95_20, e95_23, e95_26, e95_28, e95_29, e95_30, e95_32, e95_35, e95_38, e95_40, e95_41, e95_43, e95_46, e95_49, e95_51, e95_53, e95_56, e95_57, e95_58, e95_59, e95_61, e95_63, e95_64, e95_67, e95_70, e95_71, e95_74, e95_76, e95_79, s61, s69, s14, s70, not_true_eq_false, not_false_eq_true, if_true, if_false, and_self, vh_bds, vh_ps1, vh_ps0, vb0, vb1, vbz, vbo, Classical.not_not]
      by_cases a1 : 0 ≤ h ∧ h ≤ 3
      · rw [if_neg (not_not_intro a1)]
        by_cases a2 : 0 ≤ dy ∧ dy ≤ 364
        · rw [if_neg (not_not_intro a2)]
          by_cases a4 : 1 ≤ p ∧ p ≤ 500
          · rw [if_pos a4]
            by_cases a3 : 0 ≤ f ∧ f < e ∧ e ≤ 96
            · rw [if_neg (not_not_intro a3), if_neg (fun z => hg ⟨a1, a2, a3, a4, z⟩)]
            · rw [if_pos a3]
          · rw [if_neg a4]
        · rw [if_pos a2]
      · rw [if_pos a1]
    exact Sim.mk A (s190a hg) rfl hR.thrown
end

section
variable {d : Nat} {mi : Nat → Nat → Int32} {ml : Nat → Nat → Int64} {n : Nat} {b g : Nat → Nat → Nat} {H D F E P M mv t : Nat} {fl : Option Nat}
theorem s96 (HC : DiC mi n b g) (B : DiB n b g) (ht : t ≤ 364) (hH : H < 4) (hD : D ≤ 364) (hF : F < E) (hE : E ≤ 96) (hP : P ≤ 500) : ∃ mi', vh_C 96 [.ref 63, .int (nI H), .int (nI D), .int (nI F), .int (nI E), .int (nI P), .int (nI t)] (vh_K d mi ml) = some (none, vh_K d mi' ml) ∧ (∀ a, a ≠ 44 → a ≠ 45 → (a < 63 ∨ 66 < a) → mi' a = mi a) ∧ mi' 63 6 = nI (fuC b g n H D F E P (hld b g n t)).2 ∧ mi' 64 1 = bvI (fuC b g n H D F E P (hld b g n t)).1 ∧ ∀ c, c < 16 → mi' 66 c = bvI (goT b g H F E (hld b g n t) (fuC b g n H D F E P (hld b g n t)).2 (fuC b g n H D F E P (hld b g n t)).1 n 16 c) := by
  have hn := B.1
  have hM := hld_lt (D := t) B
  obtain ⟨hc2, hc1⟩ := fuC_b (b := b) (g := g) (H := H) (D := D) (F := F) (E := E) (P := P) (M := hld b g n t) hn
  have hcm := fuC_m (b := b) (g := g) (H := H) (D := D) (F := F) (E := E) (P := P) (M := hld b g n t) hn
  have hcn := fuC_n (b := b) (g := g) (n := n) (H := H) (D := D) (F := F) (E := E) (P := P) (M := hld b g n t)
  generalize hf64 : upd (upd (upd (upd (upd (upd (mi 64) 0 (nI H)) 2 (nI D)) 3 (nI F)) 4 (nI E)) 5 (nI P)) 6 3 = f64
  have hsv : svH f64 H D F E P := by subst hf64; exact ⟨rfl, rfl, rfl, rfl, rfl, rfl⟩
  have HC1 : DiC (vh_sA mi 64 f64) n b g := HC.fr hn (by omega)
  obtain ⟨f45, f44, hh⟩ := s82 (d := d) (ml := ml) HC1 B ht
  generalize hm1 : vh_sA (vh_sA (vh_sA (vh_sA mi 64 f64) 45 f45) 44 f44) 63 (upd (mi 63) 5 (nI (hld b g n t))) = m1
  have HC2 : DiC m1 n b g := by
    subst hm1
    exact ((HC1.fr hn (by omega)).fr hn (by omega)).fr hn (by omega)
  have m63 : m1 63 = upd (mi 63) 5 (nI (hld b g n t)) := by subst hm1; simp only [sAn, sAs, sAA, ups, upn, bkv_n, hlv_n, ne_eq, Nat.reduceEqDiff, Nat.reduceLT, Nat.reduceLeDiff, or_true, true_or, not_false_eq_true]
  have m64 : m1 64 = f64 := by subst hm1; simp only [sAn, sAs, sAA, ups, upn, bkv_n, hlv_n, ne_eq, Nat.reduceEqDiff, Nat.reduceLT, Nat.reduceLeDiff, or_true, true_or, not_false_eq_true]
  have mo : ∀ a, a ≠ 44 → a ≠ 45 → (a < 63 ∨ 66 < a) → m1 a = mi a := by
    intro a h1 h2 h3
    subst hm1
    rw [sAn (by omega), sAn h1, sAn h2, sAn (by omega)]
  have A1 := s97 (d := d) (ml := ml) HC2 B (by rw [m64]; exact hsv) (M := hld b g n t) (by rw [m63, ups]) hM hH hD hF hE hP
  generalize fuC b g n H D F E P (hld b g n t) = C at *
  obtain ⟨f1, A2, hf1⟩ := l96n (d := d) (ml := ml) (l1 := some (.int (nI H))) (l2 := some (.int (nI D))) (l3 := some (.int (nI F))) (l4 := some (.int (nI E))) (l5 := some (.int (nI P))) (l6 := some (.int (nI t))) 16 0 (vh_sA (vh_sA m1 63 (upd (m1 63) 6 (nI C.2))) 64 (upd (m1 64) 1 (bvI C.1))) (by omega) (fun c hc => by omega)
  have HC3 : DiC (vh_sA (vh_sA (vh_sA m1 63 (upd (m1 63) 6 (nI C.2))) 64 (upd (m1 64) 1 (bvI C.1))) 66 f1) n b g := ((HC2.fr hn (by omega)).fr hn (by omega)).fr hn (by omega)
  obtain ⟨f65, f66, A3, hf66⟩ := l96o (d := d) (ml := ml) (B0 := B) (F := F) (E := E) (fl := C.1) (l1 := some (.int (nI H))) (l2 := some (.int (nI D))) (l3 := some (.int (nI F))) (l4 := some (.int (nI E))) (l5 := some (.int (nI P))) (l6 := some (.int (nI t))) hM hc2 hH hcm 16 0 _ (by omega) HC3 (by simp only [sAn, sAs, sAA, ups, upn, bkv_n, hlv_n, ne_eq, Nat.reduceEqDiff, Nat.reduceLT, Nat.reduceLeDiff, or_true, true_or, not_false_eq_true]; rw [m63, ups]) (by simp only [sAn, sAs, sAA, ups, upn, bkv_n, hlv_n, ne_eq, Nat.reduceEqDiff, Nat.reduceLT, Nat.reduceLeDiff, or_true, true_or, not_false_eq_true]) (by
    cases e : C.1 with
    | none => exact Or.inl (hcn e)
    | some f0 =>
      right
      refine ⟨f0, svF f64 H D F E P f0, rfl, sv_bk hsv hH (hc1 f0 e) hD hF hE hP ?_, rfl, rfl, rfl, rfl, rfl, rfl⟩
      simp only [sAn, sAs, sAA, ups, upn, bkv_n, hlv_n, ne_eq, Nat.reduceEqDiff, Nat.reduceLT, Nat.reduceLeDiff, or_true, true_or, not_false_eq_true]
      rw [m64]; rfl) (fun c hc => by rw [sAs, hf1 c hc]; rfl)
  refine ⟨vh_sA (vh_sA (vh_sA (vh_sA (vh_sA m1 63 (upd (m1 63) 6 (nI C.2))) 64 (upd (m1 64) 1 (bvI C.1))) 66 f1) 65 f65) 66 f66, ?_, ?_, ?_, ?_, ?_⟩
  rotate_left
  rotate_left
  · simp only [sAn, sAs, sAA, ups, upn, bkv_n, hlv_n, ne_eq, Nat.reduceEqDiff, Nat.reduceLT, Nat.reduceLeDiff, or_true, true_or, not_false_eq_true]
  · simp only [sAn, sAs, sAA, ups, upn, bkv_n, hlv_n, ne_eq, Nat.reduceEqDiff, Nat.reduceLT, Nat.reduceLeDiff, or_true, true_or, not_false_eq_true]
  · rw [sAs]; exact hf66
  · simp only [c96, e96_0, e96_1, e96_4, e96_5, e96_8, e96_9, e96_12, e96_13, e96_16, e96_17, e96_20, e96_21, e96_24, e96_25, e96_28, e96_30, e96_33, e96_34, e96_37, e96_39, e96_42, e96_43, e96_46, e96_47, e96_50, e96_51, e96_52, e96_55, e96_57, e96_60, e96_63, e96_64, e96_67, e96_68, e96_72, e96_74, e96_77, e96_78, e96_81, e96_83, e96_85, e96_86, e96_89, e96_92, e96_93, e96_95, e96_97, e96_99, e96_102, e96_103, e96_106, e96_108, e96_109, e96_110, e96_111, e96_112, e96_115, e96_116, e96_119, e96_121, e96_122, e96_124, e96_127, e96_128, e96_131, e96_134, ok63, ok64, ok42, rf63_0, rf63_2, sAs, sAA, hf64, hh, sAn, sAs, sAA, ups, upn, bkv_n, hlv_n, ne_eq, Nat.reduceEqDiff, Nat.reduceLT, Nat.reduceLeDiff, or_true, true_or, not_false_eq_true, not_true_eq_false, not_false_eq_true, if_true, if_false, and_self, vh_bds, vh_ps1, vh_ps0, vb0, vb1, vbz, vbo]
    rw [hm1, A1]
    simp only [e96_67, e96_68, not_true_eq_false, not_false_eq_true, if_true, if_false, and_self, vh_bds, vh_ps1, vh_ps0, vb0, vb1, vbz, vbo]
    refine Eq.trans A2 ?_
    simp only [e96_92, e96_93]
    exact A3
  · intro a h1 h2 h3
    rw [sAn (by omega), sAn (by omega), sAn (by omega), sAn (by omega), sAn (by omega)]
    exact mo a h1 h2 h3
/-- moved, with no place -/
def wpN (mv : Nat) (go : Nat → Option Nat) : Nat → Nat
  | 0 => 0
  | i + 1 => if mv.testBit i = true ∧ go i = none then wpN mv go i + 1 else wpN mv go i
theorem wp_le {go : Nat → Option Nat} : ∀ {i : Nat}, wpN mv go i ≤ i := by
  intro i
  induction i with
  | zero => exact Nat.le_refl _
  | succ i ih => unfold wpN; split <;> omega
theorem l102 {go : Nat → Option Nat} (hmv : mv < 2 ^ 16) (h6 : mi 63 6 = nI mv) (hgo : ∀ c y, go c = some y → y < 1000) (h66 : ∀ c, c < 16 → mi 66 c = bvI (go c)) : ∀ j i, i + j = 16 → vh_E 102 4 [some (.ref 63), some (.int (nI (wpN mv go i))), some (.int (nI i))] [] (vh_K d mi ml) = some (some (.int (nI (wpN mv go 16))), vh_K d mi ml) := by
  intro j
  induction j with
  | zero =>
    intro i hi
    have : i = 16 := by omega
    subst this
    simp only [e102_4, e102_5, e102_7, e102_42, e102_43, show (16 : Int32) ≤ nI 16 by decide, if_true]
  | succ j ih =>
    intro i hi
    have hi6 : i < 16 := by omega
    have := ih (i + 1) (by omega)
    rw [e102_4]
    simp only [e102_0, e102_1, e102_2, e102_3, e102_5, e102_7, e102_10, e102_11, e102_14, e102_15, e102_16, e102_17, e102_18, e102_19, e102_22, e102_23, e102_26, e102_27, e102_28, e102_30, e102_33, e102_36, e102_39, e102_42, e102_43, ok63, ok66, rf63_4, okx66 hi6, clK (show i < 1000 by omega), h6, h66 i hi6, bvI_n (hgo i), bt (show mv < 2 ^ 31 by omega) (show i < 31 by omega), vbe, show ¬ (16 : Int32) ≤ nI i from nI_ge (b := 16) (by omega) (by decide), nI_1, not_true_eq_false, not_false_eq_true, if_true, if_false, and_self, vh_bds, vh_ps1, vh_ps0, vb0, vb1, vbz, vbo]
    by_cases q1 : mv.testBit i = true
    · rw [if_neg (not_not_intro q1)]
      by_cases q2 : go i = none
      · rw [if_neg (not_not_intro q2)]
        rw [show wpN mv go (i + 1) = wpN mv go i + 1 from if_pos ⟨q1, q2⟩] at this
        exact this
      · rw [if_pos q2]
        rw [show wpN mv go (i + 1) = wpN mv go i from if_neg (fun z => q2 z.2)] at this
        exact this
    · rw [if_pos q1]
      rw [show wpN mv go (i + 1) = wpN mv go i from if_neg (fun z => q1 z.1)] at this
      exact this
theorem wp_cnt {H F E M : Nat} (hmn : ∀ a, mv.testBit a = true → a < n) : ∀ {i : Nat}, i ≤ n → cntG b g H F E M mv fl n i + wpN mv (goT b g H F E M mv fl n n) i = pc mv i := by
  intro i
  induction i with
  | zero => intro _; rfl
  | succ i ih =>
    intro hi
    have := ih (by omega)
    have eg : goT b g H F E M mv fl n n i = goT b g H F E M mv fl n (i + 1) i := by
      have := go_up (b := b) (g := g) (H := H) (F := F) (E := E) (M := M) (mv := mv) (fl := fl) (n := n) (c := i) (j := n - (i + 1))
      rw [show i + 1 + (n - (i + 1)) = n by omega] at this
      exact this
    show cntG b g H F E M mv fl n i + (if (goT b g H F E M mv fl n (i + 1) i).isSome = true then 1 else 0) + (if mv.testBit i = true ∧ goT b g H F E M mv fl n n i = none then wpN mv (goT b g H F E M mv fl n n) i + 1 else wpN mv (goT b g H F E M mv fl n n) i) = (if mv.testBit i = true then pc mv i + 1 else pc mv i)
    rw [eg]
    by_cases q : mv.testBit i = true
    · rw [if_pos q]
      cases e : goT b g H F E M mv fl n (i + 1) i with
      | none => rw [if_neg (show ¬ (none : Option Nat).isSome = true by decide), if_pos (show mv.testBit i = true ∧ (none : Option Nat) = none from ⟨q, rfl⟩)]; omega
      | some y => rw [if_pos (show (some y).isSome = true from rfl), if_neg (show ¬ (mv.testBit i = true ∧ some y = none) from fun z => by cases z.2)]; omega
    · rw [if_neg q, if_neg (show ¬ (mv.testBit i = true ∧ goT b g H F E M mv fl n (i + 1) i = none) from fun z => q z.1)]
      cases e : goT b g H F E M mv fl n (i + 1) i with
      | none => rw [if_neg (show ¬ (none : Option Nat).isSome = true by decide)]; omega
      | some y => exact absurd (go_lt e).2 q
theorem wp_hi {go : Nat → Option Nat} (hmn : ∀ a, mv.testBit a = true → a < n) : ∀ {j : Nat}, wpN mv go (n + j) = wpN mv go n := by
  intro j
  induction j with
  | zero => rfl
  | succ j ih =>
    rw [← Nat.add_assoc]
    rw [show wpN mv go (n + j + 1) = wpN mv go (n + j) from if_neg (fun z => by have := hmn _ z.1; omega), ih]
end

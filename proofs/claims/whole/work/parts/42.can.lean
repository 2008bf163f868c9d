section
variable {d : Nat} {mi : Nat → Nat → Int32} {ml : Nat → Nat → Int64} {n k h : Nat} {b g : Nat → Nat → Nat}
def frB (g : Nat → Nat → Nat) (p : Nat → Nat) : Bool := decide (p 5 ≤ g (p 0) (4 + p 1))
theorem fr_i {g : Nat → Nat → Nat} {p : Nat → Nat} : frB g p = true ↔ p 5 ≤ g (p 0) (4 + p 1) := decide_eq_true_iff
theorem s88 {a : Nat} {p : Nat → Nat} (H : DiC mi n b g) (B : DiB n b g) (ha : BkA mi a p) : vh_C 88 [.ref 42, .ref a] (vh_K d mi ml) = some (some (.int (vb (frB g p = true))), vh_K d mi ml) := by
  obtain ⟨-, a0, a1, a2, a3, a4, a6, a5⟩ := ha.2
  have h0 : p 0 < 4 := by omega
  have h1 : p 1 < 2 := by omega
  have hf := (B.2.2.2 _ h0).2.2.2.2.1 _ h1
  have hx : vh_ixa (7 + 4 * p 0) (nI (p 1)) = true := ixa (by rw [kdHf h0]; exact h1) (by omega)
  simp only [c88, e88_0, e88_1, e88_4, e88_5, e88_8, e88_9, e88_12, e88_13, e88_16, e88_17, e88_20, e88_21, e88_24, e88_25, e88_28, e88_29, ha.1, ha.f5, ha.f0, ha.f1, ok42, rf42_0, ok5, Bool.true_or, ixH h0, clK (show p 0 < 1000 by omega), clK (show p 1 < 1000 by omega), rfH h0, okH h0, rfHf h0, okHf h0, hx, H.fi h0 h1, not_true_eq_false, not_false_eq_true, if_true, if_false, and_self, vh_bds, vh_ps1, vh_ps0, vb0, vb1, vbz, vbo]
  by_cases q : p 5 ≤ g (p 0) (4 + p 1)
  · rw [if_neg (nI_nlt q (by omega)), vb_t (fr_i.mpr q)]
  · rw [if_pos (nI_lt (by omega) (by omega)), vb_f (fun z => q (fr_i.mp z))]
def cwP (b g : Nat → Nat → Nat) (M : Nat) (p : Nat → Nat) : Nat → Bool := fun k => M.testBit k && clsh g p (b k)
theorem l89 {a M : Nat} {p : Nat → Nat} (H : DiC mi n b g) (B : DiB n b g) (ha : BkA mi a p) (hM : M < 2 ^ 16) : ∀ j i, i + j = n → vh_E 89 5 [some (.ref 42), some (.ref a), some (.int (nI M)), some (.int (nI (msk (cwP b g M p) i))), some (.int (nI i))] [] (vh_K d mi ml) = some (some (.int (nI (msk (cwP b g M p) n))), vh_K d mi ml) := by
  have hn := B.1
  intro j
  induction j with
  | zero =>
    intro i hi
    have : i = n := by omega
    subst this
    simp only [e89_5, e89_7, e89_8, e89_11, e89_52, e89_53, ok42, H.sz, nI_le (Nat.le_refl i) (show i < 2 ^ 31 by omega), if_true]
  | succ j ih =>
    intro i hi
    have hin : i < n := by omega
    have hi6 : i < 16 := by omega
    have := ih (i + 1) (by omega)
    rw [e89_5]
    simp only [e89_0, e89_1, e89_2, e89_3, e89_7, e89_8, e89_11, e89_14, e89_15, e89_17, e89_18, e89_19, e89_20, e89_21, e89_24, e89_25, e89_26, e89_27, e89_30, e89_32, e89_33, e89_36, e89_39, e89_40, e89_41, e89_43, e89_44, e89_45, e89_46, e89_49, e89_52, e89_53, ok42, H.sz, nI_ge hin (show n < 2 ^ 31 by omega), if_false, rf42_1, ok43, Bool.or_true, ixB hi6, clK (show i < 1000 by omega), rfB hi6, bt (show M < 2 ^ 31 by omega) (show i < 31 by omega), vbe, s78 (H.hc B) ha (H.bk B hin), sbt (msk_l (P := cwP b g M p) (show i ≤ 16 by omega)) hi6, nI_1, not_true_eq_false, not_false_eq_true, if_true, if_false, and_self, vh_bds, vh_ps1, vh_ps0, vb0, vb1, vbz, vbo]
    by_cases q : M.testBit i = true
    · rw [if_neg (not_not_intro q)]
      by_cases q2 : clsh g p (b i) = true
      · rw [if_neg (not_not_intro q2)]
        rw [msk_t (by unfold cwP; rw [q, q2]; rfl)] at this
        exact this
      · rw [if_pos q2]
        rw [msk_f (by unfold cwP; rw [Bool.and_eq_true]; exact fun z => q2 z.2)] at this
        exact this
    · rw [if_pos q]
      rw [msk_f (by unfold cwP; rw [Bool.and_eq_true]; exact fun z => q z.1)] at this
      exact this
theorem s89 {a M : Nat} {p : Nat → Nat} (H : DiC mi n b g) (B : DiB n b g) (ha : BkA mi a p) (hM : M < 2 ^ 16) : vh_C 89 [.ref 42, .ref a, .int (nI M)] (vh_K d mi ml) = some (some (.int (nI (msk (cwP b g M p) n))), vh_K d mi ml) := by
  have := l89 (d := d) (ml := ml) H B ha hM n 0 (by omega)
  simp only [c89, e89_0, e89_1, e89_2, e89_3]
  exact this
def lcN (b : Nat → Nat → Nat) (M h : Nat) : Nat → Nat
  | 0 => 0
  | k + 1 => lcN b M h k + (if M.testBit k = true ∧ b k 0 = h then b k 7 else 0)
theorem lc_t {M h i : Nat} (q : M.testBit i = true) (q2 : b i 0 = h) : lcN b M h (i + 1) = lcN b M h i + b i 7 := congrArg (lcN b M h i + ·) (if_pos ⟨q, q2⟩)
theorem lc_f {M h i : Nat} (q : ¬ (M.testBit i = true ∧ b i 0 = h)) : lcN b M h (i + 1) = lcN b M h i := by show _ + _ = _; rw [if_neg q]; rfl
theorem lcN_le {M h : Nat} (B : DiB n b g) : ∀ {i : Nat}, i ≤ n → lcN b M h i ≤ i := by
  intro i
  induction i with
  | zero => intro _; exact Nat.le_refl _
  | succ i ih =>
    intro hi
    have := (B.2.1 i (by omega)).2.2.2.2.2.2.2.2.1
    have := ih (by omega)
    unfold lcN
    split <;> omega
theorem l90 {M h : Nat} (H : DiC mi n b g) (B : DiB n b g) (hh : h ≤ 3) (hM : M < 2 ^ 16) : ∀ j i, i + j = n → vh_E 90 5 [some (.ref 42), some (.int (nI h)), some (.int (nI M)), some (.int (nI (lcN b M h i))), some (.int (nI i))] [] (vh_K d mi ml) = some (some (.int (nI (lcN b M h n))), vh_K d mi ml) := by
  have hn := B.1
  intro j
  induction j with
  | zero =>
    intro i hi
    have : i = n := by omega
    subst this
    simp only [e90_5, e90_7, e90_8, e90_11, e90_57, e90_58, ok42, H.sz, nI_le (Nat.le_refl i) (show i < 2 ^ 31 by omega), if_true]
  | succ j ih =>
    intro i hi
    have hin : i < n := by omega
    have hi6 : i < 16 := by omega
    have b0 := (B.2.1 i hin).1
    have := ih (i + 1) (by omega)
    rw [e90_5]
    simp only [e90_0, e90_1, e90_2, e90_3, e90_7, e90_8, e90_11, e90_14, e90_15, e90_17, e90_18, e90_19, e90_20, e90_21, e90_24, e90_25, e90_28, e90_30, e90_31, e90_34, e90_35, e90_38, e90_39, e90_40, e90_43, e90_45, e90_46, e90_49, e90_50, e90_51, e90_54, e90_57, e90_58, ok42, H.sz, nI_ge hin (show n < 2 ^ 31 by omega), if_false, rf42_1, ok43, Bool.or_true, ixB hi6, clK (show i < 1000 by omega), rfB hi6, okB hi6, bt (show M < 2 ^ 31 by omega) (show i < 31 by omega), vbe, H.f0 hin, H.f7 hin, nI_eq (show b i 0 < 2 ^ 31 by omega) (show h < 2 ^ 31 by omega), nI_1, nI_add, not_true_eq_false, not_false_eq_true, if_true, if_false, and_self, vh_bds, vh_ps1, vh_ps0, vb0, vb1, vbz, vbo]
    by_cases q : M.testBit i = true
    · rw [if_neg (not_not_intro q)]
      by_cases q2 : b i 0 = h
      · rw [if_neg (not_not_intro q2)]
        rw [lc_t q q2] at this
        exact this
      · rw [if_pos q2]
        rw [lc_f (fun z => q2 z.2)] at this
        exact this
    · rw [if_pos q]
      rw [lc_f (fun z => q z.1)] at this
      exact this
theorem s90 {M h : Nat} (H : DiC mi n b g) (B : DiB n b g) (hh : h ≤ 3) (hM : M < 2 ^ 16) : vh_C 90 [.ref 42, .int (nI h), .int (nI M)] (vh_K d mi ml) = some (some (.int (nI (lcN b M h n))), vh_K d mi ml) := by
  have := l90 (d := d) (ml := ml) H B hh hM n 0 (by omega)
  simp only [c90, e90_0, e90_1, e90_2, e90_3]
  exact this
def chB (b g : Nat → Nat → Nat) (n M : Nat) (p : Nat → Nat) : Bool := decide (frB g p = true ∧ msk (cwP b g M p) n = 0 ∧ (p 7 = 0 ∨ lcN b M (p 0) n < g (p 0) 1))
theorem ch_i {M : Nat} {p : Nat → Nat} : chB b g n M p = true ↔ (frB g p = true ∧ msk (cwP b g M p) n = 0 ∧ (p 7 = 0 ∨ lcN b M (p 0) n < g (p 0) 1)) := decide_eq_true_iff
theorem s87 {a M : Nat} {p : Nat → Nat} (H : DiC mi n b g) (B : DiB n b g) (ha : BkA mi a p) (h7 : p 7 ≤ 1) (hM : M < 2 ^ 16) : vh_C 87 [.ref 42, .ref a, .int (nI M)] (vh_K d mi ml) = some (some (.int (vb (chB b g n M p = true))), vh_K d mi ml) := by
  obtain ⟨-, a0, a1, a2, a3, a4, a6, a5⟩ := ha.2
  have h0 : p 0 < 4 := by omega
  have hn := B.1
  have hm := msk_l (P := cwP b g M p) hn
  have hl := lcN_le (M := M) (h := p 0) B (Nat.le_refl n)
  have hg := (B.2.2.2 _ h0).2.1
  simp only [c87, e87_0, e87_1, e87_2, e87_5, e87_8, e87_9, e87_10, e87_11, e87_14, e87_17, e87_18, e87_19, e87_20, e87_23, e87_26, e87_27, e87_28, e87_31, e87_32, e87_35, e87_36, e87_39, e87_40, e87_43, e87_44, e87_47, e87_50, e87_51, e87_54, e87_55, s88 H B ha, s89 H B ha hM, s90 H B a0 hM, ha.1, ha.f7, ha.f0, ok42, rf42_0, ok5, Bool.true_or, ixH h0, clK (show p 0 < 1000 by omega), rfH h0, okH h0, H.h1 h0, not_true_eq_false, not_false_eq_true, if_true, if_false, and_self, vh_bds, vh_ps1, vh_ps0, vb0, vb1, vbz, vbo]
  have e0 : ∀ x : Nat, x < 2 ^ 31 → ((nI x = 0) ↔ x = 0) := fun x hx => nI_eq (b := 0) hx (by decide)
  by_cases q1 : frB g p = true
  · rw [if_neg (not_not_intro q1)]
    by_cases q2 : msk (cwP b g M p) n = 0
    · rw [if_pos ((e0 _ (by omega)).mpr q2)]
      by_cases q3 : p 7 = 0
      · rw [if_pos ((e0 _ (by omega)).mpr q3), vb_t (ch_i.mpr ⟨q1, q2, Or.inl q3⟩)]
      · rw [if_neg (fun z => q3 ((e0 _ (by omega)).mp z))]
        by_cases q4 : lcN b M (p 0) n < g (p 0) 1
        · rw [if_neg (nI_ge q4 (by omega)), vb_t (ch_i.mpr ⟨q1, q2, Or.inr q4⟩)]
        · rw [if_pos (nI_le (by omega) (by omega)), vb_f (fun z => by have := (ch_i.mp z).2.2; omega)]
    · rw [if_neg (fun z => q2 ((e0 _ (by omega)).mp z)), vb_f (fun z => q2 (ch_i.mp z).2.1)]
  · rw [if_pos q1, vb_f (fun z => q1 (ch_i.mp z).1)]
end

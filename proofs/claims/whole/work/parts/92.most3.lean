section
variable {d : Nat} {mi : Nat → Nat → Int32} {ml : Nat → Nat → Int64} {n : Nat} {b g : Nat → Nat → Nat} {H f D t : Nat}
theorem l94 (B : DiB n b g) (hH : H < 4) (hf : f < 2) (hD : D ≤ 364) (ht : t ≤ 364) : ∀ (j i : Nat) (mi : Nat → Nat → Int32) (l7 : Option Value), i + j = n → DiC mi n b g → (∀ k, k < i → mi 45 k = nI (b k 3)) → ∃ f45 l7', vh_E 94 6 [some (.ref 42), some (.int (nI H)), some (.int (nI f)), some (.int (nI D)), some (.int (nI t)), some (.int (nI (msk (mwB b g H f D t) i))), some (.int (nI i)), l7] [] (vh_K d mi ml) = vh_E 94 81 [some (.ref 42), some (.int (nI H)), some (.int (nI f)), some (.int (nI D)), some (.int (nI t)), some (.int (nI (msk (mwB b g H f D t) n))), some (.int (nI n)), l7'] [] (vh_K d (vh_sA mi 45 f45) ml) ∧ ∀ k, k < n → f45 k = nI (b k 3) := by
  have hn := B.1
  intro j
  induction j with
  | zero =>
    intro i mi l7 hi HC hk
    have : i = n := by omega
    subst this
    refine ⟨mi 45, l7, ?_, hk⟩
    rw [sAe]
    simp only [e94_6, e94_8, e94_9, e94_12, ok42, HC.sz, nI_le (Nat.le_refl i) (show i < 2 ^ 31 by omega), if_true]
  | succ j ih =>
    intro i mi l7 hi HC hk
    have hin : i < n := by omega
    have hi6 : i < 16 := by omega
    obtain ⟨a0, a1, a2, a3, a4, a5, a5', a6, a7, a8, a9⟩ := B.2.1 i hin
    have HC2 : DiC (vh_sA mi 45 (upd (mi 45) i (nI (b i 3)))) n b g := HC.fr hn (by omega)
    obtain ⟨f45, l7', h1, h2⟩ := ih (i + 1) (vh_sA mi 45 (upd (mi 45) i (nI (b i 3)))) (some (.ref (47 + i))) (by omega) HC2 (by
      intro k hk'
      rw [sAs]
      by_cases e : k = i
      · rw [e, ups]
      · rw [upn e]; exact hk k (by omega))
    rw [sAA] at h1
    refine ⟨f45, l7', ?_, h2⟩
    have hm := msk_l (P := mwB b g H f D t) (show i ≤ 16 by omega)
    have son : vh_C 79 [.ref (47 + i), .int (nI H), .int (nI f), .int (nI D)] (vh_K d (vh_sA mi 45 (upd (mi 45) i (nI (b i 3)))) ml) = some (some (.int (vb (b i 0 = H ∧ b i 1 = f ∧ b i 2 = D))), vh_K d (vh_sA mi 45 (upd (mi 45) i (nI (b i 3)))) ml) := by
      rw [s79 (okB hi6)]
      refine retI (vbc ?_)
      rw [HC2.f0 hin, HC2.f1 hin, HC2.f2 hin, nI_eq (by omega) (by omega), nI_eq (by omega) (by omega), nI_eq (by omega) (by omega)]
    rw [e94_6]
    simp only [e94_0, e94_1, e94_3, e94_4, e94_8, e94_9, e94_12, e94_15, e94_16, e94_19, e94_21, e94_22, e94_24, e94_25, e94_28, e94_30, e94_32, e94_35, e94_36, e94_38, e94_39, e94_40, e94_41, e94_44, e94_47, e94_49, e94_51, e94_54, e94_57, e94_58, e94_60, e94_63, e94_66, e94_68, e94_69, e94_71, e94_72, e94_73, e94_75, e94_78, e94_82, e94_84, e94_87, ok42, ok43, ok45, HC.sz, nI_ge hin (show n < 2 ^ 31 by omega), rf42_1, rf42_3, Bool.or_true, ixB hi6, okx45 hi6, clK (show i < 1000 by omega), rfB hi6, okB hi6, HC.f3 hin, son, HC2.th B hin ht, s88 HC2 B (HC2.bk B hin), sbt hm hi6, nI_1, not_true_eq_false, not_false_eq_true, if_true, if_false, and_self, vh_bds, vh_ps1, vh_ps0, vb0, vb1, vbz, vbo]
    by_cases q1 : b i 0 = H ∧ b i 1 = f ∧ b i 2 = D
    · rw [if_neg (not_not_intro q1)]
      by_cases q2 : thB (b i) t = true
      · rw [if_neg (not_not_intro q2)]
        by_cases q3 : frB g (b i) = true
        · rw [if_neg (not_not_intro q3)]
          rw [msk_t (mw_i.mpr ⟨q1, q2, q3⟩)] at h1
          exact h1
        · rw [if_pos q3]
          rw [msk_f (fun z => q3 (mw_i.mp z).2.2)] at h1
          exact h1
      · rw [if_pos q2]
        rw [msk_f (fun z => q2 (mw_i.mp z).2.1)] at h1
        exact h1
    · rw [if_pos q1]
      rw [msk_f (fun z => q1 (mw_i.mp z).1)] at h1
      exact h1
theorem s94 (HC : DiC mi n b g) (B : DiB n b g) (hH : H < 4) (hf : f < 2) (hD : D ≤ 364) (ht : t ≤ 364) : ∃ f45 f44 L, vh_C 94 [.ref 42, .int (nI H), .int (nI f), .int (nI D), .int (nI t)] (vh_K d mi ml) = some (some (.int (nI L.length)), vh_K d (vh_sA (vh_sA mi 45 f45) 44 f44) ml) ∧ LnM f44 L ∧ OrdL (fun k => b k 3) (mwB b g H f D t) n L := by
  have hn := B.1
  obtain ⟨f45, l7', h1, h2⟩ := l94 (d := d) (ml := ml) B hH hf hD ht n 0 mi none (by omega) HC (fun k hk => by omega)
  have HC2 : DiC (vh_sA mi 45 f45) n b g := HC.fr hn (by omega)
  obtain ⟨f44, L, h3, h4, h5⟩ := s86 (d := d) (mi := vh_sA mi 45 f45) (ml := ml) (key := fun k => b k 3) hn (msk_l (P := mwB b g H f D t) hn) (fun k hk => by
    have hk2 : b k 3 < b k 4 ∧ b k 4 ≤ 96 := ⟨(B.2.1 k hk).2.2.2.1, (B.2.1 k hk).2.2.2.2.1⟩
    show b k 3 < 2 ^ 31
    omega) HC2.sz (fun k hk => by rw [sAs]; exact h2 k hk)
  refine ⟨f45, f44, L, ?_, h4, h5.1, ?_, h5.2.2⟩
  · simp only [c94, e94_0, e94_1, e94_3, e94_4]
    refine Eq.trans h1 ?_
    simp only [e94_81, e94_82, e94_84, e94_87, ok42, h3, not_true_eq_false, not_false_eq_true, if_true, if_false, and_self, vh_bds, vh_ps1, vh_ps0, vb0, vb1, vbz, vbo]
  · intro x
    rw [h5.2.1 x, msk_bit]
    constructor
    · rintro ⟨a1, a2⟩
      rw [Bool.and_eq_true] at a2
      exact ⟨a1, a2.2⟩
    · rintro ⟨a1, a2⟩
      rw [a2, decide_eq_true a1]
      exact ⟨a1, rfl⟩
end

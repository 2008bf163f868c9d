section
variable {d : Nat} {mi : Nat → Nat → Int32} {ml : Nat → Nat → Int64} {n k h : Nat} {b g : Nat → Nat → Nat}
def HlC (mi : Nat → Nat → Int32) (g : Nat → Nat → Nat) : Prop := ∀ h, h < 4 → mi (6 + 4 * h) 0 = nI (g h 0) ∧ g h 0 ≤ 8
theorem DiC.hc (H : DiC mi n b g) (B : DiB n b g) : HlC mi g := fun h hh => ⟨H.h0 hh, (B.2.2.2 h hh).1⟩
theorem s78 {a c : Nat} {p q : Nat → Nat} (G : HlC mi g) (ha : BkA mi a p) (hc : BkA mi c q) : vh_C 78 [.ref 42, .ref a, .ref c] (vh_K d mi ml) = some (some (.int (vb (clsh g p q = true))), vh_K d mi ml) := by
  obtain ⟨-, a0, a1, a2, a3, a4, a6⟩ := ha.2
  obtain ⟨-, q0, q1, q2, q3, q4, q6⟩ := hc.2
  have h0 : p 0 < 4 := by omega
  obtain ⟨g1, g2⟩ := G (p 0) h0
  simp only [c78, e78_0, e78_1, e78_2, e78_5, e78_6, e78_9, e78_10, e78_13, e78_16, e78_19, e78_20, e78_21, e78_22, e78_25, e78_26, e78_29, e78_30, e78_33, e78_36, e78_39, e78_40, e78_43, e78_44, s79 hc.1, s80 ha hc (show g (p 0) 0 ≤ 1000 by omega), ha.1, hc.1, ha.f0, ha.f1, ha.f2, hc.f0, hc.f1, hc.f2, ok42, rf42_0, ok5, Bool.true_or, ixH h0, clK (show p 0 < 1000 by omega), rfH h0, okH h0, g1, not_true_eq_false, not_false_eq_true, if_true, if_false, and_self, vh_bds, vh_ps1, vh_ps0, vb0, vb1, vbz, vbo]
  simp only [nI_eq (show q 0 < 2 ^ 31 by omega) (show p 0 < 2 ^ 31 by omega), nI_eq (show q 1 < 2 ^ 31 by omega) (show p 1 < 2 ^ 31 by omega), nI_eq (show q 2 < 2 ^ 31 by omega) (show p 2 < 2 ^ 31 by omega)]
  by_cases h1 : q 0 = p 0 ∧ q 1 = p 1 ∧ q 2 = p 2
  · rw [if_neg (not_not_intro h1)]
    by_cases h2 : nearB (g (p 0) 0) (p 3) (p 4) (p 6) (q 3) (q 4) (q 6) = true
    · rw [if_neg (not_not_intro h2), vb_t (clsh_i.mpr ⟨h1, h2⟩)]
    · rw [if_pos h2, vb_f (fun z => h2 (clsh_i.mp z).2)]
  · rw [if_pos h1, vb_f (fun z => h1 (clsh_i.mp z).1)]
theorem s182 {h s f1 t1 u1 f2 t2 u2 : Nat} (hh : h < 4) (hs : mi 89 h = nI s) (b1 : f1 ≤ 96) (b2 : t1 ≤ 96) (b3 : f2 ≤ 96) (b4 : t2 ≤ 96) (b5 : u1 ≤ 4) (b6 : u2 ≤ 4) (b7 : s ≤ 1000) : vh_C 182 [.ref 88, .int (nI h), .int (nI f1), .int (nI t1), .int (nI u1), .int (nI f2), .int (nI t2), .int (nI u2)] (vh_K d mi ml) = some (some (.int (vb (nearB s f1 t1 u1 f2 t2 u2 = true))), vh_K d mi ml) := by
  have hx : vh_ixa 89 (nI h) = true := ixa (by rw [kd89]; exact hh) (by omega)
  simp only [c182, e182_0, e182_2, e182_4, e182_7, e182_8, e182_11, e182_12, e182_15, e182_16, e182_17, e182_19, e182_20, e182_22, e182_24, e182_25, e182_28, e182_30, e182_31, e182_33, e182_34, e182_37, e182_38, e182_41, e182_42, ok88, ok89, rf88_2, hx, clK (show h < 1000 by omega), hs, not_true_eq_false, not_false_eq_true, if_true, if_false, and_self, vh_bds, vh_ps1, vh_ps0, vb0, vb1, vbz, vbo]
  by_cases e : u1 = u2
  · rw [if_neg (not_not_intro (congrArg nI e)), show (0 : Int32) = nI 0 from rfl, nI_add, nI_add]
    by_cases h1 : t2 + 0 ≤ f1
    · rw [if_pos (nI_le h1 (by omega)), vb_f (fun z => by have := (near_e e).mp z; omega)]; rfl
    · rw [if_neg (nI_ge (by omega) (by omega))]
      by_cases h2 : t1 + 0 ≤ f2
      · rw [if_pos (nI_le h2 (by omega)), vb_f (fun z => by have := (near_e e).mp z; omega)]; rfl
      · rw [if_neg (nI_ge (by omega) (by omega)), vb_t ((near_e e).mpr ⟨by omega, by omega⟩)]
  · rw [if_pos (fun z => e ((nI_eq (by omega) (by omega)).mp z)), nI_add, nI_add]
    by_cases h1 : t2 + s ≤ f1
    · rw [if_pos (nI_le h1 (by omega)), vb_f (fun z => by have := (near_n e).mp z; omega)]
    · rw [if_neg (nI_ge (by omega) (by omega))]
      by_cases h2 : t1 + s ≤ f2
      · rw [if_pos (nI_le h2 (by omega)), vb_f (fun z => by have := (near_n e).mp z; omega)]
      · rw [if_neg (nI_ge (by omega) (by omega)), vb_t ((near_n e).mpr ⟨by omega, by omega⟩)]
theorem vbc {p q : Prop} [Decidable p] {dq : Decidable q} (h : p ↔ q) : vb p = @vb q dq := by
  unfold vb
  by_cases hp : p
  · rw [if_pos hp, if_pos (h.mp hp)]
  · rw [if_neg hp, if_neg (fun z => hp (h.mpr z))]
theorem s181 {j : Nat} (H : DiM mi n b g) (B : DiB n b g) (hj : j < n) (hk : k < n) : vh_C 181 [.ref 88, .int (nI j), .int (nI k)] (vh_K d mi ml) = some (some (.int (vb (clsh g (b j) (b k) = true))), vh_K d mi ml) := by
  have hn := B.1
  have hk6 : k < 16 := by omega
  have hj6 : j < 16 := by omega
  obtain ⟨a0, a1, a2, a3, a4, a5, a5', a6, a7, a8, a9⟩ := B.2.1 j hj
  obtain ⟨q0, q1, q2, q3, q4, q5, q5', q6, q7, q8, q9⟩ := B.2.1 k hk
  have h0 : b j 0 < 4 := by omega
  have hs := (B.2.2.2 _ h0).1
  simp only [c181, e181_0, e181_1, e181_2, e181_3, e181_6, e181_7, e181_8, e181_9, e181_12, e181_15, e181_16, e181_17, e181_18, e181_21, e181_22, e181_23, e181_24, e181_27, e181_30, e181_31, e181_32, e181_33, e181_36, e181_37, e181_38, e181_39, e181_42, e181_45, e181_46, e181_47, e181_48, e181_49, e181_52, e181_53, e181_54, e181_55, e181_58, e181_59, e181_60, e181_61, e181_64, e181_65, e181_66, e181_68, e181_71, e181_72, e181_73, e181_74, e181_77, e181_78, e181_79, e181_80, e181_83, e181_84, e181_85, e181_87, e181_90, e181_93, e181_96, e181_97, e181_100, e181_101, s177_0 hk6, s177_1 hk6, s177_2 hk6, s177_3 hk6, s177_4 hk6, s177_6 hk6, s177_0 hj6, s177_1 hj6, s177_2 hj6, s177_3 hj6, s177_4 hj6, s177_6 hj6, H.f0 hk, H.f1 hk, H.f2 hk, H.f3 hk, H.f4 hk, H.f6 hk, H.f0 hj, H.f1 hj, H.f2 hj, H.f3 hj, H.f4 hj, H.f6 hj, ok88, s182 h0 (H.h0 h0) (show b j 3 ≤ 96 by omega) a4 (show b k 3 ≤ 96 by omega) q4 a6 q6 (show g (b j 0) 0 ≤ 1000 by omega), not_true_eq_false, not_false_eq_true, if_true, if_false, and_self, vh_bds, vh_ps1, vh_ps0, vb0, vb1, vbz, vbo]
  simp only [nI_eq (show b j 0 < 2 ^ 31 by omega) (show b k 0 < 2 ^ 31 by omega), nI_eq (show b j 1 < 2 ^ 31 by omega) (show b k 1 < 2 ^ 31 by omega), nI_eq (show b j 2 < 2 ^ 31 by omega) (show b k 2 < 2 ^ 31 by omega)]
  by_cases h1 : b j 0 = b k 0
  · rw [if_neg (not_not_intro h1)]
    by_cases h2 : b j 1 = b k 1
    · rw [if_neg (not_not_intro h2)]
      by_cases h3 : b j 2 = b k 2
      · rw [if_neg (not_not_intro h3)]
        by_cases h4 : nearB (g (b j 0) 0) (b j 3) (b j 4) (b j 6) (b k 3) (b k 4) (b k 6) = true
        · rw [if_neg (not_not_intro h4), vb_t (clsh_i.mpr ⟨⟨h1.symm, h2.symm, h3.symm⟩, h4⟩)]
        · rw [if_pos h4, vb_f (fun z => h4 (clsh_i.mp z).2)]
      · rw [if_pos h3, vb_f (fun z => h3 (clsh_i.mp z).1.2.2.symm)]
    · rw [if_pos h2, vb_f (fun z => h2 (clsh_i.mp z).1.2.1.symm)]
  · rw [if_pos h1, vb_f (fun z => h1 (clsh_i.mp z).1.1.symm)]
theorem s77a {i x : Int32} (H : DiC mi n b g) (hn : n ≤ 16) (hg : ¬ ((∃ j, j < n ∧ i = nI j) ∧ (∃ k, k < n ∧ x = nI k) ∧ ¬ i = x)) : vh_C 77 [.ref 0, .int i, .int x] (vh_K d mi ml) = some (some (.int (-1000001)), vh_K d mi ml) := by
  simp only [c77, e77_0, e77_1, e77_4, e77_5, e77_8, e77_11, e77_12, e77_15, e77_16, e77_19, e77_22, e77_23, e77_24, e77_27, e77_29, e77_31, e77_34, e77_35, e77_38, e77_39, e77_42, e77_43, e77_46, e77_47, e77_50, e77_53, e77_56, e77_57, e77_60, e77_61, s72, H.sz, ok0, ok42, rf0_4, not_true_eq_false, not_false_eq_true, if_true, if_false, and_self, vh_bds, vh_ps1, vh_ps0, vb0, vb1, vbz, vbo]
  by_cases h1 : 0 ≤ i ∧ i < nI n
  · rw [if_neg (not_not_intro h1)]
    by_cases h2 : 0 ≤ x ∧ x < nI n
    · rw [if_neg (not_not_intro h2)]
      rw [hasN (by omega)] at h1 h2
      rw [if_neg (fun z => hg ⟨h1, h2, z⟩)]
    · rw [if_pos h2]
  · rw [if_pos h1]
theorem s77b {j : Nat} (H : DiC mi n b g) (B : DiB n b g) (hj : j < n) (hk : k < n) (e : ¬ nI j = nI k) : vh_C 77 [.ref 0, .int (nI j), .int (nI k)] (vh_K d mi ml) = some (some (.int (vb (clsh g (b j) (b k) = true))), vh_K d mi ml) := by
  have hn := B.1
  have hk6 : k < 16 := by omega
  have hj6 : j < 16 := by omega
  have hg : 0 ≤ nI k ∧ nI k < nI n := (hasN (by omega)).mpr ⟨k, hk, rfl⟩
  have hg' : 0 ≤ nI j ∧ nI j < nI n := (hasN (by omega)).mpr ⟨j, hj, rfl⟩
  simp only [c77, e77_0, e77_1, e77_4, e77_5, e77_8, e77_11, e77_12, e77_15, e77_16, e77_19, e77_22, e77_23, e77_24, e77_27, e77_29, e77_30, e77_31, e77_34, e77_35, e77_38, e77_39, e77_42, e77_43, e77_46, e77_47, e77_50, e77_53, e77_56, e77_57, e77_60, e77_61, s72, s73 hk6, s73 hj6, s78 (H.hc B) (H.bk B hj) (H.bk B hk), H.sz, ok0, ok42, rf0_4, hg, hg', e, not_true_eq_false, not_false_eq_true, if_true, if_false, and_self, vh_bds, vh_ps1, vh_ps0, vb0, vb1, vbz, vbo]
  by_cases q : clsh g (b j) (b k) = true
  · rw [if_neg (not_not_intro q), vb_t q]
  · rw [if_pos q, vb_f q]
theorem s180a {i x : Int32} (H : DiM mi n b g) (hn : n ≤ 16) (hg : ¬ ((∃ j, j < n ∧ i = nI j) ∧ (∃ k, k < n ∧ x = nI k) ∧ ¬ i = x)) : vh_C 180 [.ref 88, .int i, .int x] (vh_K d mi ml) = some (some (.int (-1000001)), vh_K d (vh_sA mi 88 (upd (mi 88) 0 0)) ml) := by
  simp only [c180, e180_0, e180_1, e180_2, e180_5, e180_6, e180_7, e180_10, e180_13, e180_14, e180_15, e180_18, e180_21, e180_22, e180_23, e180_26, e180_28, e180_32, e180_33, e180_34, e180_37, e180_40, e180_41, e180_44, e180_45, s176, ok88, sAn, sAs, sAA, ups, upn, bkv_n, hlv_n, ne_eq, Nat.reduceEqDiff, Nat.reduceLT, Nat.reduceLeDiff, or_true, true_or, not_false_eq_true, H.sz, not_true_eq_false, not_false_eq_true, if_true, if_false, and_self, vh_bds, vh_ps1, vh_ps0, vb0, vb1, vbz, vbo]
  by_cases h1 : 0 ≤ i ∧ i ≤ nI n - 1
  · rw [if_neg (not_not_intro h1)]
    by_cases h2 : 0 ≤ x ∧ x ≤ nI n - 1
    · rw [if_neg (not_not_intro h2)]
      rw [inN (by omega)] at h1 h2
      rw [if_neg (fun z => hg ⟨h1, h2, z⟩)]
    · rw [if_pos h2]
  · rw [if_pos h1]
theorem s180b {j : Nat} (H : DiM mi n b g) (B : DiB n b g) (hj : j < n) (hk : k < n) (e : ¬ nI j = nI k) : vh_C 180 [.ref 88, .int (nI j), .int (nI k)] (vh_K d mi ml) = some (some (.int (vb (clsh g (b j) (b k) = true))), vh_K d (vh_sA mi 88 (upd (mi 88) 0 0)) ml) := by
  have hn := B.1
  have hg : 0 ≤ nI k ∧ nI k ≤ nI n - 1 := (inN (by omega)).mpr ⟨k, hk, rfl⟩
  have hg' : 0 ≤ nI j ∧ nI j ≤ nI n - 1 := (inN (by omega)).mpr ⟨j, hj, rfl⟩
  simp only [c180, e180_0, e180_1, e180_2, e180_5, e180_6, e180_7, e180_10, e180_13, e180_14, e180_15, e180_18, e180_21, e180_22, e180_23, e180_26, e180_28, e180_31, e180_32, e180_33, e180_34, e180_37, e180_40, e180_41, e180_44, e180_45, s176, s181 H.thr B hj hk, ok88, sAn, sAs, sAA, ups, upn, bkv_n, hlv_n, ne_eq, Nat.reduceEqDiff, Nat.reduceLT, Nat.reduceLeDiff, or_true, true_or, not_false_eq_true, H.sz, hg, hg', e, not_true_eq_false, not_false_eq_true, if_true, if_false, and_self, vh_bds, vh_ps1, vh_ps0, vb0, vb1, vbz, vbo]
  by_cases q : clsh g (b j) (b k) = true
  · rw [if_neg (not_not_intro q), vb_t q]
  · rw [if_pos q, vb_f q]
theorem sim_clash {i x : Int32} (hR : Rel d mi) : Sim 77 180 [.int i, .int x] d mi ml := by
  obtain ⟨n, b, g, B, C, M⟩ := hR.dia
  have hn := B.1
  by_cases hi : (∃ j, j < n ∧ i = nI j) ∧ (∃ k, k < n ∧ x = nI k) ∧ ¬ i = x
  · obtain ⟨⟨j, hj, rfl⟩, ⟨k, hk, rfl⟩, e⟩ := hi
    exact Sim.mk (s77b C B hj hk e) (s180b M B hj hk e) rfl hR.thrown
  · exact Sim.mk (s77a C hn hi) (s180a M hn hi) rfl hR.thrown
end

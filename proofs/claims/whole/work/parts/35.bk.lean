theorem sAnB {α : Type} {m : Nat → α} {k c : Nat} {f : α} (hk : k < 16) (h : c < 47 ∨ 63 ≤ c) : vh_sA m (47 + k) f c = m c := sAn (by omega)
theorem hlvB {mi : Nat → Nat → Int32} {k b : Nat} {f : Nat → Int32} (hk : k < 16) (hb : b < 10) (hb6 : 6 ≤ b) : hlv (vh_sA mi (47 + k) f) b = hlv mi b := hlv_n hb (by omega) hb6
theorem hasN {i : Int32} {n : Nat} (hn : n < 2 ^ 31) : (0 ≤ i ∧ i < nI n) ↔ ∃ k, k < n ∧ i = nI k := by
  constructor
  · rintro ⟨h0, h1⟩
    obtain ⟨k, hk, rfl⟩ := nIr h0 (Int32.le_of_lt h1) (by omega)
    exact ⟨k, (nI_ltI (by omega) (by omega)).mp h1, rfl⟩
  · rintro ⟨k, hk, rfl⟩
    exact ⟨nI_pos' (by omega), nI_lt hk (by omega)⟩
section
variable {d : Nat} {mi : Nat → Nat → Int32} {ml : Nat → Nat → Int64}
theorem s72 {i : Int32} : vh_C 72 [.ref 42, .int i] (vh_K d mi ml) = some (some (.int (vb (0 ≤ i ∧ i < mi 42 5))), vh_K d mi ml) := by
  simp only [c72, e72_0, e72_1, e72_4, e72_5, e72_6, e72_9, e72_12, e72_13, e72_16, e72_17, ok42, not_true_eq_false, not_false_eq_true, if_true, if_false, and_self, vh_bds, vh_ps1, vh_ps0, vb0, vb1, vbz, vbo]
  by_cases h1 : i < 0
  · rw [if_pos h1, vb_f (fun h => absurd h.1 (Int32.not_le.mpr h1))]
  · rw [if_neg h1]
    by_cases h2 : mi 42 5 ≤ i
    · rw [if_pos h2, vb_f (fun h => absurd h.2 (Int32.not_lt.mpr h2))]
    · rw [if_neg h2, vb_t ⟨nlt h1, nle h2⟩]
theorem ixB {k : Nat} (h : k < 16) : vh_ixa 43 (nI k) = true := ixa (by rw [kd43]; exact h) (by omega)
theorem s73 {k : Nat} (hk : k < 16) : vh_C 73 [.ref 42, .int (nI k)] (vh_K d mi ml) = some (some (.ref (47 + k)), vh_K d mi ml) := by
  simp only [c73, e73_0, e73_1, e73_4, e73_5, e73_6, ok42, ok43, Bool.or_true, rf42_1, ixB hk, clK (show k < 1000 by omega), rfB hk, show Nat.blt (47 + k) 1000 = true from by rw [Nat.blt_eq]; omega, not_true_eq_false, not_false_eq_true, if_true, if_false, and_self, vh_bds, vh_ps1, vh_ps0, vb0, vb1, vbz, vbo]
theorem s176 {i : Int32} : vh_C 176 [.ref 88, .int i] (vh_K d mi ml) = some (some (.int (vb (0 ≤ i ∧ i ≤ mi 88 24 - 1))), vh_K d mi ml) := by
  simp only [c176, e176_0, e176_1, e176_2, e176_3, e176_4, e176_7, e176_8, e176_9, e176_10, e176_13, inI (lo := 0) (hi := mi 88 24 - 1) (show (0 : Int64) = (0 : Int32).toInt64 from by decide) rfl, ok88, not_true_eq_false, not_false_eq_true, if_true, if_false, and_self, vh_bds, vh_ps1, vh_ps0, vb0, vb1, vbz, vbo]
theorem s177 {k f : Nat} (hk : k < 16) (hf : f < 9) : vh_C 177 [.ref 88, .int (nI k), .int (nI f)] (vh_K d mi ml) = some (some (.int (mi 100 (9 * k + f))), vh_K d mi ml) := by
  have e : (9 : Int32) * nI k + nI f = nI (9 * k + f) := by rw [show (9 : Int32) = nI 9 from rfl, pk_mul, nI_add]
  have hx : vh_ixa 100 (nI (9 * k + f)) = true := ixa (by rw [kd100]; omega) (by omega)
  simp only [c177, e177_0, e177_1, e177_4, e177_6, e177_7, e177_8, e177_9, e177_10, e177_11, ok88, ok100, rf88_25, e, hx, clK (show 9 * k + f < 1000 by omega), not_true_eq_false, not_false_eq_true, if_true, if_false, and_self, vh_bds, vh_ps1, vh_ps0, vb0, vb1, vbz, vbo]
theorem s177_0 {k : Nat} (hk : k < 16) : vh_C 177 [.ref 88, .int (nI k), .int 0] (vh_K d mi ml) = some (some (.int (mi 100 (9 * k + 0))), vh_K d mi ml) := s177 hk (by decide)
theorem s177_1 {k : Nat} (hk : k < 16) : vh_C 177 [.ref 88, .int (nI k), .int 1] (vh_K d mi ml) = some (some (.int (mi 100 (9 * k + 1))), vh_K d mi ml) := s177 hk (by decide)
theorem s177_2 {k : Nat} (hk : k < 16) : vh_C 177 [.ref 88, .int (nI k), .int 2] (vh_K d mi ml) = some (some (.int (mi 100 (9 * k + 2))), vh_K d mi ml) := s177 hk (by decide)
theorem s177_3 {k : Nat} (hk : k < 16) : vh_C 177 [.ref 88, .int (nI k), .int 3] (vh_K d mi ml) = some (some (.int (mi 100 (9 * k + 3))), vh_K d mi ml) := s177 hk (by decide)
theorem s177_4 {k : Nat} (hk : k < 16) : vh_C 177 [.ref 88, .int (nI k), .int 4] (vh_K d mi ml) = some (some (.int (mi 100 (9 * k + 4))), vh_K d mi ml) := s177 hk (by decide)
theorem s177_5 {k : Nat} (hk : k < 16) : vh_C 177 [.ref 88, .int (nI k), .int 5] (vh_K d mi ml) = some (some (.int (mi 100 (9 * k + 5))), vh_K d mi ml) := s177 hk (by decide)
theorem s177_6 {k : Nat} (hk : k < 16) : vh_C 177 [.ref 88, .int (nI k), .int 6] (vh_K d mi ml) = some (some (.int (mi 100 (9 * k + 6))), vh_K d mi ml) := s177 hk (by decide)
theorem s177_7 {k : Nat} (hk : k < 16) : vh_C 177 [.ref 88, .int (nI k), .int 7] (vh_K d mi ml) = some (some (.int (mi 100 (9 * k + 7))), vh_K d mi ml) := s177 hk (by decide)
theorem s177_8 {k : Nat} (hk : k < 16) : vh_C 177 [.ref 88, .int (nI k), .int 8] (vh_K d mi ml) = some (some (.int (mi 100 (9 * k + 8))), vh_K d mi ml) := s177 hk (by decide)
theorem ixC {k : Nat} (h : k < 16) : vh_ixa 101 (nI k) = true := ixa (by rw [kd101]; exact h) (by omega)
/-- cancel -/
theorem s71a {i q : Int32} (hg : ¬ (0 ≤ i ∧ i < mi 42 5)) : vh_C 71 [.ref 0, .int i, .int q] (vh_K d mi ml) = some (some (.int (-1000001)), vh_K d mi ml) := by
  simp only [c71, e71_0, e71_1, e71_4, e71_5, e71_8, e71_11, e71_13, e71_14, e71_15, e71_18, e71_19, e71_22, e71_23, e71_24, e71_25, e71_28, e71_29, e71_32, e71_35, e71_38, e71_40, e71_41, e71_42, e71_45, e71_47, e71_50, e71_52, e71_53, e71_54, e71_55, e71_58, e71_59, s72, ok0, ok42, rf0_4, hg, not_true_eq_false, not_false_eq_true, if_true, if_false, and_self, vh_bds, vh_ps1, vh_ps0, vb0, vb1, vbz, vbo]
theorem s71b {k : Nat} {q : Int32} (hk : k < 16) (hg : 0 ≤ nI k ∧ nI k < mi 42 5) : vh_C 71 [.ref 0, .int (nI k), .int q] (vh_K d mi ml) = some (some (.int (if mi (47 + k) 8 ≤ q ∧ q ≤ mi (47 + k) 2 then (if mi (47 + k) 9 = -1000000 then 1 else -1000002) else -1000001)), vh_K d (if (mi (47 + k) 8 ≤ q ∧ q ≤ mi (47 + k) 2) ∧ mi (47 + k) 9 = -1000000 then vh_sA mi (47 + k) (upd (mi (47 + k)) 9 q) else mi) ml) := by
  simp only [c71, e71_0, e71_1, e71_4, e71_5, e71_8, e71_11, e71_13, e71_14, e71_15, e71_18, e71_19, e71_22, e71_23, e71_24, e71_25, e71_28, e71_29, e71_32, e71_35, e71_38, e71_40, e71_41, e71_42, e71_45, e71_47, e71_50, e71_52, e71_53, e71_54, e71_55, e71_58, e71_59, s72, s73 hk, s14, ok0, ok42, rf0_4, okB hk, hg, not_true_eq_false, not_false_eq_true, if_true, if_false, and_self, vh_bds, vh_ps1, vh_ps0, vb0, vb1, vbz, vbo, Classical.not_not]
  by_cases h1 : mi (47 + k) 8 ≤ q ∧ q ≤ mi (47 + k) 2
  · rw [if_pos h1, if_pos h1]
    by_cases h2 : mi (47 + k) 9 = -1000000
    · rw [if_pos h2, if_pos h2, if_pos ⟨h1, h2⟩]
    · rw [if_neg h2, if_neg h2, if_neg (fun z => h2 z.2)]
  · rw [if_neg h1, if_neg h1, if_neg (fun z => h1 z.1)]
theorem s175a {i q : Int32} (hg : ¬ (0 ≤ i ∧ i ≤ mi 88 24 - 1)) : vh_C 175 [.ref 88, .int i, .int q] (vh_K d mi ml) = some (some (.int (-1000001)), vh_K d (vh_sA mi 88 (upd (mi 88) 0 0)) ml) := by
  simp only [c175, e175_0, e175_1, e175_2, e175_5, e175_6, e175_7, e175_10, e175_13, e175_14, e175_15, e175_16, e175_17, e175_19, e175_22, e175_23, e175_24, e175_25, e175_26, e175_29, e175_30, e175_33, e175_36, e175_38, e175_39, e175_40, e175_43, e175_44, e175_45, e175_47, e175_50, e175_53, e175_54, e175_55, e175_58, e175_59, e175_60, e175_61, e175_62, s176, ok88, sAn, sAs, sAA, ups, upn, bkv_n, hlv_n, ne_eq, Nat.reduceEqDiff, Nat.reduceLT, Nat.reduceLeDiff, or_true, true_or, not_false_eq_true, hg, not_true_eq_false, not_false_eq_true, if_true, if_false, and_self, vh_bds, vh_ps1, vh_ps0, vb0, vb1, vbz, vbo]
theorem s175b {k : Nat} {q : Int32} (hk : k < 16) (hg : 0 ≤ nI k ∧ nI k ≤ mi 88 24 - 1) : vh_C 175 [.ref 88, .int (nI k), .int q] (vh_K d mi ml) = some (some (.int (if mi 100 (9 * k + 8) ≤ q ∧ q ≤ mi 100 (9 * k + 2) then (if mi 101 k = -1000000 then 1 else -1000002) else -1000001)), vh_K d (if (mi 100 (9 * k + 8) ≤ q ∧ q ≤ mi 100 (9 * k + 2)) ∧ mi 101 k = -1000000 then vh_sA (vh_sA mi 88 (upd (mi 88) 0 0)) 101 (upd (mi 101) k q) else vh_sA mi 88 (upd (mi 88) 0 0)) ml) := by
  simp only [c175, e175_0, e175_1, e175_2, e175_5, e175_6, e175_7, e175_10, e175_13, e175_14, e175_15, e175_16, e175_17, e175_19, e175_22, e175_23, e175_24, e175_25, e175_26, e175_29, e175_30, e175_33, e175_36, e175_38, e175_39, e175_40, e175_43, e175_44, e175_45, e175_47, e175_50, e175_53, e175_54, e175_55, e175_58, e175_59, e175_60, e175_61, e175_62, s176, s177_8 hk, s177_2 hk, ok88, ok101, rf88_26, ixC hk, clK (show k < 1000 by omega), inI (lo := mi 100 (9 * k + 8)) (hi := mi 100 (9 * k + 2)) rfl rfl, sAn, sAs, sAA, ups, upn, bkv_n, hlv_n, ne_eq, Nat.reduceEqDiff, Nat.reduceLT, Nat.reduceLeDiff, or_true, true_or, not_false_eq_true, hg, not_true_eq_false, not_false_eq_true, if_true, if_false, and_self, vh_bds, vh_ps1, vh_ps0, vb0, vb1, vbz, vbo, Classical.not_not]
  by_cases h1 : mi 100 (9 * k + 8) ≤ q ∧ q ≤ mi 100 (9 * k + 2)
  · rw [if_pos h1, if_pos h1]
    by_cases h2 : mi 101 k = -1000000
    · rw [if_pos h2, if_pos h2, if_pos ⟨h1, h2⟩]
    · rw [if_neg h2, if_neg h2, if_neg (fun z => h2 z.2)]
  · rw [if_neg h1, if_neg h1, if_neg (fun z => h1 z.1)]
theorem nmN {k : Nat} (h : k < 2 ^ 31) : ¬ nI k = -1000000 := fun e => by have := congrArg Int32.toInt e; rw [nI_toInt h] at this; rw [show (-1000000 : Int32).toInt = -1000000 from rfl] at this; omega
theorem sim_cancel {i q : Int32} (hR : Rel d mi) : Sim 71 175 [.int i, .int q] d mi ml := by
  obtain ⟨e, n, hn, hc, hfree, hb⟩ := hR.2.2.2.2.2.2.2.1
  have h88 : mi 88 24 = nI n := e.symm.trans hc
  by_cases hi : ∃ k, k < n ∧ i = nI k
  · obtain ⟨k, hkn, rfl⟩ := hi
    have hk : k < 16 := by omega
    have g1 : 0 ≤ nI k ∧ nI k < mi 42 5 := by rw [hc]; exact (hasN (by omega)).mpr ⟨k, hkn, rfl⟩
    have g2 : 0 ≤ nI k ∧ nI k ≤ mi 88 24 - 1 := by rw [h88]; exact (inN (by omega)).mpr ⟨k, hkn, rfl⟩
    obtain ⟨r, rc, b0, b1, b5, b6, b7, dy, fr, to, cm, e2, e3, e4, e8, hdy, hft, hto, hcm, hcan⟩ := hb k hkn
    have r8 : mi 100 (9 * k + 8) = mi (47 + k) 8 := by rw [bkv_g (mi := mi) hk, r 8 (by decide)]
    have r2 : mi 100 (9 * k + 2) = mi (47 + k) 2 := by rw [bkv_g (mi := mi) hk, r 2 (by decide)]
    have r9 : mi 101 k = mi (47 + k) 9 := by rw [bkv_g (mi := mi) hk, rc]
    have v2 : mi (47 + k) 2 = nI dy := by rw [bkv_g (mi := mi) hk, e2]
    have v8 : mi (47 + k) 8 = nI cm := by rw [bkv_g (mi := mi) hk, e8]
    have A := s71b (d := d) (ml := ml) (q := q) hk g1
    by_cases h : (mi (47 + k) 8 ≤ q ∧ q ≤ mi (47 + k) 2) ∧ mi (47 + k) 9 = -1000000
    · rw [if_pos h] at A
      have B := s175b (d := d) (mi := vh_sA mi (47 + k) (upd (mi (47 + k)) 9 q)) (ml := ml) (q := q) hk (by rw [sAnB hk (Or.inr (by decide))]; exact g2)
      simp only [sAnB hk (Or.inr (show 63 ≤ 100 by decide)), sAnB hk (Or.inr (show 63 ≤ 101 by decide)), sAnB hk (Or.inr (show 63 ≤ 88 by decide)), r8, r2, r9] at B
      rw [if_pos h] at B
      refine Sim.mk A B rfl ?_
      obtain ⟨⟨ha, hb'⟩, hz⟩ := h
      rw [v2] at hb'
      rw [v8] at ha
      obtain ⟨y, hy, rfl⟩ := nIr (Int32.le_trans (nI_pos' (by omega)) ha) hb' (by omega)
      have hcy := (nI_leI (by omega) (by omega)).mp ha
      unfold Rel at hR ⊢
      simp only [sAn, sAs, sAA, ups, upn, bkv_n, hlv_n, ne_eq, Nat.reduceEqDiff, Nat.reduceLT, Nat.reduceLeDiff, or_true, true_or, not_false_eq_true, sAnB hk, hlvB hk, bkv_s hk]
      refine ⟨hR.1, hR.2.1, hR.2.2.1, hR.2.2.2.1, hR.2.2.2.2.1, hR.2.2.2.2.2.1, hR.2.2.2.2.2.2.1, ?_, hR.2.2.2.2.2.2.2.2⟩
      refine ⟨e, n, hn, hc, ?_, ?_⟩
      · intro j h1 h2
        rw [sAn (by omega)]
        exact hfree j h1 h2
      · intro j hj
        by_cases hjk : j = k
        · subst hjk
          rw [sAs, ups]
          simp only [upn (show 0 ≠ 9 by decide), upn (show 1 ≠ 9 by decide), upn (show 2 ≠ 9 by decide), upn (show 3 ≠ 9 by decide), upn (show 4 ≠ 9 by decide), upn (show 5 ≠ 9 by decide), upn (show 6 ≠ 9 by decide), upn (show 7 ≠ 9 by decide), upn (show 8 ≠ 9 by decide), ups]
          rw [bkv_g (mi := mi) hk]
          refine ⟨?_, trivial, b0, b1, b5, b6, b7, dy, fr, to, cm, e2, e3, e4, e8, hdy, hft, hto, hcm, Or.inr ⟨y, hcy, hy, rfl⟩⟩
          intro f hf
          rw [upn (by omega)]
          exact r f hf
        · rw [sAn hjk, upn hjk]
          exact hb j hj
    · rw [if_neg h] at A
      have B := s175b (d := d) (mi := mi) (ml := ml) (q := q) hk g2
      simp only [r8, r2, r9] at B
      rw [if_neg h] at B
      exact Sim.mk A B rfl hR.thrown
  · exact Sim.mk (s71a (by rw [hc, hasN (by omega)]; exact hi)) (s175a (by rw [h88, inN (by omega)]; exact hi)) rfl hR.thrown
end

section
variable {d : Nat} {mi : Nat → Nat → Int32} {ml : Nat → Nat → Int64} {v : Int32}
theorem s123b (h : ¬ (0 ≤ v ∧ v ≤ 364)) : vh_C 123 [.ref 0, .int v] (vh_K d mi ml) = some (some (.int (-1000001)), vh_K d mi ml) := by
  simp only [c123, e123_0, e123_1, e123_4, e123_7, e123_9, e123_10, e123_11, e123_14, e123_15, e123_16, e123_17, e123_20, e123_21, s69, ok0, h, not_true_eq_false, not_false_eq_true, if_true, if_false, and_self, vh_bds, vh_ps1, vh_ps0, vb0, vb1, vbz, vbo]
theorem s123 (h : 0 ≤ v ∧ v ≤ 364) : vh_C 123 [.ref 0, .int v] (vh_K d mi ml) = some (some (.int (mi 0 11)), vh_K d (vh_sA mi 0 (upd (mi 0) 11 v)) ml) := by
  simp only [c123, e123_0, e123_1, e123_4, e123_7, e123_9, e123_10, e123_11, e123_14, e123_15, e123_16, e123_17, e123_20, e123_21, s69, ok0, h, not_true_eq_false, not_false_eq_true, if_true, if_false, and_self, vh_bds, vh_ps1, vh_ps0, vb0, vb1, vbz, vbo]
theorem s206b (h : ¬ (0 ≤ v ∧ v ≤ 364)) : vh_C 206 [.ref 88, .int v] (vh_K d mi ml) = some (some (.int (-1000001)), vh_K d (vh_sA mi 88 (upd (mi 88) 0 0)) ml) := by
  simp only [c206, e206_0, e206_1, e206_2, e206_5, e206_6, e206_9, e206_12, e206_14, e206_15, e206_16, e206_19, e206_20, e206_21, e206_22, e206_25, e206_26, s174, ok88, h, not_true_eq_false, not_false_eq_true, if_true, if_false, and_self, vh_bds, vh_ps1, vh_ps0, vb0, vb1, vbz, vbo]
theorem s206 (h : 0 ≤ v ∧ v ≤ 364) : vh_C 206 [.ref 88, .int v] (vh_K d mi ml) = some (some (.int (mi 88 27)), vh_K d (vh_sA mi 88 (upd (upd (mi 88) 0 0) 27 v)) ml) := by
  simp only [c206, e206_0, e206_1, e206_2, e206_5, e206_6, e206_9, e206_12, e206_14, e206_15, e206_16, e206_19, e206_20, e206_21, e206_22, e206_25, e206_26, s174, ok88, h, not_true_eq_false, not_false_eq_true, if_true, if_false, and_self, vh_bds, vh_ps1, vh_ps0, vb0, vb1, vbz, vbo, sAn, sAs, sAA, ups, upn, bkv_n, hlv_n, ne_eq, Nat.reduceEqDiff, Nat.reduceLT, Nat.reduceLeDiff, or_true, true_or, not_false_eq_true]
theorem Sim.mk {jx jm : Nat} {as : List Value} {v v' : Int32} {d' : Nat} {mi1 mi2 : Nat → Nat → Int32} {ml1 : Nat → Nat → Int64} (h1 : vh_C jx (.ref 0 :: as) (vh_K d mi ml) = some (some (.int v), vh_K d' mi1 ml1)) (h2 : vh_C jm (.ref 88 :: as) (vh_K d' mi1 ml1) = some (some (.int v'), vh_K d' mi2 ml1)) (hv : v' = v) (hR : Rel d' mi2) : Sim jx jm as d mi ml := by
  subst hv
  exact ⟨v', d', mi1, mi2, ml1, h1, h2, hR⟩
theorem sim_day (h : Rel d mi) : Sim 123 206 [.int v] d mi ml := by
  by_cases hv : 0 ≤ v ∧ v ≤ 364
  · refine Sim.mk (s123 hv) (s206 hv) ?_ ?_
    · simp only [sAn, sAs, sAA, ups, upn, bkv_n, hlv_n, ne_eq, Nat.reduceEqDiff, Nat.reduceLT, Nat.reduceLeDiff, or_true, true_or, not_false_eq_true, h.2.1.1]
    · obtain ⟨k, hk, rfl⟩ := nIr hv.1 (show v ≤ nI 364 from hv.2) (by decide)
      unfold Rel at h ⊢
      simp only [sAn, sAs, sAA, ups, upn, bkv_n, hlv_n, ne_eq, Nat.reduceEqDiff, Nat.reduceLT, Nat.reduceLeDiff, or_true, true_or, not_false_eq_true]
      exact ⟨h.1, ⟨trivial, k, Nat.zero_le _, hk, rfl⟩, h.2.2⟩
  · exact Sim.mk (s123b hv) (s206b hv) rfl h.thrown
theorem inN {i : Int32} {n : Nat} (hn : n < 2 ^ 31) : (0 ≤ i ∧ i ≤ nI n - 1) ↔ ∃ k, k < n ∧ i = nI k := by
  constructor
  · rintro ⟨h0, h1⟩
    cases n with
    | zero => exact absurd (Int32.le_trans h0 h1) (by decide)
    | succ n =>
      rw [nI_pred] at h1
      obtain ⟨k, hk, e⟩ := nIr h0 h1 (by omega)
      exact ⟨k, by omega, e⟩
  · rintro ⟨k, hk, rfl⟩
    obtain ⟨m, rfl⟩ : ∃ m, n = m + 1 := ⟨n - 1, by omega⟩
    rw [nI_pred]
    exact ⟨nI_pos' (by omega), nI_le (by omega) (by omega)⟩
theorem ouN {i : Int32} {n : Nat} (hn : n < 2 ^ 31) : (i < 0 ∨ nI n ≤ i) ↔ ¬ ∃ k, k < n ∧ i = nI k := by
  constructor
  · rintro h ⟨k, hk, rfl⟩
    rcases h with h | h
    · exact nI_pos (by omega) h
    · exact nI_ge hk (by omega) h
  · intro h
    by_cases h0 : i < 0
    · exact Or.inl h0
    · right
      apply Int32.not_lt.mp
      intro h1
      obtain ⟨k, hk, rfl⟩ := nIr (nlt h0) (Int32.le_of_lt h1) (by omega)
      exact h ⟨k, (nI_ltI (by omega) (by omega)).mp h1, rfl⟩
/-- traced -/
theorem s141b {i : Int32} (h : i < 0 ∨ mi 86 1 ≤ i) : vh_C 141 [.ref 86, .int i] (vh_K d mi ml) = some (some (.int (-1000000)), vh_K d mi ml) := by
  simp only [c141, e141_0, e141_1, e141_4, e141_5, e141_6, e141_9, e141_12, e141_13, e141_16, e141_17, e141_18, e141_21, e141_23, ok86]
  by_cases h1 : i < 0
  · rw [if_pos h1]
  · rw [if_neg h1, if_pos (h.resolve_left h1)]
theorem s141 {k n : Nat} (hn : mi 86 1 = nI n) (h : k < n) (h2 : n ≤ 16) : vh_C 141 [.ref 86, .int (nI k)] (vh_K d mi ml) = some (some (.int (mi 87 k)), vh_K d mi ml) := by
  have hx : vh_ixa 87 (nI k) = true := ixa (by rw [kd87]; omega) (by omega)
  have hc : (nI k).toNatClampNeg = k := nI_clamp (by omega)
  simp only [c141, e141_0, e141_1, e141_4, e141_5, e141_6, e141_9, e141_12, e141_13, e141_16, e141_17, e141_18, e141_21, e141_23, ok86, ok87, rf86_0, hx, hc, hn]
  rw [if_neg (nI_pos (by omega)), if_neg (nI_ge h (by omega))]
theorem s216b {i : Int32} (h : ¬ (0 ≤ i ∧ i ≤ mi 88 53 - 1)) : vh_C 216 [.ref 88, .int i] (vh_K d mi ml) = some (some (.int (-1000000)), vh_K d (vh_sA mi 88 (upd (mi 88) 0 0)) ml) := by
  simp only [c216, e216_0, e216_1, e216_2, e216_5, e216_6, e216_7, e216_8, e216_9, e216_12, e216_13, e216_14, e216_15, e216_18, e216_21, e216_22, e216_25, e216_26, e216_27, e216_30, e216_32, ok88, sAn, sAs, sAA, ups, upn, bkv_n, hlv_n, ne_eq, Nat.reduceEqDiff, Nat.reduceLT, Nat.reduceLeDiff, or_true, true_or, not_false_eq_true, inI (lo := 0) (hi := mi 88 53 - 1) (show (0 : Int64) = (0 : Int32).toInt64 from by decide) rfl, h, not_true_eq_false, not_false_eq_true, if_true, if_false, and_self, vh_bds, vh_ps1, vh_ps0, vb0, vb1, vbz, vbo]
theorem s216 {k n : Nat} (hn : mi 88 53 = nI n) (h : k < n) (h2 : n ≤ 16) : vh_C 216 [.ref 88, .int (nI k)] (vh_K d mi ml) = some (some (.int (mi 121 k)), vh_K d (vh_sA mi 88 (upd (mi 88) 0 0)) ml) := by
  have hx : vh_ixa 121 (nI k) = true := ixa (by rw [kd121]; omega) (by omega)
  have hc : (nI k).toNatClampNeg = k := nI_clamp (by omega)
  have hb : 0 ≤ nI k ∧ nI k ≤ nI n - 1 := by
    obtain ⟨m, rfl⟩ : ∃ m, n = m + 1 := ⟨n - 1, by omega⟩
    rw [nI_pred]
    exact ⟨nI_pos' (by omega), nI_le (by omega) (by omega)⟩
  simp only [c216, e216_0, e216_1, e216_2, e216_5, e216_6, e216_7, e216_8, e216_9, e216_12, e216_13, e216_14, e216_15, e216_18, e216_21, e216_22, e216_25, e216_26, e216_27, e216_30, e216_32, ok88, ok121, rf88_52, hx, hc, hn, sAn, sAs, sAA, ups, upn, bkv_n, hlv_n, ne_eq, Nat.reduceEqDiff, Nat.reduceLT, Nat.reduceLeDiff, or_true, true_or, not_false_eq_true, inI (lo := 0) (hi := nI n - 1) (show (0 : Int64) = (0 : Int32).toInt64 from by decide) rfl, hb, not_true_eq_false, not_false_eq_true, if_true, if_false, and_self, vh_bds, vh_ps1, vh_ps0, vb0, vb1, vbz, vbo]
theorem sim_trace {i : Int32} (h : Rel d mi) : Sim 140 216 [.int i] d mi ml := by
  have hA := h.2.2.2.2.2.2.2.2.2.2.2.2
  obtain ⟨e, n, hn, hc, hb⟩ := hA
  have h88 : mi 88 53 = nI n := e.symm.trans hc
  by_cases hi : ∃ k, k < n ∧ i = nI k
  · obtain ⟨k, hkn, rfl⟩ := hi
    have h1 : vh_C 140 [.ref 0, .int (nI k)] (vh_K d mi ml) = some (some (.int (mi 87 k)), vh_K d mi ml) := by
      simp only [c140, e140_0, e140_1, e140_4, e140_5, e140_8, ok0, ok86, rf0_10, s141 hc hkn hn, not_true_eq_false, not_false_eq_true, if_true, if_false, and_self, vh_bds, vh_ps1, vh_ps0, vb0, vb1, vbz, vbo]
    exact Sim.mk h1 (s216 h88 hkn hn) (hb k hkn).symm h.thrown
  · have h2 : i < 0 ∨ mi 86 1 ≤ i := by rw [hc]; exact (ouN (by omega)).mpr hi
    have h1 : vh_C 140 [.ref 0, .int i] (vh_K d mi ml) = some (some (.int (-1000000)), vh_K d mi ml) := by
      simp only [c140, e140_0, e140_1, e140_4, e140_5, e140_8, ok0, ok86, rf0_10, s141b h2, not_true_eq_false, not_false_eq_true, if_true, if_false, and_self, vh_bds, vh_ps1, vh_ps0, vb0, vb1, vbz, vbo]
    exact Sim.mk h1 (s216b (by rw [h88, inN (by omega)]; exact hi)) rfl h.thrown
end

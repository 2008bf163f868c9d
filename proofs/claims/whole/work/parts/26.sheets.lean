section
variable {d : Nat} {mi : Nat → Nat → Int32} {ml : Nat → Nat → Int64}
theorem x60 {s i : Nat} : nI s * 60 + nI i = nI (s * 60 + i) := by rw [show (60 : Int32) = nI 60 from rfl, pk_mul, nI_add]
theorem y60 {s i : Nat} : 60 * nI s + nI i = nI (s * 60 + i) := by rw [show (60 : Int32) = nI 60 from rfl, pk_mul, nI_add, Nat.mul_comm]
theorem hpN {i n : Int32} {z : Nat} (hz : z < 2 ^ 31) : (0 ≤ i ∧ 0 ≤ n ∧ n ≤ nI z ∧ i ≤ nI z - n) ↔ ∃ k m, i = nI k ∧ n = nI m ∧ k + m ≤ z := by
  constructor
  · rintro ⟨h1, h2, h3, h4⟩
    obtain ⟨m, hm, rfl⟩ := nIr h2 h3 hz
    rw [pk_sub hm] at h4
    obtain ⟨k, hk, rfl⟩ := nIr h1 h4 (by omega)
    exact ⟨k, m, rfl, rfl, by omega⟩
  · rintro ⟨k, m, rfl, rfl, h⟩
    rw [pk_sub (by omega)]
    exact ⟨nI_pos' (by omega), nI_pos' (by omega), nI_le (by omega) hz, nI_le (by omega) (by omega)⟩
theorem s19 {s : Nat} (h : s < 8) : vh_C 19 [.ref 1, .int (nI s)] (vh_K d mi ml) = some (some (.int (vb (mi 2 s = -1))), vh_K d mi ml) := by
  have hx : vh_ixa 2 (nI s) = true := ixa (by rw [kd2]; exact h) (by omega)
  have hc : (nI s).toNatClampNeg = s := nI_clamp (by omega)
  simp only [c19, e19_0, e19_1, e19_4, e19_5, e19_6, e19_7, e19_10, e19_11, e19_14, e19_15, ok1, ok2, rf1_0, hx, hc, vbz, vbo]
  by_cases h1 : mi 2 s = -1
  · rw [if_neg (not_not_intro h1), vb_t h1]
  · rw [if_pos h1, vb_f h1]
theorem s20 {s : Nat} {i n : Int32} (h : s < 8) : vh_C 20 [.ref 1, .int (nI s), .int i, .int n] (vh_K d mi ml) = some (some (.int (vb (0 ≤ i ∧ 0 ≤ n ∧ n ≤ mi 3 s ∧ i ≤ mi 3 s - n))), vh_K d mi ml) := by
  have hx : vh_ixa 3 (nI s) = true := ixa (by rw [kd3]; exact h) (by omega)
  have hc : (nI s).toNatClampNeg = s := nI_clamp (by omega)
  simp only [c20, e20_0, e20_1, e20_4, e20_5, e20_8, e20_9, e20_10, e20_13, e20_14, e20_15, e20_18, e20_19, e20_20, e20_23, e20_24, e20_25, e20_26, e20_27, e20_30, e20_31, e20_34, e20_35, ok1, ok3, rf1_1, hx, hc, vbz, vbo]
  by_cases h1 : i < 0
  · rw [if_pos h1, vb_f (fun q => absurd q.1 (Int32.not_le.mpr h1))]
  rw [if_neg h1]
  by_cases h2 : n < 0
  · rw [if_pos h2, vb_f (fun q => absurd q.2.1 (Int32.not_le.mpr h2))]
  rw [if_neg h2]
  by_cases h3 : mi 3 s < n
  · rw [if_pos h3, vb_f (fun q => absurd q.2.2.1 (Int32.not_le.mpr h3))]
  rw [if_neg h3]
  by_cases h4 : mi 3 s - n < i
  · rw [if_pos h4, vb_f (fun q => absurd q.2.2.2 (Int32.not_le.mpr h4))]
  rw [if_neg h4, vb_t ⟨nlt h1, nlt h2, nlt h3, nlt h4⟩]
theorem s23 {a b : Nat} (ha : a < 8) (hb : b < 8) : vh_C 23 [.ref 1, .int (nI a), .int (nI b)] (vh_K d mi ml) = some (some (.int (vb (mi 2 a = mi 2 b))), vh_K d mi ml) := by
  have hx : vh_ixa 2 (nI a) = true := ixa (by rw [kd2]; exact ha) (by omega)
  have hc : (nI a).toNatClampNeg = a := nI_clamp (by omega)
  have hx2 : vh_ixa 2 (nI b) = true := ixa (by rw [kd2]; exact hb) (by omega)
  have hc2 : (nI b).toNatClampNeg = b := nI_clamp (by omega)
  simp only [c23, e23_0, e23_1, e23_4, e23_5, e23_6, e23_7, e23_10, e23_11, e23_12, e23_15, e23_16, e23_19, e23_20, ok1, ok2, rf1_0, hx, hc, hx2, hc2, vbz, vbo]
  by_cases h1 : mi 2 a = mi 2 b
  · rw [if_neg (not_not_intro h1), vb_t h1]
  · rw [if_pos h1, vb_f h1]
theorem s26 {s : Nat} (h : s < 8) : vh_C 26 [.ref 1, .int (nI s)] (vh_K d mi ml) = some (some (.int (mi 3 s)), vh_K d (vh_sA mi 2 (upd (mi 2) s (-1))) ml) := by
  have hx : vh_ixa 2 (nI s) = true := ixa (by rw [kd2]; exact h) (by omega)
  have hx3 : vh_ixa 3 (nI s) = true := ixa (by rw [kd3]; exact h) (by omega)
  have hc : (nI s).toNatClampNeg = s := nI_clamp (by omega)
  simp only [c26, e26_0, e26_1, e26_4, e26_5, e26_6, e26_7, e26_8, e26_11, e26_12, e26_13, ok1, ok2, ok3, rf1_0, rf1_1, hx, hx3, hc, sAn, sAs, sAA, ups, upn, bkv_n, hlv_n, ne_eq, Nat.reduceEqDiff, Nat.reduceLT, Nat.reduceLeDiff, or_true, true_or, not_false_eq_true]
theorem s67 {s i : Nat} (h : s * 60 + i < 480) : vh_C 67 [.ref 1, .int (nI s), .int (nI i)] (vh_K d mi ml) = some (some (.int (mi 4 (s * 60 + i))), vh_K d mi ml) := by
  have hx : vh_ixa 4 (nI (s * 60 + i)) = true := ixa (by rw [kd4]; exact h) (by omega)
  have hc : (nI (s * 60 + i)).toNatClampNeg = s * 60 + i := nI_clamp (by omega)
  simp only [c67, e67_0, e67_1, e67_4, e67_5, e67_7, e67_8, e67_9, e67_10, e67_11, ok1, ok4, rf1_2, x60, hx, hc]
/-- what a lane keeps -/
def lnv (l v : Int32) : Int32 := if l = 0 then v.toInt8.toInt32 else if l = 1 then v.toInt16.toInt32 else v
theorem s21 {s i : Nat} {v : Int32} (hs : s < 8) (h : s * 60 + i < 480) : vh_C 21 [.ref 1, .int (nI s), .int (nI i), .int v] (vh_K d mi ml) = some (some (.int (lnv (mi 2 s) v)), vh_K d (vh_sA mi 4 (upd (mi 4) (s * 60 + i) (lnv (mi 2 s) v))) ml) := by
  have hx : vh_ixa 4 (nI (s * 60 + i)) = true := ixa (by rw [kd4]; exact h) (by omega)
  have hc : (nI (s * 60 + i)).toNatClampNeg = s * 60 + i := nI_clamp (by omega)
  have hx2 : vh_ixa 2 (nI s) = true := ixa (by rw [kd2]; exact hs) (by omega)
  have hc2 : (nI s).toNatClampNeg = s := nI_clamp (by omega)
  simp only [c21, e21_0, e21_1, e21_3, e21_4, e21_7, e21_8, e21_9, e21_12, e21_13, e21_14, e21_16, e21_19, e21_20, e21_23, e21_24, e21_25, e21_26, e21_29, e21_30, e21_31, e21_33, e21_34, e21_37, e21_38, e21_40, e21_41, e21_42, e21_43, e21_45, e21_46, e21_48, ok1, ok2, ok4, rf1_0, rf1_2, x60, hx, hc, hx2, hc2]
  unfold lnv
  by_cases h0 : mi 2 s = 0
  · simp only [h0, not_true_eq_false, not_false_eq_true, if_true, if_false, and_self, vh_bds, vh_ps1, vh_ps0, vb0, vb1, vbz, vbo]
  · by_cases h1 : mi 2 s = 1
    · simp only [h0, h1, not_true_eq_false, not_false_eq_true, if_true, if_false, and_self, vh_bds, vh_ps1, vh_ps0, vb0, vb1, vbz, vbo, show ¬ (1 : Int32) = 0 from by decide]
    · simp only [h0, h1, not_true_eq_false, not_false_eq_true, if_true, if_false, and_self, vh_bds, vh_ps1, vh_ps0, vb0, vb1, vbz, vbo]
end

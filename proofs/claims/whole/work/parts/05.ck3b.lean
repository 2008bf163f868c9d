def vh_ckp (j a n : Nat) : Bool := match vh_mt[j]? with
  | some row => (((vh_ops.getD j []).drop a).take n).all (vh_good row (vh_lsx j))
  | none => false
theorem vh_ckp_add {j a n m : Nat} (h1 : vh_ckp j a n = true) (h2 : vh_ckp j (a + n) m = true) : vh_ckp j a (n + m) = true := by
  unfold vh_ckp at *
  cases h : vh_mt[j]? with
  | none => rw [h] at h1; cases h1
  | some row =>
    rw [h] at h1 h2
    simp only at h1 h2 ⊢
    rw [List.take_add, List.all_append, h1, List.drop_drop, h2]
    rfl
theorem vh_ck_of {j n : Nat} (h0 : (match vh_mt[j]?, vh_mp[j]? with | some row, some p => vh_mgd j row p | _, _ => false) = true) (hn : (vh_ops.getD j []).length ≤ n) (h1 : vh_ckp j 0 n = true) : vh_ck j = true := by
  unfold vh_ck vh_ckp at *
  cases h : vh_mt[j]? with
  | none => rw [h] at h1; cases h1
  | some row =>
    cases h' : vh_mp[j]? with
    | none => rw [h, h'] at h0; cases h0
    | some p =>
      rw [h, h'] at h0
      rw [h] at h1
      simp only [List.drop_zero, List.take_of_length_le hn] at h0 h1 ⊢
      rw [h0, h1]
      rfl
theorem vh_q146_0 : vh_ckp 146 0 40 = true := by decide +kernel
theorem vh_p146_1 : vh_ckp 146 (0 + (40)) 40 = true := by decide +kernel
theorem vh_q146_1 : vh_ckp 146 0 ((40) + 40) = true := vh_ckp_add vh_q146_0 vh_p146_1
theorem vh_p146_2 : vh_ckp 146 (0 + ((40) + 40)) 40 = true := by decide +kernel
theorem vh_q146_2 : vh_ckp 146 0 (((40) + 40) + 40) = true := vh_ckp_add vh_q146_1 vh_p146_2
theorem vh_p146_3 : vh_ckp 146 (0 + (((40) + 40) + 40)) 40 = true := by decide +kernel
theorem vh_q146_3 : vh_ckp 146 0 ((((40) + 40) + 40) + 40) = true := vh_ckp_add vh_q146_2 vh_p146_3
theorem vh_p146_4 : vh_ckp 146 (0 + ((((40) + 40) + 40) + 40)) 40 = true := by decide +kernel
theorem vh_q146_4 : vh_ckp 146 0 (((((40) + 40) + 40) + 40) + 40) = true := vh_ckp_add vh_q146_3 vh_p146_4
theorem vh_p146_5 : vh_ckp 146 (0 + (((((40) + 40) + 40) + 40) + 40)) 40 = true := by decide +kernel
theorem vh_q146_5 : vh_ckp 146 0 ((((((40) + 40) + 40) + 40) + 40) + 40) = true := vh_ckp_add vh_q146_4 vh_p146_5
theorem vh_p146_6 : vh_ckp 146 (0 + ((((((40) + 40) + 40) + 40) + 40) + 40)) 40 = true := by decide +kernel
theorem vh_q146_6 : vh_ckp 146 0 (((((((40) + 40) + 40) + 40) + 40) + 40) + 40) = true := vh_ckp_add vh_q146_5 vh_p146_6
theorem vh_p146_7 : vh_ckp 146 (0 + (((((((40) + 40) + 40) + 40) + 40) + 40) + 40)) 40 = true := by decide +kernel
theorem vh_q146_7 : vh_ckp 146 0 ((((((((40) + 40) + 40) + 40) + 40) + 40) + 40) + 40) = true := vh_ckp_add vh_q146_6 vh_p146_7
theorem vh_p146_8 : vh_ckp 146 (0 + ((((((((40) + 40) + 40) + 40) + 40) + 40) + 40) + 40)) 40 = true := by decide +kernel
theorem vh_q146_8 : vh_ckp 146 0 (((((((((40) + 40) + 40) + 40) + 40) + 40) + 40) + 40) + 40) = true := vh_ckp_add vh_q146_7 vh_p146_8
theorem vh_p146_9 : vh_ckp 146 (0 + (((((((((40) + 40) + 40) + 40) + 40) + 40) + 40) + 40) + 40)) 40 = true := by decide +kernel
theorem vh_q146_9 : vh_ckp 146 0 ((((((((((40) + 40) + 40) + 40) + 40) + 40) + 40) + 40) + 40) + 40) = true := vh_ckp_add vh_q146_8 vh_p146_9
theorem vh_p146_10 : vh_ckp 146 (0 + ((((((((((40) + 40) + 40) + 40) + 40) + 40) + 40) + 40) + 40) + 40)) 40 = true := by decide +kernel
theorem vh_q146_10 : vh_ckp 146 0 (((((((((((40) + 40) + 40) + 40) + 40) + 40) + 40) + 40) + 40) + 40) + 40) = true := vh_ckp_add vh_q146_9 vh_p146_10
theorem vh_m146 : (match vh_mt[146]?, vh_mp[146]? with | some row, some p => vh_mgd 146 row p | _, _ => false) = true := by decide +kernel
theorem vh_k146 : vh_ck 146 = true := vh_ck_of (n := ((((((((((40) + 40) + 40) + 40) + 40) + 40) + 40) + 40) + 40) + 40) + 40) vh_m146 (by decide +kernel) vh_q146_10

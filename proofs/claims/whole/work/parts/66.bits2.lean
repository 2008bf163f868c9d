theorem ush {n k : Nat} {s : Int32} (hs : ((s.toUInt32 &&& Int32.toUInt32 31).toBitVec % 32).toNat = k) (hn : n < 2 ^ 31) : ((nI n).toUInt32 >>> (s.toUInt32 &&& Int32.toUInt32 31)).toInt32 = nI (n / 2 ^ k) := pk_ushrN (by omega) s k hs
theorem s98 {M : Nat} {w : vh_W} (h : M < 2 ^ 16) : vh_C 98 [.int (nI M)] w = some (some (.int (nI (pc M 16))), w) := by
  rw [← bc_e h]
  have a1 : Nat.land (M / 2) 1431655765 ≤ M / 2 := Nat.and_le_left
  have b1 : bc1 M ≤ M := Nat.sub_le _ _
  have f1 : nI M - (((nI M).toUInt32 >>> ((1 : Int32).toUInt32 &&& Int32.toUInt32 31)).toInt32 &&& 1431655765) = nI (bc1 M) := by
    rw [ush (s := 1) (k := 1) (by decide) (by omega), show (1431655765 : Int32) = nI 1431655765 from rfl, andN (by omega) (by decide), pk_sub (by show Nat.land (M / 2) 1431655765 ≤ M; omega)]
    rfl
  have a2 : Nat.land (bc1 M) 858993459 ≤ bc1 M := Nat.and_le_left
  have a2' : Nat.land (bc1 M / 4) 858993459 ≤ bc1 M / 4 := Nat.and_le_left
  have b2 : bc2 (bc1 M) ≤ 2 * M := by show Nat.land (bc1 M) 858993459 + Nat.land (bc1 M / 4) 858993459 ≤ _; omega
  have f2 : (nI (bc1 M) &&& 858993459) + (((nI (bc1 M)).toUInt32 >>> ((2 : Int32).toUInt32 &&& Int32.toUInt32 31)).toInt32 &&& 858993459) = nI (bc2 (bc1 M)) := by
    rw [ush (s := 2) (k := 2) (by decide) (by omega), show (858993459 : Int32) = nI 858993459 from rfl, andN (by omega) (by decide), andN (by omega) (by decide), nI_add]
    rfl
  have b3 : bc3 (bc2 (bc1 M)) ≤ bc2 (bc1 M) + bc2 (bc1 M) / 16 := Nat.and_le_left
  have f3 : (nI (bc2 (bc1 M)) + ((nI (bc2 (bc1 M))).toUInt32 >>> ((4 : Int32).toUInt32 &&& Int32.toUInt32 31)).toInt32) &&& 252645135 = nI (bc3 (bc2 (bc1 M))) := by
    rw [ush (s := 4) (k := 4) (by decide) (by omega), show (252645135 : Int32) = nI 252645135 from rfl, nI_add, andN (by omega) (by decide)]
    rfl
  have b4 : bc4 (bc3 (bc2 (bc1 M))) = bc3 (bc2 (bc1 M)) + bc3 (bc2 (bc1 M)) / 256 := rfl
  have f4 : nI (bc3 (bc2 (bc1 M))) + ((nI (bc3 (bc2 (bc1 M)))).toUInt32 >>> ((8 : Int32).toUInt32 &&& Int32.toUInt32 31)).toInt32 = nI (bc4 (bc3 (bc2 (bc1 M)))) := by
    rw [ush (s := 8) (k := 8) (by decide) (by omega), nI_add]
    rfl
  have f5 : (nI (bc4 (bc3 (bc2 (bc1 M)))) + ((nI (bc4 (bc3 (bc2 (bc1 M))))).toUInt32 >>> ((16 : Int32).toUInt32 &&& Int32.toUInt32 31)).toInt32) &&& 63 = nI (bcM M) := by
    rw [ush (s := 16) (k := 16) (by decide) (by omega), nI_add, show (63 : Int32) = nI 63 from rfl, andN (by omega) (by decide)]
    rfl
  simp only [c98, e98_0, e98_1, e98_2, e98_3, e98_4, e98_7, e98_8, e98_9, e98_10, e98_11, e98_14, e98_15, e98_16, e98_17, e98_18, e98_21, e98_22, e98_23, e98_24, e98_25, e98_26, e98_27, e98_28, e98_29, e98_32, e98_33, e98_34, e98_35, e98_36, e98_38, e98_39, e98_40, e98_41, e98_42, e98_43, e98_45, e98_46, e98_47, e98_48, e98_49, e98_51, e98_52, f1, f2, f3, f4, f5]
theorem l192 {M : Nat} {w : vh_W} (h : M < 2 ^ 16) : ∀ j i, i + j = 16 → vh_E 192 4 [some (.int (nI M)), some (.int (nI (pc M i))), some (.int (nI i))] [] w = some (some (.int (nI (pc M 16))), w) := by
  intro j
  induction j with
  | zero =>
    intro i hi
    have : i = 16 := by omega
    subst this
    simp only [e192_4, e192_5, e192_7, e192_24, e192_25, show (16 : Int32) ≤ nI 16 from by decide, if_true]
  | succ j ih =>
    intro i hi
    have hin : i < 16 := by omega
    have := ih (i + 1) (by omega)
    rw [e192_4]
    simp only [e192_0, e192_1, e192_2, e192_3, e192_5, e192_7, e192_10, e192_11, e192_12, e192_13, e192_14, e192_15, e192_16, e192_17, e192_18, e192_21, e192_24, e192_25, show ¬ (16 : Int32) ≤ nI i from nI_ge (b := 16) hin (by decide), if_false, bt (show M < 2 ^ 31 by omega) (show i < 31 by omega), nI_1]
    by_cases q : M.testBit i = true
    · rw [vb_t q, nI_1]
      rw [pc_t q] at this
      exact this
    · rw [vb_f q, Int32.add_zero]
      rw [pc_f q] at this
      exact this
theorem s192 {M : Nat} {w : vh_W} (h : M < 2 ^ 16) : vh_C 192 [.int (nI M)] w = some (some (.int (nI (pc M 16))), w) := by
  simp only [c192, e192_0, e192_1, e192_2, e192_3, e192_5, e192_7, e192_10, e192_11, e192_12, e192_13, e192_14, e192_15, e192_16, e192_17, e192_18, e192_21, e192_24, e192_25]
  exact l192 h 16 0 (by omega)

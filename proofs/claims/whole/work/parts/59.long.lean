/-! LONG MASKS -/
theorem l_tn {n : Nat} (h : n < 2 ^ 64) : (lN n).toBitVec.toNat = n := Nat.mod_eq_of_lt h
theorem sm64 : ∀ k, k < 64 → ((lN k).toBitVec.smod 64).toNat = k := by decide +kernel
theorem l63 : ∀ k, k < 64 → lN k &&& 63 = lN k := by decide +kernel
theorem l_shr {n : Nat} (h : n < 2 ^ 63) {k : Nat} (hk : k < 64) : lN n >>> lN k = lN (n / 2 ^ k) := by
  apply Int64.toInt_inj.mp
  have h2 : n / 2 ^ k ≤ n := Nat.div_le_self _ _
  show ((lN n).toBitVec.sshiftRight ((lN k).toBitVec.smod 64).toNat).toInt = _
  rw [sm64 k hk, BitVec.toInt_sshiftRight]
  show (lN n).toInt >>> k = _
  rw [pk_lT h, pk_lT (by omega), Int.shiftRight_eq_div_pow]
  rfl
theorem l_and1 {n : Nat} (h : n < 2 ^ 63) : lN n &&& 1 = lN (n % 2) := by
  apply Int64.toBitVec_inj.mp
  apply BitVec.eq_of_toNat_eq
  rw [Int64.toBitVec_and, BitVec.toNat_and, l_tn (by omega), l_tn (by omega)]
  show n &&& 1 = _
  rw [Nat.and_one_is_mod]
theorem l_or {a b : Nat} (ha : a < 2 ^ 62) (hb : b < 2 ^ 62) : lN a ||| lN b = lN (a ||| b) := by
  have := Nat.or_lt_two_pow ha hb
  apply Int64.toBitVec_inj.mp
  apply BitVec.eq_of_toNat_eq
  rw [Int64.toBitVec_or, BitVec.toNat_or, l_tn (by omega), l_tn (by omega), l_tn (by omega)]
theorem l_shl : ∀ k, k < 48 → (1 : Int64) <<< lN k = lN (2 ^ k) := by decide +kernel
theorem cmp_0 {x y : Int64} : lg_cmp x y = 0 ↔ x = y := by
  unfold lg_cmp
  by_cases h : x > y
  · rw [if_pos h]
    exact ⟨fun z => absurd z (by decide), fun z => by rw [z] at h; exact absurd h Int64.lt_irrefl⟩
  · rw [if_neg h]
    by_cases h2 : x = y
    · rw [if_pos h2]; exact ⟨fun _ => h2, fun _ => rfl⟩
    · rw [if_neg h2]; exact ⟨fun z => absurd z (by decide), fun z => absurd z h2⟩
theorem lbt {M k : Nat} (hM : M < 2 ^ 48) (hk : k < 48) : lg_cmp (lN M >>> ((nI k).toInt64 &&& 63) &&& 1) 0 = 0 ↔ ¬ M.testBit k = true := by
  rw [cmp_0, nI_l (by omega), l63 k (by omega), l_shr (by omega) (by omega), l_and1 (Nat.lt_of_le_of_lt (Nat.div_le_self _ _) (by omega)), Nat.testBit_eq_decide_div_mod_eq, decide_eq_true_iff, show (0 : Int64) = lN 0 from rfl, pk_lEQ (by omega) (by omega)]
  omega
theorem lsb {M k : Nat} (hM : M < 2 ^ 48) (hk : k < 48) : lN M ||| ((1 : Int64) <<< ((nI k).toInt64 &&& 63)) = lN (M ||| 2 ^ k) := by
  have : 2 ^ k < 2 ^ 48 := Nat.pow_lt_pow_right (by decide) hk
  rw [nI_l (by omega), l63 k (by omega), l_shl k hk, l_or (by omega) (by omega)]
theorem lsl {M k : Nat} (hM : M < 2 ^ 48) (hk : k < 48) : M ||| 2 ^ k < 2 ^ 48 := Nat.or_lt_two_pow hM (Nat.pow_lt_pow_right (by decide) hk)

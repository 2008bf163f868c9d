/-! FEED -/
theorem b255 : ∀ i, i < 32 → (255#64).getLsbD i = (255#32).getLsbD i := by decide
theorem b255h : ∀ i, i < 32 → 8 ≤ i → (255#32).getLsbD i = false := by decide
theorem us64 : ∀ k, k < 64 → (((nI k).toInt64.toUInt64 &&& Int64.toUInt64 63).toBitVec % 64).toNat = k := by decide +kernel
theorem ss64 : ∀ k, k < 64 → (((nI k).toInt64 &&& 63).toBitVec.smod 64).toNat = k := by decide +kernel
theorem fdB (w : Int64) {k : Nat} (hk : k ≤ 56) : (w >>> ((nI k).toInt64 &&& 63) &&& 255).toInt32 = (w.toUInt64 >>> ((nI k).toInt64.toUInt64 &&& Int64.toUInt64 63)).toInt64.toInt32 &&& 255 := by
  apply Int32.toBitVec_inj.mp
  apply BitVec.eq_of_getLsbD_eq
  intro i hi
  have e1 : (w >>> ((nI k).toInt64 &&& 63) &&& 255).toInt32.toBitVec = ((w.toBitVec.sshiftRight (((nI k).toInt64 &&& 63).toBitVec.smod 64).toNat) &&& 255#64).setWidth 32 := by
    rw [Int64.toBitVec_toInt32]
    sorry
  have e2 : ((w.toUInt64 >>> ((nI k).toInt64.toUInt64 &&& Int64.toUInt64 63)).toInt64.toInt32 &&& 255).toBitVec = (w.toBitVec >>> (((nI k).toInt64.toUInt64 &&& Int64.toUInt64 63).toBitVec % 64).toNat).setWidth 32 &&& 255#32 := by
    sorry
  rw [e1, e2, ss64 k (by omega), us64 k (by omega), BitVec.getLsbD_setWidth, BitVec.getLsbD_and, BitVec.getLsbD_and, BitVec.getLsbD_setWidth, BitVec.getLsbD_sshiftRight, BitVec.getLsbD_ushiftRight, b255 i hi]
  sorry

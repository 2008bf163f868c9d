/-! FEED -/
theorem b255 : ∀ i, i < 32 → (255#64).getLsbD i = (255#32).getLsbD i := by decide
theorem b255h : ∀ i, i < 32 → 8 ≤ i → (255#32).getLsbD i = false := by decide
theorem us64 : ∀ k, k < 64 → (((nI k).toInt64.toUInt64 &&& Int64.toUInt64 63).toBitVec % 64).toNat = k := by decide +kernel
theorem ss64 : ∀ k, k < 64 → (((nI k).toInt64 &&& 63).toBitVec.smod 64).toNat = k := by decide +kernel
theorem fdB (w : Int64) {k : Nat} (hk : k ≤ 56) : (w >>> ((nI k).toInt64 &&& 63) &&& 255).toInt32 = (w.toUInt64 >>> ((nI k).toInt64.toUInt64 &&& Int64.toUInt64 63)).toInt64.toInt32 &&& 255 := by
  apply Int32.toBitVec_inj.mp
  apply BitVec.eq_of_getLsbD_eq
  intro i hi
  have e1 : (w >>> ((nI k).toInt64 &&& 63) &&& 255).toInt32.toBitVec = ((w.toBitVec.sshiftRight (((nI k).toInt64 &&& 63).toBitVec.smod 64).toNat) &&& 255#64).setWidth 32 := by
    rw [Int64.toBitVec_toInt32, Int64.toBitVec_and, show (255 : Int64).toBitVec = 255#64 from by decide, BitVec.signExtend_eq_setWidth_of_le _ (by decide)]
    rfl
  have e2 : ((w.toUInt64 >>> ((nI k).toInt64.toUInt64 &&& Int64.toUInt64 63)).toInt64.toInt32 &&& 255).toBitVec = (w.toBitVec >>> (((nI k).toInt64.toUInt64 &&& Int64.toUInt64 63).toBitVec % 64).toNat).setWidth 32 &&& 255#32 := by
    rw [Int32.toBitVec_and, Int64.toBitVec_toInt32, show (255 : Int32).toBitVec = 255#32 from by decide, BitVec.signExtend_eq_setWidth_of_le _ (by decide)]
    rfl
  rw [e1, e2, ss64 k (by omega), us64 k (by omega), BitVec.getLsbD_setWidth, BitVec.getLsbD_and, BitVec.getLsbD_and, BitVec.getLsbD_setWidth, BitVec.getLsbD_sshiftRight, BitVec.getLsbD_ushiftRight, b255 i hi]
  by_cases q : i < 8
  · rw [if_pos (by omega), decide_eq_true (show i < 32 from hi), show decide (64 ≤ i) = false from decide_eq_false (by omega), Bool.not_false, Bool.true_and, Bool.true_and]
  · rw [b255h i hi (by omega), Bool.and_false, Bool.and_false, Bool.and_false]
/-- byte k of the word -/
def fdb (w : Int64) (k : Nat) : Int32 := (w.toUInt64 >>> ((nI (8 * k)).toInt64.toUInt64 &&& Int64.toUInt64 63)).toInt64.toInt32 &&& 255
theorem fdb_r {w : Int64} {k : Nat} : rng (fdb w k) 0 255 := by
  obtain ⟨j, hj, e⟩ := pk_andE ((w.toUInt64 >>> ((nI (8 * k)).toInt64.toUInt64 &&& Int64.toUInt64 63)).toInt64.toInt32) (m := 255) 8 (by decide)
  exact ⟨j, Nat.zero_le _, by omega, e⟩
def fdw (w : Int64) : (Nat → Int32) → Nat → Nat → (Nat → Int32)
  | f, _, 0 => f
  | f, L, i + 1 => fdw w (upd f L (fdb w i)) (L + 1) i
theorem fdw_e {w : Int64} : ∀ (i L : Nat) (f g : Nat → Int32), (∀ c, c < L → f c = g c ∧ rng (g c) 0 255) → ∀ c, c < L + i → fdw w f L i c = fdw w g L i c ∧ rng (fdw w g L i c) 0 255 := by
  intro i
  induction i with
  | zero => intro L f g h c hc; exact h c hc
  | succ i ih =>
    intro L f g h c hc
    refine ih (L + 1) _ _ ?_ c (by omega)
    intro c hc
    by_cases e : c = L
    · subst e; rw [ups, ups]; exact ⟨rfl, fdb_r⟩
    · rw [upn e, upn e]; exact h c (by omega)
section
variable {d : Nat} {ml : Nat → Nat → Int64} {w : Int64}
theorem m1N : nI 0 - 1 = -1 := by decide
theorem l29 {l3 : Option Value} : ∀ (i L : Nat) (mi : Nat → Nat → Int32), L + i ≤ 400 → i ≤ 8 → mi 22 1 = nI L → vh_E 29 5 [some (.ref 22), some (.long w), none, l3, some (.int (nI i - 1))] [] (vh_K d mi ml) = some (none, vh_K d (vh_sA (vh_sA mi 23 (fdw w (mi 23) L i)) 22 (upd (mi 22) 1 (nI (L + i)))) ml) := by
  intro i
  induction i with
  | zero =>
    intro L mi hL h8 h1
    have e1 : upd (mi 22) 1 (nI (L + 0)) = mi 22 := by
      funext c
      unfold upd
      by_cases q : c = 1
      · rw [if_pos q, q, h1]; rfl
      · rw [if_neg q]
    rw [e1, show fdw w (mi 23) L 0 = mi 23 from rfl, sAe, sAe, m1N]
    simp only [e29_5, e29_7, e29_57, show (-1 : Int32) < 0 by decide, if_true]
  | succ i ih =>
    intro L mi hL h8 h1
    have x1 : vh_ixa 23 (nI L) = true := ixa (by rw [kd23]; omega) (by omega)
    have m8 : (8 : Int32) * nI i = nI (8 * i) := pk_mul 8 i
    rw [nI_pred, e29_5]
    simp only [e29_0, e29_1, e29_2, e29_3, e29_7, e29_10, e29_11, e29_14, e29_17, e29_20, e29_21, e29_24, e29_25, e29_28, e29_29, e29_31, e29_33, e29_34, e29_35, e29_36, e29_39, e29_40, e29_41, e29_42, e29_43, e29_46, e29_47, e29_48, e29_51, e29_54, e29_57, ok22, ok23, rf22_0, x1, clK (show L < 1000 by omega), h1, m8, nI_pos (show i < 2 ^ 31 by omega), show ¬ (400 : Int32) ≤ nI L from nI_ge (b := 400) (by omega) (by decide), nI_1, sAn, sAs, sAA, ups, upn, bkv_n, hlv_n, ne_eq, Nat.reduceEqDiff, Nat.reduceLT, Nat.reduceLeDiff, or_true, true_or, not_false_eq_true, if_false, show nI i + -1 = nI i - 1 from by rw [Int32.sub_eq_add_neg]]
    rw [ih (L + 1) _ (by omega) (by omega) (by simp only [sAn, sAs, sAA, ups, upn, bkv_n, hlv_n, ne_eq, Nat.reduceEqDiff, Nat.reduceLT, Nat.reduceLeDiff, or_true, true_or, not_false_eq_true])]
    simp only [sAn, sAs, sAA, ups, upn, bkv_n, hlv_n, ne_eq, Nat.reduceEqDiff, Nat.reduceLT, Nat.reduceLeDiff, or_true, true_or, not_false_eq_true]
    congr 3
    rw [show L + 1 + i = L + (i + 1) by omega]
    funext c
    unfold vh_sA
    by_cases c1 : c = 22
    · subst c1
      funext y
      unfold upd
      by_cases y1 : y = 1
      · subst y1; rfl
      · simp only [y1, if_false, if_true]
    · by_cases c2 : c = 23
      · subst c2; rfl
      · simp only [c1, c2, if_false]
end

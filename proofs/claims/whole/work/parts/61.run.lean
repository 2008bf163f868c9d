/-! COINS: minutes run -/
def rnS (U : Nat) (c : Nat × Nat) (t m : Nat) : Nat × Nat := (max c.1 (15 * t) + m, c.2 + (min (max c.1 (15 * t) + m) (15 * U) - max c.1 (15 * t)))
def rnQ (U : Nat) (h : Int32) (c : Nat × Nat) (x : Int32 × Int32 × Int32 × Int32) : Nat × Nat := if x.2.1 = h then rnS U c x.1.toNatClampNeg x.2.2.1.toNatClampNeg else c
theorem lgSort_mem {l : List (Int32 × Int32 × Int32 × Int32)} {x : Int32 × Int32 × Int32 × Int32} (h : x ∈ lgSort l) : x ∈ l := by
  have : ∀ (l a : List (Int32 × Int32 × Int32 × Int32)), x ∈ l.foldl (fun a x => lgIns x a) a → x ∈ l ∨ x ∈ a := by
    intro l
    induction l with
    | nil => intro a h; exact Or.inr h
    | cons y l ih =>
      intro a h
      rcases ih _ h with z | z
      · exact Or.inl (List.mem_cons_of_mem _ z)
      · rcases lgIns_mem z with w | w
        · rw [w]; exact Or.inl List.mem_cons_self
        · exact Or.inr w
  rcases this l [] h with z | z
  · exact z
  · cases z
theorem lgL_at {n i : Nat} {t h a b : Nat → Int32} (hi : i < n) : (t i, h i, a i, b i) ∈ lgL n t h a b := List.mem_map.mpr ⟨i, List.mem_range.mpr hi, rfl⟩
theorem mxN {a b : Nat} (ha : a < 2 ^ 31) (hb : b < 2 ^ 31) : (if nI a < nI b then nI b else nI a) = nI (max a b) := by
  by_cases h : a < b
  · rw [if_pos (nI_lt h hb), show max a b = b by omega]
  · rw [if_neg (nI_nlt (by omega) ha), show max a b = a by omega]
theorem mnN {a b : Nat} (ha : a < 2 ^ 31) (hb : b < 2 ^ 31) : (if nI b < nI a then nI b else nI a) = nI (min a b) := by
  by_cases h : b < a
  · rw [if_pos (nI_lt h ha), show min a b = b by omega]
  · rw [if_neg (nI_nlt (by omega) hb), show min a b = a by omega]
theorem mx0 {a b : Nat} (ha : a < 2 ^ 30) (hb : b < 2 ^ 30) : (if 0 < nI a - nI b then nI a - nI b else 0) = nI (a - b) := by
  have hs := pk_sub_toInt ha hb
  by_cases h : b < a
  · rw [if_pos (by rw [i32_ltI, hs]; show (0 : Int) < _; omega), pk_sub (by omega)]
  · rw [if_neg (by rw [i32_ltI, hs]; show ¬ (0 : Int) < _; omega), show a - b = 0 by omega]; rfl
section
variable {d : Nat} {mi : Nat → Nat → Int32} {ml : Nat → Nat → Int64}
theorem l108 {h : Int32} {U n : Nat} (hU : U ≤ 35040) (hn : n ≤ 40) (h4 : mi 67 4 = nI n) (hok : ∀ i, i < n → okC (mi 68 i, mi 69 i, mi 70 i, mi 71 i)) : ∀ (j i : Nat) (c : Nat × Nat) (l7 : Option Value), i + j = n → c.1 ≤ 525600 + 600 * i → c.2 ≤ 600 * i → vh_E 108 14 [some (.ref 0), some (.int h), some (.int (nI U)), some (.int (nI (U * 15))), some (.int (nI c.2)), some (.int (nI c.1)), some (.int (nI i)), l7] [] (vh_K d mi ml) = some (some (.int (nI ((((lgL n (mi 68) (mi 69) (mi 70) (mi 71)).drop i).takeWhile (fun y => decide (y.1 ≤ nI U))).foldl (rnQ U h) c).2)), vh_K d mi ml) := by
  intro j
  induction j with
  | zero =>
    intro i c l7 hi _ _
    have : i = n := by omega
    subst this
    rw [List.drop_eq_nil_of_le (by rw [lgL_len]; exact Nat.le_refl _)]
    simp only [e108_14, e108_16, e108_17, e108_20, e108_23, e108_113, e108_115, ok0, ok67, rf0_6, h4, nI_le (Nat.le_refl i) (show i < 2 ^ 31 by omega), if_true, List.takeWhile_nil, List.foldl_nil]
  | succ j ih =>
    intro i c l7 hi hc1 hc2
    have hin : i < n := by omega
    have x1 : vh_ixa 68 (nI i) = true := ixa (by rw [kd68]; omega) (by omega)
    have x2 : vh_ixa 69 (nI i) = true := ixa (by rw [kd69]; omega) (by omega)
    have x3 : vh_ixa 70 (nI i) = true := ixa (by rw [kd70]; omega) (by omega)
    obtain ⟨⟨T, -, hT, eT⟩, -, ⟨m, -, hm, em⟩⟩ := hok i hin
    have eT : mi 68 i = nI T := eT
    have em : mi 70 i = nI m := em
    rw [lgL_drop hin, e108_14]
    have m1 : nI T * 15 = nI (T * 15) := pk_mul T 15
    have hmx := mxN (show c.1 < 2 ^ 31 by omega) (show T * 15 < 2 ^ 31 by omega)
    have hmn := mnN (show max c.1 (T * 15) + m < 2 ^ 31 by omega) (show U * 15 < 2 ^ 31 by omega)
    have h0 := mx0 (show min (max c.1 (T * 15) + m) (U * 15) < 2 ^ 30 by omega) (show max c.1 (T * 15) < 2 ^ 30 by omega)
    simp only [e108_0, e108_1, e108_3, e108_4, e108_5, e108_6, e108_8, e108_9, e108_11, e108_12, e108_16, e108_17, e108_20, e108_23, e108_26, e108_27, e108_30, e108_33, e108_35, e108_36, e108_37, e108_40, e108_41, e108_44, e108_47, e108_49, e108_50, e108_51, e108_54, e108_56, e108_57, e108_60, e108_63, e108_65, e108_66, e108_68, e108_69, e108_72, e108_74, e108_76, e108_77, e108_80, e108_83, e108_85, e108_86, e108_87, e108_89, e108_91, e108_92, e108_94, e108_95, e108_98, e108_100, e108_101, e108_104, e108_105, e108_107, e108_110, e108_113, e108_115, ok0, ok67, ok68, ok69, ok70, rf0_6, rf67_0, rf67_1, rf67_2, h4, nI_ge hin (show n < 2 ^ 31 by omega), if_false, x1, x2, x3, clK (show i < 1000 by omega), nI_1, eT, em, m1, hmx, nI_add, hmn, h0]
    by_cases q0 : nI U < nI T
    · rw [if_pos q0, List.takeWhile_cons, if_neg (show ¬ decide ((nI T, mi 69 i, nI m, mi 71 i).1 ≤ nI U) = true from fun z => absurd (of_decide_eq_true z) (Int32.not_le.mpr q0)), List.foldl_nil]
    · rw [if_neg q0, List.takeWhile_cons, if_pos (show decide ((nI T, mi 69 i, nI m, mi 71 i).1 ≤ nI U) = true from decide_eq_true (nlt q0)), List.foldl_cons]
      by_cases q1 : mi 69 i = h
      · rw [if_neg (not_not_intro q1)]
        have e : rnQ U h c (nI T, mi 69 i, nI m, mi 71 i) = (max c.1 (T * 15) + m, c.2 + (min (max c.1 (T * 15) + m) (U * 15) - max c.1 (T * 15))) := by
          unfold rnQ rnS
          rw [if_pos q1]
          show ((max c.1 (15 * (nI T).toNatClampNeg) + (nI m).toNatClampNeg, _) : Nat × Nat) = _
          rw [nI_clamp (show T < 2 ^ 31 by omega), nI_clamp (show m < 2 ^ 31 by omega), Nat.mul_comm 15 T, Nat.mul_comm 15 U]
        rw [e]
        exact ih (i + 1) (max c.1 (T * 15) + m, c.2 + (min (max c.1 (T * 15) + m) (U * 15) - max c.1 (T * 15))) _ (by omega) (by show max c.1 (T * 15) + m ≤ _; omega) (by show c.2 + _ ≤ _; omega)
      · rw [if_pos q1, show rnQ U h c (nI T, mi 69 i, nI m, mi 71 i) = c from if_neg q1]
        exact ih (i + 1) c _ (by omega) (by omega) (by omega)
end

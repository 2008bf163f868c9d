def gst (k : Int32) (c : Int32 × Int32) (x : Int32 × Int32 × Int32 × Int32) : Int32 × Int32 := if x.2.1 = k then (if c.1 = -1000000 ∨ c.1 = x.2.2.1 then (x.2.2.2, c.2) else (c.1, c.2 + 1)) else c
theorem lgL_drop {n i : Nat} {t h a b : Nat → Int32} (hi : i < n) : (lgL n t h a b).drop i = (t i, h i, a i, b i) :: (lgL n t h a b).drop (i + 1) := by
  have hl : i < (lgL n t h a b).length := by rw [lgL_len]; exact hi
  rw [List.drop_eq_getElem_cons hl]
  congr 1
  have := lgL_get (t := t) (h := h) (a := a) (b := b) hi
  rw [List.getElem?_eq_getElem hl] at this
  exact Option.some.inj this
section
variable {d : Nat} {mi : Nat → Nat → Int32} {ml : Nat → Nat → Int64}
theorem l112 {k dy x : Int32} {n : Nat} (hn : n ≤ 40) (h4 : mi 72 4 = nI n) : ∀ (j i : Nat) (c : Int32 × Int32), i + j = n → vh_E 112 36 [some (.ref 0), some (.int k), some (.int dy), some (.int x), some (.int c.1), some (.int c.2), some (.int (nI i))] [] (vh_K d mi ml) = some (some (.int (if x = 0 then (((lgL n (mi 73) (mi 74) (mi 75) (mi 76)).drop i).takeWhile (fun y => decide (y.1 ≤ dy))).foldl (gst k) c |>.1 else ((((lgL n (mi 73) (mi 74) (mi 75) (mi 76)).drop i).takeWhile (fun y => decide (y.1 ≤ dy))).foldl (gst k) c).2)), vh_K d mi ml) := by
  intro j
  induction j with
  | zero =>
    intro i c hi
    have : i = n := by omega
    subst this
    rw [List.drop_eq_nil_of_le (by rw [lgL_len]; exact Nat.le_refl _)]
    simp only [e112_36, e112_38, e112_39, e112_42, e112_45, e112_125, e112_126, e112_129, e112_131, e112_134, e112_136, ok0, ok72, rf0_7, h4, nI_le (Nat.le_refl i) (show i < 2 ^ 31 by omega), if_true, List.takeWhile_nil, List.foldl_nil]
    by_cases q : x = 0
    · rw [if_neg (not_not_intro q), if_pos q]
    · rw [if_pos q, if_neg q]
  | succ j ih =>
    intro i c hi
    have hin : i < n := by omega
    have x1 : vh_ixa 73 (nI i) = true := ixa (by rw [kd73]; omega) (by omega)
    have x2 : vh_ixa 74 (nI i) = true := ixa (by rw [kd74]; omega) (by omega)
    have x3 : vh_ixa 75 (nI i) = true := ixa (by rw [kd75]; omega) (by omega)
    have x4 : vh_ixa 76 (nI i) = true := ixa (by rw [kd76]; omega) (by omega)
    rw [lgL_drop hin, e112_36]
    simp only [e112_0, e112_1, e112_4, e112_7, e112_8, e112_11, e112_14, e112_15, e112_16, e112_17, e112_20, e112_23, e112_25, e112_26, e112_28, e112_30, e112_31, e112_33, e112_34, e112_38, e112_39, e112_42, e112_45, e112_48, e112_49, e112_52, e112_55, e112_57, e112_58, e112_59, e112_62, e112_63, e112_66, e112_69, e112_71, e112_72, e112_73, e112_76, e112_79, e112_81, e112_83, e112_86, e112_88, e112_89, e112_92, e112_95, e112_97, e112_98, e112_101, e112_102, e112_105, e112_108, e112_110, e112_111, e112_113, e112_116, e112_119, e112_122, e112_125, e112_126, e112_129, e112_131, e112_134, e112_136, ok0, ok72, ok73, ok74, ok75, ok76, rf0_7, rf72_0, rf72_1, rf72_2, rf72_3, h4, nI_ge hin (show n < 2 ^ 31 by omega), if_false, x1, x2, x3, x4, clK (show i < 1000 by omega), nI_1]
    by_cases q0 : dy < mi 73 i
    · rw [if_pos q0, List.takeWhile_cons, if_neg (show ¬ decide ((mi 73 i, mi 74 i, mi 75 i, mi 76 i).1 ≤ dy) = true from fun z => absurd (of_decide_eq_true z) (Int32.not_le.mpr q0)), List.foldl_nil]
      by_cases q : x = 0
      · rw [if_neg (not_not_intro q), if_pos q]
      · rw [if_pos q, if_neg q]
    · rw [if_neg q0, List.takeWhile_cons, if_pos (decide_eq_true (nlt q0)), List.foldl_cons]
      by_cases q1 : mi 74 i = k
      · rw [if_pos q1]
        by_cases q2 : c.1 = -1000000
        · rw [if_pos q2, show gst k c (mi 73 i, mi 74 i, mi 75 i, mi 76 i) = (mi 76 i, c.2) from (if_pos q1).trans (if_pos (Or.inl q2))]
          exact ih (i + 1) (mi 76 i, c.2) (by omega)
        · rw [if_neg q2]
          by_cases q3 : c.1 = mi 75 i
          · rw [if_neg (not_not_intro q3), show gst k c (mi 73 i, mi 74 i, mi 75 i, mi 76 i) = (mi 76 i, c.2) from (if_pos q1).trans (if_pos (Or.inr q3))]
            exact ih (i + 1) (mi 76 i, c.2) (by omega)
          · rw [if_pos q3, show gst k c (mi 73 i, mi 74 i, mi 75 i, mi 76 i) = (c.1, c.2 + 1) from (if_pos q1).trans (if_neg (fun z => by rcases z with z | z; exact q2 z; exact q3 z))]
            exact ih (i + 1) (c.1, c.2 + 1) (by omega)
      · rw [if_neg q1, show gst k c (mi 73 i, mi 74 i, mi 75 i, mi 76 i) = c from if_neg q1]
        exact ih (i + 1) c (by omega)
end

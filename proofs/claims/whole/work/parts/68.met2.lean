def obt (M : Nat) : Option Nat → Bool
  | none => false
  | some g => M.testBit g
def bhM (o : Nat → Option Nat) (m : Nat) : Nat → Nat
  | 0 => 2 ^ m
  | k + 1 => if k ≤ m then 2 ^ m else if obt (bhM o m k) (o k) = true then bhM o m k ||| 2 ^ k else bhM o m k
section
variable {o : Nat → Option Nat} {m : Nat}
theorem bh_lo {k : Nat} (h : k ≤ m + 1) : bhM o m k = 2 ^ m := by
  cases k with
  | zero => rfl
  | succ k => exact if_pos (by omega)
theorem bh_t {k : Nat} (h : m < k) (ht : obt (bhM o m k) (o k) = true) : bhM o m (k + 1) = bhM o m k ||| 2 ^ k := (if_neg (by omega)).trans (if_pos ht)
theorem bh_f {k : Nat} (h : m < k) (ht : ¬ obt (bhM o m k) (o k) = true) : bhM o m (k + 1) = bhM o m k := (if_neg (by omega)).trans (if_neg ht)
theorem bh_lt : ∀ {k : Nat}, m < k → bhM o m k < 2 ^ k := by
  intro k
  induction k with
  | zero => intro h; omega
  | succ k ih =>
    intro h
    have e : 2 ^ (k + 1) = 2 ^ k + 2 ^ k := by rw [Nat.pow_succ]; omega
    by_cases q : k ≤ m
    · rw [bh_lo (by omega)]
      exact Nat.pow_lt_pow_right (by decide) h
    · have := ih (by omega)
      by_cases w : obt (bhM o m k) (o k) = true
      · rw [bh_t (by omega) w]
        exact Nat.or_lt_two_pow (by omega) (by have := Nat.two_pow_pos k; omega)
      · rw [bh_f (by omega) w]; omega
theorem bh_below {k j : Nat} (h : j < k) : (bhM o m (k + 1)).testBit j = (bhM o m k).testBit j := by
  by_cases q : k ≤ m
  · rw [bh_lo (by omega), bh_lo (by omega)]
  · by_cases w : obt (bhM o m k) (o k) = true
    · rw [bh_t (by omega) w, bitor, show decide (k = j) = false from decide_eq_false (by omega), Bool.or_false]
    · rw [bh_f (by omega) w]
theorem bh_m : ∀ {k : Nat}, (bhM o m k).testBit m = true := by
  intro k
  induction k with
  | zero => show (2 ^ m).testBit m = true; rw [Nat.testBit_two_pow]; simp
  | succ k ih =>
    by_cases q : k ≤ m
    · rw [bh_lo (by omega), Nat.testBit_two_pow]; simp
    · rw [bh_below (by omega)]; exact ih
theorem bh_new {k : Nat} (h : m < k) : (bhM o m (k + 1)).testBit k = obt (bhM o m k) (o k) := by
  have hb : (bhM o m k).testBit k = false := Nat.testBit_lt_two_pow (bh_lt h)
  by_cases w : obt (bhM o m k) (o k) = true
  · rw [bh_t h w, bitor, w]; simp
  · rw [bh_f h w, hb]; simp at w; exact w.symm
theorem bh_x (ho : ∀ x g, o x = some g → g < x) : ∀ {k x : Nat}, x < k → x ≠ m → (bhM o m k).testBit x = obt (bhM o m k) (o x) := by
  intro k
  induction k with
  | zero => intro x h; omega
  | succ k ih =>
    intro x h hx
    have same : obt (bhM o m (k + 1)) (o x) = obt (bhM o m k) (o x) := by
      cases e : o x with
      | none => rfl
      | some g => exact bh_below (by have := ho x g e; omega)
    rw [same]
    by_cases e : x = k
    · subst e
      by_cases q : x ≤ m
      · rw [bh_lo (by omega), bh_lo (by omega), Nat.testBit_two_pow, decide_eq_false (by omega)]
        cases e : o x with
        | none => rfl
        | some g =>
          have := ho x g e
          show _ = (2 ^ m).testBit g
          rw [Nat.testBit_two_pow, decide_eq_false (by omega)]
      · exact bh_new (by omega)
    · rw [bh_below (by omega)]
      exact ih (by omega) hx
theorem bh_pc {k : Nat} (h : m < k) : pc (bhM o m (k + 1)) (k + 1) = pc (bhM o m k) k + (if obt (bhM o m k) (o k) = true then 1 else 0) := by
  have e := pc_c (M := bhM o m (k + 1)) (N := bhM o m k) (k := k) (fun j hj => bh_below hj)
  by_cases w : obt (bhM o m k) (o k) = true
  · rw [pc_t (by rw [bh_new h]; exact w), if_pos w, e]
  · rw [pc_f (by rw [bh_new h]; exact w), if_neg w, e]; rfl
theorem bh_p0 : pc (bhM o m (m + 1)) (m + 1) = 1 := by
  rw [bh_lo (Nat.le_refl _), pc_t (by rw [Nat.testBit_two_pow]; simp)]
  have : ∀ k, k ≤ m → pc (2 ^ m) k = 0 := by
    intro k
    induction k with
    | zero => intro _; rfl
    | succ k ih =>
      intro h
      rw [pc_f (by rw [Nat.testBit_two_pow, decide_eq_false (by omega)]; decide), ih (by omega)]
  rw [this m (Nat.le_refl _)]
end
section
variable {d : Nat} {mi : Nat → Nat → Int32} {ml : Nat → Nat → Int64} {n : Nat} {o : Nat → Option Nat} {m : Nat}
theorem l122 (hn : n ≤ 10) (hsz : mi 82 3 = nI n) (ho : ∀ x g, o x = some g → g < x) (h85 : ∀ k, k < n → mi 85 k = bvI (o k)) : ∀ j i, m < i → i + j = n → vh_E 122 8 [some (.ref 82), some (.int (nI m)), some (.int (nI (bhM o m i))), some (.int (nI i))] [] (vh_K d mi ml) = some (some (.int (nI (pc (bhM o m n) n) - 1)), vh_K d mi ml) := by
  intro j
  induction j with
  | zero =>
    intro i hmi hi
    have : i = n := by omega
    subst this
    have hl := bh_lt (o := o) (m := m) hmi
    have h16 : bhM o m i < 2 ^ 16 := Nat.lt_of_lt_of_le hl (Nat.pow_le_pow_right (by decide) (by omega))
    simp only [e122_8, e122_9, e122_10, e122_13, e122_55, e122_56, e122_59, e122_60, e122_61, s98 h16, pc_hi hl (show i ≤ 16 by omega), ok82, hsz, nI_le (Nat.le_refl i) (show i < 2 ^ 31 by omega), not_true_eq_false, not_false_eq_true, if_true, if_false, and_self, vh_bds, vh_ps1, vh_ps0, vb0, vb1, vbz, vbo]
  | succ j ih =>
    intro i hmi hi
    have hin : i < n := by omega
    have hl := bh_lt (o := o) (m := m) hmi
    have h16 : bhM o m i < 2 ^ 16 := Nat.lt_of_lt_of_le hl (Nat.pow_le_pow_right (by decide) (by omega))
    have x1 : vh_ixa 85 (nI i) = true := ixa (by rw [kd85]; omega) (by omega)
    have := ih (i + 1) (by omega) (by omega)
    rw [e122_8]
    simp only [e122_0, e122_1, e122_2, e122_3, e122_4, e122_5, e122_6, e122_7, e122_9, e122_10, e122_13, e122_16, e122_17, e122_18, e122_21, e122_22, e122_23, e122_26, e122_29, e122_30, e122_31, e122_34, e122_35, e122_36, e122_37, e122_38, e122_39, e122_40, e122_43, e122_44, e122_45, e122_46, e122_47, e122_48, e122_49, e122_52, e122_55, e122_56, e122_59, e122_60, e122_61, ok82, ok85, rf82_2, x1, clK (show i < 1000 by omega), h85 i hin, s118, hsz, nI_ge hin (show n < 2 ^ 31 by omega), if_false, nI_1, sbt h16 (show i < 16 by omega), not_true_eq_false, not_false_eq_true, if_true, if_false, and_self, vh_bds, vh_ps1, vh_ps0, vb0, vb1, vbz, vbo]
    cases e : o i with
    | none =>
      rw [if_pos (show ¬ (0 ≤ bvI none ∧ bvI none < nI n) from fun z => absurd z.1 (by decide))]
      rw [bh_f hmi (by rw [e]; exact Bool.false_ne_true)] at this
      exact this
    | some g =>
      have hg := ho i g e
      rw [show bvI (some g) = nI g from rfl, if_neg (not_not_intro (show 0 ≤ nI g ∧ nI g < nI n from (hasN (by omega)).mpr ⟨g, by omega, rfl⟩)), bt (show bhM o m i < 2 ^ 31 by omega) (show g < 31 by omega)]
      simp only [vbe]
      by_cases w : (bhM o m i).testBit g = true
      · rw [if_neg (not_not_intro w)]
        rw [bh_t hmi (by rw [e]; exact w)] at this
        exact this
      · rw [if_pos w]
        rw [bh_f hmi (by rw [e]; exact w)] at this
        exact this
theorem s122 (hn : n ≤ 10) (hm : m < n) (hsz : mi 82 3 = nI n) (ho : ∀ x g, o x = some g → g < x) (h85 : ∀ k, k < n → mi 85 k = bvI (o k)) : vh_C 122 [.ref 82, .int (nI m)] (vh_K d mi ml) = some (some (.int (nI (pc (bhM o m n) n) - 1)), vh_K d mi ml) := by
  have := l122 (d := d) (ml := ml) (m := m) hn hsz ho h85 (n - (m + 1)) (m + 1) (by omega) (by omega)
  rw [bh_lo (Nat.le_refl _)] at this
  simp only [c122, e122_0, e122_1, e122_2, e122_3, e122_4, e122_5, e122_6, e122_7, e122_9, e122_10, e122_13, e122_16, e122_17, e122_18, e122_21, e122_22, e122_23, e122_26, e122_29, e122_30, e122_31, e122_34, e122_35, e122_36, e122_37, e122_38, e122_39, e122_40, e122_43, e122_44, e122_45, e122_46, e122_47, e122_48, e122_49, e122_52, e122_55, e122_56, e122_59, e122_60, e122_61, sh1 (show m < 16 by omega), nI_1]
  exact this
theorem l204c {i : Nat} {l2 l3 l4 : Option Value} (hn : n ≤ 10) (hin : i ≤ n) (hm : m < i) (ho : ∀ x g, o x = some g → g < x) (h120 : ∀ k, k < n → mi 120 k = bvI (o k)) : ∀ (x : Nat) (ox : Option Nat), (∀ g, ox = some g → g < x) → x ≤ i → vh_E 204 99 [some (.ref 88), some (.int (nI m)), l2, l3, l4, some (.int (bvI ox))] [] (vh_K d mi ml) = vh_E 204 124 [some (.ref 88), some (.int (nI m)), l2, l3, l4, some (.int (bvI (if obt (bhM o m i) ox = true then some m else none)))] [] (vh_K d mi ml) := by
  intro x
  induction x with
  | zero =>
    intro ox hox _
    cases ox with
    | none => simp only [e204_99, e204_101, e204_103, show bvI none = (-1000000 : Int32) from rfl, if_true, obt, Bool.false_eq_true, if_false]
    | some g => exact absurd (hox g rfl) (by omega)
  | succ x ih =>
    intro ox hox hx
    cases ox with
    | none => simp only [e204_99, e204_101, e204_103, show bvI none = (-1000000 : Int32) from rfl, if_true, obt, Bool.false_eq_true, if_false]
    | some g =>
      have hg : g < x + 1 := hox g rfl
      have x1 : vh_ixa 120 (nI g) = true := ixa (by rw [kd120]; omega) (by omega)
      rw [e204_99]
      simp only [e204_101, e204_103, e204_106, e204_108, e204_109, e204_112, e204_113, e204_116, e204_118, e204_119, e204_121, show bvI (some g) = nI g from rfl, show ¬ nI g = (-1000000 : Int32) from nmN (by omega), nI_eq (show g < 2 ^ 31 by omega) (show m < 2 ^ 31 by omega), ok88, ok120, rf88_51, x1, clK (show g < 1000 by omega), h120 g (by omega), if_false]
      by_cases q : g = m
      · subst q
        rw [if_pos rfl, if_pos (show obt (bhM o g i) (some g) = true from bh_m)]
        rfl
      · rw [if_neg q, ih (o g) (fun g' e => by have := ho g g' e; omega) (by omega)]
        rw [show obt (bhM o m i) (some g) = obt (bhM o m i) (o g) from bh_x ho (by omega) q]
theorem l204 {x2 : Option Value} (hn : n ≤ 10) (hsz : mi 88 46 = nI n) (ho : ∀ x g, o x = some g → g < x) (h120 : ∀ k, k < n → mi 120 k = bvI (o k)) : ∀ (j i c : Nat) (l5 : Option Value), m < i → i + j = n → c + 1 = pc (bhM o m i) i → vh_E 204 81 [some (.ref 88), some (.int (nI m)), x2, some (.int (nI c)), some (.int (nI i)), l5] [] (vh_K d mi ml) = some (some (.int (nI (pc (bhM o m n) n) - 1)), vh_K d mi ml) := by
  intro j
  induction j with
  | zero =>
    intro i c l5 hmi hi hc
    have : i = n := by omega
    subst this
    simp only [e204_81, e204_83, e204_84, e204_87, e204_144, e204_145, ok88, hsz, nI_le (Nat.le_refl i) (show i < 2 ^ 31 by omega), if_true]
    rw [← hc, nI_pred]
  | succ j ih =>
    intro i c l5 hmi hi hc
    have hin : i < n := by omega
    have x1 : vh_ixa 120 (nI i) = true := ixa (by rw [kd120]; omega) (by omega)
    have hb := bh_pc (o := o) hmi
    have hch := l204c (d := d) (ml := ml) (l2 := x2) (l3 := some (.int (nI c))) (l4 := some (.int (nI i))) hn (Nat.le_of_lt hin) hmi ho h120 i (o i) (fun g e => ho i g e) (Nat.le_refl _)
    rw [e204_81]
    simp only [e204_83, e204_84, e204_87, e204_90, e204_91, e204_94, e204_96, e204_97, ok88, ok120, rf88_51, x1, clK (show i < 1000 by omega), h120 i hin, hsz, nI_ge hin (show n < 2 ^ 31 by omega), if_false]
    rw [hch]
    by_cases w : obt (bhM o m i) (o i) = true
    · rw [if_pos w] at hb ⊢
      simp only [e204_124, e204_125, e204_127, e204_128, e204_131, e204_132, e204_136, e204_137, e204_138, e204_141, show bvI (some m) = nI m from rfl, nI_1, not_true_eq_false, not_false_eq_true, if_true, if_false, and_self, vh_bds, vh_ps1, vh_ps0, vb0, vb1, vbz, vbo]
      exact ih (i + 1) (c + 1) _ (by omega) (by omega) (by omega)
    · rw [if_neg w] at hb ⊢
      simp only [e204_124, e204_125, e204_127, e204_128, e204_135, e204_136, e204_137, e204_138, e204_141, show bvI none = (-1000000 : Int32) from rfl, show ¬ (-1000000 : Int32) = nI m from fun z => nmN (by omega) z.symm, nI_1, Int32.add_zero, not_true_eq_false, not_false_eq_true, if_true, if_false, and_self, vh_bds, vh_ps1, vh_ps0, vb0, vb1, vbz, vbo]
      exact ih (i + 1) c _ (by omega) (by omega) (by omega)
end

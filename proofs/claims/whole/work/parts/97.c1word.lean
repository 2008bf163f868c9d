def numL (l : List Nat) : Nat := l.foldl (fun v c => v * 256 + c) 0
theorem num_s {l : List Nat} {c : Nat} : numL (l ++ [c]) = numL l * 256 + c := by unfold numL; rw [List.foldl_append]; rfl
theorem num_inj : ∀ (k : Nat) (l1 l2 : List Nat), l1.length ≤ k → (∀ c ∈ l1, 1 ≤ c ∧ c ≤ 255) → (∀ c ∈ l2, 1 ≤ c ∧ c ≤ 255) → numL l1 = numL l2 → l1 = l2 := by
  intro k
  induction k with
  | zero =>
    intro l1 l2 h h1 h2 e
    have : l1 = [] := List.length_eq_zero_iff.mp (by omega)
    subst this
    rcases List.eq_nil_or_concat l2 with z | ⟨l, c, z⟩
    · exact z.symm
    · rw [List.concat_eq_append] at z
      subst z
      rw [num_s] at e
      have := h2 c (by simp)
      have e0 : numL [] = 0 := rfl
      omega
  | succ k ih =>
    intro l1 l2 h h1 h2 e
    rcases List.eq_nil_or_concat l1 with z | ⟨l, c, z⟩
    · subst z
      rcases List.eq_nil_or_concat l2 with z | ⟨l, c, z⟩
      · exact z.symm
      · rw [List.concat_eq_append] at z
        subst z
        rw [num_s] at e
        have := h2 c (by simp)
        have e0 : numL [] = 0 := rfl
        omega
    · rw [List.concat_eq_append] at z
      subst z
      rcases List.eq_nil_or_concat l2 with z | ⟨l', c', z⟩
      · subst z
        rw [num_s] at e
        have := h1 c (by simp)
        have e0 : numL [] = 0 := rfl
        omega
      · rw [List.concat_eq_append] at z
        subst z
        rw [num_s, num_s] at e
        have a1 := h1 c (by simp)
        have a2 := h2 c' (by simp)
        have ec : c = c' := by omega
        have en : numL l = numL l' := by omega
        rw [List.length_append] at h
        rw [ec, ih l l' (by simp at h; omega) (fun x hx => h1 x (by simp [hx])) (fun x hx => h2 x (by simp [hx])) en]
def nmW (T : Nat → Nat) (B : Nat) : Nat → Nat
  | 0 => 0
  | j + 1 => nmW T B j * 256 + T (B + j)
theorem nmW_e {T : Nat → Nat} {B : Nat} : ∀ {j : Nat}, nmW T B j = numL ((List.range j).map (fun i => T (B + i))) := by
  intro j
  induction j with
  | zero => rfl
  | succ j ih =>
    rw [List.range_succ, List.map_append, List.map_singleton, num_s, ← ih]
    rfl
theorem nmW_lt {T : Nat → Nat} {B : Nat} : ∀ {j : Nat}, (∀ i, i < j → T (B + i) ≤ 122) → nmW T B j * 2 < 256 ^ j ∨ j = 0 := by
  intro j
  induction j with
  | zero => intro _; exact Or.inr rfl
  | succ j ih =>
    intro h
    left
    have hj := h j (by omega)
    show (nmW T B j * 256 + T (B + j)) * 2 < 256 ^ (j + 1)
    rw [Nat.pow_succ]
    rcases ih (fun i hi => h i (by omega)) with z | z
    · omega
    · subst z
      have e0 : nmW T B 0 = 0 := rfl
      rw [e0]
      omega
section
variable {d : Nat} {mi : Nat → Nat → Int32} {ml : Nat → Nat → Int64} {N : Nat} {T : Nat → Nat} {q i : Nat}
def wn (N : Nat) (T : Nat → Nat) (q : Nat) : Nat := if tkK N T q = 1 ∧ tkE N T q - tkB N T q < 9 then nmW T (tkB N T q) (tkE N T q - tkB N T q) else 0
theorem name_L (h : tkK N T q = 1) : ∀ j, j < tkE N T q - tkB N T q → 97 ≤ T (tkB N T q + j) ∧ T (tkB N T q + j) ≤ 122 := by
  intro j hj
  have hl : ¬ N ≤ tkB N T q ∧ isL (T (tkB N T q)) = true := by
    unfold tkK at h
    by_cases q0 : N ≤ tkB N T q
    · rw [if_pos q0] at h; cases h
    · rw [if_neg q0] at h
      by_cases q1 : isL (T (tkB N T q)) = true
      · exact ⟨q0, q1⟩
      · rw [if_neg q1] at h
        by_cases q2 : isF (T (tkB N T q)) = true
        · rw [if_pos q2] at h
          split at h <;> cases h
        · rw [if_neg q2] at h
          split at h <;> cases h
  have e : tkE N T q = rnE T isL (N - tkB N T q) (tkB N T q) := by
    unfold tkE
    rw [if_neg hl.1, if_pos hl.2]
  rw [e] at hj
  exact of_decide_eq_true (rn_all (T := T) (P := isL) (r := N - tkB N T q) (i := tkB N T q) (j := tkB N T q + j) (by omega) (by omega))
theorem wdS_c : ∀ i, i < 12 → ∀ c, c ∈ wdS i → 1 ≤ c ∧ c ≤ 255 := by decide
theorem wdS_n : ∀ i, i < 12 → ¬ numL (wdS i) = 0 ∧ numL (wdS i) < 2 ^ 63 := by decide
theorem wn_e (hi : i < 12) : wn N T q = numL (wdS i) ↔ tkL N T q = wdS i := by
  unfold wn
  by_cases h : tkK N T q = 1
  · by_cases h9 : tkE N T q - tkB N T q < 9
    · rw [if_pos ⟨h, h9⟩, nmW_e, show tkL N T q = (List.range (tkE N T q - tkB N T q)).map (fun j => T (tkB N T q + j)) from if_pos h]
      constructor
      · intro e
        refine num_inj _ _ _ (Nat.le_refl _) ?_ (wdS_c i hi) e
        intro c hc
        obtain ⟨j, hj, rfl⟩ := List.mem_map.mp hc
        have := name_L h j (List.mem_range.mp hj)
        omega
      · intro e; rw [e]
    · rw [if_neg (fun z => h9 z.2)]
      constructor
      · intro e; exact absurd e.symm (wdS_n i hi).1
      · intro e
        have := ((tkL_e h).mp e).1
        have := (wdS_len i hi).2.1
        omega
  · rw [if_neg (fun z => h z.1), tkL_n h]
    constructor
    · intro e; exact absurd e.symm (wdS_n i hi).1
    · intro e
      have := (wdS_len i hi).2.2
      rw [← e] at this
      simp at this
theorem wn_lt : wn N T q < 2 ^ 63 := by
  unfold wn
  split
  · rename_i h
    have h1 := nmW_lt (T := T) (B := tkB N T q) (j := tkE N T q - tkB N T q) (fun i hi => (name_L h.1 i hi).2)
    have h2 : 256 ^ (tkE N T q - tkB N T q) ≤ 256 ^ 8 := Nat.pow_le_pow_right (by decide) (by omega)
    rcases h1 with z | z
    · have : (256 : Nat) ^ 8 = 2 ^ 64 := by decide
      omega
    · rw [z]; exact Nat.two_pow_pos 63
  · exact Nat.two_pow_pos 63
theorem l_shl8 {v : Nat} (h : v < 2 ^ 55) : lN v <<< ((8 : Int32).toInt64 &&& 63) = lN (v * 256) := by
  rw [show ((8 : Int32).toInt64 &&& 63) = lN 8 from by decide]
  apply Int64.toBitVec_inj.mp
  apply BitVec.eq_of_toNat_eq
  show ((lN v).toBitVec <<< ((lN 8).toBitVec.smod 64).toNat).toNat = _
  rw [sm64 8 (by decide), BitVec.toNat_shiftLeft, l_tn (by omega), l_tn (by omega), Nat.shiftLeft_eq]
  omega
theorem l_or8 {v c : Nat} (hv : v < 2 ^ 55) (hc : c < 256) : lN (v * 256) ||| lN c = lN (v * 256 + c) := by
  apply Int64.toBitVec_inj.mp
  apply BitVec.eq_of_toNat_eq
  rw [Int64.toBitVec_or, BitVec.toNat_or, l_tn (by omega), l_tn (by omega), l_tn (by omega)]
  have := Nat.two_pow_add_eq_or_of_lt (i := 8) (b := c) (by omega) v
  rw [Nat.mul_comm (2 ^ 8) v] at this
  exact this.symm
theorem l161 {B E : Nat} (hT : TpM N T mi) (h17 : mi 88 17 = 2) (h18 : mi 88 18 = nI B) (h19 : mi 88 19 = nI E) (hBE : B ≤ E) (hE : E ≤ N) (h9 : E - B < 9) (hL : ∀ j, j < E - B → T (B + j) ≤ 122) : ∀ (r j : Nat) (l2 : Option Value), B + j + r = E → vh_E 161 7 [some (.ref 88), some (.long (lN (nmW T B j))), l2, some (.int (nI (B + j)))] [] (vh_K d mi ml) = some (some (.long (lN (nmW T B (E - B)))), vh_K d mi ml) := by
  have hN := hT.1
  intro r
  induction r with
  | zero =>
    intro j l2 hj
    have e : j = E - B := by omega
    simp only [e161_7, e161_8, e161_9, e161_12, e161_56, e161_57, ok88, h19, nI_le (show E ≤ B + j by omega) (show B + j < 2 ^ 31 by omega), if_true]
    rw [e]
  | succ r ih =>
    intro j l2 hj
    have hc := hT.2.2.2 (B + j)
    have hv : nmW T B j < 2 ^ 55 := by
      have h1 := nmW_lt (T := T) (B := B) (j := j) (fun i hi => hL i (by omega))
      have h2 : 256 ^ j ≤ 256 ^ 7 := Nat.pow_le_pow_right (by decide) (by omega)
      rcases h1 with z | z
      · have : (256 : Nat) ^ 7 = 2 ^ 56 := by decide
        omega
      · rw [z]; exact Nat.two_pow_pos 55
    have e9 : ¬ (9 : Int32) ≤ nI (E - B) := nI_ge (b := 9) h9 (by decide)
    rw [e161_7]
    simp only [e161_8, e161_9, e161_12, e161_15, e161_16, e161_19, e161_20, e161_23, e161_24, e161_27, e161_28, e161_31, e161_32, e161_34, e161_37, e161_38, e161_40, e161_41, e161_42, e161_45, e161_46, e161_47, e161_48, e161_49, e161_50, e161_53, ok88, ok99, rf88_12, okx99 (show B + j < 400 by omega), clK (show B + j < 1000 by omega), h17, h18, h19, hT.2.2.1 (B + j) (by omega), pk_sub hBE, e9, nI_ge (show B + j < E by omega) (show E < 2 ^ 31 by omega), if_false, not_true_eq_false, l_shl8 hv, nI_l (show T (B + j) < 2 ^ 31 by omega), l_or8 hv (show T (B + j) < 256 by omega), nI_1]
    exact ih (j + 1) none (by omega)
theorem s161 (hT : TpM N T mi) (hk : TkM N T q (mi 88)) (hq : q ≤ N) : vh_C 161 [.ref 88] (vh_K d mi ml) = some (some (.long (lN (wn N T q))), vh_K d mi ml) := by
  have hN := hT.1
  obtain ⟨k16, k17, k18, k19⟩ := hk
  obtain ⟨b1, b2⟩ := tk_b (T := T) hq
  obtain ⟨c1, c2, c3⟩ := tk_e (T := T) hq
  have hle := tk_le (N := N) (T := T) (q := q)
  unfold wn
  by_cases h : tkK N T q = 1 ∧ tkE N T q - tkB N T q < 9
  · rw [if_pos h]
    have L := l161 (d := d) (ml := ml) (B := tkB N T q) (E := tkE N T q) hT (by rw [k17, h.1]; rfl) k18 k19 c1 c2 h.2 (fun j hj => (name_L h.1 j hj).2) (tkE N T q - tkB N T q) 0 none (by omega)
    simp only [c161, e161_0, e161_1, e161_2, e161_3, e161_6, ok88, k18]
    exact L
  · rw [if_neg h]
    simp only [c161, e161_0, e161_1, e161_2, e161_3, e161_6, ok88, k18]
    rw [e161_7]
    simp only [e161_8, e161_9, e161_12, e161_15, e161_16, e161_19, e161_20, e161_23, e161_24, e161_27, e161_28, e161_31, e161_32, e161_34, e161_56, e161_57, ok88, k17, k18, k19, pk_sub c1, nI_leI (show tkE N T q < 2 ^ 31 by omega) (show tkB N T q < 2 ^ 31 by omega)]
    by_cases q0 : tkE N T q ≤ tkB N T q
    · rw [if_pos q0]; rfl
    · rw [if_neg q0]
      by_cases q1 : tkK N T q = 1
      · rw [if_neg (not_not_intro (show nI (rkK (tkK N T q)) = 2 by rw [q1]; rfl)), if_pos (show (9 : Int32) ≤ nI (tkE N T q - tkB N T q) from nI_le (a := 9) (by omega) (by omega))]; rfl
      · have hr : ¬ nI (rkK (tkK N T q)) = 2 := by
          intro z
          have : rkK (tkK N T q) = 2 := (nI_eq (b := 2) (by unfold rkK; split <;> omega) (by decide)).mp z
          unfold rkK at this
          split at this <;> omega
        rw [if_pos hr]; rfl
theorem wcmp {c : Int64} (hi : i < 12) (hc : c = lN (numL (wdS i))) : (lg_cmp (lN (wn N T q)) c = 0) ↔ tkL N T q = wdS i := by
  rw [cmp_0, hc, pk_lEQ wn_lt (wdS_n i hi).2, wn_e hi]
end

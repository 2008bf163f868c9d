/-! RULES: WORDS -/
def wdL : List (List Nat) := [[104, 97, 108, 108], [115, 101, 116, 117, 112], [108, 105, 99, 101, 110, 99, 101, 115], [114, 97, 116, 101], [102, 105, 114, 115, 116], [108, 97, 116, 101], [102, 105, 114, 101], [114, 101, 103, 117, 108, 97, 114], [112, 97, 114, 116, 121], [99, 108, 117, 98], [102, 117, 110, 101, 114, 97, 108], [115, 99, 104, 111, 111, 108]]
def wdS (i : Nat) : List Nat := wdL.getD i []
def tkL (N : Nat) (T : Nat → Nat) (q : Nat) : List Nat := if tkK N T q = 1 then (List.range (tkE N T q - tkB N T q)).map (fun j => T (tkB N T q + j)) else []
theorem okS1 : ∀ i, i < 12 → (Nat.ble 1000 (1000 + i) && Nat.blt (1000 + i) 1012) = true := by decide
theorem okS2 : ∀ i, i < 12 → (Nat.ble 2000 (1000 + i + 1000) && Nat.blt (1000 + i + 1000) 2012) = true := by decide
theorem wdS_len : ∀ i, i < 12 → vh_lenL.getD i 0 = (wdS i).length ∧ (wdS i).length ≤ 8 ∧ 4 ≤ (wdS i).length := by decide
theorem wdS_byt : ∀ i, i < 12 → ∀ j, j < 8 → j < (wdS i).length → (vh_bytL.getD i []).getD j 0 = nI ((wdS i).getD j 0) ∧ (wdS i).getD j 0 < 256 := by decide
section
variable {w : vh_W} {i : Nat}
theorem sub2000 : 1000 + i + 1000 - 2000 = i := by omega
theorem s39 (hi : i < 12) : vh_C 39 [.ref (1000 + i)] w = some (some (.int 0), w) := by
  simp only [c39, e39_0, e39_3, e39_6, e39_7, e39_10, e39_13, okS1 i hi, show ¬ (1 : Int32) = 0 by decide, if_false]
  exact e39_14 (by decide)
theorem s38 (hi : i < 12) : vh_C 38 [.ref (1000 + i)] w = some (some (.int (nI (wdS i).length)), w) := by
  have h := wdS_len i hi
  simp only [c38, e38_0, e38_1, e38_4, e38_5, e38_6, e38_9, e38_10, okS1 i hi, okS2 i hi, s39 hi, sub2000, h.1, not_true_eq_false, not_false_eq_true, if_true, if_false, and_self, vh_bds, vh_ps1, vh_ps0, vb0, vb1, vbz, vbo]
  rw [show Int32.ofNat (wdS i).length = nI (wdS i).length from rfl, sc_shr0 (by omega)]
theorem s43 {j L : Nat} (h : j < L) (hL : L < 1000) : vh_C 43 [.int (nI j), .int (nI L)] w = some (none, w) := by
  have s44 : vh_C 44 [.int (nI j), .int (nI L), .ref 3000] w = some (some (.int (nI j)), w) := by
    simp only [c44, e44_0, e44_1, e44_4, e44_5, e44_6, e44_9, e44_10, e44_11, e44_16, e44_17, nI_pos (show j < 2 ^ 31 by omega), nI_lt h (show L < 2 ^ 31 by omega), if_true, if_false]
  simp only [c43, e43_0, e43_1, e43_2, e43_5, e43_8, e43_9, s44, not_true_eq_false, not_false_eq_true, if_true, if_false, and_self, vh_bds, vh_ps1, vh_ps0, vb0, vb1, vbz, vbo]
theorem ch1 {c : Nat} (h : c < 256) : ((nI c &&& 255).toUInt32 % 65536).toInt32 = nI c := by
  rw [pk_char, pk_andN (by omega) 8 (by decide), pk_tn (by omega)]
  congr 1
  omega
theorem s42 {j : Nat} (hi : i < 12) (hj : j < (wdS i).length) : vh_C 42 [.ref (1000 + i + 1000), .int (nI j)] w = some (some (.int (nI ((wdS i).getD j 0))), w) := by
  have h := wdS_len i hi
  have h2 := wdS_byt i hi j (by omega) hj
  have hc := (pk_charN (show (wdS i).getD j 0 < 65536 by omega)).1
  have hx : vh_ix (nI j) (wdS i).length = true := by
    unfold vh_ix
    rw [decide_eq_true_iff]
    rintro (z | z)
    · exact nI_pos (by omega) z
    · rw [nI_clamp (by omega)] at z; omega
  simp only [c42, e42_0, e42_1, e42_2, e42_3, e42_6, e42_7, e42_8, e42_9, e42_12, e42_13, e42_14, okS2 i hi, sub2000, h.1, show Int32.ofNat (wdS i).length = nI (wdS i).length from rfl, s43 hj (show (wdS i).length < 1000 by omega), hx, clK (show j < 1000 by omega), h2.1, ch1 h2.2, hc, not_true_eq_false, not_false_eq_true, if_true, if_false, and_self, vh_bds, vh_ps1, vh_ps0, vb0, vb1, vbz, vbo]
theorem s40 {j : Nat} (hi : i < 12) (hj : j < (wdS i).length) : vh_C 40 [.ref (1000 + i), .int (nI j)] w = some (some (.int (nI ((wdS i).getD j 0))), w) := by
  have s41 : vh_C 41 [.ref (1000 + i)] w = some (some (.int 1), w) := by
    simp only [c41, e41_0, e41_3, e41_6, e41_7, e41_10, e41_13, e41_14, e41_17, e41_18, okS1 i hi, show ¬ (1 : Int32) = 0 by decide, not_true_eq_false, if_false, vbo]
  have h := wdS_len i hi
  have h2 := wdS_byt i hi j (by omega) hj
  have hc := (pk_charN (show (wdS i).getD j 0 < 65536 by omega)).1
  simp only [c40, e40_0, e40_1, e40_4, e40_7, e40_8, e40_11, e40_12, e40_15, e40_16, e40_17, e40_20, okS1 i hi, s41, s42 hi hj, hc, show ¬ (1 : Int32) = 0 by decide, not_true_eq_false, not_false_eq_true, if_true, if_false, and_self, vh_bds, vh_ps1, vh_ps0, vb0, vb1, vbz, vbo]
end
def eqW (T : Nat → Nat) (B : Nat) (cb : Nat → Nat) : Nat → Nat → Bool
  | 0, _ => true
  | r + 1, i => decide (T (B + i) = cb i) && eqW T B cb r (i + 1)
theorem eqW_i {T : Nat → Nat} {B : Nat} {cb : Nat → Nat} : ∀ {r i : Nat}, eqW T B cb r i = true ↔ ∀ j, i ≤ j → j < i + r → T (B + j) = cb j := by
  intro r
  induction r with
  | zero => intro i; exact ⟨fun _ j h1 h2 => by omega, fun _ => rfl⟩
  | succ r ih =>
    intro i
    unfold eqW
    rw [Bool.and_eq_true, decide_eq_true_iff, ih]
    constructor
    · rintro ⟨h1, h2⟩ j h3 h4
      by_cases e : j = i
      · rw [e]; exact h1
      · exact h2 j (by omega) (by omega)
    · intro h
      exact ⟨h i (Nat.le_refl _) (by omega), fun j h1 h2 => h j (by omega) (by omega)⟩
section
variable {d : Nat} {mi : Nat → Nat → Int32} {ml : Nat → Nat → Int64} {N : Nat} {T : Nat → Nat} {q i : Nat}
theorem l37 {B : Nat} (hi : i < 12) (hT : TpC N T mi) (h3 : mi 22 3 = nI B) (hB : B + (wdS i).length ≤ N) : ∀ (r j : Nat), j + r = (wdS i).length → vh_E 37 28 [some (.ref 22), some (.ref (1000 + i)), some (.int (nI j))] [] (vh_K d mi ml) = some (some (.int (vb (eqW T B (fun j => (wdS i).getD j 0) r j = true))), vh_K d mi ml) := by
  have h := wdS_len i hi
  have hN := hT.1
  intro r
  induction r with
  | zero =>
    intro j hj
    simp only [e37_28, e37_29, e37_30, e37_33, e37_63, e37_64, okS1 i hi, s38 hi, nI_le (show (wdS i).length ≤ j by omega) (show j < 2 ^ 31 by omega), not_true_eq_false, not_false_eq_true, if_true, if_false, and_self, vh_bds, vh_ps1, vh_ps0, vb0, vb1, vbz, vbo]
    rfl
  | succ r ih =>
    intro j hj
    have hjl : j < (wdS i).length := by omega
    have h2 := wdS_byt i hi j (by omega) hjl
    have hc := hT.2.2.2 (B + j)
    rw [e37_28]
    simp only [e37_0, e37_1, e37_4, e37_5, e37_8, e37_9, e37_12, e37_13, e37_16, e37_17, e37_18, e37_21, e37_24, e37_25, e37_26, e37_27, e37_29, e37_30, e37_33, e37_36, e37_37, e37_40, e37_41, e37_44, e37_45, e37_46, e37_47, e37_48, e37_49, e37_52, e37_55, e37_56, e37_57, e37_60, e37_63, e37_64, okS1 i hi, s38 hi, s40 hi hjl, ok22, ok23, rf22_0, h3, nI_add, okx23 (show B + j < 400 by omega), clK (show B + j < 1000 by omega), hT.2.2.1 (B + j) (by omega), nI_ge hjl (show (wdS i).length < 2 ^ 31 by omega), nI_eq (show T (B + j) < 2 ^ 31 by omega) (show (wdS i).getD j 0 < 2 ^ 31 by omega), nI_1, not_true_eq_false, not_false_eq_true, if_true, if_false, and_self, vh_bds, vh_ps1, vh_ps0, vb0, vb1, vbz, vbo]
    by_cases e : T (B + j) = (wdS i).getD j 0
    · rw [if_pos e, ih (j + 1) (by omega)]
      refine retI (vbc ?_)
      show _ ↔ (decide _ && _) = true
      rw [Bool.and_eq_true, decide_eq_true_iff]
      exact ⟨fun z => ⟨e, z⟩, fun z => z.2⟩
    · rw [if_neg e, vb_f (show ¬ eqW T B (fun j => (wdS i).getD j 0) (r + 1) j = true from fun z => by
        have : (decide (T (B + j) = (wdS i).getD j 0) && eqW T B (fun j => (wdS i).getD j 0) r (j + 1)) = true := z
        rw [Bool.and_eq_true, decide_eq_true_iff] at this
        exact e this.1)]
theorem tkL_n (h : ¬ tkK N T q = 1) : tkL N T q = [] := if_neg h
theorem tkL_e {l : List Nat} (h : tkK N T q = 1) : tkL N T q = l ↔ tkE N T q - tkB N T q = l.length ∧ ∀ j, j < l.length → T (tkB N T q + j) = l.getD j 0 := by
  have e : tkL N T q = (List.range (tkE N T q - tkB N T q)).map (fun j => T (tkB N T q + j)) := if_pos h
  rw [e]
  constructor
  · intro z
    refine ⟨by rw [← z]; simp, ?_⟩
    intro j hj
    rw [← z] at hj ⊢
    simp only [List.length_map, List.length_range] at hj
    rw [List.getD_eq_getElem?_getD, List.getElem?_map, List.getElem?_range hj]
    rfl
  · rintro ⟨z1, z2⟩
    apply List.ext_getElem?
    intro j
    rw [List.getElem?_map]
    by_cases hj : j < l.length
    · rw [List.getElem?_range (by omega), List.getElem?_eq_getElem hj]
      have := z2 j hj
      rw [List.getD_eq_getElem?_getD, List.getElem?_eq_getElem hj] at this
      show some (T _) = _
      rw [this]; rfl
    · rw [List.getElem?_eq_none (show (List.range (tkE N T q - tkB N T q)).length ≤ j by rw [List.length_range]; omega), List.getElem?_eq_none (show l.length ≤ j by omega)]; rfl
theorem s37 (hi : i < 12) (hT : TpC N T mi) (hk : TkC N T q (mi 22)) (hq : q ≤ N) : vh_C 37 [.ref 22, .ref (1000 + i)] (vh_K d mi ml) = some (some (.int (vb (tkL N T q = wdS i))), vh_K d mi ml) := by
  have h := wdS_len i hi
  have hN := hT.1
  obtain ⟨k2, k3, k4⟩ := hk
  obtain ⟨b1, b2⟩ := tk_b (T := T) hq
  obtain ⟨c1, c2, c3⟩ := tk_e (T := T) hq
  have hle := tk_le (N := N) (T := T) (q := q)
  have e1 : nI (tkK N T q) = 1 ↔ tkK N T q = 1 := nI_eq (b := 1) (by omega) (by decide)
  simp only [c37, e37_0, e37_1, e37_4, e37_5, e37_8, e37_9, e37_12, e37_13, e37_16, e37_17, e37_18, e37_21, e37_24, e37_25, e37_27, e37_28, e37_29, e37_30, e37_33, e37_36, e37_37, e37_40, e37_41, e37_44, e37_45, e37_46, e37_47, e37_48, e37_49, e37_52, e37_55, e37_56, e37_57, e37_60, e37_63, e37_64, ok22, k2, k3, k4, pk_sub c1, okS1 i hi, s38 hi, e1, nI_eq (show tkE N T q - tkB N T q < 2 ^ 31 by omega) (show (wdS i).length < 2 ^ 31 by omega), not_true_eq_false, not_false_eq_true, if_true, if_false, and_self, vh_bds, vh_ps1, vh_ps0, vb0, vb1, vbz, vbo]
  by_cases q1 : tkK N T q = 1
  · rw [if_neg (not_not_intro q1)]
    by_cases q2 : tkE N T q - tkB N T q = (wdS i).length
    · rw [if_pos q2]
      simp only [e37_26, e37_27]
      rw [show (0 : Int32) = nI 0 from rfl, l37 (B := tkB N T q) hi hT k3 (by omega) (wdS i).length 0 (by omega)]
      refine retI (vbc ?_)
      rw [eqW_i, tkL_e q1]
      exact ⟨fun z => ⟨q2, fun j hj => z j (Nat.zero_le _) (by omega)⟩, fun z j _ hj => z.2 j (by omega)⟩
    · rw [if_neg q2, vb_f (fun z => q2 ((tkL_e q1).mp z).1)]
  · rw [if_pos q1, vb_f (fun z => by
      rw [tkL_n q1] at z
      rw [← z] at h
      simp at h)]
end

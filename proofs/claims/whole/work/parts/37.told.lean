/-! BITS -/
theorem sm32 : ∀ k, k < 32 → ((nI k).toBitVec.smod 32).toNat = k := by decide +kernel
theorem a31 {k : Nat} (hk : k < 32) : nI k &&& 31 = nI k := by rw [pk_andN (by omega) 5 (by decide), Nat.mod_eq_of_lt (by omega)]
theorem vbe {p : Prop} [Decidable p] : (vb p = 1) = p := by
  unfold vb
  split <;> rename_i h <;> simp [h]
theorem bt {M k : Nat} (hM : M < 2 ^ 31) (hk : k < 31) : nI M >>> (nI k &&& 31) &&& 1 = vb (M.testBit k = true) := by
  rw [a31 (by omega), pk_shrN hM _ k (sm32 k (by omega)), pk_andN (Nat.lt_of_le_of_lt (Nat.div_le_self _ _) (by omega)) 1 (by decide), Nat.testBit_eq_decide_div_mod_eq]
  have := Nat.mod_lt (M / 2 ^ k) (show 0 < 2 by decide)
  unfold vb
  simp only [decide_eq_true_eq]
  rcases (show M / 2 ^ k % 2 = 0 ∨ M / 2 ^ k % 2 = 1 by omega) with h | h
  · rw [show M / 2 ^ k % 2 ^ 1 = 0 from h, if_neg (by omega)]; rfl
  · rw [show M / 2 ^ k % 2 ^ 1 = 1 from h, if_pos rfl]; rfl
theorem p16 {k : Nat} (hk : k < 16) : 2 ^ k < 2 ^ 16 := Nat.pow_lt_pow_right (by decide) hk
theorem sh1 {k : Nat} (hk : k < 16) : (1 : Int32) <<< (nI k &&& 31) = nI (2 ^ k) := by
  have := p16 hk
  rw [a31 (by omega), show (1 : Int32) = nI 1 from rfl, pk_shlN (nI k) k (sm32 k (by omega)) (by omega), Nat.one_mul]
theorem orN {a b : Nat} (ha : a < 2 ^ 31) (hb : b < 2 ^ 31) : nI a ||| nI b = nI (a ||| b) := by
  have := Nat.or_lt_two_pow ha hb
  apply Int32.toBitVec_inj.mp
  apply BitVec.eq_of_toNat_eq
  rw [Int32.toBitVec_or, BitVec.toNat_or, pk_tn (by omega), pk_tn (by omega), pk_tn (by omega)]
theorem sbt {M k : Nat} (hM : M < 2 ^ 16) (hk : k < 16) : nI M ||| (1 <<< (nI k &&& 31)) = nI (M ||| 2 ^ k) := by
  have := p16 hk
  rw [sh1 hk, orN (by omega) (by omega)]
theorem sbl {M k : Nat} (hM : M < 2 ^ 16) (hk : k < 16) : M ||| 2 ^ k < 2 ^ 16 := Nat.or_lt_two_pow hM (p16 hk)
/-! ACCESS -/
section
variable {d : Nat} {mi : Nat → Nat → Int32} {ml : Nat → Nat → Int64} {n k h : Nat} {b g : Nat → Nat → Nat}
theorem DiC.sz (H : DiC mi n b g) : mi 42 5 = nI n := H.1
theorem DiC.f0 (H : DiC mi n b g) (hk : k < n) : mi (47 + k) 0 = nI (b k 0) := H.2.1 k hk 0 (by decide)
theorem DiM.f0 (H : DiM mi n b g) (hk : k < n) : mi 100 (9 * k + 0) = nI (b k 0) := H.2.1 k hk 0 (by decide)
theorem DiC.f1 (H : DiC mi n b g) (hk : k < n) : mi (47 + k) 1 = nI (b k 1) := H.2.1 k hk 1 (by decide)
theorem DiM.f1 (H : DiM mi n b g) (hk : k < n) : mi 100 (9 * k + 1) = nI (b k 1) := H.2.1 k hk 1 (by decide)
theorem DiC.f2 (H : DiC mi n b g) (hk : k < n) : mi (47 + k) 2 = nI (b k 2) := H.2.1 k hk 2 (by decide)
theorem DiM.f2 (H : DiM mi n b g) (hk : k < n) : mi 100 (9 * k + 2) = nI (b k 2) := H.2.1 k hk 2 (by decide)
theorem DiC.f3 (H : DiC mi n b g) (hk : k < n) : mi (47 + k) 3 = nI (b k 3) := H.2.1 k hk 3 (by decide)
theorem DiM.f3 (H : DiM mi n b g) (hk : k < n) : mi 100 (9 * k + 3) = nI (b k 3) := H.2.1 k hk 3 (by decide)
theorem DiC.f4 (H : DiC mi n b g) (hk : k < n) : mi (47 + k) 4 = nI (b k 4) := H.2.1 k hk 4 (by decide)
theorem DiM.f4 (H : DiM mi n b g) (hk : k < n) : mi 100 (9 * k + 4) = nI (b k 4) := H.2.1 k hk 4 (by decide)
theorem DiC.f5 (H : DiC mi n b g) (hk : k < n) : mi (47 + k) 5 = nI (b k 5) := H.2.1 k hk 5 (by decide)
theorem DiM.f5 (H : DiM mi n b g) (hk : k < n) : mi 100 (9 * k + 5) = nI (b k 5) := H.2.1 k hk 5 (by decide)
theorem DiC.f6 (H : DiC mi n b g) (hk : k < n) : mi (47 + k) 6 = nI (b k 6) := H.2.1 k hk 6 (by decide)
theorem DiM.f6 (H : DiM mi n b g) (hk : k < n) : mi 100 (9 * k + 6) = nI (b k 6) := H.2.1 k hk 6 (by decide)
theorem DiC.f7 (H : DiC mi n b g) (hk : k < n) : mi (47 + k) 7 = nI (b k 7) := H.2.1 k hk 7 (by decide)
theorem DiM.f7 (H : DiM mi n b g) (hk : k < n) : mi 100 (9 * k + 7) = nI (b k 7) := H.2.1 k hk 7 (by decide)
theorem DiC.f8 (H : DiC mi n b g) (hk : k < n) : mi (47 + k) 8 = nI (b k 8) := H.2.1 k hk 8 (by decide)
theorem DiM.f8 (H : DiM mi n b g) (hk : k < n) : mi 100 (9 * k + 8) = nI (b k 8) := H.2.1 k hk 8 (by decide)
theorem DiC.f9 (H : DiC mi n b g) (hk : k < 16) : mi (47 + k) 9 = canI (b k 9) := H.2.2.1 k hk
theorem DiM.f9 (H : DiM mi n b g) (hk : k < n) : mi 101 k = canI (b k 9) := H.2.2.1 k hk
theorem DiM.sz (H : DiM mi n b g) : mi 88 24 = nI n := H.1
theorem DiC.h0 (H : DiC mi n b g) (hh : h < 4) : mi (6 + 4 * h) 0 = nI (g h 0) := (H.2.2.2 h hh).1 0 (by decide)
theorem DiC.h1 (H : DiC mi n b g) (hh : h < 4) : mi (6 + 4 * h) 1 = nI (g h 1) := (H.2.2.2 h hh).1 1 (by decide)
theorem DiC.h2 (H : DiC mi n b g) (hh : h < 4) : mi (6 + 4 * h) 2 = nI (g h 2) := (H.2.2.2 h hh).1 2 (by decide)
theorem DiC.h3 (H : DiC mi n b g) (hh : h < 4) : mi (6 + 4 * h) 3 = nI (g h 3) := (H.2.2.2 h hh).1 3 (by decide)
theorem DiM.h0 (H : DiM mi n b g) (hh : h < 4) : mi 89 h = nI (g h 0) := (H.2.2.2 h hh).1.1
theorem DiM.h1 (H : DiM mi n b g) (hh : h < 4) : mi 90 h = nI (g h 1) := (H.2.2.2 h hh).1.2.1
theorem DiM.h2 (H : DiM mi n b g) (hh : h < 4) : mi 91 h = nI (g h 2) := (H.2.2.2 h hh).1.2.2.1
theorem DiM.h3 (H : DiM mi n b g) (hh : h < 4) : mi 92 h = nI (g h 3) := (H.2.2.2 h hh).1.2.2.2
theorem DiC.fi {f : Nat} (H : DiC mi n b g) (hh : h < 4) (hf : f < 2) : mi (7 + 4 * h) f = nI (g h (4 + f)) := (H.2.2.2 h hh).2.1 f hf
theorem DiM.fi {f : Nat} (H : DiM mi n b g) (hh : h < 4) (hf : f < 2) : mi 93 (2 * h + f) = nI (g h (4 + f)) := (H.2.2.2 h hh).2.1 f hf
theorem DiC.ra {u : Nat} (H : DiC mi n b g) (hh : h < 4) (hf : u < 5) : mi (8 + 4 * h) u = nI (g h (10 + u)) := (H.2.2.2 h hh).2.2.1 u hf
theorem DiM.ra {u : Nat} (H : DiM mi n b g) (hh : h < 4) (hf : u < 5) : mi 94 (5 * h + u) = nI (g h (10 + u)) := (H.2.2.2 h hh).2.2.1 u hf
theorem DiC.rk {u : Nat} (H : DiC mi n b g) (hh : h < 4) (hf : u < 5) : mi (9 + 4 * h) u = nI (g h (20 + u)) := (H.2.2.2 h hh).2.2.2 u hf
theorem DiM.rk {u : Nat} (H : DiM mi n b g) (hh : h < 4) (hf : u < 5) : mi 95 (5 * h + u) = nI (g h (20 + u)) := (H.2.2.2 h hh).2.2.2 u hf
/-- cells that neither stands on -/
theorem DiC.fr {a : Nat} {f : Nat → Int32} (H : DiC mi n b g) (hn : n ≤ 16) (ha : a < 6 ∨ (22 ≤ a ∧ a < 42) ∨ (43 ≤ a ∧ a < 47) ∨ 63 ≤ a) : DiC (vh_sA mi a f) n b g := by
  obtain ⟨h1, h2, h3, h4⟩ := H
  refine ⟨by rw [sAn (by omega)]; exact h1, ?_, ?_, ?_⟩
  · intro k hk f hf
    rw [sAn (by omega)]; exact h2 k hk f hf
  · intro k hk
    rw [sAn (by omega)]; exact h3 k hk
  · intro h hh
    rw [sAn (by omega), sAn (by omega), sAn (by omega), sAn (by omega)]; exact h4 h hh
theorem DiM.fr {a : Nat} {f : Nat → Int32} (H : DiM mi n b g) (ha : a < 88 ∨ (96 ≤ a ∧ a < 100) ∨ 102 ≤ a) : DiM (vh_sA mi a f) n b g := by
  obtain ⟨h1, h2, h3, h4⟩ := H
  refine ⟨by rw [sAn (by omega)]; exact h1, ?_, ?_, ?_⟩
  · intro k hk f hf
    rw [sAn (by omega)]; exact h2 k hk f hf
  · intro k hk
    rw [sAn (by omega)]; exact h3 k hk
  · intro h hh
    rw [sAn (by omega), sAn (by omega), sAn (by omega), sAn (by omega), sAn (by omega), sAn (by omega), sAn (by omega)]; exact h4 h hh
theorem DiM.fr8 {f : Nat → Int32} (H : DiM mi n b g) (hf : f 24 = mi 88 24) : DiM (vh_sA mi 88 f) n b g := by
  obtain ⟨h1, h2, h3, h4⟩ := H
  refine ⟨by rw [sAs, hf]; exact h1, ?_, ?_, ?_⟩
  · intro k hk f hf
    rw [sAn (by omega)]; exact h2 k hk f hf
  · intro k hk
    rw [sAn (by omega)]; exact h3 k hk
  · intro h hh
    rw [sAn (by omega), sAn (by omega), sAn (by omega), sAn (by omega), sAn (by omega), sAn (by omega), sAn (by omega)]; exact h4 h hh
theorem DiM.thr (H : DiM mi n b g) : DiM (vh_sA mi 88 (upd (mi 88) 0 0)) n b g := H.fr8 (upn (by decide))
/-! PRICE, TOLD -/
def prI (g : Nat → Nat → Nat) (p : Nat → Nat) : Int32 :=
  if canI (p 9) = -1000000 then (nI (p 4) - nI (p 3)) * nI (g (p 0) (10 + p 6)) else if nI (g (p 0) 2) ≤ nI (p 2) - canI (p 9) then 0 else (nI (p 4) - nI (p 3)) * nI (g (p 0) (10 + p 6)) * nI (g (p 0) 3) / 100
theorem s75 (H : DiC mi n b g) (B : DiB n b g) (hk : k < n) : vh_C 75 [.ref 42, .ref (47 + k)] (vh_K d mi ml) = some (some (.int (prI g (b k))), vh_K d mi ml) := by
  have hk6 : k < 16 := by have := B.1; omega
  have h0 : b k 0 < 4 := by have := (B.2.1 k hk).1; omega
  have h6 : b k 6 < 5 := by have := (B.2.1 k hk).2.2.2.2.2.2.2.1; omega
  have hx : vh_ixa (8 + 4 * b k 0) (nI (b k 6)) = true := ixa (by rw [kdHr h0]; exact h6) (by omega)
  simp only [c75, e75_0, e75_1, e75_4, e75_5, e75_8, e75_9, e75_10, e75_11, e75_14, e75_15, e75_18, e75_19, e75_20, e75_23, e75_24, e75_27, e75_28, e75_29, e75_30, e75_31, e75_34, e75_36, e75_39, e75_40, e75_41, e75_42, e75_45, e75_46, e75_49, e75_50, e75_51, e75_54, e75_57, e75_58, e75_59, e75_62, e75_63, e75_65, e75_66, e75_69, e75_70, ok42, okB hk6, rf42_0, ok5, Bool.true_or, H.f0 hk, H.f4 hk, H.f3 hk, H.f6 hk, H.f2 hk, H.f9 hk6, ixH h0, clK (show b k 0 < 1000 by omega), clK (show b k 6 < 1000 by omega), rfH h0, okH h0, rfHr h0, okHr h0, hx, H.ra h0 h6, H.h2 h0, H.h3 h0, show ¬ (100 : Int32) = 0 by decide, not_true_eq_false, not_false_eq_true, if_true, if_false, and_self, vh_bds, vh_ps1, vh_ps0, vb0, vb1, vbz, vbo]
  unfold prI
  by_cases q : canI (b k 9) = -1000000
  · rw [if_pos q, if_neg (not_not_intro q)]
  · rw [if_neg q, if_pos q]
    by_cases q2 : nI (g (b k 0) 2) ≤ nI (b k 2) - canI (b k 9)
    · rw [if_pos q2, if_pos q2]
    · rw [if_neg q2, if_neg q2]
theorem s179 (H : DiM mi n b g) (B : DiB n b g) (hk : k < n) : vh_C 179 [.ref 88, .int (nI k)] (vh_K d mi ml) = some (some (.int (prI g (b k))), vh_K d mi ml) := by
  have hk6 : k < 16 := by have := B.1; omega
  have h0 : b k 0 < 4 := by have := (B.2.1 k hk).1; omega
  have h6 : b k 6 < 5 := by have := (B.2.1 k hk).2.2.2.2.2.2.2.1; omega
  have e : (5 : Int32) * nI (b k 0) + nI (b k 6) = nI (5 * b k 0 + b k 6) := by rw [show (5 : Int32) = nI 5 from rfl, pk_mul, nI_add]
  have x1 : vh_ixa 94 (nI (5 * b k 0 + b k 6)) = true := ixa (by rw [kd94]; omega) (by omega)
  have x2 : vh_ixa 91 (nI (b k 0)) = true := ixa (by rw [kd91]; omega) (by omega)
  have x3 : vh_ixa 92 (nI (b k 0)) = true := ixa (by rw [kd92]; omega) (by omega)
  simp only [c179, e179_0, e179_1, e179_2, e179_3, e179_6, e179_7, e179_8, e179_9, e179_10, e179_13, e179_14, e179_15, e179_16, e179_19, e179_20, e179_21, e179_24, e179_25, e179_26, e179_27, e179_28, e179_29, e179_31, e179_34, e179_35, e179_36, e179_37, e179_38, e179_39, e179_42, e179_43, e179_44, e179_46, e179_49, e179_50, e179_53, e179_54, e179_55, e179_56, e179_59, e179_60, e179_63, e179_64, e179_65, e179_66, e179_67, e179_70, e179_71, e179_72, e179_75, e179_76, e179_77, e179_80, e179_81, e179_82, e179_83, e179_85, e179_86, e179_89, e179_90, s177_0 hk6, s177_4 hk6, s177_3 hk6, s177_6 hk6, s177_2 hk6, H.f0 hk, H.f4 hk, H.f3 hk, H.f6 hk, H.f2 hk, H.f9 hk, ok88, ok94, ok91, ok92, ok101, rf88_7, rf88_26, rf88_4, rf88_5, ixC hk6, e, x1, x2, x3, clK (show k < 1000 by omega), clK (show b k 0 < 1000 by omega), clK (show 5 * b k 0 + b k 6 < 1000 by omega), H.ra h0 h6, H.h2 h0, H.h3 h0, show ¬ (100 : Int32) = 0 by decide, not_true_eq_false, not_false_eq_true, if_true, if_false, and_self, vh_bds, vh_ps1, vh_ps0, vb0, vb1, vbz, vbo]
  unfold prI
  by_cases q : canI (b k 9) = -1000000
  · rw [if_pos q, if_neg (not_not_intro q)]
  · rw [if_neg q, if_pos q]
    by_cases q2 : nI (g (b k 0) 2) ≤ nI (b k 2) - canI (b k 9)
    · rw [if_pos q2, if_pos q2]
    · rw [if_neg q2, if_neg q2]
end

theorem Rel.cong {d : Nat} {mi mj : Nat → Nat → Int32} (hR : Rel d mi) (h1 : ∀ a, a < 86 → a ≠ 44 → a ≠ 45 → mj a = mi a) (h2 : ∀ a, 88 < a → a < 121 → mj a = mi a) (h3 : ∀ f, f ≠ 0 → f ≠ 53 → mj 88 f = mi 88 f) (h4 : RAs (mj 86 1) (mj 87) (mj 88 53) (mj 121)) : Rel d mj := by
  have hb : bkv mj = bkv mi := by
    funext k
    unfold bkv
    by_cases hk : k < 16
    · rw [if_pos hk, if_pos hk, h1 _ (by omega) (by omega) (by omega)]
    · rw [if_neg hk, if_neg hk]
  have hl : ∀ c, 6 ≤ c → c < 10 → hlv mj c = hlv mi c := by
    intro c c1 c2
    funext k
    unfold hlv
    by_cases hk : k < 4
    · rw [if_pos hk, if_pos hk, h1 _ (by omega) (by omega) (by omega)]
    · rw [if_neg hk, if_neg hk]
  unfold Rel at hR ⊢
  rw [hb, hl 6 (by decide) (by decide), hl 7 (by decide) (by decide), hl 8 (by decide) (by decide), hl 9 (by decide) (by decide)]
  rw [h3 27 (by decide) (by decide), h3 1 (by decide) (by decide), h3 13 (by decide) (by decide), h3 14 (by decide) (by decide), h3 24 (by decide) (by decide), h3 33 (by decide) (by decide), h3 37 (by decide) (by decide), h3 42 (by decide) (by decide), h3 46 (by decide) (by decide)]
  rw [h1 0 (by decide) (by decide) (by decide)]
  rw [h1 2 (by decide) (by decide) (by decide)]
  rw [h1 3 (by decide) (by decide) (by decide)]
  rw [h1 4 (by decide) (by decide) (by decide)]
  rw [h1 22 (by decide) (by decide) (by decide)]
  rw [h1 23 (by decide) (by decide) (by decide)]
  rw [h1 24 (by decide) (by decide) (by decide)]
  rw [h1 42 (by decide) (by decide) (by decide)]
  rw [h1 67 (by decide) (by decide) (by decide)]
  rw [h1 68 (by decide) (by decide) (by decide)]
  rw [h1 69 (by decide) (by decide) (by decide)]
  rw [h1 70 (by decide) (by decide) (by decide)]
  rw [h1 71 (by decide) (by decide) (by decide)]
  rw [h1 72 (by decide) (by decide) (by decide)]
  rw [h1 73 (by decide) (by decide) (by decide)]
  rw [h1 74 (by decide) (by decide) (by decide)]
  rw [h1 75 (by decide) (by decide) (by decide)]
  rw [h1 76 (by decide) (by decide) (by decide)]
  rw [h1 77 (by decide) (by decide) (by decide)]
  rw [h1 78 (by decide) (by decide) (by decide)]
  rw [h1 79 (by decide) (by decide) (by decide)]
  rw [h1 80 (by decide) (by decide) (by decide)]
  rw [h1 81 (by decide) (by decide) (by decide)]
  rw [h1 82 (by decide) (by decide) (by decide)]
  rw [h1 83 (by decide) (by decide) (by decide)]
  rw [h1 84 (by decide) (by decide) (by decide)]
  rw [h1 85 (by decide) (by decide) (by decide)]
  rw [h2 89 (by decide) (by decide)]
  rw [h2 90 (by decide) (by decide)]
  rw [h2 91 (by decide) (by decide)]
  rw [h2 92 (by decide) (by decide)]
  rw [h2 93 (by decide) (by decide)]
  rw [h2 94 (by decide) (by decide)]
  rw [h2 95 (by decide) (by decide)]
  rw [h2 96 (by decide) (by decide)]
  rw [h2 97 (by decide) (by decide)]
  rw [h2 98 (by decide) (by decide)]
  rw [h2 99 (by decide) (by decide)]
  rw [h2 100 (by decide) (by decide)]
  rw [h2 101 (by decide) (by decide)]
  rw [h2 106 (by decide) (by decide)]
  rw [h2 107 (by decide) (by decide)]
  rw [h2 108 (by decide) (by decide)]
  rw [h2 109 (by decide) (by decide)]
  rw [h2 110 (by decide) (by decide)]
  rw [h2 111 (by decide) (by decide)]
  rw [h2 112 (by decide) (by decide)]
  rw [h2 113 (by decide) (by decide)]
  rw [h2 114 (by decide) (by decide)]
  rw [h2 115 (by decide) (by decide)]
  rw [h2 117 (by decide) (by decide)]
  rw [h2 118 (by decide) (by decide)]
  rw [h2 119 (by decide) (by decide)]
  rw [h2 120 (by decide) (by decide)]
  exact ⟨hR.1, hR.2.1, hR.2.2.1, hR.2.2.2.1, hR.2.2.2.2.1, hR.2.2.2.2.2.1, hR.2.2.2.2.2.2.1, hR.2.2.2.2.2.2.2.1, hR.2.2.2.2.2.2.2.2.1, hR.2.2.2.2.2.2.2.2.2.1, hR.2.2.2.2.2.2.2.2.2.2.1, hR.2.2.2.2.2.2.2.2.2.2.2.1, h4⟩
/-! ASKS -/
def beg (mi : Nat → Nat → Int32) (v : Int32) : Nat → Nat → Int32 := vh_sA (vh_sA mi 87 (upd (mi 87) (mi 86 1).toNatClampNeg v)) 86 (upd (mi 86) 1 (mi 86 1 + 1))
def begR (mi : Nat → Nat → Int32) (v : Int32) : Nat → Nat → Int32 := vh_sA (vh_sA mi 121 (upd (mi 121) (mi 88 53).toNatClampNeg v)) 88 (upd (mi 88) 53 (mi 88 53 + 1))
theorem beg_sz {mi : Nat → Nat → Int32} {v : Int32} {c : Nat} (h : mi 86 1 = nI c) : beg mi v 86 1 = nI (c + 1) := by unfold beg; rw [sAs, ups, h, nI_1]
theorem begR_sz {mi : Nat → Nat → Int32} {v : Int32} {c : Nat} (h : mi 88 53 = nI c) : begR mi v 88 53 = nI (c + 1) := by unfold begR; rw [sAs, ups, h, nI_1]
theorem beg_f {mi : Nat → Nat → Int32} {v : Int32} {f : Nat} (h : f ≠ 1) : beg mi v 86 f = mi 86 f := by unfold beg; rw [sAs, upn h]
theorem beg_o {mi : Nat → Nat → Int32} {v : Int32} {a : Nat} (h : a ≠ 86) (h2 : a ≠ 87) : beg mi v a = mi a := by unfold beg; rw [sAn h, sAn h2]
theorem begR_f {mi : Nat → Nat → Int32} {v : Int32} {f : Nat} (h : f ≠ 53) : begR mi v 88 f = mi 88 f := by unfold begR; rw [sAs, upn h]
theorem begR_o {mi : Nat → Nat → Int32} {v : Int32} {a : Nat} (h : a ≠ 88) (h2 : a ≠ 121) : begR mi v a = mi a := by unfold begR; rw [sAn h, sAn h2]
theorem begs_ok : ∀ (l : List Int32) (c : Nat) (mi : Nat → Nat → Int32), mi 86 1 = nI c → c + l.length ≤ 16 → (l.foldl beg mi) 86 1 = nI (c + l.length) ∧ (∀ i, i < c → (l.foldl beg mi) 87 i = mi 87 i) ∧ (∀ i x, l[i]? = some x → (l.foldl beg mi) 87 (c + i) = x) ∧ (∀ a, a ≠ 86 → a ≠ 87 → (l.foldl beg mi) a = mi a) := by
  intro l
  induction l with
  | nil => intro c mi h1 h2; exact ⟨h1, fun i _ => rfl, fun i x h => by simp at h, fun a _ _ => rfl⟩
  | cons y l ih =>
    intro c mi h1 h2
    rw [List.length_cons] at h2
    rw [List.foldl_cons]
    obtain ⟨g1, g2, g3, g4⟩ := ih (c + 1) (beg mi y) (beg_sz h1) (by omega)
    refine ⟨by rw [g1, List.length_cons]; congr 1; omega, ?_, ?_, ?_⟩
    · intro i hi
      rw [g2 i (by omega)]
      unfold beg
      rw [sAn (by decide), sAs, h1, nI_clamp (by omega), upn (by omega)]
    · intro i x hx
      cases i with
      | zero =>
        rw [Nat.add_zero, g2 c (by omega)]
        unfold beg
        rw [sAn (by decide), sAs, h1, nI_clamp (by omega), ups]
        simpa using hx
      | succ i =>
        rw [show c + (i + 1) = c + 1 + i by omega]
        exact g3 i x (by simpa using hx)
    · intro a ha hb
      rw [g4 a ha hb, beg_o ha hb]
theorem begRs_ok : ∀ (l : List Int32) (c : Nat) (mi : Nat → Nat → Int32), mi 88 53 = nI c → c + l.length ≤ 16 → (l.foldl begR mi) 88 53 = nI (c + l.length) ∧ (∀ i, i < c → (l.foldl begR mi) 121 i = mi 121 i) ∧ (∀ i x, l[i]? = some x → (l.foldl begR mi) 121 (c + i) = x) ∧ (∀ a, a ≠ 88 → a ≠ 121 → (l.foldl begR mi) a = mi a) ∧ (∀ f, f ≠ 53 → (l.foldl begR mi) 88 f = mi 88 f) := by
  intro l
  induction l with
  | nil => intro c mi h1 h2; exact ⟨h1, fun i _ => rfl, fun i x h => by simp at h, fun a _ _ => rfl, fun f _ => rfl⟩
  | cons y l ih =>
    intro c mi h1 h2
    rw [List.length_cons] at h2
    rw [List.foldl_cons]
    obtain ⟨g1, g2, g3, g4, g5⟩ := ih (c + 1) (begR mi y) (begR_sz h1) (by omega)
    refine ⟨by rw [g1, List.length_cons]; congr 1; omega, ?_, ?_, ?_, ?_⟩
    · intro i hi
      rw [g2 i (by omega)]
      unfold begR
      rw [sAn (by decide), sAs, h1, nI_clamp (by omega), upn (by omega)]
    · intro i x hx
      cases i with
      | zero =>
        rw [Nat.add_zero, g2 c (by omega)]
        unfold begR
        rw [sAn (by decide), sAs, h1, nI_clamp (by omega), ups]
        simpa using hx
      | succ i =>
        rw [show c + (i + 1) = c + 1 + i by omega]
        exact g3 i x (by simpa using hx)
    · intro a ha hb
      rw [g4 a ha hb, begR_o ha hb]
    · intro f hf
      rw [g5 f hf, begR_f hf]
section
variable {d : Nat} {mi : Nat → Nat → Int32} {ml : Nat → Nat → Int64} {n k h : Nat} {b g : Nat → Nat → Nat}
theorem s131 {v : Int32} {c : Nat} (h : mi 86 1 = nI c) (hc : c < 16) : vh_C 131 [.ref 86, .int v] (vh_K d mi ml) = some (none, vh_K d (beg mi v) ml) := by
  have hx : vh_ixa 87 (nI c) = true := ixa (by rw [kd87]; exact hc) (by omega)
  have hlt : ¬ (16 : Int32) ≤ nI c := nI_ge (b := 16) hc (by decide)
  simp only [c131, e131_0, e131_1, e131_4, e131_6, e131_9, e131_10, e131_13, e131_14, e131_17, e131_18, e131_19, e131_20, e131_21, e131_24, e131_25, e131_26, e131_29, ok86, ok87, rf86_0, h, hx, hlt, sAn, sAs, sAA, ups, upn, bkv_n, hlv_n, ne_eq, Nat.reduceEqDiff, Nat.reduceLT, Nat.reduceLeDiff, or_true, true_or, not_false_eq_true, not_true_eq_false, not_false_eq_true, if_true, if_false, and_self, vh_bds, vh_ps1, vh_ps0, vb0, vb1, vbz, vbo]
  unfold beg
  rw [h]
theorem s214 {v : Int32} {c : Nat} (h : mi 88 53 = nI c) (hc : c < 16) : vh_C 214 [.ref 88, .int v] (vh_K d mi ml) = some (none, vh_K d (begR mi v) ml) := by
  have hx : vh_ixa 121 (nI c) = true := ixa (by rw [kd121]; exact hc) (by omega)
  have hlt : ¬ (16 : Int32) ≤ nI c := nI_ge (b := 16) hc (by decide)
  simp only [c214, e214_0, e214_1, e214_4, e214_6, e214_9, e214_10, e214_13, e214_14, e214_17, e214_18, e214_19, e214_20, e214_21, e214_24, e214_25, e214_26, e214_29, ok88, ok121, rf88_52, h, hx, hlt, sAn, sAs, sAA, ups, upn, bkv_n, hlv_n, ne_eq, Nat.reduceEqDiff, Nat.reduceLT, Nat.reduceLeDiff, or_true, true_or, not_false_eq_true, not_true_eq_false, not_false_eq_true, if_true, if_false, and_self, vh_bds, vh_ps1, vh_ps0, vb0, vb1, vbz, vbo]
  unfold begR
  rw [h]
/-- bodies of the class -/
theorem b10 {c : Nat} (h : mi 86 1 = nI c) (hc : c < 10) : vh_C 132 [.ref 86] (vh_K d mi ml) = some (some (.int (mi 86 2)), vh_K d (beg mi 10) ml) := by
  simp only [c132, e132_0, e132_1, e132_3, e132_6, e132_7, e132_10, ok86, s131 h (show c < 16 by omega), beg_f (show 2 ≠ 1 by decide), not_true_eq_false, not_false_eq_true, if_true, if_false, and_self, vh_bds, vh_ps1, vh_ps0, vb0, vb1, vbz, vbo]
theorem b20 {c : Nat} (h : mi 86 1 = nI c) (hc : c < 10) : vh_C 135 [.ref 86] (vh_K d mi ml) = some (some (.int (mi 86 3)), vh_K d (beg mi 20) ml) := by
  simp only [c135, e135_0, e135_1, e135_3, e135_6, e135_7, e135_10, ok86, s131 h (show c < 16 by omega), beg_f (show 3 ≠ 1 by decide), not_true_eq_false, not_false_eq_true, if_true, if_false, and_self, vh_bds, vh_ps1, vh_ps0, vb0, vb1, vbz, vbo]
theorem b11 {c : Nat} (h : mi 86 1 = nI c) (hc : c < 9) : vh_C 130 [.ref 86] (vh_K d mi ml) = some (some (.int (mi 86 2 + mi 86 5)), vh_K d (beg (beg mi 11) 10) ml) := by
  simp only [c130, e130_0, e130_1, e130_3, e130_6, e130_7, e130_10, e130_11, e130_14, e130_15, ok86, s131 h (show c < 16 by omega), b10 (beg_sz (v := 11) h) (show c + 1 < 10 by omega), beg_f (show 2 ≠ 1 by decide), beg_f (show 5 ≠ 1 by decide), not_true_eq_false, not_false_eq_true, if_true, if_false, and_self, vh_bds, vh_ps1, vh_ps0, vb0, vb1, vbz, vbo]
theorem b12 {c : Nat} (h : mi 86 1 = nI c) (hc : c < 8) : vh_C 133 [.ref 86] (vh_K d mi ml) = some (some (.int ((mi 86 2 + mi 86 5) * 2)), vh_K d (beg (beg (beg mi 12) 11) 10) ml) := by
  simp only [c133, e133_0, e133_1, e133_3, e133_6, e133_7, e133_10, e133_11, e133_12, ok86, s131 h (show c < 16 by omega), b11 (beg_sz (v := 12) h) (show c + 1 < 9 by omega), beg_f (show 2 ≠ 1 by decide), beg_f (show 5 ≠ 1 by decide), not_true_eq_false, not_false_eq_true, if_true, if_false, and_self, vh_bds, vh_ps1, vh_ps0, vb0, vb1, vbz, vbo]
theorem b13 {c : Nat} (h : mi 86 1 = nI c) (hc : c < 8) : vh_C 134 [.ref 86] (vh_K d mi ml) = some (some (.int (mi 86 2 - mi 86 3)), vh_K d (beg (beg (beg mi 13) 10) 20) ml) := by
  simp only [c134, e134_0, e134_1, e134_3, e134_6, e134_7, e134_10, e134_11, e134_14, e134_15, ok86, s131 h (show c < 16 by omega), b10 (beg_sz (v := 13) h) (show c + 1 < 10 by omega), b20 (beg_sz (v := 10) (beg_sz (v := 13) h)) (show c + 1 + 1 < 10 by omega), beg_f (show 2 ≠ 1 by decide), beg_f (show 3 ≠ 1 by decide), not_true_eq_false, not_false_eq_true, if_true, if_false, and_self, vh_bds, vh_ps1, vh_ps0, vb0, vb1, vbz, vbo]
theorem b21 {c : Nat} (h : mi 86 1 = nI c) (hc : c < 8) : vh_C 137 [.ref 86] (vh_K d mi ml) = some (some (.int (mi 86 3 + mi 86 4)), vh_K d (beg (beg mi 21) 20) ml) := by
  simp only [c137, e137_0, e137_1, e137_3, e137_6, e137_7, e137_10, e137_11, e137_14, e137_15, ok86, s131 h (show c < 16 by omega), b20 (beg_sz (v := 21) h) (show c + 1 < 10 by omega), beg_f (show 3 ≠ 1 by decide), beg_f (show 4 ≠ 1 by decide), not_true_eq_false, not_false_eq_true, if_true, if_false, and_self, vh_bds, vh_ps1, vh_ps0, vb0, vb1, vbz, vbo]
theorem b22 {c : Nat} (h : mi 86 1 = nI c) (hc : c < 3) : vh_C 138 [.ref 86] (vh_K d mi ml) = some (some (.int (mi 86 3 + mi 86 4 + (mi 86 2 + mi 86 5) * 2)), vh_K d (beg (beg (beg (beg (beg (beg mi 22) 21) 20) 12) 11) 10) ml) := by
  have h1 := beg_sz (v := 22) h
  have h3 := beg_sz (v := 20) (beg_sz (v := 21) h1)
  simp only [c138, e138_0, e138_1, e138_3, e138_6, e138_7, e138_10, e138_11, e138_14, e138_15, ok86, s131 h (show c < 16 by omega), b21 h1 (show c + 1 < 8 by omega), b12 h3 (show c + 1 + 1 + 1 < 8 by omega), beg_f (show 2 ≠ 1 by decide), beg_f (show 3 ≠ 1 by decide), beg_f (show 4 ≠ 1 by decide), beg_f (show 5 ≠ 1 by decide), not_true_eq_false, not_false_eq_true, if_true, if_false, and_self, vh_bds, vh_ps1, vh_ps0, vb0, vb1, vbz, vbo]
theorem b23 {c : Nat} (h : mi 86 1 = nI c) (hc : c < 8) : vh_C 139 [.ref 86] (vh_K d mi ml) = some (some (.int (mi 86 3 + mi 86 2)), vh_K d (beg (beg (beg mi 23) 20) 10) ml) := by
  simp only [c139, e139_0, e139_1, e139_3, e139_6, e139_7, e139_10, e139_11, e139_14, e139_15, ok86, s131 h (show c < 16 by omega), b20 (beg_sz (v := 23) h) (show c + 1 < 10 by omega), b10 (beg_sz (v := 20) (beg_sz (v := 23) h)) (show c + 1 + 1 < 10 by omega), beg_f (show 2 ≠ 1 by decide), beg_f (show 3 ≠ 1 by decide), not_true_eq_false, not_false_eq_true, if_true, if_false, and_self, vh_bds, vh_ps1, vh_ps0, vb0, vb1, vbz, vbo]
/-- what is begun, what is answered -/
def szL (K : Nat) : List Int32 := if K = 1 then [11, 10] else if K = 2 then [12, 11, 10] else if K = 3 then [13, 10, 20] else [10]
def mkL (K : Nat) : List Int32 := if K = 1 then [21, 20] else if K = 2 then [22, 21, 20, 12, 11, 10] else if K = 4 then [23, 20, 10] else [20]
def szV (K : Nat) (p u P : Int32) : Int32 := if K = 1 then p + P else if K = 2 then (p + P) * 2 else if K = 3 then p - u else p
def mkV (K : Nat) (p u dy P : Int32) : Int32 := if K = 1 then u + dy else if K = 2 then u + dy + (p + P) * 2 else if K = 4 then u + p else u
theorem s129 {K : Nat} (hK : K ≤ 4) (h : mi 86 1 = nI 0) : vh_C 129 [.ref 86, .int (nI K)] (vh_K d mi ml) = some (some (.int (szV K (mi 86 2) (mi 86 3) (mi 86 5))), vh_K d ((szL K).foldl beg mi) ml) := by
  rcases (show K = 0 ∨ K = 1 ∨ K = 2 ∨ K = 3 ∨ K = 4 by omega) with rfl | rfl | rfl | rfl | rfl
  · simp only [c129, e129_0, e129_1, e129_28, e129_29, e129_32, e129_33, e129_34, e129_37, e129_38, e129_39, e129_42, e129_43, e129_44, e129_47, ok86, b10 h (show 0 < 10 by decide), b11 h (show 0 < 9 by decide), b12 h (show 0 < 8 by decide), b13 h (show 0 < 8 by decide), show (nI 0 = 1) = decide (0 = 1) from by decide, show (nI 0 = 2) = decide (0 = 2) from by decide, show (nI 0 = 3) = decide (0 = 3) from by decide, decide_true, decide_false, Nat.reduceEqDiff, not_true_eq_false, not_false_eq_true, if_true, if_false, and_self, vh_bds, vh_ps1, vh_ps0, vb0, vb1, vbz, vbo]
    rfl
  · simp only [c129, e129_0, e129_1, e129_28, e129_29, e129_32, e129_33, e129_34, e129_37, e129_38, e129_39, e129_42, e129_43, e129_44, e129_47, ok86, b10 h (show 0 < 10 by decide), b11 h (show 0 < 9 by decide), b12 h (show 0 < 8 by decide), b13 h (show 0 < 8 by decide), show (nI 1 = 1) = decide (1 = 1) from by decide, show (nI 1 = 2) = decide (1 = 2) from by decide, show (nI 1 = 3) = decide (1 = 3) from by decide, decide_true, decide_false, Nat.reduceEqDiff, not_true_eq_false, not_false_eq_true, if_true, if_false, and_self, vh_bds, vh_ps1, vh_ps0, vb0, vb1, vbz, vbo]
    rfl
  · simp only [c129, e129_0, e129_1, e129_28, e129_29, e129_32, e129_33, e129_34, e129_37, e129_38, e129_39, e129_42, e129_43, e129_44, e129_47, ok86, b10 h (show 0 < 10 by decide), b11 h (show 0 < 9 by decide), b12 h (show 0 < 8 by decide), b13 h (show 0 < 8 by decide), show (nI 2 = 1) = decide (2 = 1) from by decide, show (nI 2 = 2) = decide (2 = 2) from by decide, show (nI 2 = 3) = decide (2 = 3) from by decide, decide_true, decide_false, Nat.reduceEqDiff, not_true_eq_false, not_false_eq_true, if_true, if_false, and_self, vh_bds, vh_ps1, vh_ps0, vb0, vb1, vbz, vbo]
    rfl
  · simp only [c129, e129_0, e129_1, e129_28, e129_29, e129_32, e129_33, e129_34, e129_37, e129_38, e129_39, e129_42, e129_43, e129_44, e129_47, ok86, b10 h (show 0 < 10 by decide), b11 h (show 0 < 9 by decide), b12 h (show 0 < 8 by decide), b13 h (show 0 < 8 by decide), show (nI 3 = 1) = decide (3 = 1) from by decide, show (nI 3 = 2) = decide (3 = 2) from by decide, show (nI 3 = 3) = decide (3 = 3) from by decide, decide_true, decide_false, Nat.reduceEqDiff, not_true_eq_false, not_false_eq_true, if_true, if_false, and_self, vh_bds, vh_ps1, vh_ps0, vb0, vb1, vbz, vbo]
    rfl
  · simp only [c129, e129_0, e129_1, e129_28, e129_29, e129_32, e129_33, e129_34, e129_37, e129_38, e129_39, e129_42, e129_43, e129_44, e129_47, ok86, b10 h (show 0 < 10 by decide), b11 h (show 0 < 9 by decide), b12 h (show 0 < 8 by decide), b13 h (show 0 < 8 by decide), show (nI 4 = 1) = decide (4 = 1) from by decide, show (nI 4 = 2) = decide (4 = 2) from by decide, show (nI 4 = 3) = decide (4 = 3) from by decide, decide_true, decide_false, Nat.reduceEqDiff, not_true_eq_false, not_false_eq_true, if_true, if_false, and_self, vh_bds, vh_ps1, vh_ps0, vb0, vb1, vbz, vbo]
    rfl
end

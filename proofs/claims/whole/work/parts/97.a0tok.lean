/-! RULES: TOKENS -/
def isL (c : Nat) : Bool := decide (97 ≤ c ∧ c ≤ 122)
def isF (c : Nat) : Bool := decide (48 ≤ c ∧ c ≤ 57)
def isS (c : Nat) : Bool := decide (c = 32 ∨ c = 10)
def rnE (T : Nat → Nat) (P : Nat → Bool) : Nat → Nat → Nat
  | 0, i => i
  | r + 1, i => if P (T i) = true then rnE T P r (i + 1) else i
section
variable {T : Nat → Nat} {P : Nat → Bool}
theorem rn_t {r i : Nat} (h : P (T i) = true) : rnE T P (r + 1) i = rnE T P r (i + 1) := if_pos h
theorem rn_f {r i : Nat} (h : ¬ P (T i) = true) : rnE T P (r + 1) i = i := if_neg h
theorem rn_ge : ∀ {r i : Nat}, i ≤ rnE T P r i := by
  intro r
  induction r with
  | zero => intro i; exact Nat.le_refl _
  | succ r ih =>
    intro i
    by_cases q : P (T i) = true
    · rw [rn_t q]; have := ih (i := i + 1); omega
    · rw [rn_f q]; exact Nat.le_refl _
theorem rn_le' : ∀ {r i : Nat}, rnE T P r i ≤ i + r := by
  intro r
  induction r with
  | zero => intro i; exact Nat.le_refl _
  | succ r ih =>
    intro i
    by_cases q : P (T i) = true
    · rw [rn_t q]; have := ih (i := i + 1); omega
    · rw [rn_f q]; omega
theorem rn_all : ∀ {r i j : Nat}, i ≤ j → j < rnE T P r i → P (T j) = true := by
  intro r
  induction r with
  | zero => intro i j h1 h2; unfold rnE at h2; omega
  | succ r ih =>
    intro i j h1 h2
    by_cases q : P (T i) = true
    · rw [rn_t q] at h2
      by_cases e : j = i
      · rw [e]; exact q
      · exact ih (i := i + 1) (by omega) h2
    · rw [rn_f q] at h2; omega
theorem rn_pos {r i : Nat} (hr : 0 < r) : i < rnE T P r i ↔ P (T i) = true := by
  obtain ⟨r', rfl⟩ : ∃ r', r = r' + 1 := ⟨r - 1, by omega⟩
  by_cases q : P (T i) = true
  · rw [rn_t q]; have := rn_ge (T := T) (P := P) (r := r') (i := i + 1); exact ⟨fun _ => q, fun _ => by omega⟩
  · rw [rn_f q]; exact ⟨fun z => by omega, fun z => absurd z q⟩
theorem rn_stop : ∀ {r i N : Nat}, i + r = N → rnE T P r i < N → ¬ P (T (rnE T P r i)) = true := by
  intro r
  induction r with
  | zero => intro i N h1 h2; unfold rnE at h2; omega
  | succ r ih =>
    intro i N h1 h2
    by_cases q : P (T i) = true
    · rw [rn_t q] at h2 ⊢; exact ih (by omega) h2
    · rw [rn_f q]; exact q
end
/-- the token that is read from q on: its kind, beginning and end -/
def tkB (N : Nat) (T : Nat → Nat) (q : Nat) : Nat := rnE T isS (N - q) q
def tkK (N : Nat) (T : Nat → Nat) (q : Nat) : Nat := if N ≤ tkB N T q then 0 else if isL (T (tkB N T q)) = true then 1 else if isF (T (tkB N T q)) = true then (if rnE T isF (N - tkB N T q) (tkB N T q) - tkB N T q ≤ 4 then 2 else 4) else if T (tkB N T q) = 59 then 3 else 4
def tkE (N : Nat) (T : Nat → Nat) (q : Nat) : Nat := if N ≤ tkB N T q then tkB N T q else if isL (T (tkB N T q)) = true then rnE T isL (N - tkB N T q) (tkB N T q) else if isF (T (tkB N T q)) = true then rnE T isF (N - tkB N T q) (tkB N T q) else tkB N T q + 1
section
variable {N : Nat} {T : Nat → Nat} {q : Nat}
theorem tk_b (h : q ≤ N) : q ≤ tkB N T q ∧ tkB N T q ≤ N := by
  have h1 := rn_ge (T := T) (P := isS) (r := N - q) (i := q)
  have h2 := rn_le' (T := T) (P := isS) (r := N - q) (i := q)
  unfold tkB
  omega
theorem tk_e (h : q ≤ N) : tkB N T q ≤ tkE N T q ∧ tkE N T q ≤ N ∧ (¬ tkK N T q = 0 → tkB N T q < tkE N T q ∧ tkB N T q < N) := by
  obtain ⟨b1, b2⟩ := tk_b (T := T) h
  unfold tkE tkK
  by_cases q0 : N ≤ tkB N T q
  · rw [if_pos q0, if_pos q0]; exact ⟨Nat.le_refl _, b2, fun z => absurd rfl z⟩
  · rw [if_neg q0, if_neg q0]
    by_cases q1 : isL (T (tkB N T q)) = true
    · rw [if_pos q1, if_pos q1]
      have h1 := rn_le' (T := T) (P := isL) (r := N - tkB N T q) (i := tkB N T q)
      have h2 := (rn_pos (T := T) (P := isL) (r := N - tkB N T q) (i := tkB N T q) (by omega)).mpr q1
      omega
    · rw [if_neg q1, if_neg q1]
      by_cases q2 : isF (T (tkB N T q)) = true
      · rw [if_pos q2, if_pos q2]
        have h1 := rn_le' (T := T) (P := isF) (r := N - tkB N T q) (i := tkB N T q)
        have h2 := (rn_pos (T := T) (P := isF) (r := N - tkB N T q) (i := tkB N T q) (by omega)).mpr q2
        omega
      · rw [if_neg q2, if_neg q2]
        omega
theorem tk_le : tkK N T q ≤ 4 := by
  unfold tkK
  split
  · omega
  · split
    · omega
    · split
      · split <;> omega
      · split <;> omega
end
section
variable {d : Nat} {ml : Nat → Nat → Int64} {N : Nat} {T : Nat → Nat}
/-- the tape, in the class -/
def TpC (N : Nat) (T : Nat → Nat) (mi : Nat → Nat → Int32) : Prop := N ≤ 400 ∧ mi 22 1 = nI N ∧ (∀ i, i < N → mi 23 i = nI (T i)) ∧ ∀ i, T i ≤ 255
theorem TpC.s {mi : Nat → Nat → Int32} {f : Nat → Int32} (h : TpC N T mi) (hf : f 1 = mi 22 1) : TpC N T (vh_sA mi 22 f) := ⟨h.1, by rw [sAs, hf]; exact h.2.1, by rw [sAn (by decide)]; exact h.2.2.1, h.2.2.2⟩
theorem okx23 {k : Nat} (h : k < 400) : vh_ixa 23 (nI k) = true := ixa (by rw [kd23]; exact h) (by omega)
theorem l34 : ∀ (r i : Nat) (mi : Nat → Nat → Int32), i + r = N → TpC N T mi → mi 22 3 = nI i → vh_E 34 8 [some (.ref 22)] [] (vh_K d mi ml) = vh_E 34 60 [some (.ref 22)] [] (vh_K d (vh_sA mi 22 (upd (mi 22) 3 (nI (rnE T isS r i)))) ml) := by
  intro r
  induction r with
  | zero =>
    intro i mi hi hT h3
    have : i = N := by omega
    subst this
    have e1 : upd (mi 22) 3 (nI (rnE T isS 0 i)) = mi 22 := by
      funext c
      unfold upd
      by_cases q : c = 3
      · rw [if_pos q, q, h3]; rfl
      · rw [if_neg q]
    rw [e1, sAe]
    have hN := hT.1
    simp only [e34_8, e34_9, e34_12, e34_13, e34_16, ok22, h3, hT.2.1, nI_le (Nat.le_refl i) (show i < 2 ^ 31 by omega), if_true]
  | succ r ih =>
    intro i mi hi hT h3
    have hN := hT.1
    have hc := hT.2.2.2 i
    have e32 : nI (T i) = 32 ↔ T i = 32 := nI_eq (b := 32) (by omega) (by decide)
    have e10 : nI (T i) = 10 ↔ T i = 10 := nI_eq (b := 10) (by omega) (by decide)
    rw [e34_8]
    simp only [e34_9, e34_12, e34_13, e34_16, e34_19, e34_20, e34_23, e34_24, e34_27, e34_28, e34_30, e34_33, e34_34, e34_37, e34_38, e34_41, e34_42, e34_44, e34_47, e34_48, e34_49, e34_52, e34_53, e34_54, e34_57, ok22, ok23, rf22_0, okx23 (show i < 400 by omega), clK (show i < 1000 by omega), h3, hT.2.1, hT.2.2.1 i (by omega), nI_ge (show i < N by omega) (show N < 2 ^ 31 by omega), if_false, e32, e10, nI_1]
    have go : isS (T i) = true → vh_E 34 8 [some (.ref 22)] [] (vh_K d (vh_sA mi 22 (upd (mi 22) 3 (nI (i + 1)))) ml) = vh_E 34 60 [some (.ref 22)] [] (vh_K d (vh_sA mi 22 (upd (mi 22) 3 (nI (rnE T isS (r + 1) i)))) ml) := by
      intro q
      rw [ih (i + 1) _ (by omega) (hT.s (upn (by decide))) (by rw [sAs, ups]), sAA, sAs, upU, rn_t q]
    have stop : ¬ isS (T i) = true → vh_K d mi ml = vh_K d (vh_sA mi 22 (upd (mi 22) 3 (nI (rnE T isS (r + 1) i)))) ml := by
      intro q
      rw [rn_f q, ← h3]
      have e1 : upd (mi 22) 3 (mi 22 3) = mi 22 := by
        funext c
        unfold upd
        by_cases q : c = 3
        · rw [if_pos q, q]
        · rw [if_neg q]
      rw [e1, sAe]
    by_cases q1 : T i = 32
    · rw [if_pos q1]
      exact go (decide_eq_true (Or.inl q1))
    · rw [if_neg q1]
      by_cases q2 : T i = 10
      · rw [if_neg (not_not_intro q2)]
        exact go (decide_eq_true (Or.inr q2))
      · rw [if_pos q2, ← stop (fun z => by rcases of_decide_eq_true z with w | w; exact q1 w; exact q2 w)]
theorem l35 {lo up : Nat} {mi : Nat → Nat → Int32} (hT : TpC N T mi) (h1 : lo < 1000) (h2 : up < 1000) : ∀ (r i : Nat), i + r = N → vh_E 35 5 [some (.ref 22), some (.int (nI lo)), some (.int (nI up)), some (.int (nI i))] [] (vh_K d mi ml) = some (some (.int (nI (rnE T (fun c => decide (lo ≤ c ∧ c ≤ up)) r i))), vh_K d mi ml) := by
  have hN := hT.1
  intro r
  induction r with
  | zero =>
    intro i hi
    have : i = N := by omega
    subst this
    simp only [e35_5, e35_6, e35_7, e35_10, e35_39, e35_40, ok22, hT.2.1, nI_le (Nat.le_refl i) (show i < 2 ^ 31 by omega), if_true]
    rfl
  | succ r ih =>
    intro i hi
    have hc := hT.2.2.2 i
    rw [e35_5]
    simp only [e35_0, e35_1, e35_4, e35_6, e35_7, e35_10, e35_13, e35_14, e35_17, e35_18, e35_19, e35_20, e35_23, e35_24, e35_27, e35_28, e35_29, e35_30, e35_33, e35_36, e35_39, e35_40, ok22, ok23, rf22_0, okx23 (show i < 400 by omega), clK (show i < 1000 by omega), hT.2.1, hT.2.2.1 i (by omega), nI_ge (show i < N by omega) (show N < 2 ^ 31 by omega), if_false, nI_ltI (show T i < 2 ^ 31 by omega) (show lo < 2 ^ 31 by omega), nI_ltI (show up < 2 ^ 31 by omega) (show T i < 2 ^ 31 by omega), nI_1]
    by_cases q1 : T i < lo
    · rw [if_pos q1, rn_f (P := fun c => decide (lo ≤ c ∧ c ≤ up)) (fun z => by have := of_decide_eq_true z; omega)]
    · rw [if_neg q1]
      by_cases q2 : up < T i
      · rw [if_pos q2, rn_f (P := fun c => decide (lo ≤ c ∧ c ≤ up)) (fun z => by have := of_decide_eq_true z; omega)]
      · rw [if_neg q2, ih (i + 1) (by omega), rn_t (P := fun c => decide (lo ≤ c ∧ c ≤ up)) (decide_eq_true ⟨by omega, by omega⟩)]
theorem s35L {mi : Nat → Nat → Int32} {i : Nat} (hT : TpC N T mi) (h3 : mi 22 3 = nI i) (hi : i ≤ N) : vh_C 35 [.ref 22, .int 97, .int 122] (vh_K d mi ml) = some (some (.int (nI (rnE T isL (N - i) i))), vh_K d mi ml) := by
  simp only [c35, e35_0, e35_1, e35_4, e35_6, e35_7, e35_10, e35_13, e35_14, e35_17, e35_18, e35_19, e35_20, e35_23, e35_24, e35_27, e35_28, e35_29, e35_30, e35_33, e35_36, e35_39, e35_40, ok22, h3]
  exact l35 (lo := 97) (up := 122) hT (by decide) (by decide) (N - i) i (by omega)
theorem s35F {mi : Nat → Nat → Int32} {i : Nat} (hT : TpC N T mi) (h3 : mi 22 3 = nI i) (hi : i ≤ N) : vh_C 35 [.ref 22, .int 48, .int 57] (vh_K d mi ml) = some (some (.int (nI (rnE T isF (N - i) i))), vh_K d mi ml) := by
  simp only [c35, e35_0, e35_1, e35_4, e35_6, e35_7, e35_10, e35_13, e35_14, e35_17, e35_18, e35_19, e35_20, e35_23, e35_24, e35_27, e35_28, e35_29, e35_30, e35_33, e35_36, e35_39, e35_40, ok22, h3]
  exact l35 (lo := 48) (up := 57) hT (by decide) (by decide) (N - i) i (by omega)
/-- the token at q, in the class -/
def TkC (N : Nat) (T : Nat → Nat) (q : Nat) (f : Nat → Int32) : Prop := f 2 = nI (tkK N T q) ∧ f 3 = nI (tkB N T q) ∧ f 4 = nI (tkE N T q)
theorem s34 {mi : Nat → Nat → Int32} {q : Nat} (hT : TpC N T mi) (h4 : mi 22 4 = nI q) (hq : q ≤ N) : ∃ f, vh_C 34 [.ref 22] (vh_K d mi ml) = some (none, vh_K d (vh_sA mi 22 f) ml) ∧ TkC N T q f ∧ f 1 = mi 22 1 := by
  have hN := hT.1
  obtain ⟨b1, b2⟩ := tk_b (T := T) hq
  have A := l34 (d := d) (ml := ml) (N - q) q (vh_sA mi 22 (upd (mi 22) 3 (nI q))) (by omega) (hT.s (upn (by decide))) (by rw [sAs, ups])
  rw [sAA, sAs, upU] at A
  have start : vh_C 34 [.ref 22] (vh_K d mi ml) = vh_E 34 60 [some (.ref 22)] [] (vh_K d (vh_sA mi 22 (upd (mi 22) 3 (nI (tkB N T q)))) ml) := by
    unfold tkB
    rw [← A]
    simp only [c34, e34_0, e34_1, e34_2, e34_5, ok22, h4]
  rw [start]
  generalize hB : tkB N T q = B at b1 b2
  have hT1 : TpC N T (vh_sA mi 22 (upd (mi 22) 3 (nI B))) := hT.s (upn (by decide))
  have e1 := s35L (d := d) (ml := ml) hT1 (show (vh_sA mi 22 (upd (mi 22) 3 (nI B))) 22 3 = nI B by rw [sAs, ups]) b2
  have g1 := rn_ge (T := T) (P := isL) (r := N - B) (i := B)
  have g2 := rn_le' (T := T) (P := isL) (r := N - B) (i := B)
  have f1 := rn_ge (T := T) (P := isF) (r := N - B) (i := B)
  have f2 := rn_le' (T := T) (P := isF) (r := N - B) (i := B)
  simp only [e34_60, e34_61, e34_62, e34_64, e34_66, e34_69, e34_72, e34_73, e34_76, e34_77, e34_80, e34_83, e34_84, e34_85, e34_88, ok22, e1, sAs, sAA, ups, upn (show 3 ≠ 4 by decide), nI_leI (show rnE T isL (N - B) B < 2 ^ 31 by omega) (show B < 2 ^ 31 by omega), not_true_eq_false, not_false_eq_true, if_true, if_false, and_self, vh_bds, vh_ps1, vh_ps0, vb0, vb1, vbz, vbo]
  by_cases q1 : rnE T isL (N - B) B ≤ B
  · rw [if_pos q1]
    have hT2 : TpC N T (vh_sA mi 22 (upd (upd (mi 22) 3 (nI B)) 4 (nI (rnE T isL (N - B) B)))) := hT.s (by rw [upn (by decide), upn (by decide)])
    have e2 := s35F (d := d) (ml := ml) hT2 (show (vh_sA mi 22 (upd (upd (mi 22) 3 (nI B)) 4 (nI (rnE T isL (N - B) B)))) 22 3 = nI B by rw [sAs, upn (by decide), ups]) b2
    have nl : ¬ (B < N ∧ isL (T B) = true) := fun z => by have := (rn_pos (T := T) (P := isL) (r := N - B) (i := B) (by omega)).mpr z.2; omega
    simp only [e34_89, e34_90, e34_91, e34_93, e34_95, e34_98, e34_101, e34_102, e34_105, e34_106, e34_109, e34_112, e34_113, e34_114, e34_117, e34_118, e34_121, e34_122, e34_123, e34_126, e34_127, e34_130, e34_131, e34_134, ok22, e2, sAs, sAA, ups, upU, upn (show 3 ≠ 4 by decide), nI_leI (show rnE T isF (N - B) B < 2 ^ 31 by omega) (show B < 2 ^ 31 by omega), pk_sub f1, not_true_eq_false, not_false_eq_true, if_true, if_false, and_self, vh_bds, vh_ps1, vh_ps0, vb0, vb1, vbz, vbo]
    by_cases q2 : rnE T isF (N - B) B ≤ B
    · rw [if_pos q2]
      have nf : ¬ (B < N ∧ isF (T B) = true) := fun z => by have := (rn_pos (T := T) (P := isF) (r := N - B) (i := B) (by omega)).mpr z.2; omega
      simp only [e34_135, e34_136, e34_139, e34_140, e34_143, e34_146, e34_147, e34_148, e34_151, ok22, sAs, sAA, ups, upn (show 3 ≠ 4 by decide), upn (show 1 ≠ 4 by decide), upn (show 1 ≠ 3 by decide), hT.2.1, nI_ltI (show B < 2 ^ 31 by omega) (show N < 2 ^ 31 by omega)]
      by_cases q3 : B < N
      · rw [if_pos q3]
        have hc := hT.2.2.2 B
        have hl : ¬ isL (T B) = true := fun z => nl ⟨q3, z⟩
        have hf : ¬ isF (T B) = true := fun z => nf ⟨q3, z⟩
        have e59 : nI (T B) = 59 ↔ T B = 59 := nI_eq (b := 59) (by omega) (by decide)
        simp only [e34_152, e34_153, e34_154, e34_157, e34_158, e34_161, e34_162, e34_164, e34_167, e34_168, e34_171, e34_172, e34_175, e34_176, e34_177, e34_180, e34_181, e34_182, e34_185, ok22, ok23, rf22_0, okx23 (show B < 400 by omega), clK (show B < 1000 by omega), sAn, sAs, sAA, ups, upn, bkv_n, hlv_n, ne_eq, Nat.reduceEqDiff, Nat.reduceLT, Nat.reduceLeDiff, or_true, true_or, not_false_eq_true, hT.2.2.1 B q3, e59, nI_1]
        unfold TkC tkK tkE
        by_cases q4 : T B = 59
        · rw [if_neg (not_not_intro q4), hB, if_neg (show ¬ N ≤ B by omega), if_neg hl, if_neg hf, if_neg (show ¬ N ≤ B by omega), if_neg hl, if_neg hf, if_pos q4]
          exact ⟨_, rfl, ⟨rfl, rfl, rfl⟩, hT.2.1⟩
        · rw [if_pos q4, hB, if_neg (show ¬ N ≤ B by omega), if_neg hl, if_neg hf, if_neg (show ¬ N ≤ B by omega), if_neg hl, if_neg hf, if_neg q4]
          exact ⟨_, rfl, ⟨rfl, rfl, rfl⟩, hT.2.1⟩
      · rw [if_neg q3]
        unfold TkC tkK tkE
        rw [hB, if_pos (show N ≤ B by omega), if_pos (show N ≤ B by omega)]
        refine ⟨_, rfl, ⟨rfl, rfl, ?_⟩, hT.2.1⟩
        show nI (rnE T isF (N - B) B) = _
        rw [show rnE T isF (N - B) B = B by omega]
    · rw [if_neg q2]
      have hBN : B < N := by omega
      have hf : isF (T B) = true := (rn_pos (T := T) (P := isF) (r := N - B) (i := B) (by omega)).mp (by omega)
      have hl : ¬ isL (T B) = true := fun z => nl ⟨hBN, z⟩
      unfold TkC tkK tkE
      have e4 : 4 < nI (rnE T isF (N - B) B - B) ↔ 4 < rnE T isF (N - B) B - B := nI_ltI (a := 4) (by decide) (by omega)
      by_cases q5 : 4 < rnE T isF (N - B) B - B
      · rw [if_pos (e4.mpr q5), hB, if_neg (show ¬ N ≤ B by omega), if_neg hl, if_pos hf, if_neg (show ¬ N ≤ B by omega), if_neg hl, if_pos hf, if_neg (show ¬ rnE T isF (N - B) B - B ≤ 4 by omega)]
        exact ⟨_, rfl, ⟨rfl, rfl, rfl⟩, rfl⟩
      · rw [if_neg (fun z => q5 (e4.mp z)), hB, if_neg (show ¬ N ≤ B by omega), if_neg hl, if_pos hf, if_neg (show ¬ N ≤ B by omega), if_neg hl, if_pos hf, if_pos (show rnE T isF (N - B) B - B ≤ 4 by omega)]
        exact ⟨_, rfl, ⟨rfl, rfl, rfl⟩, rfl⟩
  · rw [if_neg q1]
    have hBN : B < N := by omega
    have hl : isL (T B) = true := (rn_pos (T := T) (P := isL) (r := N - B) (i := B) (by omega)).mp (by omega)
    unfold TkC tkK tkE
    rw [hB, if_neg (show ¬ N ≤ B by omega), if_pos hl, if_neg (show ¬ N ≤ B by omega), if_pos hl]
    exact ⟨_, rfl, ⟨rfl, rfl, rfl⟩, rfl⟩
end

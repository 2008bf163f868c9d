section
variable {d : Nat} {ml : Nat → Nat → Int64} {N : Nat} {T : Nat → Nat}
/-- the tape, in the reference -/
def TpM (N : Nat) (T : Nat → Nat) (mi : Nat → Nat → Int32) : Prop := N ≤ 400 ∧ mi 88 15 = nI N ∧ (∀ i, i < N → mi 99 i = nI (T i)) ∧ ∀ i, T i ≤ 255
theorem TpM.s {mi : Nat → Nat → Int32} {f : Nat → Int32} (h : TpM N T mi) (hf : f 15 = mi 88 15) : TpM N T (vh_sA mi 88 f) := ⟨h.1, by rw [sAs, hf]; exact h.2.1, by rw [sAn (by decide)]; exact h.2.2.1, h.2.2.2⟩
theorem okx99 {k : Nat} (h : k < 400) : vh_ixa 99 (nI k) = true := ixa (by rw [kd99]; exact h) (by omega)
def bA (N : Nat) (T : Nat → Nat) (k : Nat) : Int32 := if k < N then nI (T k) else -1000000
theorem s158 {mi : Nat → Nat → Int32} {k : Nat} (hT : TpM N T mi) (hk : k ≤ 1000) : vh_C 158 [.ref 88, .int (nI k)] (vh_K d mi ml) = some (some (.int (bA N T k)), vh_K d mi ml) := by
  have hN := hT.1
  unfold bA
  by_cases q : k < N
  · simp only [c158, e158_0, e158_1, e158_2, e158_5, e158_8, e158_9, e158_12, e158_13, e158_14, e158_17, e158_19, ok88, ok99, rf88_12, okx99 (show k < 400 by omega), clK (show k < 1000 by omega), hT.2.1, hT.2.2.1 k q, nI_ge q (show N < 2 ^ 31 by omega), if_false]
    rw [if_pos q]
  · simp only [c158, e158_0, e158_1, e158_2, e158_5, e158_8, e158_9, e158_12, e158_13, e158_14, e158_19, ok88, hT.2.1, nI_le (show N ≤ k by omega) (show k < 2 ^ 31 by omega), if_true, e158_17, e158_19]
    rw [if_neg q]
theorem s159 {c : Int32} {w : vh_W} : vh_C 159 [.int c] w = some (some (.int (vb (97 ≤ c ∧ c ≤ 122))), w) := by
  simp only [c159, e159_0, e159_1, e159_3, e159_6, e159_7, e159_9, e159_12, e159_13, e159_16, e159_17, vbz, vbo]
  by_cases h1 : c < 97
  · rw [if_pos h1, vb_f (fun h => absurd h.1 (Int32.not_le.mpr h1))]
  · rw [if_neg h1]
    by_cases h2 : 122 < c
    · rw [if_pos h2, vb_f (fun h => absurd h.2 (Int32.not_le.mpr h2))]
    · rw [if_neg h2, vb_t ⟨nlt h1, nlt h2⟩]
theorem s160 {c : Int32} {w : vh_W} : vh_C 160 [.int c] w = some (some (.int (vb (48 ≤ c ∧ c ≤ 57))), w) := by
  simp only [c160, e160_0, e160_1, e160_3, e160_6, e160_7, e160_9, e160_12, e160_13, e160_16, e160_17, vbz, vbo]
  by_cases h1 : c < 48
  · rw [if_pos h1, vb_f (fun h => absurd h.1 (Int32.not_le.mpr h1))]
  · rw [if_neg h1]
    by_cases h2 : 57 < c
    · rw [if_pos h2, vb_f (fun h => absurd h.2 (Int32.not_le.mpr h2))]
    · rw [if_neg h2, vb_t ⟨nlt h1, nlt h2⟩]
theorem bA_L (hT : ∀ i, T i ≤ 255) {k : Nat} : (97 ≤ bA N T k ∧ bA N T k ≤ 122) ↔ (k < N ∧ isL (T k) = true) := by
  unfold bA isL
  by_cases q : k < N
  · have := hT k
    rw [if_pos q, decide_eq_true_iff]
    have h1 : 97 ≤ nI (T k) ↔ 97 ≤ T k := nI_leI (a := 97) (by decide) (by omega)
    have h2 : nI (T k) ≤ 122 ↔ T k ≤ 122 := nI_leI (b := 122) (by omega) (by decide)
    rw [h1, h2]
    exact ⟨fun z => ⟨q, z⟩, fun z => z.2⟩
  · rw [if_neg q]
    exact ⟨fun z => absurd z.1 (by decide), fun z => absurd z.1 q⟩
theorem bA_F (hT : ∀ i, T i ≤ 255) {k : Nat} : (48 ≤ bA N T k ∧ bA N T k ≤ 57) ↔ (k < N ∧ isF (T k) = true) := by
  unfold bA isF
  by_cases q : k < N
  · have := hT k
    rw [if_pos q, decide_eq_true_iff]
    have h1 : 48 ≤ nI (T k) ↔ 48 ≤ T k := nI_leI (a := 48) (by decide) (by omega)
    have h2 : nI (T k) ≤ 57 ↔ T k ≤ 57 := nI_leI (b := 57) (by omega) (by decide)
    rw [h1, h2]
    exact ⟨fun z => ⟨q, z⟩, fun z => z.2⟩
  · rw [if_neg q]
    exact ⟨fun z => absurd z.1 (by decide), fun z => absurd z.1 q⟩
theorem bA_e (hT : ∀ i, T i ≤ 255) {k c : Nat} (hc : c < 1000) : bA N T k = nI c ↔ (k < N ∧ T k = c) := by
  unfold bA
  by_cases q : k < N
  · have := hT k
    rw [if_pos q, nI_eq (by omega) (by omega)]
    exact ⟨fun z => ⟨q, z⟩, fun z => z.2⟩
  · rw [if_neg q]
    exact ⟨fun z => absurd z.symm (nmN (by omega)), fun z => absurd z.1 q⟩
theorem up_id {f : Nat → Int32} {k : Nat} {v : Int32} (h : f k = v) : upd f k v = f := by
  funext c
  unfold upd
  by_cases q : c = k
  · rw [if_pos q, q, h]
  · rw [if_neg q]
theorem l157a {l1 : Option Value} : ∀ (r i : Nat) (mi : Nat → Nat → Int32), i + r = N → TpM N T mi → mi 88 16 = nI i → vh_E 157 0 [some (.ref 88), l1] [] (vh_K d mi ml) = vh_E 157 39 [some (.ref 88), l1] [] (vh_K d (vh_sA mi 88 (upd (mi 88) 16 (nI (rnE T isS r i)))) ml) := by
  intro r
  induction r with
  | zero =>
    intro i mi hi hT h16
    have hN := hT.1
    have e32 : bA N T i = 32 ↔ (i < N ∧ T i = 32) := bA_e hT.2.2.2 (c := 32) (by decide)
    have e10 : bA N T i = 10 ↔ (i < N ∧ T i = 10) := bA_e hT.2.2.2 (c := 10) (by decide)
    rw [show rnE T isS 0 i = i from rfl, up_id h16, sAe]
    simp only [e157_0, e157_1, e157_2, e157_5, e157_8, e157_10, e157_13, e157_14, e157_15, e157_18, e157_21, e157_23, ok88, h16, s158 hT (show i ≤ 1000 by omega), e32, e10, show ¬ (i < N ∧ T i = 32) from fun z => by omega, show ¬ (i < N ∧ T i = 10) from fun z => by omega, not_true_eq_false, not_false_eq_true, if_true, if_false, and_self, vh_bds, vh_ps1, vh_ps0, vb0, vb1, vbz, vbo]
  | succ r ih =>
    intro i mi hi hT h16
    have hN := hT.1
    have e32 : bA N T i = 32 ↔ (i < N ∧ T i = 32) := bA_e hT.2.2.2 (c := 32) (by decide)
    have e10 : bA N T i = 10 ↔ (i < N ∧ T i = 10) := bA_e hT.2.2.2 (c := 10) (by decide)
    have go : isS (T i) = true → vh_E 157 0 [some (.ref 88), l1] [] (vh_K d (vh_sA mi 88 (upd (mi 88) 16 (nI (i + 1)))) ml) = vh_E 157 39 [some (.ref 88), l1] [] (vh_K d (vh_sA mi 88 (upd (mi 88) 16 (nI (rnE T isS (r + 1) i)))) ml) := by
      intro q
      rw [ih (i + 1) _ (by omega) (hT.s (upn (by decide))) (by rw [sAs, ups]), sAA, sAs, upU, rn_t q]
    rw [e157_0]
    simp only [e157_1, e157_2, e157_5, e157_8, e157_10, e157_13, e157_14, e157_15, e157_18, e157_21, e157_23, e157_26, e157_27, e157_28, e157_31, e157_32, e157_33, e157_36, ok88, h16, s158 hT (show i ≤ 1000 by omega), e32, e10, nI_1, not_true_eq_false, not_false_eq_true, if_true, if_false, and_self, vh_bds, vh_ps1, vh_ps0, vb0, vb1, vbz, vbo]
    by_cases q1 : i < N ∧ T i = 32
    · rw [if_pos q1]
      exact go (decide_eq_true (Or.inl q1.2))
    · rw [if_neg q1]
      by_cases q2 : i < N ∧ T i = 10
      · rw [if_neg (not_not_intro q2)]
        exact go (decide_eq_true (Or.inr q2.2))
      · rw [if_pos q2, rn_f (fun z => by rcases of_decide_eq_true z with w | w; exact q1 ⟨by omega, w⟩; exact q2 ⟨by omega, w⟩), up_id h16, sAe]
theorem l157b {l1 : Option Value} : ∀ (r i : Nat) (mi : Nat → Nat → Int32), i + r = N → TpM N T mi → mi 88 16 = nI i → vh_E 157 77 [some (.ref 88), l1] [] (vh_K d mi ml) = vh_E 157 104 [some (.ref 88), l1] [] (vh_K d (vh_sA mi 88 (upd (mi 88) 16 (nI (rnE T isL r i)))) ml) := by
  intro r
  induction r with
  | zero =>
    intro i mi hi hT h16
    have hN := hT.1
    rw [show rnE T isL 0 i = i from rfl, up_id h16, sAe]
    simp only [e157_77, e157_78, e157_79, e157_82, e157_85, e157_88, ok88, h16, s158 hT (show i ≤ 1000 by omega), s159, bA_L hT.2.2.2, show ¬ (i < N ∧ isL (T i) = true) from fun z => by omega, not_true_eq_false, not_false_eq_true, if_true, if_false, and_self, vh_bds, vh_ps1, vh_ps0, vb0, vb1, vbz, vbo]
  | succ r ih =>
    intro i mi hi hT h16
    have hN := hT.1
    rw [e157_77]
    simp only [e157_78, e157_79, e157_82, e157_85, e157_88, e157_91, e157_92, e157_93, e157_96, e157_97, e157_98, e157_101, ok88, h16, s158 hT (show i ≤ 1000 by omega), s159, bA_L hT.2.2.2, nI_1, not_true_eq_false, not_false_eq_true, if_true, if_false, and_self, vh_bds, vh_ps1, vh_ps0, vb0, vb1, vbz, vbo]
    by_cases q1 : isL (T i) = true
    · rw [if_neg (not_not_intro (show i < N ∧ isL (T i) = true from ⟨by omega, q1⟩)), ih (i + 1) _ (by omega) (hT.s (upn (by decide))) (by rw [sAs, ups]), sAA, sAs, upU, rn_t q1]
    · rw [if_pos (show ¬ (i < N ∧ isL (T i) = true) from fun z => q1 z.2), rn_f q1, up_id h16, sAe]
theorem l157c {l1 : Option Value} : ∀ (r i : Nat) (mi : Nat → Nat → Int32), i + r = N → TpM N T mi → mi 88 16 = nI i → vh_E 157 119 [some (.ref 88), l1] [] (vh_K d mi ml) = vh_E 157 146 [some (.ref 88), l1] [] (vh_K d (vh_sA mi 88 (upd (mi 88) 16 (nI (rnE T isF r i)))) ml) := by
  intro r
  induction r with
  | zero =>
    intro i mi hi hT h16
    have hN := hT.1
    rw [show rnE T isF 0 i = i from rfl, up_id h16, sAe]
    simp only [e157_119, e157_120, e157_121, e157_124, e157_127, e157_130, ok88, h16, s158 hT (show i ≤ 1000 by omega), s160, bA_F hT.2.2.2, show ¬ (i < N ∧ isF (T i) = true) from fun z => by omega, not_true_eq_false, not_false_eq_true, if_true, if_false, and_self, vh_bds, vh_ps1, vh_ps0, vb0, vb1, vbz, vbo]
  | succ r ih =>
    intro i mi hi hT h16
    have hN := hT.1
    rw [e157_119]
    simp only [e157_120, e157_121, e157_124, e157_127, e157_130, e157_133, e157_134, e157_135, e157_138, e157_139, e157_140, e157_143, ok88, h16, s158 hT (show i ≤ 1000 by omega), s160, bA_F hT.2.2.2, nI_1, not_true_eq_false, not_false_eq_true, if_true, if_false, and_self, vh_bds, vh_ps1, vh_ps0, vb0, vb1, vbz, vbo]
    by_cases q1 : isF (T i) = true
    · rw [if_neg (not_not_intro (show i < N ∧ isF (T i) = true from ⟨by omega, q1⟩)), ih (i + 1) _ (by omega) (hT.s (upn (by decide))) (by rw [sAs, ups]), sAA, sAs, upU, rn_t q1]
    · rw [if_pos (show ¬ (i < N ∧ isF (T i) = true) from fun z => q1 z.2), rn_f q1, up_id h16, sAe]
def rkK (k : Nat) : Nat := if k = 4 then 0 else k + 1
/-- the token at q, in the reference -/
def TkM (N : Nat) (T : Nat → Nat) (q : Nat) (f : Nat → Int32) : Prop := f 16 = nI (tkE N T q) ∧ f 17 = nI (rkK (tkK N T q)) ∧ f 18 = nI (tkB N T q) ∧ f 19 = nI (tkE N T q)
theorem s157 {mi : Nat → Nat → Int32} {q : Nat} (hT : TpM N T mi) (h16 : mi 88 16 = nI q) (hq : q ≤ N) : ∃ f, vh_C 157 [.ref 88] (vh_K d mi ml) = some (none, vh_K d (vh_sA mi 88 f) ml) ∧ TkM N T q f ∧ ∀ c, (c < 16 ∨ 19 < c) → f c = mi 88 c := by
  have hN := hT.1
  obtain ⟨b1, b2⟩ := tk_b (T := T) hq
  have A := l157a (d := d) (ml := ml) (l1 := none) (N - q) q mi (by omega) hT h16
  have start : vh_C 157 [.ref 88] (vh_K d mi ml) = vh_E 157 39 [some (.ref 88), none] [] (vh_K d (vh_sA mi 88 (upd (mi 88) 16 (nI (tkB N T q)))) ml) := by
    unfold tkB
    rw [← A]
    simp only [c157]
  rw [start]
  generalize hB : tkB N T q = B at b1 b2
  have f1 := rn_ge (T := T) (P := isF) (r := N - B) (i := B)
  have f2 := rn_le' (T := T) (P := isF) (r := N - B) (i := B)
  have hT1 : TpM N T (vh_sA mi 88 (upd (upd (mi 88) 16 (nI B)) 18 (nI B))) := hT.s (by rw [upn (by decide), upn (by decide)])
  have hbn : bA N T B = -1000000 ↔ ¬ B < N := by
    unfold bA
    by_cases q : B < N
    · rw [if_pos q]; exact ⟨fun z => absurd z (nmN (by have := hT.2.2.2 B; omega)), fun z => absurd q z⟩
    · rw [if_neg q]; exact ⟨fun _ => q, fun _ => rfl⟩
  simp only [e157_39, e157_40, e157_41, e157_44, e157_47, e157_48, e157_49, e157_52, e157_55, e157_56, e157_57, e157_59, e157_70, e157_71, e157_74, ok88, sAs, sAA, ups, upn (show 16 ≠ 18 by decide), s158 hT1 (show B ≤ 1000 by omega), s159, bA_L hT.2.2.2, hbn, not_true_eq_false, not_false_eq_true, if_true, if_false, and_self, vh_bds, vh_ps1, vh_ps0, vb0, vb1, vbz, vbo, Classical.not_not]
  unfold TkM tkK tkE
  by_cases q0 : B < N
  · rw [if_pos q0]
    by_cases q1 : isL (T B) = true
    · rw [if_neg (not_not_intro (show B < N ∧ isL (T B) = true from ⟨q0, q1⟩)), l157b (N - B) B _ (by omega) hT1 (by rw [sAs, upn (by decide), ups])]
      simp only [e157_104, e157_105, e157_106, e157_109, e157_196, e157_197, e157_198, e157_201, e157_204, ok88, sAs, sAA, ups, upn (show 16 ≠ 17 by decide)]
      rw [hB, if_neg (show ¬ N ≤ B by omega), if_neg (show ¬ N ≤ B by omega), if_pos q1, if_pos q1]
      refine ⟨_, rfl, ⟨rfl, rfl, rfl, rfl⟩, ?_⟩
      intro c hc
      rw [upn (by omega), upn (by omega), upn (by omega), upn (by omega), upn (by omega)]
    · rw [if_pos (show ¬ (B < N ∧ isL (T B) = true) from fun z => q1 z.2)]
      simp only [e157_112, e157_113, e157_116, s160, bA_F hT.2.2.2, not_true_eq_false, not_false_eq_true, if_true, if_false, and_self, vh_bds, vh_ps1, vh_ps0, vb0, vb1, vbz, vbo]
      by_cases q2 : isF (T B) = true
      · rw [if_neg (not_not_intro (show B < N ∧ isF (T B) = true from ⟨q0, q2⟩)), l157c (N - B) B _ (by omega) hT1 (by rw [sAs, upn (by decide), ups])]
        have e4 : nI (rnE T isF (N - B) B - B) ≤ 4 ↔ rnE T isF (N - B) B - B ≤ 4 := nI_leI (b := 4) (by omega) (by decide)
        simp only [e157_146, e157_147, e157_148, e157_151, e157_152, e157_155, e157_156, e157_157, e157_160, e157_161, e157_164, e157_165, e157_168, e157_196, e157_197, e157_198, e157_201, e157_204, ok88, sAs, sAA, ups, upn (show 16 ≠ 17 by decide), upn (show 18 ≠ 16 by decide), pk_sub f1, e4]
        rw [hB, if_neg (show ¬ N ≤ B by omega), if_neg (show ¬ N ≤ B by omega), if_neg q1, if_neg q1, if_pos q2, if_pos q2]
        by_cases q5 : rnE T isF (N - B) B - B ≤ 4
        · rw [if_pos q5, if_pos q5]
          refine ⟨_, rfl, ⟨rfl, rfl, rfl, rfl⟩, ?_⟩
          intro c hc
          rw [upn (by omega), upn (by omega), upn (by omega), upn (by omega), upn (by omega)]
        · rw [if_neg q5, if_neg q5]
          refine ⟨_, rfl, ⟨rfl, rfl, rfl, rfl⟩, ?_⟩
          intro c hc
          rw [upn (by omega), upn (by omega), upn (by omega), upn (by omega), upn (by omega)]
      · rw [if_pos (show ¬ (B < N ∧ isF (T B) = true) from fun z => q2 z.2)]
        have e59 : bA N T B = 59 ↔ (B < N ∧ T B = 59) := bA_e hT.2.2.2 (c := 59) (by decide)
        simp only [e157_171, e157_172, e157_173, e157_176, e157_177, e157_178, e157_181, e157_182, e157_183, e157_185, e157_188, e157_189, e157_192, e157_193, e157_196, e157_197, e157_198, e157_201, e157_204, ok88, sAs, sAA, ups, upn (show 16 ≠ 17 by decide), upn (show 16 ≠ 18 by decide), e59, nI_1, Classical.not_not]
        rw [hB, if_neg (show ¬ N ≤ B by omega), if_neg (show ¬ N ≤ B by omega), if_neg q1, if_neg q1, if_neg q2, if_neg q2]
        by_cases q5 : T B = 59
        · rw [if_neg (not_not_intro (show B < N ∧ T B = 59 from ⟨q0, q5⟩)), if_pos q5]
          refine ⟨_, rfl, ⟨rfl, rfl, rfl, rfl⟩, ?_⟩
          intro c hc
          rw [upn (by omega), upn (by omega), upn (by omega), upn (by omega), upn (by omega)]
        · rw [if_pos (show ¬ (B < N ∧ T B = 59) from fun z => q5 z.2), if_neg q5]
          refine ⟨_, rfl, ⟨rfl, rfl, rfl, rfl⟩, ?_⟩
          intro c hc
          rw [upn (by omega), upn (by omega), upn (by omega), upn (by omega), upn (by omega)]
  · rw [if_neg q0]
    simp only [e157_62, e157_63, e157_64, e157_67, e157_196, e157_197, e157_198, e157_201, e157_204, ok88, sAs, sAA, ups, upn (show 16 ≠ 17 by decide), upn (show 16 ≠ 18 by decide)]
    rw [hB, if_pos (show N ≤ B by omega), if_pos (show N ≤ B by omega)]
    refine ⟨_, rfl, ⟨rfl, rfl, rfl, rfl⟩, ?_⟩
    intro c hc
    rw [upn (by omega), upn (by omega), upn (by omega), upn (by omega)]
end

section
variable {d : Nat} {mi : Nat → Nat → Int32} {ml : Nat → Nat → Int64} {n k h : Nat} {b g : Nat → Nat → Nat}
def tlI (p : Nat → Nat) (x : Int32) : Int32 := if x = 0 then nI (p 0) else if x = 1 then nI (p 1) else if x = 2 then nI (p 2) else if x = 3 then nI (p 3) else if x = 4 then nI (p 4) else if x = 5 then nI (p 5) else if x = 6 then nI (p 6) else if x = 7 then nI (p 7) else if x = 8 then nI (p 8) else if x = 9 then canI (p 9) else -1000001
theorem s76 {x : Int32} (H : DiC mi n b g) (B : DiB n b g) (hk : k < n) : vh_C 76 [.ref (47 + k), .int x] (vh_K d mi ml) = some (some (.int (tlI (b k) x)), vh_K d mi ml) := by
  have hk6 : k < 16 := by have := B.1; omega
  simp only [c76, e76_0, e76_1, e76_56, e76_57, e76_60, e76_61, e76_62, e76_65, e76_66, e76_67, e76_70, e76_71, e76_72, e76_75, e76_76, e76_77, e76_80, e76_81, e76_82, e76_85, e76_86, e76_87, e76_90, e76_91, e76_92, e76_95, e76_96, e76_97, e76_100, e76_101, e76_102, e76_105, e76_106, e76_108, okB hk6, H.f0 hk, H.f1 hk, H.f2 hk, H.f3 hk, H.f4 hk, H.f5 hk, H.f6 hk, H.f7 hk, H.f8 hk, H.f9 hk6]
  unfold tlI
  by_cases q0 : x = 0
  · rw [if_pos q0, if_pos q0]
  rw [if_neg q0, if_neg q0]
  by_cases q1 : x = 1
  · rw [if_pos q1, if_pos q1]
  rw [if_neg q1, if_neg q1]
  by_cases q2 : x = 2
  · rw [if_pos q2, if_pos q2]
  rw [if_neg q2, if_neg q2]
  by_cases q3 : x = 3
  · rw [if_pos q3, if_pos q3]
  rw [if_neg q3, if_neg q3]
  by_cases q4 : x = 4
  · rw [if_pos q4, if_pos q4]
  rw [if_neg q4, if_neg q4]
  by_cases q5 : x = 5
  · rw [if_pos q5, if_pos q5]
  rw [if_neg q5, if_neg q5]
  by_cases q6 : x = 6
  · rw [if_pos q6, if_pos q6]
  rw [if_neg q6, if_neg q6]
  by_cases q7 : x = 7
  · rw [if_pos q7, if_pos q7]
  rw [if_neg q7, if_neg q7]
  by_cases q8 : x = 8
  · rw [if_pos q8, if_pos q8]
  rw [if_neg q8, if_neg q8]
  by_cases q9 : x = 9
  · rw [if_pos q9, if_pos q9]
  rw [if_neg q9, if_neg q9]
def tdI (g : Nat → Nat → Nat) (p : Nat → Nat) (x : Int32) : Int32 := if x = 10 then prI g p else tlI p x
theorem s74a {i x : Int32} (hg : ¬ (0 ≤ i ∧ i < mi 42 5)) : vh_C 74 [.ref 0, .int i, .int x] (vh_K d mi ml) = some (some (.int (-1000001)), vh_K d mi ml) := by
  simp only [c74, e74_0, e74_1, e74_4, e74_5, e74_8, e74_11, e74_13, e74_14, e74_15, e74_18, e74_19, e74_22, e74_23, e74_24, e74_26, e74_29, e74_30, e74_33, e74_34, e74_37, e74_40, e74_41, e74_42, e74_45, s72, ok0, ok42, rf0_4, hg, not_true_eq_false, not_false_eq_true, if_true, if_false, and_self, vh_bds, vh_ps1, vh_ps0, vb0, vb1, vbz, vbo]
theorem s74b {x : Int32} (H : DiC mi n b g) (B : DiB n b g) (hk : k < n) : vh_C 74 [.ref 0, .int (nI k), .int x] (vh_K d mi ml) = some (some (.int (tdI g (b k) x)), vh_K d mi ml) := by
  have hk6 : k < 16 := by have := B.1; omega
  have hn := B.1
  have hg : 0 ≤ nI k ∧ nI k < nI n := (hasN (by omega)).mpr ⟨k, hk, rfl⟩
  simp only [c74, e74_0, e74_1, e74_4, e74_5, e74_8, e74_11, e74_13, e74_14, e74_15, e74_18, e74_19, e74_22, e74_23, e74_24, e74_26, e74_29, e74_30, e74_33, e74_34, e74_37, e74_40, e74_41, e74_42, e74_45, s72, s73 hk6, s75 H B hk, s76 H B hk, H.sz, ok0, ok42, rf0_4, okB hk6, hg, not_true_eq_false, not_false_eq_true, if_true, if_false, and_self, vh_bds, vh_ps1, vh_ps0, vb0, vb1, vbz, vbo]
  unfold tdI
  by_cases q : x = 10
  · rw [if_pos q, if_neg (not_not_intro q)]
  · rw [if_neg q, if_pos q]
theorem s178a {i x : Int32} (hg : ¬ (0 ≤ i ∧ i ≤ mi 88 24 - 1)) : vh_C 178 [.ref 88, .int i, .int x] (vh_K d mi ml) = some (some (.int (-1000001)), vh_K d (vh_sA mi 88 (upd (mi 88) 0 0)) ml) := by
  simp only [c178, e178_0, e178_1, e178_2, e178_5, e178_6, e178_7, e178_10, e178_13, e178_14, e178_15, e178_16, e178_19, e178_22, e178_25, e178_27, e178_28, e178_29, e178_31, e178_34, e178_35, e178_36, e178_37, e178_40, e178_43, e178_44, e178_46, e178_49, e178_50, e178_53, e178_54, e178_55, e178_58, e178_59, e178_60, e178_63, s176, ok88, sAn, sAs, sAA, ups, upn, bkv_n, hlv_n, ne_eq, Nat.reduceEqDiff, Nat.reduceLT, Nat.reduceLeDiff, or_true, true_or, not_false_eq_true, hg, not_true_eq_false, not_false_eq_true, if_true, if_false, and_self, vh_bds, vh_ps1, vh_ps0, vb0, vb1, vbz, vbo]
theorem s178b {x : Int32} (H : DiM mi n b g) (B : DiB n b g) (hk : k < n) : vh_C 178 [.ref 88, .int (nI k), .int x] (vh_K d mi ml) = some (some (.int (tdI g (b k) x)), vh_K d (vh_sA mi 88 (upd (mi 88) 0 0)) ml) := by
  have hk6 : k < 16 := by have := B.1; omega
  have hn := B.1
  have hg : 0 ≤ nI k ∧ nI k ≤ nI n - 1 := (inN (by omega)).mpr ⟨k, hk, rfl⟩
  by_cases hx : 0 ≤ x ∧ x ≤ 10
  · obtain ⟨u, hu, rfl⟩ := nIr hx.1 (show x ≤ nI 10 from hx.2) (by decide)
    have H' := H.thr
    simp only [c178, e178_0, e178_1, e178_2, e178_5, e178_6, e178_7, e178_10, e178_13, e178_14, e178_15, e178_16, e178_19, e178_22, e178_25, e178_27, s176, in_0_10, ok88, sAn, sAs, sAA, ups, upn, bkv_n, hlv_n, ne_eq, Nat.reduceEqDiff, Nat.reduceLT, Nat.reduceLeDiff, or_true, true_or, not_false_eq_true, H.sz, hg, hx, not_true_eq_false, not_false_eq_true, if_true, if_false, and_self, vh_bds, vh_ps1, vh_ps0, vb0, vb1, vbz, vbo]
    rcases (show u = 0 ∨ u = 1 ∨ u = 2 ∨ u = 3 ∨ u = 4 ∨ u = 5 ∨ u = 6 ∨ u = 7 ∨ u = 8 ∨ u = 9 ∨ u = 10 by omega) with rfl | rfl | rfl | rfl | rfl | rfl | rfl | rfl | rfl | rfl | rfl
    · simp only [e178_0, e178_1, e178_2, e178_5, e178_6, e178_7, e178_10, e178_13, e178_14, e178_15, e178_16, e178_19, e178_22, e178_25, e178_27, e178_28, e178_29, e178_31, e178_34, e178_35, e178_36, e178_37, e178_40, e178_43, e178_44, e178_46, e178_49, e178_50, e178_53, e178_54, e178_55, e178_58, e178_59, e178_60, e178_63, ok88, show ¬ (9 : Int32) ≤ nI 0 from by decide, s177 (f := 0) hk6 (by decide), H'.f0 hk, not_true_eq_false, not_false_eq_true, if_true, if_false, and_self, vh_bds, vh_ps1, vh_ps0, vb0, vb1, vbz, vbo]
      rfl
    · simp only [e178_0, e178_1, e178_2, e178_5, e178_6, e178_7, e178_10, e178_13, e178_14, e178_15, e178_16, e178_19, e178_22, e178_25, e178_27, e178_28, e178_29, e178_31, e178_34, e178_35, e178_36, e178_37, e178_40, e178_43, e178_44, e178_46, e178_49, e178_50, e178_53, e178_54, e178_55, e178_58, e178_59, e178_60, e178_63, ok88, show ¬ (9 : Int32) ≤ nI 1 from by decide, s177 (f := 1) hk6 (by decide), H'.f1 hk, not_true_eq_false, not_false_eq_true, if_true, if_false, and_self, vh_bds, vh_ps1, vh_ps0, vb0, vb1, vbz, vbo]
      rfl
    · simp only [e178_0, e178_1, e178_2, e178_5, e178_6, e178_7, e178_10, e178_13, e178_14, e178_15, e178_16, e178_19, e178_22, e178_25, e178_27, e178_28, e178_29, e178_31, e178_34, e178_35, e178_36, e178_37, e178_40, e178_43, e178_44, e178_46, e178_49, e178_50, e178_53, e178_54, e178_55, e178_58, e178_59, e178_60, e178_63, ok88, show ¬ (9 : Int32) ≤ nI 2 from by decide, s177 (f := 2) hk6 (by decide), H'.f2 hk, not_true_eq_false, not_false_eq_true, if_true, if_false, and_self, vh_bds, vh_ps1, vh_ps0, vb0, vb1, vbz, vbo]
      rfl
    · simp only [e178_0, e178_1, e178_2, e178_5, e178_6, e178_7, e178_10, e178_13, e178_14, e178_15, e178_16, e178_19, e178_22, e178_25, e178_27, e178_28, e178_29, e178_31, e178_34, e178_35, e178_36, e178_37, e178_40, e178_43, e178_44, e178_46, e178_49, e178_50, e178_53, e178_54, e178_55, e178_58, e178_59, e178_60, e178_63, ok88, show ¬ (9 : Int32) ≤ nI 3 from by decide, s177 (f := 3) hk6 (by decide), H'.f3 hk, not_true_eq_false, not_false_eq_true, if_true, if_false, and_self, vh_bds, vh_ps1, vh_ps0, vb0, vb1, vbz, vbo]
      rfl
    · simp only [e178_0, e178_1, e178_2, e178_5, e178_6, e178_7, e178_10, e178_13, e178_14, e178_15, e178_16, e178_19, e178_22, e178_25, e178_27, e178_28, e178_29, e178_31, e178_34, e178_35, e178_36, e178_37, e178_40, e178_43, e178_44, e178_46, e178_49, e178_50, e178_53, e178_54, e178_55, e178_58, e178_59, e178_60, e178_63, ok88, show ¬ (9 : Int32) ≤ nI 4 from by decide, s177 (f := 4) hk6 (by decide), H'.f4 hk, not_true_eq_false, not_false_eq_true, if_true, if_false, and_self, vh_bds, vh_ps1, vh_ps0, vb0, vb1, vbz, vbo]
      rfl
    · simp only [e178_0, e178_1, e178_2, e178_5, e178_6, e178_7, e178_10, e178_13, e178_14, e178_15, e178_16, e178_19, e178_22, e178_25, e178_27, e178_28, e178_29, e178_31, e178_34, e178_35, e178_36, e178_37, e178_40, e178_43, e178_44, e178_46, e178_49, e178_50, e178_53, e178_54, e178_55, e178_58, e178_59, e178_60, e178_63, ok88, show ¬ (9 : Int32) ≤ nI 5 from by decide, s177 (f := 5) hk6 (by decide), H'.f5 hk, not_true_eq_false, not_false_eq_true, if_true, if_false, and_self, vh_bds, vh_ps1, vh_ps0, vb0, vb1, vbz, vbo]
      rfl
    · simp only [e178_0, e178_1, e178_2, e178_5, e178_6, e178_7, e178_10, e178_13, e178_14, e178_15, e178_16, e178_19, e178_22, e178_25, e178_27, e178_28, e178_29, e178_31, e178_34, e178_35, e178_36, e178_37, e178_40, e178_43, e178_44, e178_46, e178_49, e178_50, e178_53, e178_54, e178_55, e178_58, e178_59, e178_60, e178_63, ok88, show ¬ (9 : Int32) ≤ nI 6 from by decide, s177 (f := 6) hk6 (by decide), H'.f6 hk, not_true_eq_false, not_false_eq_true, if_true, if_false, and_self, vh_bds, vh_ps1, vh_ps0, vb0, vb1, vbz, vbo]
      rfl
    · simp only [e178_0, e178_1, e178_2, e178_5, e178_6, e178_7, e178_10, e178_13, e178_14, e178_15, e178_16, e178_19, e178_22, e178_25, e178_27, e178_28, e178_29, e178_31, e178_34, e178_35, e178_36, e178_37, e178_40, e178_43, e178_44, e178_46, e178_49, e178_50, e178_53, e178_54, e178_55, e178_58, e178_59, e178_60, e178_63, ok88, show ¬ (9 : Int32) ≤ nI 7 from by decide, s177 (f := 7) hk6 (by decide), H'.f7 hk, not_true_eq_false, not_false_eq_true, if_true, if_false, and_self, vh_bds, vh_ps1, vh_ps0, vb0, vb1, vbz, vbo]
      rfl
    · simp only [e178_0, e178_1, e178_2, e178_5, e178_6, e178_7, e178_10, e178_13, e178_14, e178_15, e178_16, e178_19, e178_22, e178_25, e178_27, e178_28, e178_29, e178_31, e178_34, e178_35, e178_36, e178_37, e178_40, e178_43, e178_44, e178_46, e178_49, e178_50, e178_53, e178_54, e178_55, e178_58, e178_59, e178_60, e178_63, ok88, show ¬ (9 : Int32) ≤ nI 8 from by decide, s177 (f := 8) hk6 (by decide), H'.f8 hk, not_true_eq_false, not_false_eq_true, if_true, if_false, and_self, vh_bds, vh_ps1, vh_ps0, vb0, vb1, vbz, vbo]
      rfl
    · simp only [e178_0, e178_1, e178_2, e178_5, e178_6, e178_7, e178_10, e178_13, e178_14, e178_15, e178_16, e178_19, e178_22, e178_25, e178_27, e178_28, e178_29, e178_31, e178_34, e178_35, e178_36, e178_37, e178_40, e178_43, e178_44, e178_46, e178_49, e178_50, e178_53, e178_54, e178_55, e178_58, e178_59, e178_60, e178_63, ok88, show (9 : Int32) ≤ nI 9 from by decide, show nI 9 = (9 : Int32) from rfl, rf88_26, ok101, ixC hk6, clK (show k < 1000 by omega), H'.f9 hk, not_true_eq_false, not_false_eq_true, if_true, if_false, and_self, vh_bds, vh_ps1, vh_ps0, vb0, vb1, vbz, vbo]
      rfl
    · simp only [e178_0, e178_1, e178_2, e178_5, e178_6, e178_7, e178_10, e178_13, e178_14, e178_15, e178_16, e178_19, e178_22, e178_25, e178_27, e178_28, e178_29, e178_31, e178_34, e178_35, e178_36, e178_37, e178_40, e178_43, e178_44, e178_46, e178_49, e178_50, e178_53, e178_54, e178_55, e178_58, e178_59, e178_60, e178_63, ok88, show (9 : Int32) ≤ nI 10 from by decide, show ¬ nI 10 = (9 : Int32) from by decide, s179 H' B hk, not_true_eq_false, not_false_eq_true, if_true, if_false, and_self, vh_bds, vh_ps1, vh_ps0, vb0, vb1, vbz, vbo]
      rfl
  · have ne : ∀ y : Nat, y ≤ 10 → ¬ x = nI y := fun y hy z => hx (by rw [z]; exact ⟨nI_pos' (by omega), nI_le (b := 10) hy (by decide)⟩)
    simp only [c178, e178_0, e178_1, e178_2, e178_5, e178_6, e178_7, e178_10, e178_13, e178_14, e178_15, e178_16, e178_19, e178_22, e178_25, e178_27, e178_28, e178_29, e178_31, e178_34, e178_35, e178_36, e178_37, e178_40, e178_43, e178_44, e178_46, e178_49, e178_50, e178_53, e178_54, e178_55, e178_58, e178_59, e178_60, e178_63, s176, in_0_10, ok88, sAn, sAs, sAA, ups, upn, bkv_n, hlv_n, ne_eq, Nat.reduceEqDiff, Nat.reduceLT, Nat.reduceLeDiff, or_true, true_or, not_false_eq_true, H.sz, hg, hx, not_true_eq_false, not_false_eq_true, if_true, if_false, and_self, vh_bds, vh_ps1, vh_ps0, vb0, vb1, vbz, vbo]
    unfold tdI tlI
    rw [if_neg (show ¬ x = 10 from ne 10 (by decide)), if_neg (show ¬ x = 0 from ne 0 (by decide)), if_neg (show ¬ x = 1 from ne 1 (by decide)), if_neg (show ¬ x = 2 from ne 2 (by decide)), if_neg (show ¬ x = 3 from ne 3 (by decide)), if_neg (show ¬ x = 4 from ne 4 (by decide)), if_neg (show ¬ x = 5 from ne 5 (by decide)), if_neg (show ¬ x = 6 from ne 6 (by decide)), if_neg (show ¬ x = 7 from ne 7 (by decide)), if_neg (show ¬ x = 8 from ne 8 (by decide)), if_neg (show ¬ x = 9 from ne 9 (by decide))]
theorem sim_told {i x : Int32} (hR : Rel d mi) : Sim 74 178 [.int i, .int x] d mi ml := by
  obtain ⟨n, b, g, B, C, M⟩ := hR.dia
  have hn := B.1
  by_cases hi : ∃ k, k < n ∧ i = nI k
  · obtain ⟨k, hkn, rfl⟩ := hi
    exact Sim.mk (s74b C B hkn) (s178b M B hkn) rfl hR.thrown
  · exact Sim.mk (s74a (by rw [C.sz, hasN (by omega)]; exact hi)) (s178a (by rw [M.sz, inN (by omega)]; exact hi)) rfl hR.thrown
/-! CLASH -/
/-- two bookings too near, their hall's rest between them -/
def nearB (s f1 t1 u1 f2 t2 u2 : Nat) : Bool := decide (f1 < t2 + (if u1 = u2 then 0 else s) ∧ f2 < t1 + (if u1 = u2 then 0 else s))
theorem near_e {s f1 t1 u1 f2 t2 u2 : Nat} (e : u1 = u2) : nearB s f1 t1 u1 f2 t2 u2 = true ↔ f1 < t2 + 0 ∧ f2 < t1 + 0 := by unfold nearB; rw [decide_eq_true_iff, if_pos e]
theorem near_n {s f1 t1 u1 f2 t2 u2 : Nat} (e : ¬ u1 = u2) : nearB s f1 t1 u1 f2 t2 u2 = true ↔ f1 < t2 + s ∧ f2 < t1 + s := by unfold nearB; rw [decide_eq_true_iff, if_neg e]
def clsh (g : Nat → Nat → Nat) (p q : Nat → Nat) : Bool := decide ((q 0 = p 0 ∧ q 1 = p 1 ∧ q 2 = p 2) ∧ nearB (g (p 0) 0) (p 3) (p 4) (p 6) (q 3) (q 4) (q 6) = true)
theorem clsh_i {g : Nat → Nat → Nat} {p q : Nat → Nat} : clsh g p q = true ↔ (q 0 = p 0 ∧ q 1 = p 1 ∧ q 2 = p 2) ∧ nearB (g (p 0) 0) (p 3) (p 4) (p 6) (q 3) (q 4) (q 6) = true := decide_eq_true_iff
/-- numbers of the booking at that cell -/
def BkA (mi : Nat → Nat → Int32) (a : Nat) (p : Nat → Nat) : Prop := vh_okk a 1 = true ∧ (∀ f, f < 9 → mi a f = nI (p f)) ∧ p 0 ≤ 3 ∧ p 1 ≤ 1 ∧ p 2 ≤ 364 ∧ p 3 < p 4 ∧ p 4 ≤ 96 ∧ p 6 ≤ 4 ∧ p 5 ≤ 999
theorem DiC.bk (H : DiC mi n b g) (B : DiB n b g) (hk : k < n) : BkA mi (47 + k) (b k) := by
  obtain ⟨h0, h1, h2, h3, h4, h5, h5', h6, h7, h8, h9⟩ := B.2.1 k hk
  exact ⟨okB (by have := B.1; omega), H.2.1 k hk, h0, h1, h2, h3, h4, h6, h5'⟩
theorem BkA.f0 {a : Nat} {p : Nat → Nat} (H : BkA mi a p) : mi a 0 = nI (p 0) := H.2.1 0 (by decide)
theorem BkA.f1 {a : Nat} {p : Nat → Nat} (H : BkA mi a p) : mi a 1 = nI (p 1) := H.2.1 1 (by decide)
theorem BkA.f2 {a : Nat} {p : Nat → Nat} (H : BkA mi a p) : mi a 2 = nI (p 2) := H.2.1 2 (by decide)
theorem BkA.f3 {a : Nat} {p : Nat → Nat} (H : BkA mi a p) : mi a 3 = nI (p 3) := H.2.1 3 (by decide)
theorem BkA.f4 {a : Nat} {p : Nat → Nat} (H : BkA mi a p) : mi a 4 = nI (p 4) := H.2.1 4 (by decide)
theorem BkA.f5 {a : Nat} {p : Nat → Nat} (H : BkA mi a p) : mi a 5 = nI (p 5) := H.2.1 5 (by decide)
theorem BkA.f6 {a : Nat} {p : Nat → Nat} (H : BkA mi a p) : mi a 6 = nI (p 6) := H.2.1 6 (by decide)
theorem BkA.f7 {a : Nat} {p : Nat → Nat} (H : BkA mi a p) : mi a 7 = nI (p 7) := H.2.1 7 (by decide)
theorem BkA.f8 {a : Nat} {p : Nat → Nat} (H : BkA mi a p) : mi a 8 = nI (p 8) := H.2.1 8 (by decide)
theorem s79 {a : Nat} {x y z : Int32} (ha : vh_okk a 1 = true) : vh_C 79 [.ref a, .int x, .int y, .int z] (vh_K d mi ml) = some (some (.int (vb (mi a 0 = x ∧ mi a 1 = y ∧ mi a 2 = z))), vh_K d mi ml) := by
  simp only [c79, e79_0, e79_1, e79_4, e79_5, e79_8, e79_9, e79_12, e79_13, e79_16, e79_17, e79_20, e79_21, e79_24, e79_25, e79_28, e79_29, ha, not_true_eq_false, not_false_eq_true, if_true, if_false, and_self, vh_bds, vh_ps1, vh_ps0, vb0, vb1, vbz, vbo]
  by_cases h1 : mi a 0 = x
  · rw [if_neg (not_not_intro h1)]
    by_cases h2 : mi a 1 = y
    · rw [if_neg (not_not_intro h2)]
      by_cases h3 : mi a 2 = z
      · rw [if_neg (not_not_intro h3), vb_t ⟨h1, h2, h3⟩]
      · rw [if_pos h3, vb_f (fun q => h3 q.2.2)]
    · rw [if_pos h2, vb_f (fun q => h2 q.2.1)]
  · rw [if_pos h1, vb_f (fun q => h1 q.1)]
theorem s80 {a c s : Nat} {p q : Nat → Nat} (ha : BkA mi a p) (hc : BkA mi c q) (hs : s ≤ 1000) : vh_C 80 [.ref a, .ref c, .int (nI s)] (vh_K d mi ml) = some (some (.int (vb (nearB s (p 3) (p 4) (p 6) (q 3) (q 4) (q 6) = true))), vh_K d mi ml) := by
  obtain ⟨-, a0, a1, a2, a3, a4, a6⟩ := ha.2
  obtain ⟨-, q0, q1, q2, q3, q4, q6⟩ := hc.2
  simp only [c80, e80_0, e80_1, e80_4, e80_5, e80_8, e80_11, e80_12, e80_15, e80_16, e80_17, e80_18, e80_21, e80_22, e80_25, e80_26, e80_27, e80_30, e80_31, e80_34, e80_35, e80_38, e80_39, e80_40, e80_43, e80_44, e80_47, e80_48, ha.1, hc.1, ha.f3, ha.f4, ha.f6, hc.f3, hc.f4, hc.f6, not_true_eq_false, not_false_eq_true, if_true, if_false, and_self, vh_bds, vh_ps1, vh_ps0, vb0, vb1, vbz, vbo]
  by_cases e : p 6 = q 6
  · rw [if_neg (not_not_intro (congrArg nI e)), show (0 : Int32) = nI 0 from rfl, nI_add, nI_add]
    by_cases h1 : q 4 + 0 ≤ p 3
    · rw [if_pos (nI_le h1 (by omega)), vb_f (fun z => by have := (near_e e).mp z; omega)]; rfl
    · rw [if_neg (nI_ge (by omega) (by omega))]
      by_cases h2 : p 4 + 0 ≤ q 3
      · rw [if_pos (nI_le h2 (by omega)), vb_f (fun z => by have := (near_e e).mp z; omega)]; rfl
      · rw [if_neg (nI_ge (by omega) (by omega)), vb_t ((near_e e).mpr ⟨by omega, by omega⟩)]
  · rw [if_pos (fun z => e ((nI_eq (by omega) (by omega)).mp z)), nI_add, nI_add]
    by_cases h1 : q 4 + s ≤ p 3
    · rw [if_pos (nI_le h1 (by omega)), vb_f (fun z => by have := (near_n e).mp z; omega)]
    · rw [if_neg (nI_ge (by omega) (by omega))]
      by_cases h2 : p 4 + s ≤ q 3
      · rw [if_pos (nI_le h2 (by omega)), vb_f (fun z => by have := (near_n e).mp z; omega)]
      · rw [if_neg (nI_ge (by omega) (by omega)), vb_t ((near_n e).mpr ⟨by omega, by omega⟩)]
end

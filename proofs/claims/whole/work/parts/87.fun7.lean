theorem sA_w {m : Nat → Nat → Int32} {x y z : Nat → Int32} : vh_sA (vh_sA (vh_sA m 63 x) 64 y) 63 z = vh_sA (vh_sA m 63 z) 64 y := by
  funext c
  unfold vh_sA
  by_cases c1 : c = 63
  · subst c1; rfl
  · by_cases c2 : c = 64
    · subst c2; rfl
    · simp only [c1, c2, if_false]
section
variable {d : Nat} {mi : Nat → Nat → Int32} {ml : Nat → Nat → Int64} {n : Nat} {b g : Nat → Nat → Nat} {H D F E P M mv t : Nat} {fl : Option Nat}
/-- the service's numbers -/
def svF (f64 : Nat → Int32) (H D F E P f : Nat) : Nat → Nat := fun j => if j = 0 then H else if j = 1 then f else if j = 2 then D else if j = 3 then F else if j = 4 then E else if j = 5 then P else if j = 6 then 3 else if j = 7 then (f64 7).toBitVec.toNat else (f64 8).toBitVec.toNat
def svH (f64 : Nat → Int32) (H D F E P : Nat) : Prop := f64 0 = nI H ∧ f64 2 = nI D ∧ f64 3 = nI F ∧ f64 4 = nI E ∧ f64 5 = nI P ∧ f64 6 = nI 3
theorem sv_bk {f64 : Nat → Int32} {f : Nat} {m : Nat → Nat → Int32} (hs : svH f64 H D F E P) (hH : H < 4) (hf : f < 2) (hD : D ≤ 364) (hF : F < E) (hE : E ≤ 96) (hP : P ≤ 500) (hm : m 64 = upd f64 1 (nI f)) : BkA m 64 (svF f64 H D F E P f) := by
  obtain ⟨h0, h2, h3, h4, h5, h6⟩ := hs
  refine ⟨ok64, ?_, ?_⟩
  · intro j hj
    rw [hm]
    rcases (show j = 0 ∨ j = 1 ∨ j = 2 ∨ j = 3 ∨ j = 4 ∨ j = 5 ∨ j = 6 ∨ j = 7 ∨ j = 8 by omega) with rfl | rfl | rfl | rfl | rfl | rfl | rfl | rfl | rfl
    · exact h0
    · rfl
    · exact h2
    · exact h3
    · exact h4
    · exact h5
    · exact h6
    · exact (nI_all _).symm
    · exact (nI_all _).symm
  · unfold svF
    simp only [Nat.reduceEqDiff, if_true, if_false]
    omega
theorem sv_cw {f64 : Nat → Int32} {f : Nat} : cwP b g M (svF f64 H D F E P f) = fuB b g H D F E M f := by
  funext k
  apply Bool.eq_iff_iff.mpr
  unfold cwP
  rw [Bool.and_eq_true, clsh_i, fu_i, near_s]
  exact Iff.rfl
theorem l97f {c : Option Nat × Nat} {f : Nat} {f63 f64 : Nat → Int32} {l3 l4 : Option Value} (HC : DiC mi n b g) (B : DiB n b g) (hs : svH f64 H D F E P) (h5 : f63 5 = nI M) (hM : M < 2 ^ 16) (hH : H < 4) (hf : f < 2) (hD : D ≤ 364) (hF : F < E) (hE : E ≤ 96) (hP : P ≤ 500) (hc2 : c.2 < 2 ^ 16) (hc1 : ∀ y, c.1 = some y → y < 1000) : ∃ l3' l4', vh_E 97 10 [some (.ref 63), some (.int (bvI c.1)), some (.int (nI f)), l3, l4] [] (vh_K d (vh_sA (vh_sA mi 63 (upd f63 6 (nI c.2))) 64 f64) ml) = vh_E 97 10 [some (.ref 63), some (.int (bvI (flS P (fun f => g H (4 + f)) (fun f => msk (fuB b g H D F E M f) n) c f).1)), some (.int (nI (f + 1))), l3', l4'] [] (vh_K d (vh_sA (vh_sA mi 63 (upd f63 6 (nI (flS P (fun f => g H (4 + f)) (fun f => msk (fuB b g H D F E M f) n) c f).2))) 64 (upd f64 1 (nI f))) ml) := by
  have hn := B.1
  have H2 : DiC (vh_sA (vh_sA mi 63 (upd f63 6 (nI c.2))) 64 (upd f64 1 (nI f))) n b g := (HC.fr hn (by omega)).fr hn (by omega)
  have hS := sv_bk (m := vh_sA (vh_sA mi 63 (upd f63 6 (nI c.2))) 64 (upd f64 1 (nI f))) (f := f) hs hH hf hD hF hE hP sAs
  have hm := msk_l (P := fuB b g H D F E M f) hn
  have hcl := s89 (d := d) (ml := ml) H2 B hS hM
  rw [sv_cw] at hcl
  have hfr := s88 (d := d) (ml := ml) H2 B hS
  have hfi : frB g (svF f64 H D F E P f) = true ↔ P ≤ g H (4 + f) := fr_i
  have p1 := pc_le (M := msk (fuB b g H D F E M f) n) (k := 16)
  have p2 := pc_le (M := c.2) (k := 16)
  have x5 : (upd f63 6 (nI c.2)) 5 = nI M := by rw [upn (by decide)]; exact h5
  rw [e97_10]
  simp only [e97_0, e97_2, e97_3, e97_4, e97_5, e97_8, e97_9, e97_11, e97_12, e97_15, e97_16, e97_19, e97_20, e97_23, e97_24, e97_27, e97_28, e97_31, e97_32, e97_35, e97_38, e97_39, e97_40, e97_42, e97_45, e97_46, e97_49, e97_50, e97_53, e97_56, e97_59, e97_60, e97_63, e97_64, e97_66, e97_68, e97_71, e97_72, e97_75, e97_76, e97_79, e97_82, e97_85, e97_86, e97_87, e97_88, e97_89, e97_92, e97_95, e97_99, e97_102, e97_103, e97_106, ok63, ok64, ok42, rf63_0, rf63_2, sAs, sAA, sAn (show 63 ≠ 64 by decide), x5, ups, hcl, hfr, s98 hm, s98 hc2, show ¬ (2 : Int32) ≤ nI f from nI_ge (b := 2) hf (by decide), bvI_n hc1, nI_leI (show pc c.2 16 < 2 ^ 31 by omega) (show pc (msk (fuB b g H D F E M f) n) 16 < 2 ^ 31 by omega), nI_1, upU, sA_w, show ¬ (1 : Int32) = 0 by decide, not_true_eq_false, not_false_eq_true, if_true, if_false, and_self, vh_bds, vh_ps1, vh_ps0, vb0, vb1, vbz, vbo]
  have no : ¬ (P ≤ g H (4 + f) ∧ (c.1 = none ∨ pc (msk (fuB b g H D F E M f) n) 16 < pc c.2 16)) → flS P (fun f => g H (4 + f)) (fun f => msk (fuB b g H D F E M f) n) c f = c := fun z => flS_n z
  have yes : (P ≤ g H (4 + f) ∧ (c.1 = none ∨ pc (msk (fuB b g H D F E M f) n) 16 < pc c.2 16)) → flS P (fun f => g H (4 + f)) (fun f => msk (fuB b g H D F E M f) n) c f = (some f, msk (fuB b g H D F E M f) n) := fun z => flS_p z
  by_cases q2 : c.1 = none
  · rw [if_pos q2]
    by_cases q1 : frB g (svF f64 H D F E P f) = true
    · rw [if_neg (not_not_intro q1), yes ⟨hfi.mp q1, Or.inl q2⟩]
      exact ⟨_, _, rfl⟩
    · rw [if_pos q1, no (fun z => q1 (hfi.mpr z.1))]
      exact ⟨_, _, rfl⟩
  · rw [if_neg q2]
    by_cases q3 : pc c.2 16 ≤ pc (msk (fuB b g H D F E M f) n) 16
    · rw [if_pos q3, no (fun z => by have := z.2.resolve_left q2; omega)]
      exact ⟨_, _, rfl⟩
    · rw [if_neg q3]
      by_cases q1 : frB g (svF f64 H D F E P f) = true
      · rw [if_neg (not_not_intro q1), yes ⟨hfi.mp q1, Or.inr (by omega)⟩]
        exact ⟨_, _, rfl⟩
      · rw [if_pos q1, no (fun z => q1 (hfi.mpr z.1))]
        exact ⟨_, _, rfl⟩
theorem s97 (HC : DiC mi n b g) (B : DiB n b g) (hs : svH (mi 64) H D F E P) (h5 : mi 63 5 = nI M) (hM : M < 2 ^ 16) (hH : H < 4) (hD : D ≤ 364) (hF : F < E) (hE : E ≤ 96) (hP : P ≤ 500) : vh_C 97 [.ref 63] (vh_K d mi ml) = some (none, vh_K d (vh_sA (vh_sA mi 63 (upd (mi 63) 6 (nI (fuC b g n H D F E P M).2))) 64 (upd (mi 64) 1 (bvI (fuC b g n H D F E P M).1))) ml) := by
  have hn := B.1
  have HC' : DiC (vh_sA mi 63 (upd (mi 63) 6 0)) n b g := HC.fr hn (by omega)
  obtain ⟨l3, l4, A1⟩ := l97f (d := d) (mi := mi) (ml := ml) (c := (none, 0)) (f := 0) (f63 := mi 63) (f64 := mi 64) (l3 := none) (l4 := none) HC B hs h5 hM hH (by decide) hD hF hE hP (by decide) (fun y hy => by cases hy)
  have hb := flS_b (P := P) (fire := fun f => g H (4 + f)) (cl := fun f => msk (fuB b g H D F E M f) n) (c := (none, 0)) (f := 0) (fun f => msk_l hn) (by decide) (fun y hy => by cases hy) (by decide)
  obtain ⟨l3', l4', A2⟩ := l97f (d := d) (mi := mi) (ml := ml) (c := flS P (fun f => g H (4 + f)) (fun f => msk (fuB b g H D F E M f) n) (none, 0) 0) (f := 1) (f63 := mi 63) (f64 := upd (mi 64) 1 (nI 0)) (l3 := l3) (l4 := l4) HC B hs h5 hM hH (by decide) hD hF hE hP hb.1 (fun y hy => by have := hb.2 y hy; omega)
  have e64 : ∀ f63, vh_sA (vh_sA mi 63 f63) 64 (mi 64) = vh_sA mi 63 f63 := by
    intro f63
    funext c
    unfold vh_sA
    by_cases c1 : c = 64
    · subst c1; rfl
    · simp only [c1, if_false]
  rw [e64] at A1
  have start : vh_C 97 [.ref 63] (vh_K d mi ml) = vh_E 97 10 [some (.ref 63), some (.int (bvI none)), some (.int (nI 0)), none, none] [] (vh_K d (vh_sA mi 63 (upd (mi 63) 6 (nI 0))) ml) := by
    simp only [c97, e97_0, e97_2, e97_3, e97_4, e97_5, e97_8, e97_9, e97_11, e97_12, e97_15, e97_16, e97_19, e97_20, e97_23, e97_24, e97_27, e97_28, e97_31, e97_32, e97_35, e97_38, e97_39, e97_40, e97_42, e97_45, e97_46, e97_49, e97_50, e97_53, e97_56, e97_59, e97_60, e97_63, e97_64, e97_66, e97_68, e97_71, e97_72, e97_75, e97_76, e97_79, e97_82, e97_85, e97_86, e97_87, e97_88, e97_89, e97_92, e97_95, e97_98, e97_99, e97_102, e97_103, e97_106, ok63]
    rfl
  rw [start]
  refine Eq.trans A1 (Eq.trans A2 ?_)
  rw [e97_10]
  simp only [e97_11, e97_12, e97_98, e97_99, e97_102, e97_103, e97_106, ok63, ok64, rf63_2, sAs, sAA, upU, show (2 : Int32) ≤ nI (1 + 1) by decide, if_true]
  rfl
theorem fuC_n (h : (fuC b g n H D F E P M).1 = none) : (fuC b g n H D F E P M).2 = 0 := by
  unfold fuC fl2 at h ⊢
  by_cases q1 : P ≤ g H (4 + 1) ∧ ((flS P (fun f => g H (4 + f)) (fun f => msk (fuB b g H D F E M f) n) (none, 0) 0).1 = none ∨ pc (msk (fuB b g H D F E M 1) n) 16 < pc (flS P (fun f => g H (4 + f)) (fun f => msk (fuB b g H D F E M f) n) (none, 0) 0).2 16)
  · rw [flS_p (P := P) (fire := fun f => g H (4 + f)) (cl := fun f => msk (fuB b g H D F E M f) n) q1] at h; cases h
  · rw [flS_n (P := P) (fire := fun f => g H (4 + f)) (cl := fun f => msk (fuB b g H D F E M f) n) q1] at h ⊢
    by_cases q0 : P ≤ g H (4 + 0) ∧ ((none : Option Nat) = none ∨ pc (msk (fuB b g H D F E M 0) n) 16 < pc 0 16)
    · rw [flS_p (P := P) (fire := fun f => g H (4 + f)) (cl := fun f => msk (fuB b g H D F E M f) n) (c := (none, 0)) q0] at h; cases h
    · rw [flS_n (P := P) (fire := fun f => g H (4 + f)) (cl := fun f => msk (fuB b g H D F E M f) n) (c := (none, 0)) q0]
theorem flS_2 {fire cl : Nat → Nat} {c : Option Nat × Nat} {f : Nat} (R : Nat → Prop) (hcl : R (cl f)) (h : R c.2) : R (flS P fire cl c f).2 := by
  unfold flS
  split
  · exact hcl
  · exact h
theorem fuC_m (hn : n ≤ 16) : ∀ a, (fuC b g n H D F E P M).2.testBit a = true → a < n ∧ b a 0 = H ∧ b a 2 = D := by
  have hcl : ∀ f a, (msk (fuB b g H D F E M f) n).testBit a = true → a < n ∧ b a 0 = H ∧ b a 2 = D := by
    intro f a h
    rw [msk_bit, Bool.and_eq_true, decide_eq_true_iff] at h
    have := (fu_i.mp h.2).2.1
    exact ⟨h.1, this.1, this.2.2⟩
  unfold fuC fl2
  exact flS_2 (R := fun m => ∀ a, m.testBit a = true → a < n ∧ b a 0 = H ∧ b a 2 = D) (hcl 1) (flS_2 (R := fun m => ∀ a, m.testBit a = true → a < n ∧ b a 0 = H ∧ b a 2 = D) (hcl 0) (fun a ha => by rw [Nat.zero_testBit] at ha; cases ha))
end

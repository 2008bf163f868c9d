theorem rn_fold {mi : Nat → Nat → Int32} {h : Int32} {U : Nat} {T m : Nat → Nat} (hU : U ≤ 35040) : ∀ (L : List Nat) (c : Nat × Nat), (∀ k ∈ L, mi 107 k = nI (T k) ∧ T k ≤ 35039 ∧ mi 108 k = nI (m k) ∧ m k ≤ 600) → (L.filter (fun k => decide (mi 107 k ≤ nI U))).foldl (fun c k => rnQ U h c (lgI (mi 107) (mi 106) (mi 108) (fun _ => 0) k)) c = (L.filter (rnP mi h T U)).foldl (fun c k => rnS U c (T k) (m k)) c := by
  intro L
  induction L with
  | nil => intro c _; rfl
  | cons y L ih =>
    intro c hL
    obtain ⟨a1, a2, a3, a4⟩ := hL y (by simp)
    have ih' := fun c => ih c (fun k hk => hL k (List.mem_cons_of_mem _ hk))
    by_cases q : T y ≤ U
    · have q' : decide (mi 107 y ≤ nI U) = true := decide_eq_true (by rw [a1]; exact nI_le q (by omega))
      rw [List.filter_cons_of_pos (p := fun k => decide (mi 107 k ≤ nI U)) q', List.foldl_cons]
      by_cases w : mi 106 y = h
      · rw [List.filter_cons_of_pos (rn_i.mpr ⟨w, q⟩), List.foldl_cons, ← ih']
        congr 1
        unfold rnQ lgI
        rw [if_pos w]
        show rnS U c (mi 107 y).toNatClampNeg (mi 108 y).toNatClampNeg = _
        rw [a1, a3, nI_clamp (by omega), nI_clamp (by omega)]
      · rw [List.filter_cons_of_neg (fun z => w (rn_i.mp z).1), ← ih']
        congr 1
        unfold rnQ lgI
        rw [if_neg w]
    · have q' : ¬ decide (mi 107 y ≤ nI U) = true := fun z => q ((nI_leI (by omega) (by omega)).mp (by rw [← a1]; exact of_decide_eq_true z))
      rw [List.filter_cons_of_neg (p := fun k => decide (mi 107 k ≤ nI U)) q', List.filter_cons_of_neg (fun z => q (rn_i.mp z).2), ih']
theorem rn_le {U : Nat} {T m : Nat → Nat} : ∀ (L : List Nat) (c : Nat × Nat), (∀ k ∈ L, m k ≤ 600) → (L.foldl (fun c k => rnS U c (T k) (m k)) c).2 ≤ c.2 + 600 * L.length := by
  intro L
  induction L with
  | nil => intro c _; exact Nat.le_add_right _ _
  | cons y L ih =>
    intro c hL
    have := ih (rnS U c (T y) (m y)) (fun k hk => hL k (List.mem_cons_of_mem _ hk))
    have h2 := hL y (by simp)
    rw [List.foldl_cons, List.length_cons]
    unfold rnS at this ⊢
    simp only at this ⊢
    omega
section
variable {d : Nat} {mi : Nat → Nat → Int32} {ml : Nat → Nat → Int64} {n : Nat}
theorem rn_both {h : Int32} {U : Nat} (hR : Rel d mi) (hU : U ≤ 35040) : ∃ V, V ≤ 24000 ∧ vh_C 108 [.ref 0, .int h, .int (nI U)] (vh_K d mi ml) = some (some (.int (nI V)), vh_K d mi ml) ∧ vh_C 197 [.ref 88, .int h, .int (nI U)] (vh_K d (vh_sA mi 88 (upd (mi 88) 0 0)) ml) = some (some (.int (nI V)), vh_K d (vh_sA mi 88 (upd (mi 88) 0 0)) ml) := by
  obtain ⟨e4, n, hn, hc, l, hl, ht, hs, hok⟩ := hR.2.2.2.2.2.2.2.2.1
  have h88 : mi 88 33 = nI n := e4.symm.trans hc
  rw [hl] at ht
  have hk : ∀ k, k < n → mi 107 k = nI (mi 107 k).toNatClampNeg ∧ (mi 107 k).toNatClampNeg ≤ 35039 ∧ mi 108 k = nI (mi 108 k).toNatClampNeg ∧ (mi 108 k).toNatClampNeg ≤ 600 := by
    intro k hk
    obtain ⟨a1, a2, a3⟩ := hok (mi 107 k, mi 106 k, mi 108 k, 0) (by rw [ht]; exact lgL_at (b := fun _ => 0) hk)
    have b1 := rng_c (by decide) a1
    have b3 := rng_c (by decide) a3
    exact ⟨b1.1, b1.2.2, b3.1, b3.2.2⟩
  have hO := ordN_o (key := fun k => (mi 107 k).toNatClampNeg) (P := rnP mi h (fun k => (mi 107 k).toNatClampNeg) U) n
  have hO1 := ordN_o (key := fun k => (mi 107 k).toNatClampNeg) (P := fun _ => true) n
  have A := l108 (d := d) (ml := ml) (h := h) hU hn hc (fun i hi => hok _ (lgSort_mem (by rw [← hs]; exact lgL_at hi))) n 0 (0, 0) none (by omega) (by show 0 ≤ _; omega) (by show 0 ≤ _; omega)
  have Bq := l197 (d := d) (mi := vh_sA mi 88 (upd (mi 88) 0 0)) (ml := ml) (h := h) (U := U) (T := fun k => (mi 107 k).toNatClampNeg) (m := fun k => (mi 108 k).toNatClampNeg) hn hU (by simp only [sAn, sAs, sAA, ups, upn, bkv_n, hlv_n, ne_eq, Nat.reduceEqDiff, Nat.reduceLT, Nat.reduceLeDiff, or_true, true_or, not_false_eq_true]; exact h88) (fun i hi => by simp only [sAn, sAs, sAA, ups, upn, bkv_n, hlv_n, ne_eq, Nat.reduceEqDiff, Nat.reduceLT, Nat.reduceLeDiff, or_true, true_or, not_false_eq_true]; exact ⟨(hk i hi).1, (hk i hi).2.1⟩) (fun i hi => by simp only [sAn, sAs, sAA, ups, upn, bkv_n, hlv_n, ne_eq, Nat.reduceEqDiff, Nat.reduceLT, Nat.reduceLeDiff, or_true, true_or, not_false_eq_true]; exact ⟨(hk i hi).2.2.1, (hk i hi).2.2.2⟩) (L := ordN (fun k => (mi 107 k).toNatClampNeg) (rnP mi h (fun k => (mi 107 k).toNatClampNeg) U) n) hO _ [] 0 (0, 0) none none none none rfl (by decide) (fun x => by rw [Nat.zero_testBit]; simp) (by show 0 ≤ _; omega) (by show 0 ≤ _; omega)
  rw [List.drop_zero, hs, tw_filter (lgSort_S l), ht, lgSort_ord (T := fun k => (mi 107 k).toNatClampNeg) (fun i hi => ⟨(hk i hi).1, by have := (hk i hi).2.1; omega⟩), List.filter_map, List.foldl_map] at A
  have e := rn_fold (mi := mi) (h := h) (T := fun k => (mi 107 k).toNatClampNeg) (m := fun k => (mi 108 k).toNatClampNeg) hU (ordN (fun k => (mi 107 k).toNatClampNeg) (fun _ => true) n) (0, 0) (fun k hk' => hk k ((hO1.2.1 k).mp hk').1)
  rw [ord_filter (P := rnP mi h (fun k => (mi 107 k).toNatClampNeg) U)] at e
  have A2 := A.trans (congrArg (fun z : Nat × Nat => some (some (Value.int (nI z.2)), vh_K d mi ml)) e)
  refine ⟨((ordN (fun k => (mi 107 k).toNatClampNeg) (rnP mi h (fun k => (mi 107 k).toNatClampNeg) U) n).foldl (fun c k => rnS U c (mi 107 k).toNatClampNeg (mi 108 k).toNatClampNeg) (0, 0)).2, ?_, ?_, ?_⟩
  rotate_left
  · simp only [c108, e108_0, e108_1, e108_3, e108_4, e108_5, e108_6, e108_8, e108_9, e108_11, e108_12, e108_16, e108_17, e108_20, e108_23, e108_26, e108_27, e108_30, e108_33, e108_35, e108_36, e108_37, e108_40, e108_41, e108_44, e108_47, e108_49, e108_50, e108_51, e108_54, e108_56, e108_57, e108_60, e108_63, e108_65, e108_66, e108_68, e108_69, e108_72, e108_74, e108_76, e108_77, e108_80, e108_83, e108_85, e108_86, e108_87, e108_89, e108_91, e108_92, e108_94, e108_95, e108_98, e108_100, e108_101, e108_104, e108_105, e108_107, e108_110, e108_113, e108_115, show nI U * 15 = nI (U * 15) from pk_mul U 15]
    exact A2
  · simp only [c197, e197_0, e197_1, e197_2, e197_3, e197_5, e197_6, e197_8, e197_9, e197_13, e197_16, e197_18, e197_20, e197_21, e197_23, e197_25, e197_26, e197_29, e197_32, e197_33, e197_36, e197_38, e197_39, e197_40, e197_43, e197_44, e197_47, e197_49, e197_50, e197_51, e197_54, e197_55, e197_57, e197_58, e197_59, e197_60, e197_61, e197_62, e197_65, e197_66, e197_69, e197_70, e197_72, e197_74, e197_77, e197_79, e197_81, e197_84, e197_85, e197_88, e197_90, e197_91, e197_92, e197_95, e197_97, e197_98, e197_101, e197_103, e197_106, e197_108, e197_110, e197_113, e197_116, e197_118, e197_120, e197_123, e197_124, e197_127, e197_128, e197_130, e197_132, e197_135, e197_136, e197_137, e197_139, e197_140, e197_141, e197_142, e197_144, e197_146, e197_147, e197_150, e197_152, e197_153, e197_154, e197_157, e197_159, e197_162, e197_164, e197_165, e197_168, e197_170, e197_171, e197_172, e197_174, e197_176, e197_177, e197_180, e197_182, e197_183, e197_184, e197_186, e197_188, e197_190, e197_191, e197_192, e197_195, e197_197, e197_200, e197_202, e197_203, e197_204, e197_206, e197_208, e197_210, e197_212, e197_215, e197_217, e197_219, e197_220, e197_223, e197_224, e197_225, e197_227, e197_230, e197_232]
    exact Bq
  · refine Nat.le_trans (rn_le (U := U) (T := fun k => (mi 107 k).toNatClampNeg) (m := fun k => (mi 108 k).toNatClampNeg) _ (0, 0) (fun k hk' => (hk k ((hO.2.1 k).mp hk').1).2.2.2)) ?_
    have := hO.2.2
    show 0 + 600 * _ ≤ _
    omega
end

section
variable {d : Nat} {mi : Nat → Nat → Int32} {ml : Nat → Nat → Int64} {n : Nat} {b g : Nat → Nat → Nat} {W : Nat → Bool} {key : Nat → Nat} {L : List Nat}
theorem okx46 {k : Nat} (h : k < 16) : vh_ixa 46 (nI k) = true := ixa (by rw [kd46]; exact h) (by omega)
def ivA (b g : Nat → Nat → Nat) (L : List Nat) (w : Nat → Int) (y : Nat) (a : Int) (j : Nat) : Prop := 0 ≤ a ∧ a ≤ 2 ^ 60 ∧ (∀ j' z : Nat, j' < j → L[j']? = some z → ¬ clsh g (b z) (b y) = true → w j' ≤ a) ∧ (a = 0 ∨ ∃ j' z : Nat, j' < j ∧ L[j']? = some z ∧ ¬ clsh g (b z) (b y) = true ∧ w j' = a)
theorem l93i {i y : Nat} {w : Nat → Int} {l1 l2 l3 l4 l5 l6 l7 : Option Value} (HC : DiC mi n b g) (B : DiB n b g) (hL : OrdL key W n L) (hy : L[i]? = some y) (h44 : LnM (mi 44) L) (hml : ∀ j, j < i → ml 46 j = iL (w j)) (hwb : ∀ j, j < i → -(2 ^ 60) ≤ w j ∧ w j ≤ 2 ^ 60) : ∀ (r j : Nat) (a : Int), j + r = i → ivA b g L w y a j → ∃ a', vh_E 93 44 [some (.ref 42), l1, l2, l3, l4, l5, l6, l7, some (.int (nI i)), some (.ref (47 + y)), some (.long (iL a)), none, some (.int (nI j))] [] (vh_K d mi ml) = vh_E 93 100 [some (.ref 42), l1, l2, l3, l4, l5, l6, l7, some (.int (nI i)), some (.ref (47 + y)), some (.long (iL a')), none, some (.int (nI i))] [] (vh_K d mi ml) ∧ ivA b g L w y a' i := by
  have hn := B.1
  have hlen := hL.2.2
  have hiL : i < L.length := (List.getElem?_eq_some_iff.mp hy).1
  have hyn := (ord_mem hL hy).1
  intro r
  induction r with
  | zero =>
    intro j a hj hi
    have : j = i := by omega
    subst this
    refine ⟨a, ?_, hi⟩
    simp only [e93_44, e93_46, e93_48, nI_le (Nat.le_refl j) (show j < 2 ^ 31 by omega), if_true]
  | succ r ih =>
    intro j a hj hinv
    have hji : j < i := by omega
    have hz := List.getElem?_eq_getElem (show j < L.length by omega)
    generalize L[j]'(show j < L.length by omega) = z at hz
    have hzn := (ord_mem hL hz).1
    have ez := h44 j z hz
    obtain ⟨i0, i1, i2, i3⟩ := hinv
    obtain ⟨w1, w2⟩ := hwb j hji
    have hc : lg_cmp (iL (w j)) (iL a) ≤ 0 ↔ ¬ a < w j := by
      have : lg_cmp (iL (w j)) (iL a) ≤ 0 ↔ ¬ 0 < lg_cmp (iL (w j)) (iL a) := Int32.not_lt.symm
      rw [this, cmp_gt, iL_lt (by omega) (by omega) (by omega) (by omega)]
    rw [e93_44]
    simp only [e93_0, e93_1, e93_2, e93_3, e93_4, e93_6, e93_9, e93_11, e93_12, e93_14, e93_15, e93_17, e93_19, e93_21, e93_24, e93_25, e93_28, e93_29, e93_32, e93_34, e93_35, e93_36, e93_38, e93_39, e93_41, e93_42, e93_46, e93_48, e93_51, e93_52, e93_55, e93_57, e93_58, e93_60, e93_61, e93_64, e93_65, e93_66, e93_69, e93_70, e93_73, e93_75, e93_76, e93_77, e93_79, e93_82, e93_85, e93_86, e93_89, e93_91, e93_92, e93_94, e93_97, e93_101, e93_104, e93_106, e93_108, e93_109, e93_111, e93_114, e93_115, e93_117, e93_118, e93_119, e93_120, e93_121, e93_124, e93_126, e93_127, e93_128, e93_129, e93_130, e93_132, e93_133, e93_136, e93_138, e93_139, e93_142, e93_144, e93_147, e93_150, e93_152, e93_153, e93_156, e93_157, e93_158, ok42, ok43, ok44, ok46, rf42_1, rf42_2, rf42_4, Bool.or_true, okx46 (show j < 16 by omega), okx44 (show j < 16 by omega), clK (show j < 1000 by omega), ez, ixB (show z < 16 by omega), clK (show z < 1000 by omega), rfB (show z < 16 by omega), okB (show z < 16 by omega), okB (show y < 16 by omega), hml j hji, hc, s78 (HC.hc B) (HC.bk B hzn) (HC.bk B hyn), nI_ge hji (show i < 2 ^ 31 by omega), nI_1, not_true_eq_false, not_false_eq_true, if_true, if_false, and_self, vh_bds, vh_ps1, vh_ps0, vb0, vb1, vbz, vbo, Classical.not_not]
    have skip : (¬ a < w j ∨ clsh g (b z) (b y) = true) → ivA b g L w y a (j + 1) := by
      intro q
      refine ⟨i0, i1, ?_, ?_⟩
      · intro j' z' h1 h2 h3
        by_cases e : j' = j
        · subst e
          rw [hz] at h2
          cases h2
          rcases q with q | q
          · omega
          · exact absurd q h3
        · exact i2 j' z' (by omega) h2 h3
      · rcases i3 with h | ⟨j', z', h1, h2, h3, h4⟩
        · exact Or.inl h
        · exact Or.inr ⟨j', z', by omega, h2, h3, h4⟩
    by_cases q1 : a < w j
    · rw [if_neg (not_not_intro q1)]
      by_cases q2 : clsh g (b z) (b y) = true
      · rw [if_pos q2]
        exact ih (j + 1) a (by omega) (skip (Or.inr q2))
      · rw [if_neg q2]
        refine ih (j + 1) (w j) (by omega) ⟨by omega, w2, ?_, Or.inr ⟨j, z, by omega, hz, q2, rfl⟩⟩
        intro j' z' h1 h2 h3
        by_cases e : j' = j
        · rw [e]; exact Int.le_refl _
        · have := i2 j' z' (by omega) h2 h3; omega
    · rw [if_pos q1]
      exact ih (j + 1) a (by omega) (skip (Or.inl q1))
theorem dp_bd {i : Nat} {w : Int} {cl : Nat → Nat → Bool} (B : DiB n b g) (h : dpI W cl (fun k => pN g (b k)) n L i w) : -(2 ^ 50) ≤ w ∧ w ≤ 2 ^ 50 := by
  obtain ⟨y, -, -, S, -, -, -, e⟩ := h
  have := VS_le (p := fun k => pN g (b k)) (S := S) B.1 (fun j hj => (B.pr hj).2)
  have hn := B.1
  rw [e] at this
  omega
theorem bs_bd {i : Nat} {w : Int} {cl : Nat → Nat → Bool} (B : DiB n b g) (h : bsI W cl (fun k => pN g (b k)) n L i w) : -(2 ^ 50) ≤ w ∧ w ≤ 2 ^ 50 := by
  obtain ⟨-, S, -, -, e⟩ := h
  have := VS_le (p := fun k => pN g (b k)) (S := S) B.1 (fun j hj => (B.pr hj).2)
  have hn := B.1
  rw [e] at this
  omega
theorem l93 {l1 l2 l3 l4 : Option Value} (HC : DiC mi n b g) (B : DiB n b g) (hL : OrdL key W n L) (htr : ∀ a c e, a < n → c < n → e < n → W a = true → W c = true → W e = true → key a ≤ key c → key c ≤ key e → ¬ clsh g (b a) (b c) = true → ¬ clsh g (b c) (b e) = true → ¬ clsh g (b a) (b e) = true) (h44 : LnM (mi 44) L) : ∀ (r i : Nat) (bst : Int) (w : Nat → Int) (ml : Nat → Nat → Int64) (l9 l10 l11 l12 : Option Value), i + r = L.length → (∀ j, j < i → ml 46 j = iL (w j) ∧ dpI W (fun a c => clsh g (b a) (b c)) (fun k => pN g (b k)) n L j (w j)) → bsI W (fun a c => clsh g (b a) (b c)) (fun k => pN g (b k)) n L i bst → ∃ bst' f46, vh_E 93 17 [some (.ref 42), l1, l2, l3, l4, some (.int (nI L.length)), some (.long (iL bst)), none, some (.int (nI i)), l9, l10, l11, l12] [] (vh_K d mi ml) = some (some (.int (-iL bst' &&& 65535).toInt32), vh_K d mi (vh_sA ml 46 f46)) ∧ bsI W (fun a c => clsh g (b a) (b c)) (fun k => pN g (b k)) n L L.length bst' := by
  have hn := B.1
  have hlen := hL.2.2
  intro r
  induction r with
  | zero =>
    intro i bst w ml l9 l10 l11 l12 hi hw hb
    have : i = L.length := by omega
    subst this
    refine ⟨bst, ml 46, ?_, hb⟩
    rw [sAe]
    simp only [e93_17, e93_19, e93_21, e93_150, e93_152, e93_153, e93_156, e93_157, e93_158, nI_le (Nat.le_refl L.length) (show L.length < 2 ^ 31 by omega), if_true]
  | succ r ih =>
    intro i bst w ml l9 l10 l11 l12 hi hw hb
    have hiL : i < L.length := by omega
    have hy := List.getElem?_eq_getElem hiL
    generalize L[i]'hiL = y at hy
    have hyn := (ord_mem hL hy).1
    have ey := h44 i y hy
    have y6 : y < 16 := by omega
    have i6 : i < 16 := by omega
    obtain ⟨a, A, a0, a1, a2, a3⟩ := l93i (d := d) (ml := ml) (l1 := l1) (l2 := l2) (l3 := l3) (l4 := l4) (l5 := some (.int (nI L.length))) (l6 := some (.long (iL bst))) (l7 := none) (w := w) HC B hL hy h44 (fun j hj => (hw j hj).1) (fun j hj => by have := dp_bd B (hw j hj).2; omega) i 0 0 (by omega) ⟨by omega, by omega, fun j' z h => by omega, Or.inl rfl⟩
    have hd := dp_step (p := fun k => pN g (b k)) (cl := fun a c => clsh g (b a) (b c)) (w := w) hL (fun a c => clsh_s) htr hy (fun j hj => (hw j hj).2) a0 a2 a3
    have hb' := bs_step hb hd
    have d1 := dp_bd B hd
    have d2 := bs_bd B hb
    have hp := B.pr hyn
    have e1 : (nI (pN g (b y))).toInt64 <<< ((16 : Int32).toInt64 &&& 63) = iL ((pN g (b y) : Int) * 65536) := by
      rw [nI_l (by omega), show ((16 : Int32).toInt64 &&& 63) = lN 16 from by decide]
      have : lN (pN g (b y)) <<< lN 16 = lN (pN g (b y) * 65536) := by
        apply Int64.toBitVec_inj.mp
        apply BitVec.eq_of_toNat_eq
        show ((lN (pN g (b y))).toBitVec <<< ((lN 16).toBitVec.smod 64).toNat).toNat = _
        rw [sm64 16 (by decide), BitVec.toNat_shiftLeft, l_tn (by omega), l_tn (by omega), Nat.shiftLeft_eq]
        omega
      rw [this, iL_n (by omega)]
      congr 1
    have p2 := p16 y6
    have e2 : (1 : Int64) <<< ((nI y).toInt64 &&& 63) = iL ((2 ^ y : Nat) : Int) := by
      rw [nI_l (by omega), l63 y (by omega), l_shl y (by omega), iL_n (by omega)]
    have e3 : iL (a + (pN g (b y) : Int) * 65536) - iL ((2 ^ y : Nat) : Int) = iL (a + ((pN g (b y) : Int) * 65536 - ((2 ^ y : Nat) : Int))) := by
      rw [iL_sub]; congr 1; omega
    generalize hwi : a + ((pN g (b y) : Int) * 65536 - ((2 ^ y : Nat) : Int)) = wi at hd hb' d1 e3
    have e4 : (if iL wi < iL bst then iL bst else iL wi) = iL (if wi < bst then bst else wi) := by
      by_cases q : wi < bst
      · rw [if_pos q, if_pos ((iL_lt (by omega) (by omega) (by omega) (by omega)).mpr q)]
      · rw [if_neg q, if_neg (fun z => q ((iL_lt (by omega) (by omega) (by omega) (by omega)).mp z))]
    have gs : ∀ f : Nat → Int64, vp_updL f i (iL wi) i = iL wi := fun f => pk_uLs
    obtain ⟨bst', f46, h1, h2⟩ := ih (i + 1) (if wi < bst then bst else wi) (fun j => if j = i then wi else w j) (vh_sA ml 46 (vp_updL (ml 46) i (iL wi))) (some (.ref (47 + y))) (some (.long (iL a))) none (some (.int (nI i))) (by omega) (by
      intro j hj
      rw [sAs]
      by_cases e : j = i
      · subst e
        rw [pk_uLs, if_pos rfl]
        exact ⟨rfl, hd⟩
      · rw [pk_uLn e, if_neg e]
        exact hw j (by omega)) hb'
    refine ⟨bst', f46, ?_, h2⟩
    rw [sAA] at h1
    rw [e93_17]
    simp only [e93_0, e93_1, e93_2, e93_3, e93_4, e93_6, e93_9, e93_11, e93_12, e93_14, e93_15, e93_19, e93_21, e93_24, e93_25, e93_28, e93_29, e93_32, e93_34, e93_35, e93_36, e93_38, e93_39, e93_41, e93_42, e93_46, e93_48, e93_51, e93_52, e93_55, e93_57, e93_58, e93_60, e93_61, e93_64, e93_65, e93_66, e93_69, e93_70, e93_73, e93_75, e93_76, e93_77, e93_79, e93_82, e93_85, e93_86, e93_89, e93_91, e93_92, e93_94, e93_97, e93_100, e93_101, e93_104, e93_106, e93_108, e93_109, e93_111, e93_114, e93_115, e93_117, e93_118, e93_119, e93_120, e93_121, e93_124, e93_126, e93_127, e93_128, e93_129, e93_130, e93_132, e93_133, e93_136, e93_138, e93_139, e93_142, e93_144, e93_147, e93_150, e93_152, e93_153, e93_156, e93_157, e93_158, ok42, ok43, ok44, rf42_1, rf42_2, Bool.or_true, okx44 i6, clK (show i < 1000 by omega), ey, ixB y6, clK (show y < 1000 by omega), rfB y6, nI_ge hiL (show L.length < 2 ^ 31 by omega), not_true_eq_false, not_false_eq_true, if_true, if_false, and_self, vh_bds, vh_ps1, vh_ps0, vb0, vb1, vbz, vbo]
    refine Eq.trans A ?_
    simp only [e93_0, e93_1, e93_2, e93_3, e93_4, e93_6, e93_9, e93_11, e93_12, e93_14, e93_15, e93_19, e93_21, e93_24, e93_25, e93_28, e93_29, e93_32, e93_34, e93_35, e93_36, e93_38, e93_39, e93_41, e93_42, e93_46, e93_48, e93_51, e93_52, e93_55, e93_57, e93_58, e93_60, e93_61, e93_64, e93_65, e93_66, e93_69, e93_70, e93_73, e93_75, e93_76, e93_77, e93_79, e93_82, e93_85, e93_86, e93_89, e93_91, e93_92, e93_94, e93_97, e93_100, e93_101, e93_104, e93_106, e93_108, e93_109, e93_111, e93_114, e93_115, e93_117, e93_118, e93_119, e93_120, e93_121, e93_124, e93_126, e93_127, e93_128, e93_129, e93_130, e93_132, e93_133, e93_136, e93_138, e93_139, e93_142, e93_144, e93_147, e93_150, e93_152, e93_153, e93_156, e93_157, e93_158, ok42, ok44, ok46, okB y6, rf42_2, rf42_4, okx44 i6, okx46 i6, clK (show i < 1000 by omega), ey, s75 HC B hyn, hp.1, e1, e2, iL_add, e3, sAs, gs, e4, nI_1, not_true_eq_false, not_false_eq_true, if_true, if_false, and_self, vh_bds, vh_ps1, vh_ps0, vb0, vb1, vbz, vbo]
    exact h1
end

/-! THE LINE -/
def ahd (key : Nat → Nat) (x y : Nat) : Prop := key x < key y ∨ (key x = key y ∧ x < y)
def OrdL (key : Nat → Nat) (P : Nat → Bool) (m : Nat) (L : List Nat) : Prop := L.Pairwise (ahd key) ∧ (∀ x, x ∈ L ↔ x < m ∧ P x = true) ∧ L.length ≤ m
def LnM (f : Nat → Int32) (L : List Nat) : Prop := ∀ c x, L[c]? = some x → f c = nI x
section
variable {d : Nat} {mi : Nat → Nat → Int32} {ml : Nat → Nat → Int64} {n k h : Nat} {b g : Nat → Nat → Nat}
theorem okx44 {k : Nat} (h : k < 16) : vh_ixa 44 (nI k) = true := ixa (by rw [kd44]; exact h) (by omega)
theorem okx45 {k : Nat} (h : k < 16) : vh_ixa 45 (nI k) = true := ixa (by rw [kd45]; exact h) (by omega)
theorem l86i {key : Nat → Nat} {i : Nat} {l1 l2 : Option Value} (hn : n ≤ 16) (hi : i < n) (hkey : ∀ k, k < n → key k < 2 ^ 31) : ∀ (m : Nat) (A B : List Nat) (mi : Nat → Nat → Int32), A.length = m → (∀ k, k < n → mi 45 k = nI (key k)) → (∀ x ∈ A, x < i) → LnM (mi 44) A → (∀ c x, B[c]? = some x → mi 44 (A.length + 1 + c) = nI x) → A.length + B.length < 16 → (A ++ B).Pairwise (ahd key) → (∀ y ∈ B, key i < key y) →
    ∃ f A' B' l4, vh_E 86 26 [some (.ref 42), l1, l2, some (.int (nI i)), some (.int (nI m))] [] (vh_K d mi ml) = vh_E 86 84 [some (.ref 42), l1, l2, some (.int (nI i)), l4] [] (vh_K d (vh_sA mi 44 f) ml) ∧ A' ++ B' = A ++ B ∧ LnM f (A' ++ i :: B') ∧ (∀ y ∈ B', key i < key y) ∧ (∀ y ∈ A', key y ≤ key i) := by
  intro m
  induction m with
  | zero =>
    intro A B mi hA hk45 hAi hLA hLB hlen hP hB
    have : A = [] := List.length_eq_zero_iff.mp hA
    subst this
    refine ⟨upd (mi 44) 0 (nI i), [], B, some (.int (nI 0)), ?_, rfl, ?_, hB, ?_⟩
    · rw [e86_26]
      simp only [e86_0, e86_1, e86_2, e86_3, e86_4, e86_5, e86_6, e86_9, e86_12, e86_13, e86_14, e86_15, e86_16, e86_17, e86_20, e86_23, e86_24, e86_28, e86_31, e86_32, e86_35, e86_36, e86_39, e86_41, e86_42, e86_43, e86_44, e86_45, e86_46, e86_49, e86_50, e86_51, e86_54, e86_55, e86_58, e86_60, e86_61, e86_64, e86_66, e86_67, e86_68, e86_69, e86_70, e86_73, e86_76, e86_77, e86_80, e86_82, e86_83, e86_87, e86_90, e86_93, e86_94, show nI 0 ≤ 0 from by decide, if_true, ok42, ok44, rf42_2, okx44 (show 0 < 16 by decide), clK (show 0 < 1000 by decide)]
    · intro c x hx
      cases c with
      | zero => simp at hx; rw [ups, hx]
      | succ c =>
        rw [upn (by omega)]
        have := hLB c x (by simpa using hx)
        rw [show ([] : List Nat).length + 1 + c = c + 1 by simp; omega] at this
        exact this
    · intro y hy; cases hy
  | succ m ih =>
    intro A B mi hA hk45 hAi hLA hLB hlen hP hB
    rcases List.eq_nil_or_concat A with z | ⟨A1, y, z⟩
    · rw [z] at hA; cases hA
    rw [List.concat_eq_append] at z
    subst z
    have hm : A1.length = m := by rw [List.length_append] at hA; simpa using hA
    have hyi : y < i := hAi y (by simp)
    have hly : mi 44 m = nI y := hLA m y (by rw [← hm]; simp)
    have hlen' : m + 1 + B.length < 16 := by rw [hA] at hlen; exact hlen
    have ky := hk45 y (by omega)
    have ki := hk45 i hi
    have by1 := hkey y (by omega)
    have by2 := hkey i hi
    have hpos : ¬ nI (m + 1) ≤ 0 := nI_nle (by omega) (by omega)
    by_cases q : key y ≤ key i
    · refine ⟨upd (mi 44) (m + 1) (nI i), A1 ++ [y], B, some (.int (nI (m + 1))), ?_, rfl, ?_, hB, ?_⟩
      · rw [e86_26]
        simp only [e86_0, e86_1, e86_2, e86_3, e86_4, e86_5, e86_6, e86_9, e86_12, e86_13, e86_14, e86_15, e86_16, e86_17, e86_20, e86_23, e86_24, e86_28, e86_31, e86_32, e86_35, e86_36, e86_39, e86_41, e86_42, e86_43, e86_44, e86_45, e86_46, e86_49, e86_50, e86_51, e86_54, e86_55, e86_58, e86_60, e86_61, e86_64, e86_66, e86_67, e86_68, e86_69, e86_70, e86_73, e86_76, e86_77, e86_80, e86_82, e86_83, e86_87, e86_90, e86_93, e86_94, hpos, if_false, ok42, ok44, ok45, rf42_2, rf42_3, nI_pred, okx44 (show m < 16 by omega), okx44 (show m + 1 < 16 by omega), okx45 (show y < 16 by omega), okx45 (show i < 16 by omega), clK (show m < 1000 by omega), clK (show m + 1 < 1000 by omega), clK (show y < 1000 by omega), clK (show i < 1000 by omega), hly, ky, ki, nI_le q by2, if_true]
      · intro c x hx
        by_cases hc : c < m + 1
        · rw [upn (by omega)]
          apply hLA
          rw [List.getElem?_append_left (by rw [hA]; exact hc)] at hx
          exact hx
        · rw [List.getElem?_append_right (by rw [hA]; omega), hA] at hx
          obtain ⟨e, rfl⟩ : ∃ e, c = m + 1 + e := ⟨c - (m + 1), by omega⟩
          rw [show m + 1 + e - (m + 1) = e by omega] at hx
          cases e with
          | zero => simp at hx; rw [Nat.add_zero, ups, hx]
          | succ e =>
            rw [upn (by omega)]
            have := hLB e x (by simpa using hx)
            rw [hA] at this
            rw [show m + 1 + (e + 1) = m + 1 + 1 + e by omega]
            exact this
      · intro z hz
        rw [List.pairwise_append] at hP
        rcases List.mem_append.mp hz with h1 | h1
        · have := (List.pairwise_append.mp hP.1).2.2 z h1 y (by simp)
          rcases this with h | h <;> omega
        · rw [List.mem_singleton.mp h1]; exact q
    · have step : vh_E 86 26 [some (.ref 42), l1, l2, some (.int (nI i)), some (.int (nI (m + 1)))] [] (vh_K d mi ml) = vh_E 86 26 [some (.ref 42), l1, l2, some (.int (nI i)), some (.int (nI m))] [] (vh_K d (vh_sA mi 44 (upd (mi 44) (m + 1) (nI y))) ml) := by
        rw [e86_26]
        simp only [e86_0, e86_1, e86_2, e86_3, e86_4, e86_5, e86_6, e86_9, e86_12, e86_13, e86_14, e86_15, e86_16, e86_17, e86_20, e86_23, e86_24, e86_28, e86_31, e86_32, e86_35, e86_36, e86_39, e86_41, e86_42, e86_43, e86_44, e86_45, e86_46, e86_49, e86_50, e86_51, e86_54, e86_55, e86_58, e86_60, e86_61, e86_64, e86_66, e86_67, e86_68, e86_69, e86_70, e86_73, e86_76, e86_77, e86_80, e86_82, e86_83, e86_87, e86_90, e86_93, e86_94, hpos, if_false, ok42, ok44, ok45, rf42_2, rf42_3, nI_pred, pk_m1, okx44 (show m < 16 by omega), okx44 (show m + 1 < 16 by omega), okx45 (show y < 16 by omega), okx45 (show i < 16 by omega), clK (show m < 1000 by omega), clK (show m + 1 < 1000 by omega), clK (show y < 1000 by omega), clK (show i < 1000 by omega), hly, ky, ki, nI_ge (show key i < key y by omega) by1, if_false]
      obtain ⟨f, A', B', l4, h1, h2, h3, h4, h5⟩ := ih A1 (y :: B) (vh_sA mi 44 (upd (mi 44) (m + 1) (nI y))) hm (by intro k hk; rw [sAn (by decide)]; exact hk45 k hk) (fun x hx => hAi x (by simp [hx])) (by
          intro c x hx
          have hc : c < A1.length := by
            rcases Nat.lt_or_ge c A1.length with z | z
            · exact z
            · rw [List.getElem?_eq_none z] at hx; cases hx
          rw [sAs, upn (by omega)]
          apply hLA
          rw [List.getElem?_append_left hc]
          exact hx) (by
          intro c x hx
          rw [sAs, hm]
          cases c with
          | zero => simp at hx; rw [Nat.add_zero, ups, hx]
          | succ c =>
            rw [upn (by omega)]
            have := hLB c x (by simpa using hx)
            rw [hA] at this
            rw [show m + 1 + (c + 1) = m + 1 + 1 + c by omega]
            exact this) (by rw [hm]; simp; omega) (by simpa using hP) (by
          intro z hz
          rcases List.mem_cons.mp hz with h1 | h1
          · rw [h1]; omega
          · exact hB z h1)
      refine ⟨f, A', B', l4, ?_, by rw [h2]; simp, h3, h4, h5⟩
      rw [step, h1, sAA]
theorem ord_ins {key : Nat → Nat} {P : Nat → Bool} {i : Nat} {A B : List Nat} (h : OrdL key P i (A ++ B)) (hp : P i = true) (hB : ∀ y ∈ B, key i < key y) (hA : ∀ y ∈ A, key y ≤ key i) : OrdL key P (i + 1) (A ++ i :: B) := by
  obtain ⟨h1, h2, h3⟩ := h
  refine ⟨?_, ?_, ?_⟩
  · rw [List.pairwise_append] at h1 ⊢
    refine ⟨h1.1, ?_, ?_⟩
    · rw [List.pairwise_cons]
      exact ⟨fun y hy => Or.inl (hB y hy), h1.2.1⟩
    · intro x hx y hy
      rcases List.mem_cons.mp hy with z | z
      · have hx2 := ((h2 x).mp (List.mem_append_left _ hx)).1
        have := hA x hx
        rw [z]
        unfold ahd
        omega
      · exact h1.2.2 x hx y z
  · intro x
    have := h2 x
    rw [List.mem_append] at this
    rw [List.mem_append, List.mem_cons]
    constructor
    · rintro (z | z | z)
      · have := this.mp (Or.inl z); exact ⟨by omega, this.2⟩
      · rw [z]; exact ⟨by omega, hp⟩
      · have := this.mp (Or.inr z); exact ⟨by omega, this.2⟩
    · rintro ⟨z1, z2⟩
      by_cases e : x = i
      · exact Or.inr (Or.inl e)
      · rcases this.mpr ⟨by omega, z2⟩ with z | z
        · exact Or.inl z
        · exact Or.inr (Or.inr z)
  · rw [List.length_append] at h3 ⊢
    simp
    omega
theorem ord_skip {key : Nat → Nat} {P : Nat → Bool} {i : Nat} {L : List Nat} (h : OrdL key P i L) (hp : ¬ P i = true) : OrdL key P (i + 1) L := by
  obtain ⟨h1, h2, h3⟩ := h
  refine ⟨h1, ?_, by omega⟩
  intro x
  rw [h2]
  constructor
  · rintro ⟨z1, z2⟩; exact ⟨by omega, z2⟩
  · rintro ⟨z1, z2⟩
    refine ⟨?_, z2⟩
    by_cases e : x = i
    · rw [e] at z2; exact absurd z2 hp
    · omega
theorem l86 {key : Nat → Nat} {M : Nat} (hn : n ≤ 16) (hM : M < 2 ^ 16) (hkey : ∀ k, k < n → key k < 2 ^ 31) : ∀ (j i : Nat) (L : List Nat) (mi : Nat → Nat → Int32) (l4 : Option Value), i + j = n → mi 42 5 = nI n → (∀ k, k < n → mi 45 k = nI (key k)) → LnM (mi 44) L → OrdL key M.testBit i L →
    ∃ f L', vh_E 86 4 [some (.ref 42), some (.int (nI M)), some (.int (nI L.length)), some (.int (nI i)), l4] [] (vh_K d mi ml) = some (some (.int (nI L'.length)), vh_K d (vh_sA mi 44 f) ml) ∧ LnM f L' ∧ OrdL key M.testBit n L' := by
  intro j
  induction j with
  | zero =>
    intro i L mi l4 hij h5 h45 hL hO
    have : i = n := by omega
    subst this
    refine ⟨mi 44, L, ?_, hL, hO⟩
    rw [sAe]
    simp only [e86_4, e86_5, e86_6, e86_9, e86_93, e86_94, ok42, h5, nI_le (Nat.le_refl i) (show i < 2 ^ 31 by omega), if_true]
  | succ j ih =>
    intro i L mi l4 hij h5 h45 hL hO
    have hin : i < n := by omega
    have hl : L.length ≤ i := hO.2.2
    rw [e86_4]
    simp only [e86_0, e86_1, e86_2, e86_3, e86_5, e86_6, e86_9, e86_12, e86_13, e86_14, e86_15, e86_16, e86_17, e86_20, e86_23, e86_24, e86_28, e86_31, e86_32, e86_35, e86_36, e86_39, e86_41, e86_42, e86_43, e86_44, e86_45, e86_46, e86_49, e86_50, e86_51, e86_54, e86_55, e86_58, e86_60, e86_61, e86_64, e86_66, e86_67, e86_68, e86_69, e86_70, e86_73, e86_76, e86_77, e86_80, e86_82, e86_83, e86_87, e86_90, e86_93, e86_94, ok42, h5, nI_ge hin (show n < 2 ^ 31 by omega), if_false, bt (show M < 2 ^ 31 by omega) (show i < 31 by omega), not_true_eq_false, not_false_eq_true, if_true, if_false, and_self, vh_bds, vh_ps1, vh_ps0, vb0, vb1, vbz, vbo, nI_1, Classical.not_not]
    by_cases q : M.testBit i = true
    · rw [if_pos q]
      obtain ⟨f, A', B', l4', h1, h2, h3, h4, h6⟩ := l86i (d := d) (ml := ml) (l1 := some (.int (nI M))) (l2 := some (.int (nI L.length))) hn hin hkey L.length L [] mi rfl h45 (fun x hx => ((hO.2.1 x).mp hx).1) hL (by intro c x hx; simp at hx) (by simp; omega) (by simpa using hO.1) (by intro y hy; cases hy)
      rw [h1]
      have hlen : (A' ++ i :: B').length = L.length + 1 := by
        have := congrArg List.length h2
        simp at this ⊢
        omega
      obtain ⟨f2, L2, g1, g2, g3⟩ := ih (i + 1) (A' ++ i :: B') (vh_sA mi 44 f) l4' (by omega) (by rw [sAn (by decide)]; exact h5) (by intro k hk; rw [sAn (by decide)]; exact h45 k hk) (by rw [sAs]; exact h3) (ord_ins (by rw [h2]; simpa using hO) q h4 h6)
      rw [hlen] at g1
      refine ⟨f2, L2, ?_, g2, g3⟩
      simp only [e86_84, e86_87, e86_90, nI_1]
      rw [g1, sAA]
    · rw [if_neg q]
      obtain ⟨f2, L2, g1, g2, g3⟩ := ih (i + 1) L mi l4 (by omega) h5 h45 hL (ord_skip hO q)
      exact ⟨f2, L2, g1, g2, g3⟩
theorem s86 {key : Nat → Nat} {M : Nat} (hn : n ≤ 16) (hM : M < 2 ^ 16) (hkey : ∀ k, k < n → key k < 2 ^ 31) (h5 : mi 42 5 = nI n) (h45 : ∀ k, k < n → mi 45 k = nI (key k)) : ∃ f L, vh_C 86 [.ref 42, .int (nI M)] (vh_K d mi ml) = some (some (.int (nI L.length)), vh_K d (vh_sA mi 44 f) ml) ∧ LnM f L ∧ OrdL key M.testBit n L := by
  obtain ⟨f, L, h1, h2, h3⟩ := l86 (d := d) (ml := ml) (key := key) (M := M) hn hM hkey n 0 [] mi none (by omega) h5 h45 (by intro c x hx; simp at hx) ⟨List.Pairwise.nil, fun x => ⟨fun z => absurd z (by simp), fun z => absurd z.1 (by omega)⟩, Nat.zero_le _⟩
  refine ⟨f, L, ?_, h2, h3⟩
  simp only [c86, e86_0, e86_1, e86_2, e86_3]
  exact h1
/-- one line only -/
theorem ord_uni {key : Nat → Nat} : ∀ {L1 L2 : List Nat}, L1.Pairwise (ahd key) → L2.Pairwise (ahd key) → (∀ x, x ∈ L1 ↔ x ∈ L2) → L1 = L2 := by
  intro L1
  induction L1 with
  | nil =>
    intro L2 _ _ h
    cases L2 with
    | nil => rfl
    | cons y l => exact absurd ((h y).mpr (by simp)) (by simp)
  | cons x l1 ih =>
    intro L2 h1 h2 h
    cases L2 with
    | nil => exact absurd ((h x).mp (by simp)) (by simp)
    | cons y l2 =>
      rw [List.pairwise_cons] at h1 h2
      have hxy : x = y := by
        by_cases e : x = y
        · exact e
        · have a1 : x ∈ l2 := by
            rcases List.mem_cons.mp ((h x).mp (by simp)) with z | z
            · exact absurd z e
            · exact z
          have a2 : y ∈ l1 := by
            rcases List.mem_cons.mp ((h y).mpr (by simp)) with z | z
            · exact absurd z.symm e
            · exact z
          have b1 := h2.1 x a1
          have b2 := h1.1 y a2
          unfold ahd at b1 b2
          omega
      subst hxy
      congr 1
      apply ih h1.2 h2.2
      intro z
      constructor
      · intro hz
        rcases List.mem_cons.mp ((h z).mp (List.mem_cons_of_mem _ hz)) with e | e
        · have := h1.1 z hz; rw [e] at this; unfold ahd at this; omega
        · exact e
      · intro hz
        rcases List.mem_cons.mp ((h z).mpr (List.mem_cons_of_mem _ hz)) with e | e
        · have := h2.1 z hz; rw [e] at this; unfold ahd at this; omega
        · exact e
end

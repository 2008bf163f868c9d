section
variable {d : Nat} {mi : Nat → Nat → Int32} {ml : Nat → Nat → Int64} {n k h : Nat} {b g : Nat → Nat → Nat}
/-- the line as a function -/
def insN (key : Nat → Nat) (x : Nat) (L : List Nat) : List Nat := L.takeWhile (fun y => decide (key y ≤ key x)) ++ x :: L.dropWhile (fun y => decide (key y ≤ key x))
def ordN (key : Nat → Nat) (P : Nat → Bool) : Nat → List Nat
  | 0 => []
  | k + 1 => if P k = true then insN key k (ordN key P k) else ordN key P k
theorem mem_tw {P : Nat → Bool} : ∀ {L : List Nat} {y : Nat}, y ∈ L.takeWhile P → P y = true := by
  intro L
  induction L with
  | nil => intro y hy; simp at hy
  | cons a l ih =>
    intro y hy
    rw [List.takeWhile_cons] at hy
    split at hy
    · rename_i h
      rcases List.mem_cons.mp hy with z | z
      · rw [z]; exact h
      · exact ih z
    · simp at hy
theorem mem_dw {key : Nat → Nat} {x : Nat} : ∀ {L : List Nat}, L.Pairwise (ahd key) → ∀ y, y ∈ L.dropWhile (fun y => decide (key y ≤ key x)) → key x < key y := by
  intro L
  induction L with
  | nil => intro _ y hy; simp at hy
  | cons a l ih =>
    intro hP y hy
    rw [List.pairwise_cons] at hP
    rw [List.dropWhile_cons] at hy
    split at hy
    · exact ih hP.2 y hy
    · rename_i h
      have h : ¬ key a ≤ key x := by simpa using h
      rcases List.mem_cons.mp hy with z | z
      · rw [z]; omega
      · have := hP.1 y z
        unfold ahd at this
        omega
theorem ordN_o {key : Nat → Nat} {P : Nat → Bool} : ∀ m, OrdL key P m (ordN key P m) := by
  intro m
  induction m with
  | zero => exact ⟨List.Pairwise.nil, fun x => ⟨fun z => absurd z (by simp [ordN]), fun z => absurd z.1 (by omega)⟩, Nat.le_refl _⟩
  | succ m ih =>
    unfold ordN
    by_cases h : P m = true
    · rw [if_pos h]
      unfold insN
      apply ord_ins _ h
      · exact mem_dw ih.1
      · intro y hy; simpa using mem_tw hy
      · rw [List.takeWhile_append_dropWhile]; exact ih
    · rw [if_neg h]
      exact ord_skip ih h
theorem ord_eq {key : Nat → Nat} {P Q : Nat → Bool} {m : Nat} {L : List Nat} (h : OrdL key P m L) (hQ : ∀ x, x < m → P x = Q x) : L = ordN key Q m := by
  have h2 := ordN_o (key := key) (P := Q) m
  apply ord_uni h.1 h2.1
  intro x
  rw [h.2.1, h2.2.1]
  constructor
  · rintro ⟨z1, z2⟩; exact ⟨z1, by rw [← hQ x z1]; exact z2⟩
  · rintro ⟨z1, z2⟩; exact ⟨z1, by rw [hQ x z1]; exact z2⟩
def hkey (b g : Nat → Nat → Nat) (k : Nat) : Nat := g (b k 0) (20 + b k 6) * 365 + b k 8
def hstep (b g : Nat → Nat → Nat) (n M k : Nat) : Nat := if chB b g n M (b k) = true then M ||| 2 ^ k else M
def hld (b g : Nat → Nat → Nat) (n D : Nat) : Nat := (ordN (hkey b g) (fun k => thB (b k) D) n).foldl (hstep b g n) 0
theorem hkey_lt (B : DiB n b g) (hk : k < n) : hkey b g k < 2 ^ 31 := by
  obtain ⟨a0, a1, a2, a3, a4, a5, a5', a6, a7, a8, a9⟩ := B.2.1 k hk
  have := (B.2.2.2 (b k 0) (by omega)).2.2.2.2.2.2.1 (b k 6) (by omega)
  unfold hkey
  omega
theorem l82a {l1 l2 l5 : Option Value} (B : DiB n b g) : ∀ (j i : Nat) (mi : Nat → Nat → Int32) (l4 : Option Value), i + j = n → DiC mi n b g → (∀ k, k < i → mi 45 k = nI (hkey b g k)) →
    ∃ f l4', vh_E 82 8 [some (.ref 42), l1, l2, some (.int (nI i)), l4, l5] [] (vh_K d mi ml) = vh_E 82 65 [some (.ref 42), l1, l2, some (.int (nI n)), l4', l5] [] (vh_K d (vh_sA mi 45 f) ml) ∧ ∀ k, k < n → f k = nI (hkey b g k) := by
  have hn := B.1
  intro j
  induction j with
  | zero =>
    intro i mi l4 hi H hk
    have : i = n := by omega
    subst this
    refine ⟨mi 45, l4, ?_, hk⟩
    rw [sAe]
    simp only [e82_8, e82_9, e82_10, e82_13, ok42, H.sz, nI_le (Nat.le_refl i) (show i < 2 ^ 31 by omega), if_true]
  | succ j ih =>
    intro i mi l4 hi H hk
    have hin : i < n := by omega
    have hi6 : i < 16 := by omega
    obtain ⟨a0, a1, a2, a3, a4, a5, a5', a6, a7, a8, a9⟩ := B.2.1 i hin
    have h0 : b i 0 < 4 := by omega
    have h6 : b i 6 < 5 := by omega
    have hx : vh_ixa (9 + 4 * b i 0) (nI (b i 6)) = true := ixa (by rw [kdHk h0]; exact h6) (by omega)
    have ek : nI (g (b i 0) (20 + b i 6)) * 365 + nI (b i 8) = nI (hkey b g i) := by rw [show (365 : Int32) = nI 365 from rfl, pk_mul, nI_add]; rfl
    obtain ⟨f, l4', h1, h2⟩ := ih (i + 1) (vh_sA mi 45 (upd (mi 45) i (nI (hkey b g i)))) (some (.ref (47 + i))) (by omega) (H.fr hn (by omega)) (by
      intro k hk'
      rw [sAs]
      by_cases e : k = i
      · rw [e, ups]
      · rw [upn e]; exact hk k (by omega))
    rw [sAA] at h1
    refine ⟨f, l4', ?_, h2⟩
    rw [e82_8]
    simp only [e82_0, e82_1, e82_2, e82_5, e82_6, e82_7, e82_9, e82_10, e82_13, e82_16, e82_17, e82_20, e82_21, e82_22, e82_24, e82_25, e82_28, e82_29, e82_30, e82_33, e82_35, e82_38, e82_39, e82_42, e82_44, e82_47, e82_48, e82_51, e82_52, e82_54, e82_57, e82_58, e82_59, e82_62, e82_66, e82_67, e82_70, e82_71, e82_72, e82_74, e82_75, e82_77, e82_79, e82_80, e82_83, e82_84, e82_85, e82_88, e82_89, e82_92, e82_94, e82_95, e82_96, e82_98, e82_101, e82_104, e82_106, e82_107, e82_108, e82_111, e82_113, e82_114, e82_115, e82_116, e82_118, e82_121, e82_124, e82_126, ok42, H.sz, nI_ge hin (show n < 2 ^ 31 by omega), if_false, rf42_1, rf42_3, rf42_0, ok43, ok45, ok5, Bool.or_true, Bool.true_or, ixB hi6, okx45 hi6, clK (show i < 1000 by omega), rfB hi6, okB hi6, H.f0 hin, H.f6 hin, H.f8 hin, ixH h0, clK (show b i 0 < 1000 by omega), clK (show b i 6 < 1000 by omega), rfH h0, okH h0, rfHk h0, okHk h0, hx, H.rk h0 h6, ek, nI_1]
    exact h1
theorem fold_lt {b g : Nat → Nat → Nat} {n : Nat} : ∀ {L : List Nat} {M : Nat}, (∀ x ∈ L, x < 16) → M < 2 ^ 16 → L.foldl (hstep b g n) M < 2 ^ 16 := by
  intro L
  induction L with
  | nil => intro M _ h; exact h
  | cons a l ih =>
    intro M hL hM
    rw [List.foldl_cons]
    apply ih (fun x hx => hL x (List.mem_cons_of_mem _ hx))
    unfold hstep
    split
    · exact sbl hM (hL a (by simp))
    · exact hM
theorem l82c {l1 l2 : Option Value} {L : List Nat} (H : DiC mi n b g) (B : DiB n b g) (hL : ∀ x ∈ L, x < n) (hlen : L.length ≤ 16) (hM : LnM (mi 44) L) : ∀ (T S : List Nat) (M : Nat), S ++ T = L → M < 2 ^ 16 → vh_E 82 77 [some (.ref 42), l1, l2, some (.int (nI L.length)), some (.int (nI M)), some (.int (nI S.length))] [] (vh_K d mi ml) = some (some (.int (nI (T.foldl (hstep b g n) M))), vh_K d mi ml) := by
  have hn := B.1
  intro T
  induction T with
  | nil =>
    intro S M hS hMl
    have : S = L := by simpa using hS
    subst this
    simp only [e82_77, e82_79, e82_80, e82_124, e82_126, nI_le (Nat.le_refl S.length) (show S.length < 2 ^ 31 by omega), if_true, List.foldl_nil]
  | cons x T ih =>
    intro S M hS hMl
    have hx : x < n := hL x (by rw [← hS]; simp)
    have hx6 : x < 16 := by omega
    have hsl : S.length < L.length := by rw [← hS]; simp
    have hln : mi 44 S.length = nI x := hM S.length x (by rw [← hS]; simp)
    have h7 := (B.2.1 x hx).2.2.2.2.2.2.2.2.1
    rw [e82_77]
    simp only [e82_0, e82_1, e82_2, e82_5, e82_6, e82_7, e82_8, e82_9, e82_10, e82_13, e82_16, e82_17, e82_20, e82_21, e82_22, e82_24, e82_25, e82_28, e82_29, e82_30, e82_33, e82_35, e82_38, e82_39, e82_42, e82_44, e82_47, e82_48, e82_51, e82_52, e82_54, e82_57, e82_58, e82_59, e82_62, e82_65, e82_66, e82_67, e82_70, e82_71, e82_72, e82_74, e82_75, e82_79, e82_80, e82_83, e82_84, e82_85, e82_88, e82_89, e82_92, e82_94, e82_95, e82_96, e82_98, e82_101, e82_104, e82_106, e82_107, e82_108, e82_111, e82_113, e82_114, e82_115, e82_116, e82_118, e82_121, e82_124, e82_126, nI_ge hsl (show L.length < 2 ^ 31 by omega), if_false, ok42, rf42_1, rf42_2, ok43, ok44, Bool.or_true, okx44 (show S.length < 16 by omega), clK (show S.length < 1000 by omega), hln, ixB hx6, clK (show x < 1000 by omega), rfB hx6, s87 H B (H.bk B hx) h7 hMl, sbt hMl hx6, nI_1, not_true_eq_false, not_false_eq_true, if_true, if_false, and_self, vh_bds, vh_ps1, vh_ps0, vb0, vb1, vbz, vbo]
    rw [List.foldl_cons]
    have hS' : (S ++ [x]) ++ T = L := by rw [← hS]; simp
    have hl' : (S ++ [x]).length = S.length + 1 := by simp
    unfold hstep
    by_cases q : chB b g n M (b x) = true
    · rw [if_neg (not_not_intro q), if_pos q]
      have := ih (S ++ [x]) (M ||| 2 ^ x) hS' (sbl hMl hx6)
      rw [hl'] at this
      exact this
    · rw [if_pos q, if_neg q]
      have := ih (S ++ [x]) M hS' hMl
      rw [hl'] at this
      exact this
theorem s82 {D : Nat} (H : DiC mi n b g) (B : DiB n b g) (hD : D ≤ 364) : ∃ f45 f44, vh_C 82 [.ref 42, .int (nI D)] (vh_K d mi ml) = some (some (.int (nI (hld b g n D))), vh_K d (vh_sA (vh_sA mi 45 f45) 44 f44) ml) := by
  have hn := B.1
  obtain ⟨f45, l4', h1, h2⟩ := l82a (d := d) (ml := ml) (l1 := some (.int (nI D))) (l2 := some (.int (nI (msk (fun k => thB (b k) D) n)))) (l5 := none) B n 0 mi none (by omega) H (fun k hk => by omega)
  have H1 : DiC (vh_sA mi 45 f45) n b g := H.fr hn (by omega)
  obtain ⟨f44, L, h3, h4, h5⟩ := s86 (d := d) (mi := vh_sA mi 45 f45) (ml := ml) (key := hkey b g) (M := msk (fun k => thB (b k) D) n) hn (msk_l hn) (fun k hk => hkey_lt B hk) H1.sz (fun k hk => by rw [sAs]; exact h2 k hk)
  have H2 : DiC (vh_sA (vh_sA mi 45 f45) 44 f44) n b g := H1.fr hn (by omega)
  have e := ord_eq (Q := fun k => thB (b k) D) h5 (fun x hx => by rw [msk_bit, decide_eq_true hx]; rfl)
  have h6 := l82c (d := d) (mi := vh_sA (vh_sA mi 45 f45) 44 f44) (ml := ml) (l1 := some (.int (nI D))) (l2 := some (.int (nI (msk (fun k => thB (b k) D) n)))) H2 B (fun x hx => ((h5.2.1 x).mp hx).1) (by have := h5.2.2; omega) (by rw [sAs]; exact h4) L [] 0 rfl (by decide)
  refine ⟨f45, f44, ?_⟩
  simp only [c82, e82_0, e82_1, e82_2, e82_5, e82_6, e82_7, e82_9, e82_10, e82_13, e82_16, e82_17, e82_20, e82_21, e82_22, e82_24, e82_25, e82_28, e82_29, e82_30, e82_33, e82_35, e82_38, e82_39, e82_42, e82_44, e82_47, e82_48, e82_51, e82_52, e82_54, e82_57, e82_58, e82_59, e82_62, e82_66, e82_67, e82_70, e82_71, e82_72, e82_74, e82_75, e82_79, e82_80, e82_83, e82_84, e82_85, e82_88, e82_89, e82_92, e82_94, e82_95, e82_96, e82_98, e82_101, e82_104, e82_106, e82_107, e82_108, e82_111, e82_113, e82_114, e82_115, e82_116, e82_118, e82_121, e82_124, e82_126, s83 H B hD, ok42, not_true_eq_false, not_false_eq_true, if_true, if_false, and_self, vh_bds, vh_ps1, vh_ps0, vb0, vb1, vbz, vbo]
  rw [show (0 : Int32) = nI 0 from rfl, h1]
  simp only [e82_0, e82_1, e82_2, e82_5, e82_6, e82_7, e82_9, e82_10, e82_13, e82_16, e82_17, e82_20, e82_21, e82_22, e82_24, e82_25, e82_28, e82_29, e82_30, e82_33, e82_35, e82_38, e82_39, e82_42, e82_44, e82_47, e82_48, e82_51, e82_52, e82_54, e82_57, e82_58, e82_59, e82_62, e82_65, e82_66, e82_67, e82_70, e82_71, e82_72, e82_74, e82_75, e82_79, e82_80, e82_83, e82_84, e82_85, e82_88, e82_89, e82_92, e82_94, e82_95, e82_96, e82_98, e82_101, e82_104, e82_106, e82_107, e82_108, e82_111, e82_113, e82_114, e82_115, e82_116, e82_118, e82_121, e82_124, e82_126, h3, ok42, not_true_eq_false, not_false_eq_true, if_true, if_false, and_self, vh_bds, vh_ps1, vh_ps0, vb0, vb1, vbz, vbo]
  unfold hld
  rw [← e]
  exact h6
end

/-! HOW THE MACHINE'S MEMORY LIES IN THE HEAP. G: base, (class ids, slots), array classes by kind, String constants, their bytes, the formatter. -/
abbrev vh_G : Type := Nat × va_G × (Nat → ClassId) × (Nat → Nat) × (Nat → Nat) × Value
def vh_Ar (G : vh_G) : Nat → Prop := fun q => G.1 ≤ q
def vh_tv (G : vh_G) (v : Value) : Value := match v with
  | .ref a => if a < 1000 then .ref (G.1 + a) else if a < 2000 then .ref (G.2.2.2.1 (a - 1000)) else if a < 3000 then .ref (G.2.2.2.2.1 (a - 2000)) else G.2.2.2.2.2
  | v => v
def vh_tys (G : vh_G) : List (ClassId × FieldType) := [(G.2.2.1 20, .int), (G.2.2.1 21, .boolean), (G.2.2.1 22, .long), (G.2.2.1 23, .object "VillageHalls$Hall"), (G.2.2.1 24, .object "VillageHalls$Booking")]
def vh_ro (G : vh_G) (f : Nat → Option Nat) : Nat → Option Nat := fun k => (f k).map (fun a => G.1 + a)
def vh_fv (G : vh_G) (w : vh_W) (a c k : Nat) : Value := if vh_ft c k = 1 then va_rf (vh_ro G (w.2.1 a) k) else .int (w.2.2.1 a k)
def vh_fs (G : vh_G) (w : vh_W) (a c n : Nat) : List Value := (List.range n).map (vh_fv G w a c)
def vh_cell (G : vh_G) (w : vh_W) (a : Nat) : va_E :=
  if (vh_kd a).1 = 20 ∨ (vh_kd a).1 = 21 then .inl (G.2.2.1 (vh_kd a).1, (vh_kd a).2, .inl (w.2.2.1 a))
  else if (vh_kd a).1 = 22 then .inl (G.2.2.1 (vh_kd a).1, (vh_kd a).2, .inr (.inl (w.2.2.2 a)))
  else if (vh_kd a).1 = 23 ∨ (vh_kd a).1 = 24 then .inl (G.2.2.1 (vh_kd a).1, (vh_kd a).2, .inr (.inr (.inr (.inr (vh_ro G (w.2.1 a))))))
  else .inr ((vh_kd a).1, vh_fs G w a (vh_kd a).1 (vh_kd a).2)
def vh_wl (G : vh_G) (w : vh_W) : va_W := (List.range w.1).map (fun a => (G.1 + a, vh_cell G w a))
def vh_rep (G : vh_G) (w : vh_W) (H : Heap) : Prop := va_P G.2.1 vwCl (vh_wl G w) H ∧ (∀ a k b, w.2.1 a k = some b → b < 1000) ∧ w.1 ≤ 122
theorem vh_wl_get (G : vh_G) {w : vh_W} {a : Nat} (h : a < w.1) : (vh_wl G w)[a]? = some (G.1 + a, vh_cell G w a) := by
  simp [vh_wl, h]
theorem vh_wl_len (G : vh_G) (w : vh_W) : (vh_wl G w).length = w.1 := by simp [vh_wl]
theorem vh_wl_set (G : vh_G) {w w' : vh_W} {a : Nat} (h1 : w'.1 = w.1) (h2 : ∀ b, b ≠ a → vh_cell G w' b = vh_cell G w b) : vh_wl G w' = (vh_wl G w).set a (G.1 + a, vh_cell G w' a) := by
  apply List.ext_getElem?
  intro i
  by_cases hi : i < w.1
  · rw [vh_wl_get G (by rw [h1]; exact hi)]
    by_cases hia : i = a
    · subst hia
      rw [List.getElem?_set_self (by rw [vh_wl_len]; exact hi)]
    · rw [List.getElem?_set_ne (Ne.symm hia), vh_wl_get G hi, h2 i hia]
  · rw [List.getElem?_eq_none (by rw [vh_wl_len, h1]; omega), List.getElem?_eq_none (by rw [List.length_set, vh_wl_len]; omega)]
theorem vh_wl_push (G : vh_G) {w w' : vh_W} (h1 : w'.1 = w.1 + 1) (h2 : ∀ b, b < w.1 → vh_cell G w' b = vh_cell G w b) : vh_wl G w' = vh_wl G w ++ [(G.1 + w.1, vh_cell G w' w.1)] := by
  apply List.ext_getElem?
  intro i
  by_cases hi : i < w.1
  · rw [vh_wl_get G (by omega), List.getElem?_append_left (by rw [vh_wl_len]; exact hi), vh_wl_get G hi, h2 i hi]
  · by_cases hi2 : i = w.1
    · subst hi2
      rw [vh_wl_get G (by omega), List.getElem?_append_right (by rw [vh_wl_len]; omega), vh_wl_len]
      simp
    · rw [List.getElem?_eq_none (by rw [vh_wl_len]; omega), List.getElem?_eq_none (by rw [List.length_append, vh_wl_len]; simp; omega)]
theorem vh_Dw (G : vh_G) (w : vh_W) : va_D (vh_Ar G) (vh_wl G w) := by
  have key : ∀ (k : Nat) (q : Nat × va_E), (vh_wl G w)[k]? = some q → q.1 = G.1 + k := by
    intro k q hk
    by_cases h : k < w.1
    · rw [vh_wl_get G h] at hk
      cases hk
      rfl
    · rw [List.getElem?_eq_none (by rw [vh_wl_len]; omega)] at hk
      cases hk
  refine ⟨fun i j p q hp hq e => ?_, fun k q hk => ?_⟩
  · rw [key i p hp, key j q hq] at e
    omega
  · show G.1 ≤ q.1
    rw [key k q hk]
    omega
theorem vh_cell_i (G : vh_G) (w : vh_W) {a c : Nat} (h : (vh_kd a).1 = c) (hc : c = 20 ∨ c = 21) : vh_cell G w a = .inl (G.2.2.1 c, (vh_kd a).2, .inl (w.2.2.1 a)) := by
  unfold vh_cell
  rw [h, if_pos hc]
theorem vh_cell_j (G : vh_G) (w : vh_W) {a : Nat} (h : (vh_kd a).1 = 22) : vh_cell G w a = .inl (G.2.2.1 22, (vh_kd a).2, .inr (.inl (w.2.2.2 a))) := by
  unfold vh_cell
  rw [h, if_neg (by omega), if_pos rfl]
theorem vh_cell_r (G : vh_G) (w : vh_W) {a c : Nat} (h : (vh_kd a).1 = c) (hc : c = 23 ∨ c = 24) : vh_cell G w a = .inl (G.2.2.1 c, (vh_kd a).2, .inr (.inr (.inr (.inr (vh_ro G (w.2.1 a)))))) := by
  unfold vh_cell
  rw [h, if_neg (by omega), if_neg (by omega), if_pos hc]
theorem vh_cell_o (G : vh_G) (w : vh_W) {a c : Nat} (h : (vh_kd a).1 = c) (hc : c < 12) : vh_cell G w a = .inr (c, vh_fs G w a c (vh_kd a).2) := by
  unfold vh_cell
  rw [h, if_neg (by omega), if_neg (by omega), if_neg (by omega)]
theorem vh_kdN : ∀ a, a < 122 → (vh_kd a).1 < 12 → ∃ r, vwCl[(vh_kd a).1]? = some r ∧ r.2.2 = (vh_kd a).2 := by
  have h : ∀ a, a < 122 → ((vh_kd a).1 < 12 → (vwCl[(vh_kd a).1]?).map (fun r => r.2.2) = some (vh_kd a).2) := by decide +kernel
  intro a h1 h2
  have := h a h1 h2
  cases hr : vwCl[(vh_kd a).1]? with
  | none => rw [hr] at this; cases this
  | some r => rw [hr] at this; exact ⟨r, rfl, Option.some.inj this⟩
theorem vh_kd122 {a : Nat} (h : (vh_kd a).1 ≠ 99) : a < 122 := by
  rcases Nat.lt_or_ge a 122 with q | q
  · exact q
  · exfalso
    apply h
    unfold vh_kd
    rw [List.getD_eq_getElem?_getD, List.getElem?_eq_none (by show 122 ≤ a; exact q)]
    rfl
theorem vh_okd {w : vh_W} {a c : Nat} (h : vh_ok w a c = true) : a < w.1 ∧ (vh_kd a).1 = c := by
  simp only [vh_ok, Bool.and_eq_true] at h
  exact ⟨Nat.blt_eq.mp h.1, Nat.eq_of_beq_eq_true h.2⟩
theorem vh_cellI (G : vh_G) (w : vh_W) (a b : Nat) (f : Nat → Int32) (h : b ≠ a) : vh_cell G (vh_sI w a f) b = vh_cell G w b := by
  have e : vh_sA w.2.2.1 a f b = w.2.2.1 b := if_neg h
  unfold vh_cell vh_fs vh_fv vh_sI
  simp only [e]
theorem vh_cellJ (G : vh_G) (w : vh_W) (a b : Nat) (f : Nat → Int64) (h : b ≠ a) : vh_cell G (vh_sJ w a f) b = vh_cell G w b := by
  have e : vh_sA w.2.2.2 a f b = w.2.2.2 b := if_neg h
  unfold vh_cell vh_fs vh_fv vh_sJ
  simp only [e]
theorem vh_cellR (G : vh_G) (w : vh_W) (a b : Nat) (f : Nat → Option Nat) (h : b ≠ a) : vh_cell G (vh_sR w a f) b = vh_cell G w b := by
  have e : vh_sA w.2.1 a f b = w.2.1 b := if_neg h
  unfold vh_cell vh_fs vh_fv vh_sR
  simp only [e]
theorem vh_cellN (G : vh_G) (w : vh_W) (b : Nat) (h : b < w.1) : vh_cell G (vh_new w) b = vh_cell G w b := by
  have h : b ≠ w.1 := by omega
  have e1 : vh_sA w.2.1 w.1 (fun _ => none) b = w.2.1 b := if_neg h
  have e2 : vh_sA w.2.2.1 w.1 (fun _ => 0) b = w.2.2.1 b := if_neg h
  have e3 : vh_sA w.2.2.2 w.1 (fun _ => 0) b = w.2.2.2 b := if_neg h
  unfold vh_cell vh_fs vh_fv vh_new
  simp only [e1, e2, e3]
theorem vh_sA_s {α : Type} (m : Nat → α) (a : Nat) (f : α) : vh_sA m a f a = f := if_pos rfl
theorem vh_ro_up (G : vh_G) (f : Nat → Option Nat) (k v : Nat) : vh_ro G (va_up f k (some v)) = va_up (vh_ro G f) k (some (G.1 + v)) := by
  funext j
  unfold vh_ro va_up
  by_cases h : j = k
  · rw [if_pos h, if_pos h]; rfl
  · rw [if_neg h, if_neg h]
theorem vh_fs_get (G : vh_G) (w : vh_W) {a c n k : Nat} (h : k < n) : (vh_fs G w a c n)[k]? = some (vh_fv G w a c k) := by simp [vh_fs, h]
theorem vh_fs_set (G : vh_G) {w w' : vh_W} {a c n k : Nat} (h : ∀ j, j ≠ k → vh_fv G w' a c j = vh_fv G w a c j) : vh_fs G w' a c n = (vh_fs G w a c n).set k (vh_fv G w' a c k) := by
  apply List.ext_getElem?
  intro i
  by_cases hi : i < n
  · rw [vh_fs_get G w' hi]
    by_cases hk : i = k
    · subst hk
      rw [List.getElem?_set_self (by simp [vh_fs]; exact hi)]
    · rw [List.getElem?_set_ne (Ne.symm hk), vh_fs_get G w hi, h i hk]
  · rw [List.getElem?_eq_none (by simp [vh_fs]; omega), List.getElem?_eq_none (by simp [vh_fs]; omega)]
/-- the locals -/
def vh_asc (G : vh_G) (L : vh_L) : List (Nat × Value) := (List.range L.length).filterMap (fun i => (L.getD i none).map (fun v => (i, vh_tv G v)))
theorem vh_asc_mem (G : vh_G) (L : vh_L) {i : Nat} {v : Value} (h : L.getD i none = some v) : (i, vh_tv G v) ∈ vh_asc G L := by
  refine List.mem_filterMap.mpr ⟨i, ?_, by rw [h]; rfl⟩
  rw [List.mem_range]
  rcases Nat.lt_or_ge i L.length with q | q
  · exact q
  · rw [List.getD_eq_getElem?_getD, List.getElem?_eq_none q] at h
    cases h
theorem vh_asc_of (G : vh_G) (L : vh_L) {q : Nat × Value} (h : q ∈ vh_asc G L) : ∃ v, L.getD q.1 none = some v ∧ q.2 = vh_tv G v := by
  obtain ⟨i, -, hi⟩ := List.mem_filterMap.mp h
  cases hL : L.getD i none with
  | none => rw [hL] at hi; cases hi
  | some v => rw [hL] at hi; cases hi; exact ⟨v, hL, rfl⟩
def vh_LR (G : vh_G) (ls : Array Slot) (L : vh_L) (n : Nat) (lx : List Nat) : Prop := lv_has ls n (vh_asc G L) ∧ L.length = n ∧ ∀ i v, L.getD i none = some v → v.category = 2 → i ∈ lx
theorem vh_LR.at {G : vh_G} {ls : Array Slot} {L : vh_L} {n : Nat} {lx : List Nat} (h : vh_LR G ls L n lx) {i : Nat} {v : Value} (e : L.getD i none = some v) : ls[i]? = some (.val (vh_tv G v)) := h.1.2.2 _ (vh_asc_mem G L e)
theorem vh_lvm {ls : Array Slot} {n : Nat} {l l' : List (Nat × Value)} (h : lv_has ls n l) (hs : ∀ q ∈ l', q ∈ l) : lv_has ls n l' := ⟨h.1, h.2.1, fun q hq => h.2.2 q (hs q hq)⟩
theorem vh_getD_set {L : vh_L} {i j : Nat} {o : Option Value} (hi : i < L.length) : (L.set i o).getD j none = if j = i then o else L.getD j none := by
  rw [List.getD_eq_getElem?_getD, List.getD_eq_getElem?_getD]
  by_cases h : j = i
  · subst h
    rw [if_pos rfl, List.getElem?_set_self hi]; rfl
  · rw [if_neg h, List.getElem?_set_ne (Ne.symm h)]
theorem vh_nls_of {lx : List Nat} {k i : Nat} (h : vh_nls lx k = true) (hi : i ∈ lx) : i + 1 ≠ k := by
  have := List.all_eq_true.mp h i hi
  intro e
  rw [e] at this
  simp at this
theorem vh_tv_cat (G : vh_G) (hf : G.2.2.2.2.2.category = 1) (v : Value) : (vh_tv G v).category = v.category := by
  cases v with
  | ref a =>
    unfold vh_tv
    by_cases h1 : a < 1000
    · simp only [h1, if_true]; rfl
    · by_cases h2 : a < 2000
      · simp only [h1, h2, if_true, if_false]; rfl
      · by_cases h3 : a < 3000
        · simp only [h1, h2, h3, if_true, if_false]; rfl
        · simp only [h1, h2, h3, if_false]; exact hf
  | _ => rfl
theorem vh_cat2 {v : Value} (h : v.category = 2) : (∃ x, v = .long x) ∨ ∃ x, v = .double x := by
  cases v with
  | long x => exact Or.inl ⟨x, rfl⟩
  | double x => exact Or.inr ⟨x, rfl⟩
  | _ => cases h
theorem vh_LR.put1 {G : vh_G} (hf : G.2.2.2.2.2.category = 1) {ls ls' : Array Slot} {L : vh_L} {n : Nat} {lx : List Nat} (h : vh_LR G ls L n lx) {i : Nat} {v : Value} (hi : i < n) (hv : v.category = 1) (hn : vh_nls lx i = true)
    (h' : lv_has ls' n ((i, vh_tv G v) :: (vh_asc G L).filter (fun q => !(q.1 == i) && !(q.1 + 1 == i && q.2.category == 2)))) : vh_LR G ls' (L.set i (some v)) n lx := by
  have hl : i < L.length := by rw [h.2.1]; exact hi
  refine ⟨vh_lvm h' (fun q hq => ?_), by rw [List.length_set]; exact h.2.1, fun k u e c => ?_⟩
  · obtain ⟨u, hu, e⟩ := vh_asc_of G _ hq
    rw [vh_getD_set hl] at hu
    by_cases hk : q.1 = i
    · rw [if_pos hk] at hu
      cases hu
      obtain ⟨q1, q2⟩ := q
      simp only at hk e
      subst hk; subst e
      exact List.mem_cons_self
    · rw [if_neg hk] at hu
      refine List.mem_cons_of_mem _ (List.mem_filter.mpr ⟨?_, ?_⟩)
      · have := vh_asc_mem G L hu
        obtain ⟨q1, q2⟩ := q
        simp only at e this
        rw [e]; exact this
      · simp only [Bool.and_eq_true, Bool.not_eq_true', beq_eq_false_iff_ne, ne_eq, Bool.and_eq_false_iff]
        refine ⟨hk, ?_⟩
        by_cases hc : u.category = 2
        · exact Or.inl (vh_nls_of hn (h.2.2 _ _ hu hc))
        · right
          rw [e, vh_tv_cat G hf]
          exact hc
  · rw [vh_getD_set hl] at e
    by_cases hk : k = i
    · rw [if_pos hk] at e
      cases e
      omega
    · rw [if_neg hk] at e
      exact h.2.2 k u e c
theorem vh_LR.put2 {G : vh_G} (hf : G.2.2.2.2.2.category = 1) {ls ls' : Array Slot} {L : vh_L} {n : Nat} {lx : List Nat} (h : vh_LR G ls L n lx) {i : Nat} {v : Value} (hi : i + 1 < n) (hn : vh_nls lx i = true) (hx : i ∈ lx)
    (h' : lv_has ls' n ((i, vh_tv G v) :: (vh_asc G L).filter (fun q => !(q.1 == i) && (!(q.1 == i + 1) && !(q.1 + 1 == i && q.2.category == 2))))) : vh_LR G ls' ((L.set i (some v)).set (i + 1) none) n lx := by
  have hl : i < L.length := by rw [h.2.1]; omega
  have hl2 : i + 1 < (L.set i (some v)).length := by rw [List.length_set, h.2.1]; exact hi
  refine ⟨vh_lvm h' (fun q hq => ?_), by rw [List.length_set, List.length_set]; exact h.2.1, fun k u e c => ?_⟩
  · obtain ⟨u, hu, e⟩ := vh_asc_of G _ hq
    rw [vh_getD_set hl2] at hu
    by_cases hk1 : q.1 = i + 1
    · rw [if_pos hk1] at hu
      cases hu
    rw [if_neg hk1, vh_getD_set hl] at hu
    by_cases hk : q.1 = i
    · rw [if_pos hk] at hu
      cases hu
      obtain ⟨q1, q2⟩ := q
      simp only at hk e
      subst hk; subst e
      exact List.mem_cons_self
    · rw [if_neg hk] at hu
      refine List.mem_cons_of_mem _ (List.mem_filter.mpr ⟨?_, ?_⟩)
      · have := vh_asc_mem G L hu
        obtain ⟨q1, q2⟩ := q
        simp only at e this
        rw [e]; exact this
      · simp only [Bool.and_eq_true, Bool.not_eq_true', beq_eq_false_iff_ne, ne_eq, Bool.and_eq_false_iff]
        refine ⟨hk, hk1, ?_⟩
        by_cases hc : u.category = 2
        · exact Or.inl (vh_nls_of hn (h.2.2 _ _ hu hc))
        · right
          rw [e, vh_tv_cat G hf]
          exact hc
  · rw [vh_getD_set hl2] at e
    by_cases hk1 : k = i + 1
    · rw [if_pos hk1] at e
      cases e
    rw [if_neg hk1, vh_getD_set hl] at e
    by_cases hk : k = i
    · rw [hk]; exact hx
    · rw [if_neg hk] at e
      exact h.2.2 k u e c
/-- what holds of the tables and of what lies below the base -/
def vh_ctx (G : vh_G) (U : State) : Prop :=
  va_K G.2.1 vwCl (vh_tys G) U ∧ (∀ w ∈ vh_nest, va_Nw w U) ∧ (va_AO "VillageHalls$Hall" U ∧ va_AO "VillageHalls$Booking" U) ∧
  (vk_S 12 vh_lenL vh_bytL G.2.2.2.1 G.2.2.2.2.1 (vh_Ar G) U U.heap ∧ ∀ i, i < 12 → vk_R "VillageHalls$RuleReader" (vh_stxL.getD i 0) (vh_strL.getD i "") (G.2.2.2.1 i) U) ∧
  (va_Z "java/lang/String" "COMPACT_STRINGS" "Z" (.int 1) (vh_Ar G) U U.heap ∧ va_Z "jdk/internal/util/Preconditions" "SIOOBE_FORMATTER" "Ljava/util/function/BiFunction;" G.2.2.2.2.2 (vh_Ar G) U U.heap) ∧
  (G.2.2.2.2.2 = .null ∨ ∃ t, G.2.2.2.2.2 = .ref t) ∧ G.1 ≤ U.heap.size
def vh_isN (w : Cond) : Bool := match w with
  | .fieldLinkNest _ _ _ _ _ _ => true
  | .methodLinkNest _ _ _ _ => true
  | _ => false
theorem vh_nestN : vh_nest.all vh_isN = true := by decide +kernel
theorem vh_Nw_warm {w : Cond} (h : vh_isN w = true) {s U : State} (hW : s.WarmedH U.vm) (hZ : va_Nw w s) : va_Nw w U := by
  cases w with
  | fieldLinkNest a i b n d h => exact va_Nw.warmF hW hZ
  | methodLinkNest a i x h => exact va_Nw.warmM hW hZ
  | _ => cases h
theorem vh_ctx.warm {G : vh_G} {s U : State} (h : vh_ctx G s) (hW : s.WarmedH U.vm) (hH : ∀ q, q < s.heap.size → ¬ vh_Ar G q → U.heap[q]? = s.heap[q]?) (hz : G.1 ≤ U.heap.size) : vh_ctx G U := by
  obtain ⟨h1, h2, ⟨h3, h4⟩, ⟨h5, h6⟩, ⟨h7, h8⟩, h9, h10⟩ := h
  exact ⟨va_K.moved hW.alike h1, fun w hw => vh_Nw_warm (List.all_eq_true.mp vh_nestN w hw) hW (h2 w hw), ⟨va_AO.moved hW.alike h3, va_AO.moved hW.alike h4⟩, ⟨(vk_S.moved hW.alike h5).kept hH, fun i hi => vk_R.warm hW (h6 i hi)⟩, ⟨(va_Z.moved hW.alike h7).kept hH, (va_Z.moved hW.alike h8).kept hH⟩, h9, hz⟩
theorem vh_ctx.call {G : vh_G} {U : State} (h : vh_ctx G U) (g : JFrame) (mk : MethodId) (a : Array Value) : vh_ctx G (U.calling g mk a) :=
  vh_ctx.warm (U := U.calling g mk a) h (State.WarmedH.refl U) (fun _ _ _ => rfl) h.2.2.2.2.2.2
theorem vh_ctx.cat {G : vh_G} {U : State} (h : vh_ctx G U) : G.2.2.2.2.2.category = 1 := by
  rcases h.2.2.2.2.2.1 with e | ⟨t, e⟩ <;> rw [e] <;> rfl
def vh_Cx (G : vh_G) (row : vh_M) (p : Program) (s : State) (m : MethodId) (args : Array Value) (meth : Method) (c : Code) : Prop :=
  p.tables.exec = Jvm.exec ∧ c.code = row.2.1 ∧ c.maxLocals = row.2.2.1 ∧ meth.sig.returnType = row.2.2.2.1 ∧ meth.locks = false ∧ meth.name = row.1.name ∧ s.vm.findClass row.1.cls = some m.cls ∧ (∀ w ∈ vh_big, w.before args s = true) ∧ vh_ctx G s
theorem vh_wdm {p : Nat} {c : Cond} (h : vh_wd p c = true) : c ∈ vh_big := by
  simp only [vh_wd, Bool.and_eq_true, decide_eq_true_eq] at h
  exact vh_bigm p h.1 h.2
theorem vh_nwm {p : Nat} {c : Cond} (h : vh_nw p c = true) : c ∈ vh_nest := by
  simp only [vh_nw, decide_eq_true_eq] at h
  exact List.mem_of_getElem? h

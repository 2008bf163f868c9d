theorem lw_arr {s : State} {t : FieldType} {args : Array Value} (ht : t = .int ∨ t = .boolean ∨ t = .long) (h : (Cond.arrayClass t).before args s = true) : ∃ cA : ClassId, ArrOfT s cA t ∧ va_RA s cA t := by
  obtain ⟨c, k, comp, h1, h2, h3⟩ := Cond.arrayClass_spec (args := args) (first := s) (o := none) (s := s) (idx := []) h
  refine ⟨c, fun n z => ⟨fun k h => (by cases h), k, h2, comp, h3⟩, ?_⟩
  rcases ht with rfl | rfl | rfl <;> exact h1
theorem lw_arq {s : State} {C : String} {args : Array Value} (h : (Cond.arrayOver (.object C)).before args s = true) : ∃ cA : ClassId, ArrOfT s cA (.object C) ∧ va_RA s cA (.object C) := by
  obtain ⟨comp, c, k, h1, -, h2, h3, h4⟩ := Cond.arrayOver_spec (args := args) (first := s) (o := none) (s := s) (idx := []) h
  exact ⟨c, fun n z => ⟨fun k h => (by cases h), k, h2, comp, h3⟩, k, comp, h2, h3, h1, h4⟩
theorem lw_ctx {p : Program} {s : State} {m : MethodId} {meth : Method} {c : Code} {b L : Nat} {xs : Nat → Int32} (C0 : lw_At p s m meth c b L xs) : ∃ G : vh_G, G.1 = s.heap.size ∧ G.2.2.2.1 12 = b ∧ vh_ctx G s := by
  obtain ⟨hx, hb, hr, hml, hown, hts, hX, hbl, hlocks, hgv⟩ := C0
  have hfl : ∀ w ∈ lw_fl, w.before #[Value.ref b] s = true := flat_of_before _ hgv
  have hA : ∀ a : Nat, a < s.heap.size → ¬ (s.heap.size ≤ a) := fun a h => Nat.not_le.mpr h
  have hal : ∀ {f : Nat → Bool}, (List.range 12).all f = true → ∀ i, i < 12 → f i = true := fun h i hi => List.all_eq_true.mp h i (lw_lt12 hi)
  have hKn : ∀ k : Nat, ∃ q : ClassId × (Nat → Nat), ∀ r : vw_C, vwCl[k]? = some r → u_Kn s r.1 r.2.1 r.2.2 q.1 q.2 := by
    intro k
    cases hk : vwCl[k]? with
    | none => exact ⟨(0, fun _ => 0), fun r h => by cases h⟩
    | some r =>
      have h1 := hal lw_s10 k (vh_clC hk)
      simp only [hk, decide_eq_true_eq] at h1
      obtain ⟨cC, iS, h⟩ := u_known (C := r.1) (T := r.2.1) (N := r.2.2) (n := r.2.2) hts (fun w hw => (List.mem_filter.mp (vh_inC hk w hw)).1) (hts _ h1)
      exact ⟨(cC, iS), fun r' h' => by cases h'; exact h⟩
  obtain ⟨D, hD⟩ : ∃ D : Nat → ClassId × (Nat → Nat), ∀ (k : Nat) (r : vw_C), vwCl[k]? = some r → u_Kn s r.1 r.2.1 r.2.2 (D k).1 (D k).2 := ⟨fun k => Classical.choose (hKn k), fun k => Classical.choose_spec (hKn k)⟩
  obtain ⟨c20, a20⟩ := lw_arr (.inl rfl) (hts (.arrayClass .int) (by decide +kernel))
  obtain ⟨c21, a21⟩ := lw_arr (.inr (.inl rfl)) (hts (.arrayClass .boolean) (by decide +kernel))
  obtain ⟨c22, a22⟩ := lw_arr (.inr (.inr rfl)) (hts (.arrayClass .long) (by decide +kernel))
  have o23 := hts (.arrayOver (.object "VillageHalls$Hall")) (by decide +kernel)
  have o24 := hts (.arrayOver (.object "VillageHalls$Booking")) (by decide +kernel)
  obtain ⟨c23, a23⟩ := lw_arq o23
  obtain ⟨c24, a24⟩ := lw_arq o24
  obtain ⟨adK, adV, hS, hE⟩ := vk_Sof (s := s) (args := #[Value.ref b]) (N := 12) (tm := lw_tm) (len := vh_lenL) (byt := vh_bytL) (A := fun q => s.heap.size ≤ q) (by decide)
    (fun i hi => hfl _ (of_decide_eq_true (hal lw_s1 i hi))) (fun i hi => hfl _ (of_decide_eq_true (hal lw_s2 i hi))) (fun i hi => hfl _ (of_decide_eq_true (hal lw_s3 i hi))) (fun i hi => hfl _ (of_decide_eq_true (hal lw_s4 i hi)))
    (fun i hi j hj => hfl _ (of_decide_eq_true (List.all_eq_true.mp (hal lw_s5 i hi) j (List.mem_range.mpr hj))))
    (fun i j hi hj hij => by
      have h := hal (hal lw_s6 i hi |> fun h => h) j hj
      rw [Bool.or_eq_true, Bool.or_eq_true] at h
      rcases h with h | h | h
      · exact absurd (of_decide_eq_true h) hij
      · exact .inl (hfl _ (of_decide_eq_true h))
      · exact .inr (hfl _ (of_decide_eq_true h))) hA
  have z1 : va_Z "java/lang/String" "COMPACT_STRINGS" "Z" (.int 1) (fun q => s.heap.size ≤ q) s s.heap := va_Zof (hts (.laysStatic "java/lang/String" "COMPACT_STRINGS" "Z") (by decide +kernel)) (hts (.initialized "java/lang/String") (by decide +kernel)) (va_eqi (hfl _ (by decide +kernel))) hA
  have z2 : va_Zq "jdk/internal/util/Preconditions" "SIOOBE_FORMATTER" "Ljava/util/function/BiFunction;" (fun q => s.heap.size ≤ q) s s.heap := va_Zqof (hts (.laysStatic "jdk/internal/util/Preconditions" "SIOOBE_FORMATTER" "Ljava/util/function/BiFunction;") (by decide +kernel)) (hts (.initialized "jdk/internal/util/Preconditions") (by decide +kernel)) (hfl _ (by decide +kernel)) hA
  obtain ⟨fm, hfm, z2⟩ : ∃ fm : Value, (fm = .null ∨ ∃ t, fm = .ref t) ∧ va_Z "jdk/internal/util/Preconditions" "SIOOBE_FORMATTER" "Ljava/util/function/BiFunction;" fm (fun q => s.heap.size ≤ q) s s.heap := by
    rcases z2 with h | ⟨t, h⟩
    · exact ⟨_, .inl rfl, h⟩
    · exact ⟨_, .inr ⟨t, rfl⟩, h⟩
  refine ⟨(s.heap.size, (fun k => (D k).1, fun k => (D k).2), (fun k => if k = 20 then c20 else if k = 21 then c21 else if k = 22 then c22 else if k = 23 then c23 else c24), (fun i => if i < 12 then adK i else b), adV, fm), rfl, rfl, ?_, ?_, ⟨va_AO.of o23, va_AO.of o24⟩, ⟨?_, ?_⟩, ⟨z1, z2⟩, hfm, Nat.le_refl _⟩
  · refine ⟨fun k r hk => hD k r hk, ?_⟩
    intro k q hq
    match k, hq with
    | 0, hq => cases hq; exact a20
    | 1, hq => cases hq; exact a21
    | 2, hq => cases hq; exact a22
    | 3, hq => cases hq; exact a23
    | 4, hq => cases hq; exact a24
    | k + 5, hq => simp [vh_tys] at hq
  · intro w hw
    exact va_Nw.of (List.all_eq_true.mp lw_s9 w hw) (hts w (of_decide_eq_true (List.all_eq_true.mp lw_s8 w hw)))
  · refine ⟨fun i hi => ?_, fun i j hi hj e => ?_⟩
    · have := hS.1 i hi
      simp only [hi, if_true]
      exact this
    · simp only [hi, hj, if_true] at e
      exact hS.2 i j hi hj e
  · intro i hi
    simp only [hi, if_true]
    exact vk_R.of (hts _ (of_decide_eq_true (hal lw_s7 i hi))) (hE i hi)
def lw_row : vh_M := (x, code, 4, ret, 0, 14, 514, 1)
theorem lw_rowR : vh_rm lw_row 600000 7302250 = room_1 := by rfl
theorem lw_Cx {p : Program} {s : State} {m : MethodId} {meth : Method} {c : Code} {b L : Nat} {xs : Nat → Int32} {G : vh_G} (C0 : lw_At p s m meth c b L xs) (hn : meth.name = x.name) (h : vh_ctx G s) : vh_Cx G lw_row p s m #[Value.ref b] meth c := by
  obtain ⟨hx, hb, hr, hml, hown, hts, hX, hbl, hlocks, hgv⟩ := C0
  exact ⟨hx, hb, hml, hr, hlocks, hn, hown, fun w hw => hts w (List.mem_filter.mp hw).1, h⟩

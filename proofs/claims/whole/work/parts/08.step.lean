/-! ONE INSTRUCTION OF THE MACHINE IS ONE OF THE JVM -/
theorem vh_clC {c : Nat} {r : vw_C} (h : vwCl[c]? = some r) : c < 12 := by
  rcases Nat.lt_or_ge c 12 with q | q
  · exact q
  · rw [List.getElem?_eq_none (by show 12 ≤ c; exact q)] at h
    cases h
theorem vh_inC {c : Nat} {r : vw_C} (h : vwCl[c]? = some r) : ∀ w ∈ u_ws r.1 r.2.1 r.2.2, w ∈ vh_big := by
  have hc := vh_clC h
  rcases (show c = 0 ∨ c = 1 ∨ c = 2 ∨ c = 3 ∨ c = 4 ∨ c = 5 ∨ c = 6 ∨ c = 7 ∨ c = 8 ∨ c = 9 ∨ c = 10 ∨ c = 11 by omega) with e | e | e | e | e | e | e | e | e | e | e | e <;> subst e <;> cases h
  · exact vh_in0
  · exact vh_in1
  · exact vh_in2
  · exact vh_in3
  · exact vh_in4
  · exact vh_in5
  · exact vh_in6
  · exact vh_in7
  · exact vh_in8
  · exact vh_in9
  · exact vh_in10
  · exact vh_in11
theorem vh_nmC {c : Nat} {r : vw_C} (h : vwCl[c]? = some r) : ∀ a, a < r.2.2 → ∀ b, b < r.2.2 → a ≠ b → (r.2.1 a).2.1 ≠ (r.2.1 b).2.1 := by
  have hc := vh_clC h
  rcases (show c = 0 ∨ c = 1 ∨ c = 2 ∨ c = 3 ∨ c = 4 ∨ c = 5 ∨ c = 6 ∨ c = 7 ∨ c = 8 ∨ c = 9 ∨ c = 10 ∨ c = 11 by omega) with e | e | e | e | e | e | e | e | e | e | e | e <;> subst e <;> cases h
  · exact nmX0
  · exact nmX1
  · exact nmX2
  · exact nmX3
  · exact nmX4
  · exact nmX5
  · exact nmX6
  · exact nmX7
  · exact nmX8
  · exact nmX9
  · exact nmX10
  · exact nmX11
theorem vh_declC {c : Nat} {r : vw_C} (h : vwCl[c]? = some r) : ∀ k, k < r.2.2 → (r.2.1 k).1 = r.1 := by
  have hc := vh_clC h
  rcases (show c = 0 ∨ c = 1 ∨ c = 2 ∨ c = 3 ∨ c = 4 ∨ c = 5 ∨ c = 6 ∨ c = 7 ∨ c = 8 ∨ c = 9 ∨ c = 10 ∨ c = 11 by omega) with e | e | e | e | e | e | e | e | e | e | e | e <;> subst e <;> cases h <;> decide +kernel
def vh_tyA (ty : Nat → FieldType) (c N : Nat) : Bool := (List.range N).all (fun k => match vh_ft c k, ty k with
  | 0, .int => true
  | 2, .boolean => true
  | 1, .object _ => true
  | 1, .array _ => true
  | _, _ => false)
def vh_tyP (ty : Nat → FieldType) (c k : Nat) : Prop := (vh_ft c k = 0 ∧ ty k = .int) ∨ (vh_ft c k = 2 ∧ ty k = .boolean) ∨ (vh_ft c k = 1 ∧ ((∃ C, ty k = .object C) ∨ ∃ C, ty k = .array C))
theorem vh_tyAP {ty : Nat → FieldType} {c N : Nat} (h : vh_tyA ty c N = true) : ∀ k, k < N → vh_tyP ty c k := by
  intro k hk
  have := List.all_eq_true.mp h k (List.mem_range.mpr hk)
  revert this
  generalize hty : ty k = t
  generalize hft : vh_ft c k = f
  unfold vh_tyP
  rw [hty, hft]
  intro this
  split at this
  · exact Or.inl ⟨rfl, rfl⟩
  · exact Or.inr (Or.inl ⟨rfl, rfl⟩)
  · exact Or.inr (Or.inr ⟨rfl, Or.inl ⟨_, rfl⟩⟩)
  · exact Or.inr (Or.inr ⟨rfl, Or.inr ⟨_, rfl⟩⟩)
  · cases this
theorem vh_tyC {c : Nat} {r : vw_C} (h : vwCl[c]? = some r) : ∃ ty : Nat → FieldType, (∀ k, k < r.2.2 → parseFieldDescriptor (r.2.1 k).2.2.1 = some (ty k)) ∧ ∀ k, k < r.2.2 → vh_tyP ty c k := by
  have hc := vh_clC h
  rcases (show c = 0 ∨ c = 1 ∨ c = 2 ∨ c = 3 ∨ c = 4 ∨ c = 5 ∨ c = 6 ∨ c = 7 ∨ c = 8 ∨ c = 9 ∨ c = 10 ∨ c = 11 by omega) with e | e | e | e | e | e | e | e | e | e | e | e <;> subst e <;> cases h
  · exact ⟨tyX0, tyX0_ok, vh_tyAP (by decide +kernel)⟩
  · exact ⟨tyX1, tyX1_ok, vh_tyAP (by decide +kernel)⟩
  · exact ⟨tyX2, tyX2_ok, vh_tyAP (by decide +kernel)⟩
  · exact ⟨tyX3, tyX3_ok, vh_tyAP (by decide +kernel)⟩
  · exact ⟨tyX4, tyX4_ok, vh_tyAP (by decide +kernel)⟩
  · exact ⟨tyX5, tyX5_ok, vh_tyAP (by decide +kernel)⟩
  · exact ⟨tyX6, tyX6_ok, vh_tyAP (by decide +kernel)⟩
  · exact ⟨tyX7, tyX7_ok, vh_tyAP (by decide +kernel)⟩
  · exact ⟨tyX8, tyX8_ok, vh_tyAP (by decide +kernel)⟩
  · exact ⟨tyX9, tyX9_ok, vh_tyAP (by decide +kernel)⟩
  · exact ⟨tyX10, tyX10_ok, vh_tyAP (by decide +kernel)⟩
  · exact ⟨tyX11, tyX11_ok, vh_tyAP (by decide +kernel)⟩
theorem vh_kdC {c : Nat} {r : vw_C} (h : vwCl[c]? = some r) {a : Nat} (ha : (vh_kd a).1 = c) : (vh_kd a).2 = r.2.2 := by
  have hc := vh_clC h
  obtain ⟨r', h1, h2⟩ := vh_kdN a (vh_kd122 (by omega)) (by omega)
  rw [ha, h] at h1
  cases h1
  exact h2.symm
theorem vh_tvr (G : vh_G) {a : Nat} (h : a < 1000) : vh_tv G (.ref a) = .ref (G.1 + a) := by unfold vh_tv; simp only [h, if_true]
theorem vh_tvk (G : vh_G) {a : Nat} (h : 1000 ≤ a) (h2 : a < 2000) : vh_tv G (.ref a) = .ref (G.2.2.2.1 (a - 1000)) := by
  unfold vh_tv
  have h1 : ¬ a < 1000 := by omega
  simp only [h1, h2, if_true, if_false]
theorem vh_tvb (G : vh_G) {a : Nat} (h : 2000 ≤ a) (h2 : a < 3000) : vh_tv G (.ref a) = .ref (G.2.2.2.2.1 (a - 2000)) := by
  unfold vh_tv
  have h1 : ¬ a < 1000 := by omega
  have h3 : ¬ a < 2000 := by omega
  simp only [h1, h2, h3, if_true, if_false]
theorem vh_tvf (G : vh_G) : vh_tv G (.ref 3000) = G.2.2.2.2.2 := by unfold vh_tv; simp
theorem vh_tvrn (G : vh_G) {U : State} (h : vh_ctx G U) (a : Nat) : (∃ q, vh_tv G (.ref a) = .ref q) ∨ vh_tv G (.ref a) = .null := by
  unfold vh_tv
  by_cases h1 : a < 1000
  · simp only [h1, if_true]; exact Or.inl ⟨_, rfl⟩
  · by_cases h2 : a < 2000
    · simp only [h1, h2, if_true, if_false]; exact Or.inl ⟨_, rfl⟩
    · by_cases h3 : a < 3000
      · simp only [h1, h2, h3, if_true, if_false]; exact Or.inl ⟨_, rfl⟩
      · simp only [h1, h2, h3, if_false]
        rcases h.2.2.2.2.2.1 with e | ⟨t, e⟩
        · exact Or.inr e
        · exact Or.inl ⟨t, e⟩
theorem vh_rvro (G : vh_G) {w : vh_W} {a k : Nat} (h : ∀ a k b, w.2.1 a k = some b → b < 1000) : vh_tv G (va_rf (w.2.1 a k)) = va_rf (vh_ro G (w.2.1 a) k) := by
  unfold vh_ro
  cases hr : w.2.1 a k with
  | none => rfl
  | some b => exact vh_tvr G (h a k b hr)
theorem vh_ixd {i : Int32} {n : Nat} (h : vh_ix i n = true) : vp_in i n := (of_decide_eq_true h : ¬ (i < 0 ∨ n ≤ i.toNatClampNeg))
section VHS
variable {p : Program} {l : Launch} {e : Env} {R : Room} {s : State} {m : MethodId} {args : Array Value} {below : List Frame} {meth : Method} {c : Code} {H : Heap} {locs : List Loc} {cells slots : Nat} {Q : State → Prop}
variable {G : vh_G} {row : vh_M} {ls : Array Slot} {L L' : vh_L} {st st' : List Value} {w w' : vh_W} {pc pc' : Nat} {lx : List Nat}
def vh_KK (p : Program) (l : Launch) (e : Env) (R : Room) (s : State) (m : MethodId) (args : Array Value) (below : List Frame) (meth : Method) (c : Code) (cells slots : Nat) (Q : State → Prop) (G : vh_G) (row : vh_M) (lx : List Nat) (pc' : Nat) (L' : vh_L) (st' : List Value) (w' w : vh_W) (d : Nat) : Prop :=
  w'.1 = w.1 + d → ∀ (H' : Heap) (locs' : List Loc) (ls' : Array Slot), vh_rep G w' H' → va_S (vh_Ar G) s.heap H' locs' → vh_LR G ls' L' row.2.2.1 lx → W p l e R s m args below meth c H' locs' cells slots Q (F0 m pc' ls' (st'.map (vh_tv G)))
theorem vh_nxi (h : vh_nx pc L st w = some (.inl (pc', L', st', w'))) : pc' = pc ∧ L' = L ∧ st' = st ∧ w' = w := by
  cases h
  exact ⟨rfl, rfl, rfl, rfl⟩
theorem vh_bnx {b : Bool} (h : (bif b then vh_nx pc L st w else none) = some (.inl (pc', L', st', w'))) : b = true ∧ pc' = pc ∧ L' = L ∧ st' = st ∧ w' = w := by
  cases b with
  | false => cases h
  | true => exact ⟨rfl, vh_nxi h⟩
/-- loads -/
theorem vh_q_ild {k : Nat} (h : vh_ild pc k L st w = some (.inl (pc', L', st', w'))) : ∃ v, L.getD k none = some (.int v) ∧ pc' = pc ∧ L' = L ∧ st' = .int v :: st ∧ w' = w := by
  unfold vh_ild at h
  split at h
  · rename_i v hv
    exact ⟨v, hv, vh_nxi h⟩
  · cases h
theorem vh_q_lld {k : Nat} (h : vh_lld pc k L st w = some (.inl (pc', L', st', w'))) : ∃ v, L.getD k none = some (.long v) ∧ pc' = pc ∧ L' = L ∧ st' = .long v :: st ∧ w' = w := by
  unfold vh_lld at h
  split at h
  · rename_i v hv
    exact ⟨v, hv, vh_nxi h⟩
  · cases h
theorem vh_q_ald {k : Nat} (h : vh_ald pc k L st w = some (.inl (pc', L', st', w'))) : ∃ v, L.getD k none = some (.ref v) ∧ pc' = pc ∧ L' = L ∧ st' = .ref v :: st ∧ w' = w := by
  unfold vh_ald at h
  split at h
  · rename_i v hv
    exact ⟨v, hv, vh_nxi h⟩
  · cases h
theorem vh_q_ist {k : Nat} (h : vh_ist pc k L st w = some (.inl (pc', L', st', w'))) : ∃ v r, st = .int v :: r ∧ pc' = pc ∧ L' = L.set k (some (.int v)) ∧ st' = r ∧ w' = w := by
  unfold vh_ist at h
  split at h
  · rename_i v r
    exact ⟨v, r, rfl, vh_nxi h⟩
  · cases h
theorem vh_q_lst {k : Nat} (h : vh_lst pc k L st w = some (.inl (pc', L', st', w'))) : ∃ v r, st = .long v :: r ∧ pc' = pc ∧ L' = (L.set k (some (.long v))).set (k + 1) none ∧ st' = r ∧ w' = w := by
  unfold vh_lst at h
  split at h
  · rename_i v r
    exact ⟨v, r, rfl, vh_nxi h⟩
  · cases h
theorem vh_q_ast {k : Nat} (h : vh_ast pc k L st w = some (.inl (pc', L', st', w'))) : ∃ v r, st = .ref v :: r ∧ pc' = pc ∧ L' = L.set k (some (.ref v)) ∧ st' = r ∧ w' = w := by
  unfold vh_ast at h
  split at h
  · rename_i v r
    exact ⟨v, r, rfl, vh_nxi h⟩
  · cases h
theorem vh_q_inc {k : Nat} {n : Int} (h : vh_inc pc k n L st w = some (.inl (pc', L', st', w'))) : ∃ v, L.getD k none = some (.int v) ∧ pc' = pc ∧ L' = L.set k (some (.int (v + Int32.ofInt n))) ∧ st' = st ∧ w' = w := by
  unfold vh_inc at h
  split at h
  · rename_i v hv
    exact ⟨v, hv, vh_nxi h⟩
  · cases h
theorem vh_q_ib {f : Int32 → Int32 → Int32} (h : vh_ib f pc L st w = some (.inl (pc', L', st', w'))) : ∃ x y r, st = .int y :: .int x :: r ∧ pc' = pc ∧ L' = L ∧ st' = .int (f x y) :: r ∧ w' = w := by
  unfold vh_ib at h
  split at h
  · exact ⟨_, _, _, rfl, vh_nxi h⟩
  · cases h
theorem vh_q_id {f : Int32 → Int32 → Int32} (h : vh_id f pc L st w = some (.inl (pc', L', st', w'))) : ∃ x y r, st = .int y :: .int x :: r ∧ ¬ y = 0 ∧ pc' = pc ∧ L' = L ∧ st' = .int (f x y) :: r ∧ w' = w := by
  unfold vh_id at h
  split at h
  · split at h
    · cases h
    · rename_i h0
      exact ⟨_, _, _, rfl, h0, vh_nxi h⟩
  · cases h
theorem vh_q_lb {f : Int64 → Int64 → Int64} (h : vh_lb f pc L st w = some (.inl (pc', L', st', w'))) : ∃ x y r, st = .long y :: .long x :: r ∧ pc' = pc ∧ L' = L ∧ st' = .long (f x y) :: r ∧ w' = w := by
  unfold vh_lb at h
  split at h
  · exact ⟨_, _, _, rfl, vh_nxi h⟩
  · cases h
theorem vh_q_ls {f : Int64 → Int32 → Int64} (h : vh_ls f pc L st w = some (.inl (pc', L', st', w'))) : ∃ x y r, st = .int y :: .long x :: r ∧ pc' = pc ∧ L' = L ∧ st' = .long (f x y) :: r ∧ w' = w := by
  unfold vh_ls at h
  split at h
  · exact ⟨_, _, _, rfl, vh_nxi h⟩
  · cases h
theorem vh_q_iu {f : Int32 → Int32} (h : vh_iu f pc L st w = some (.inl (pc', L', st', w'))) : ∃ x r, st = .int x :: r ∧ pc' = pc ∧ L' = L ∧ st' = .int (f x) :: r ∧ w' = w := by
  unfold vh_iu at h
  split at h
  · exact ⟨_, _, rfl, vh_nxi h⟩
  · cases h
theorem vh_q_lu {f : Int64 → Int64} (h : vh_lu f pc L st w = some (.inl (pc', L', st', w'))) : ∃ x r, st = .long x :: r ∧ pc' = pc ∧ L' = L ∧ st' = .long (f x) :: r ∧ w' = w := by
  unfold vh_lu at h
  split at h
  · exact ⟨_, _, rfl, vh_nxi h⟩
  · cases h
theorem vh_q_mx {f : Int32 → Int32 → Int32} (h : vh_max f pc L st w = some (.inl (pc', L', st', w'))) : ∃ x y r, st = .int y :: .int x :: r ∧ (r.map fun v => v.category).sum ≤ 8 ∧ pc' = pc ∧ L' = L ∧ st' = .int (f x y) :: r ∧ w' = w := by
  unfold vh_max at h
  split at h
  · obtain ⟨h1, h2⟩ := vh_bnx h
    exact ⟨_, _, _, rfl, Nat.le_of_ble_eq_true h1, h2⟩
  · cases h
theorem vh_q_mj (h : vh_mxj pc L st w = some (.inl (pc', L', st', w'))) : ∃ x y r, st = .long y :: .long x :: r ∧ (r.map fun v => v.category).sum ≤ 8 ∧ pc' = pc ∧ L' = L ∧ st' = .long (if y < x then x else y) :: r ∧ w' = w := by
  unfold vh_mxj at h
  split at h
  · obtain ⟨h1, h2⟩ := vh_bnx h
    exact ⟨_, _, _, rfl, Nat.le_of_ble_eq_true h1, h2⟩
  · cases h
theorem vh_q_i1 {tgt : Nat} {cd : ClassFile.Cond} (h : vh_i1 pc tgt cd L st w = some (.inl (pc', L', st', w'))) : ∃ x r, st = .int x :: r ∧ pc' = (match cd with
    | .eq => if x = 0 then tgt else pc + 3
    | .ne => if ¬ x = 0 then tgt else pc + 3
    | .lt => if x < 0 then tgt else pc + 3
    | .ge => if 0 ≤ x then tgt else pc + 3
    | .gt => if 0 < x then tgt else pc + 3
    | .le => if x ≤ 0 then tgt else pc + 3) ∧ L' = L ∧ st' = r ∧ w' = w := by
  unfold vh_i1 at h
  split at h
  · rename_i x r
    refine ⟨x, r, rfl, ?_⟩
    cases cd <;> exact vh_nxi h
  · cases h
theorem vh_q_i2 {tgt : Nat} {cd : ClassFile.Cond} (h : vh_i2 pc tgt cd L st w = some (.inl (pc', L', st', w'))) : ∃ x y r, st = .int y :: .int x :: r ∧ pc' = (match cd with
    | .eq => if x = y then tgt else pc + 3
    | .ne => if ¬ x = y then tgt else pc + 3
    | .lt => if x < y then tgt else pc + 3
    | .ge => if y ≤ x then tgt else pc + 3
    | .gt => if y < x then tgt else pc + 3
    | .le => if x ≤ y then tgt else pc + 3) ∧ L' = L ∧ st' = r ∧ w' = w := by
  unfold vh_i2 at h
  split at h
  · rename_i y x r
    refine ⟨x, y, r, rfl, ?_⟩
    cases cd <;> exact vh_nxi h
  · cases h
theorem vh_ift {P : Prop} [Decidable P] {a b : Nat} (h : P) : (if P then a else b) = a := if_pos h
theorem vh_tvcs (hf : G.2.2.2.2.2.category = 1) (r : List Value) : ((r.map (vh_tv G)).map fun v => v.category).sum = (r.map fun v => v.category).sum := by
  induction r with
  | nil => rfl
  | cons v r ih => simp only [List.map_cons, List.sum_cons, vh_tv_cat G hf]; rw [ih]
end VHS

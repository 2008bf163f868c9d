theorem vh_mtL : vh_mt.length = 219 := by decide +kernel
theorem vh_ckd {j : Nat} {row : vh_M} (hm : vh_mt[j]? = some row) : (∃ p, vh_mgd j row p = true) ∧ ∀ e ∈ vh_ops.getD j [], vh_good row (vh_lsx j) e = true := by
  have hj : j < 219 := by
    have := (List.getElem?_eq_some_iff.mp hm).1
    rw [vh_mtL] at this
    exact this
  have h := vh_cks j hj
  unfold vh_ck at h
  rw [hm] at h
  cases hp : vh_mp[j]? with
  | none => rw [hp] at h; cases h
  | some p =>
    rw [hp] at h
    simp only [Bool.and_eq_true] at h
    exact ⟨⟨p, h.1⟩, List.all_eq_true.mp h.2⟩
theorem vh_mfd {j : Nat} {row : vh_M} {p : Nat × Nat × Nat × Nat} (h : vh_mgd j row p = true) :
    Cond.code row.1 row.2.1 row.2.2.1 row.2.2.2.1 ∈ vh_big ∧ Cond.initialized row.1.cls ∈ vh_big ∧ (row.2.2.2.2.1 = 0 → Cond.static row.1 ∈ vh_big) ∧ (row.2.2.2.2.1 = 1 → Cond.instanceMethod row.1 ∈ vh_big ∧ Cond.selects row.1.cls row.1 row.1 ∈ vh_big) ∧
    (row.2.2.2.2.1 = 2 → Cond.instanceMethod row.1 ∈ vh_big ∧ row.1.name = "<init>" ∧ row.2.2.2.1 = none) ∧ plainName row.1.cls = true ∧ (row.1.cls ≠ "java/lang/invoke/MethodHandle" ∧ row.1.cls ≠ "java/lang/invoke/VarHandle") ∧
    (parseMethodDescriptor row.1.desc).map (fun d => d.parameters.length) = some (bif Nat.beq row.2.2.2.2.1 0 then row.2.2.2.2.2.2.2 else row.2.2.2.2.2.2.2 - 1) ∧
    (row.2.2.2.2.1 = 0 ∨ (Nat.beq (vh_mc j) 98 = true ∧ row.1.cls = "java/lang/String") ∨ (Nat.beq (vh_mc j) 98 = false ∧ ∃ r : vw_C, vwCl[vh_mc j]? = some r ∧ row.1.cls = r.1)) := by
  obtain ⟨y, b, mL, rt, kd, fr, lo, na⟩ := row
  unfold vh_mgd at h
  simp only [Bool.and_eq_true, decide_eq_true_eq] at h
  obtain ⟨⟨h1, h2⟩, h3, ⟨h4, h5, h6⟩, ⟨h7, h8⟩, h9⟩ := h
  refine ⟨vh_wdm h1, vh_wdm h2, fun e => ?_, fun e => ?_, fun e => ?_, h4, ⟨h5, h6⟩, h7, ?_⟩
  · have e : kd = 0 := e
    subst e
    exact vh_wdm h3
  · have e : kd = 1 := e
    subst e
    have h3 : (vh_wd p.2.2.1 (.instanceMethod y) && vh_wd p.2.2.2 (.selects y.cls y y)) = true := h3
    rw [Bool.and_eq_true] at h3
    exact ⟨vh_wdm h3.1, vh_wdm h3.2⟩
  · have e : kd = 2 := e
    subst e
    have h3 : ((Nat.beq 2 2 && vh_wd p.2.2.1 (.instanceMethod y)) && (decide (y.name = "<init>") && decide (rt = none))) = true := h3
    simp only [Bool.and_eq_true, decide_eq_true_eq] at h3
    exact ⟨vh_wdm h3.1.2, h3.2.1, h3.2.2⟩
  · show kd = 0 ∨ _
    rw [Bool.or_eq_true] at h9
    rcases h9 with h9 | h9
    · exact Or.inl (Nat.eq_of_beq_eq_true h9)
    · right
      cases hb : Nat.beq (vh_mc j) 98 with
      | true =>
        rw [hb] at h9
        exact Or.inl ⟨rfl, of_decide_eq_true h9⟩
      | false =>
        rw [hb] at h9
        simp only [cond_false] at h9
        right
        refine ⟨rfl, ?_⟩
        split at h9
        · rename_i C T N hc
          exact ⟨_, hc, of_decide_eq_true h9⟩
        · cases h9
/-- the entry -/
theorem vh_flat_mem (G : vh_G) (hf : G.2.2.2.2.2.category = 1) : ∀ (as : List Value), as.all (fun v => !vh_dbl v) = true → ∀ (off i : Nat) (v : Value), (as.flatMap vh_a1).getD i none = some v → (off + i, vh_tv G v) ∈ lv_args off (as.map (vh_tv G)) := by
  intro as
  induction as with
  | nil => intro _ off i v h; simp at h
  | cons a as ih =>
    intro hd off i v h
    rw [List.all_cons, Bool.and_eq_true] at hd
    rw [List.flatMap_cons] at h
    have one : vh_a1 a = [some a] → a.category = 1 → (off + i, vh_tv G v) ∈ lv_args off ((a :: as).map (vh_tv G)) := by
      intro e c
      rw [e] at h
      show _ ∈ (off, vh_tv G a) :: lv_args (if (vh_tv G a).category = 2 then off + 2 else off + 1) (as.map (vh_tv G))
      rw [vh_tv_cat G hf, c, if_neg (by decide)]
      cases i with
      | zero => cases h; exact List.mem_cons_self
      | succ i =>
        have := ih hd.2 (off + 1) i v h
        rw [show off + 1 + i = off + (i + 1) by omega] at this
        exact List.mem_cons_of_mem _ this
    cases a with
    | long x =>
      show _ ∈ (off, vh_tv G (.long x)) :: lv_args (off + 2) (as.map (vh_tv G))
      match i, h with
      | 0, h => cases h; exact List.mem_cons_self
      | 1, h => cases h
      | i + 2, h =>
        have := ih hd.2 (off + 2) i v h
        rw [show off + 2 + i = off + (i + 2) by omega] at this
        exact List.mem_cons_of_mem _ this
    | double x => cases hd.1
    | int x => exact one rfl rfl
    | float x => exact one rfl rfl
    | null => exact one rfl rfl
    | ref x => exact one rfl rfl
    | retAddr x => exact one rfl rfl
theorem vh_flat_len (G : vh_G) (hf : G.2.2.2.2.2.category = 1) : ∀ (as : List Value), as.all (fun v => !vh_dbl v) = true → (lg_sl (as.map (vh_tv G))).length = (as.flatMap vh_a1).length := by
  intro as
  induction as with
  | nil => intro _; rfl
  | cons a as ih =>
    intro hd
    rw [List.all_cons, Bool.and_eq_true] at hd
    unfold lg_sl at ih ⊢
    rw [List.map_cons, List.flatMap_cons, List.flatMap_cons, List.length_append, List.length_append, ih hd.2]
    congr 1
    rw [vh_tv_cat G hf]
    cases a with
    | double x => cases hd.1
    | _ => rfl
theorem vh_c2d {lx : List Nat} : ∀ (l : vh_L) (i : Nat), vh_c2 lx i l = true → ∀ (k : Nat) (v : Value), l.getD k none = some v → v.category = 2 → i + k ∈ lx := by
  intro l
  induction l with
  | nil => intro i _ k v h; simp at h
  | cons o l ih =>
    intro i h k v hk hc
    cases o with
    | none =>
      cases k with
      | zero => cases hk
      | succ k =>
        have := ih (i + 1) h k v hk hc
        rw [show i + 1 + k = i + (k + 1) by omega] at this
        exact this
    | some u =>
      have h : ((Nat.beq u.category 1 || lx.elem i) && vh_c2 lx (i + 1) l) = true := h
      rw [Bool.and_eq_true, Bool.or_eq_true] at h
      cases k with
      | zero =>
        cases hk
        rcases h.1 with q | q
        · have := Nat.eq_of_beq_eq_true q; omega
        · exact List.elem_iff.mp q
      | succ k =>
        have := ih (i + 1) h.2 k v hk hc
        rw [show i + 1 + k = i + (k + 1) by omega] at this
        exact this
theorem vh_entD {n i : Nat} {as : List Value} {v : Value} (h : (vh_ent n as).getD i none = some v) : (as.flatMap vh_a1).getD i none = some v := by
  unfold vh_ent at h
  rw [List.getD_eq_getElem?_getD] at h ⊢
  rcases Nat.lt_or_ge i (as.flatMap vh_a1).length with q | q
  · rw [List.getElem?_append_left q] at h
    exact h
  · rw [List.getElem?_append_right q] at h
    exfalso
    rw [List.getElem?_replicate] at h
    split at h <;> cases h
theorem vh_entLR {G : vh_G} (hf : G.2.2.2.2.2.category = 1) {n : Nat} {lx : List Nat} {as : List Value} (h : vh_ack n lx as = true) : vh_LR G ((lg_sl (as.map (vh_tv G)) ++ List.replicate (n - (lg_sl (as.map (vh_tv G))).length) Slot.unset).toArray) (vh_ent n as) n lx := by
  unfold vh_ack at h
  simp only [Bool.and_eq_true] at h
  obtain ⟨h1, h2, h3⟩ := h
  have h1 := Nat.le_of_ble_eq_true h1
  have hl := vh_flat_len G hf as h2
  refine ⟨vh_lvm (lv_entry (as.map (vh_tv G)) (by rw [hl]; exact h1)) (fun q hq => ?_), ?_, fun i v hv hc => ?_⟩
  · obtain ⟨v, hv, e⟩ := vh_asc_of G _ hq
    have := vh_flat_mem G hf as h2 0 q.1 v (vh_entD hv)
    rw [Nat.zero_add] at this
    obtain ⟨q1, q2⟩ := q
    simp only at e this
    rw [e]
    exact this
  · unfold vh_ent
    rw [List.length_append, List.length_replicate]
    omega
  · have := vh_c2d _ 0 h3 i v (vh_entD hv) hc
    rw [Nat.zero_add] at this
    exact this
/-- slots -/
def vh_SS : Nat → Nat
  | 0 => 0
  | n + 1 => vh_SS n + (vh_kd n).2
theorem vh_SSm {a b : Nat} (h : a ≤ b) : vh_SS a ≤ vh_SS b := by
  induction h with
  | refl => exact Nat.le_refl _
  | step _ ih => exact Nat.le_trans ih (Nat.le_add_right _ _)
def vh_ws (row : vh_M) : List Cond := Cond.code row.1 row.2.1 row.2.2.1 row.2.2.2.1 :: vh_big
theorem vh_gdin {row : vh_M} (h : Cond.code row.1 row.2.1 row.2.2.1 row.2.2.2.1 ∈ vh_big) : GoodIn vh_big (vh_ws row) := by
  intro w hw
  have hb : w ∈ vh_big := by
    rcases List.mem_cons.mp hw with e | e
    · rw [e]; exact h
    · exact e
  exact ⟨hb, good_of_word (List.mem_filter.mp hb).2⟩
def vh_Qc (G : vh_G) (v : Option Value) (w' : vh_W) : Array Value → State → Outcome → State → Prop := fun _ st o t => o = .returned (v.map (vh_tv G)) ∧ vh_rep G w' t.heap ∧ t.heap.size = G.1 + w'.1 ∧ va_F (vh_Ar G) st t
def vh_Pc (G : vh_G) (as : List Value) (w : vh_W) : Array Value → State → Prop := va_Pc (as.map (vh_tv G)) (fun U => vh_ctx G U ∧ vh_rep G w U.heap ∧ U.heap.size = G.1 + w.1)
def vh_rm (row : vh_M) (c d : Nat) : Room := { frames := row.2.2.2.2.2.1, cells := c, slots := d, locals := row.2.2.2.2.2.2.1 }
section VHZ
variable {p : Program} {l : Launch} {e : Env} {R : Room} {s : State} {m : MethodId} {args : Array Value} {below : List Frame} {meth : Method} {c : Code} {H : Heap} {locs : List Loc} {cells slots : Nat} {Q : State → Prop} {g : JFrame}
variable {G : vh_G} {w : vh_W} {n0 : Nat}
theorem vh_wsz (hs : s.heap.size = G.1 + n0) (hn : n0 ≤ w.1) (hr : vh_rep G w H) (hS : va_S (vh_Ar G) s.heap H locs) (hc : cells = w.1 - n0) (k : H.size = G.1 + w.1 → W p l e R s m args below meth c H locs cells slots Q g) : W p l e R s m args below meth c H locs cells slots Q g := by
  intro T hT X
  refine k ?_ T hT X
  have h1 := X.heapSize
  rw [hT] at h1
  have h2 := hS.1
  rcases Nat.lt_or_ge n0 w.1 with q | q
  · have h3 := (hr.1 (w.1 - 1) _ (vh_wl_get G (w := w) (a := w.1 - 1) (by omega))).lt
    have h3 : G.1 + (w.1 - 1) < H.size := h3
    omega
  · omega
theorem vh_after {pc mc ms : Nat} {ls : Array Slot} {st0 rest : List Value} {a : Array Value} {v : Option Value} {w' : vh_W} (hr : va_Run p l e R s m args below meth c H locs cells slots mc ms (F0 m pc ls st0) rest (vh_Qc G v w' a) (vh_Ar G)) (hS : va_S (vh_Ar G) s.heap H locs)
    (kk : ∀ (H1 : Heap) (locs1 : List Loc), vh_rep G w' H1 → va_S (vh_Ar G) s.heap H1 locs1 → W p l e R s m args below meth c H1 locs1 (cells + mc) (slots + ms) Q (F0 m (pc + 3) ls ((v.map (vh_tv G)).toList ++ rest))) : W p l e R s m args below meth c H locs cells slots Q (F0 m pc ls st0) := by
  intro T hT X
  obtain ⟨v', st₀, t, T', L, h0, X', hL, e1, e2, ⟨hv, hrep, hsz, hz, hk⟩, st⟩ := hr T hT X
  cases hv
  rw [h0] at hz hk
  obtain ⟨t2, a1, b1⟩ := kk T'.heap (locs ++ L) (by rw [e1]; exact hrep) ⟨Nat.le_trans hS.1 (by rw [e1]; exact hz), fun q h1 h2 => by rw [e1, hk q (Nat.lt_of_lt_of_le h1 hS.1) h2]; exact hS.2.1 q h1 h2, fun q hq => by
    rcases List.mem_append.mp hq with h | h
    · exact hS.2.2 q h
    · exact hL q h⟩ T' rfl X'
  exact ⟨t2, st t2 a1, b1⟩
end VHZ
def vh_Main (l : Launch) (G : vh_G) (n : Nat) : Prop := ∀ (j : Nat) (row : vh_M), vh_mt[j]? = some row → ∀ (pc : Nat) (L : vh_L) (st : List Value) (w : vh_W) (v : Option Value) (w' : vh_W), vh_run n j pc L st w = some (v, w') → w.1 ≤ w'.1 ∧
  ∀ (p : Program) (e : Env) (s : State) (m : MethodId) (args : Array Value) (below : List Frame) (meth : Method) (c : Code) (H : Heap) (locs : List Loc) (ls : Array Slot) (n0 : Nat), n0 ≤ w.1 → vh_Cx G row p s m args meth c → s.heap.size = G.1 + n0 → vh_rep G w H → va_S (vh_Ar G) s.heap H locs → vh_LR G ls L row.2.2.1 (vh_lsx j) →
    W p l e (vh_rm row (w'.1 - n0) (vh_SS w'.1 - vh_SS n0)) s m args below meth c H locs (w.1 - n0) (vh_SS w.1 - vh_SS n0) (MQ below (vh_Qc G v w') args s (w'.1 - n0) (vh_SS w'.1 - vh_SS n0) (vh_Ar G)) (F0 m pc ls (st.map (vh_tv G)))
theorem vh_met {l : Launch} {G : vh_G} {n : Nat} (hM : vh_Main l G n) {k : Nat} {row : vh_M} (hm : vh_mt[k]? = some row) {as : List Value} {w w' : vh_W} {v : Option Value} (hrun : vh_run n k 0 (vh_ent row.2.2.1 as) [] w = some (v, w')) (hack : vh_ack row.2.2.1 (vh_lsx k) as = true) :
    Met l row.1 (vh_ws row) (vh_rm row (w'.1 - w.1) (vh_SS w'.1 - vh_SS w.1)) (vh_Pc G as w) (vh_Qc G v w') (w'.1 - w.1) (vh_SS w'.1 - vh_SS w.1) (vh_Ar G) := by
  obtain ⟨⟨pp, hmg⟩, -⟩ := vh_ckd hm
  have hf := vh_mfd hmg
  refine Met.ofW (cc := row.2.1) (maxL := row.2.2.1) (ret := row.2.2.2.1) hf.2.2.2.2.2.1 rfl ?_
  intro p e s m args below meth c s₁ B hml hv
  obtain ⟨rfl, hctx, hrep, hsz⟩ := hv
  have hts := atoms_spec (ws := vh_ws row) B.pre
  have C : vh_Cx G row p s m (as.map (vh_tv G)).toArray meth c := ⟨B.exec, B.bytes, hml, B.returns, B.notSynchronized, (name_of_methodNamed B.named B.method).1, findClass_of_methodNamed B.named, fun w hw => hts w (List.mem_cons_of_mem _ hw), hctx⟩
  have K := (hM k row hm 0 _ [] w v w' hrun).2 p e s m (as.map (vh_tv G)).toArray below meth c s.heap [] _ w.1 (Nat.le_refl _) C hsz hrep va_S.rf (vh_entLR hctx.cat hack)
  rw [Nat.sub_self, Nat.sub_self] at K
  rw [lg_entry_eq]
  exact K

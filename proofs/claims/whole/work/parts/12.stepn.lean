section VHN
variable {p : Program} {l : Launch} {e : Env} {R : Room} {s : State} {m : MethodId} {args : Array Value} {below : List Frame} {meth : Method} {c : Code} {H : Heap} {locs : List Loc} {cells slots : Nat} {Q : State → Prop}
variable {G : vh_G} {row : vh_M} {ls : Array Slot} {L L' : vh_L} {st st' : List Value} {w w' : vh_W} {pc pc' : Nat} {lx : List Nat}
theorem vh_newat {q : Nat} {x : va_E} {H1 : Heap} (hP : va_P G.2.1 vwCl (vh_wl G w ++ [(q, x)]) H1) (hD : va_D (vh_Ar G) (vh_wl G w ++ [(q, x)])) (hz : H1.size ≤ G.1 + w.1 + 1) : q = G.1 + w.1 := by
  have hl : (vh_wl G w ++ [(q, x)])[w.1]? = some (q, x) := by
    rw [List.getElem?_append_right (by rw [vh_wl_len]; omega), vh_wl_len]
    simp
  have h1 : q < H1.size := (hP _ _ hl).lt
  have h2 : G.1 ≤ q := hD.2 _ _ hl
  rcases Nat.lt_or_ge (q - G.1) w.1 with h | h
  · have ha : (vh_wl G w ++ [(q, x)])[q - G.1]? = some (G.1 + (q - G.1), vh_cell G w (q - G.1)) := by
      rw [List.getElem?_append_left (by rw [vh_wl_len]; exact h), vh_wl_get G h]
    have := hD.1 _ _ _ _ ha hl (by show G.1 + (q - G.1) = q; omega)
    omega
  · omega
theorem vh_repN {q : Nat} {x : va_E} {H1 : Heap} (hr : vh_rep G w H) (hN : w.1 < 122) (hq : q = G.1 + w.1) (hx : x = vh_cell G (vh_new w) w.1) (hP : va_P G.2.1 vwCl (vh_wl G w ++ [(q, x)]) H1) : vh_rep G (vh_new w) H1 := by
  refine ⟨?_, fun a k b hb => ?_, hN⟩
  · rw [vh_wl_push G (w := w) rfl (fun b hb => vh_cellN G w b hb), ← hq, ← hx]
    exact hP
  · have hb : vh_sA w.2.1 w.1 (fun _ => none) a k = some b := hb
    unfold vh_sA at hb
    by_cases h : a = w.1
    · rw [if_pos h] at hb; cases hb
    · rw [if_neg h] at hb; exact hr.2.1 a k b hb
theorem vh_clsW : ∀ (c : Nat) (r : vw_C), vwCl[c]? = some r → Cond.instantiable r.1 r.2.2 ∈ vh_big ∧ Cond.initialized r.1 ∈ vh_big := by
  intro c r h
  have hc := vh_clC h
  rcases (show c = 0 ∨ c = 1 ∨ c = 2 ∨ c = 3 ∨ c = 4 ∨ c = 5 ∨ c = 6 ∨ c = 7 ∨ c = 8 ∨ c = 9 ∨ c = 10 ∨ c = 11 by omega) with e | e | e | e | e | e | e | e | e | e | e | e <;> subst e <;> cases h <;> exact ⟨List.mem_filter.mpr ⟨by decide +kernel, by decide +kernel⟩, List.mem_filter.mpr ⟨by decide +kernel, by decide +kernel⟩⟩
theorem vh_arrW : Cond.arrayClass .int ∈ vh_big ∧ Cond.arrayClass .boolean ∈ vh_big ∧ Cond.arrayClass .long ∈ vh_big := by
  refine ⟨List.mem_filter.mpr ⟨by decide +kernel, by decide +kernel⟩, List.mem_filter.mpr ⟨by decide +kernel, by decide +kernel⟩, List.mem_filter.mpr ⟨by decide +kernel, by decide +kernel⟩⟩
theorem vh_kdB : ∀ a, a < 122 → (vh_kd a).2 * 8 ≤ 536870912 := by decide +kernel
theorem vh_s_nob (C : vh_Cx G row p s m args meth c) {idx x pp n0 : Nat} (hd : decode row.2.1 pc = .ok (.new idx, 3)) (hg : (match vwCl[x]? with
    | some (C, _, _) => vh_wd pp (.classLink row.1.cls idx C)
    | none => Nat.ble 12 x) = true) (h : vh_nob (pc + 3) x L st w = some (.inl (pc', L', st', w')))
    (hn : n0 ≤ w.1) (hz : s.heap.size = G.1 + n0) (hcs : cells = w.1 - n0) (hc1 : cells + 1 ≤ R.cells) (hs1 : slots + (vh_kd w.1).2 ≤ R.slots)
    (hr : vh_rep G w H) (hS : va_S (vh_Ar G) s.heap H locs) (hL : vh_LR G ls L row.2.2.1 lx) (kk : vh_KK p l e R s m args below meth c (cells + 1) (slots + (vh_kd w.1).2) Q G row lx pc' L' st' w' w 1) : W p l e R s m args below meth c H locs cells slots Q (F0 m pc ls (st.map (vh_tv G))) := by
  obtain ⟨hx, hb, hml, hrt, hlk, hnm, hown, hts, hctx⟩ := C
  unfold vh_nob at h
  obtain ⟨h1, rfl, rfl, rfl, rfl⟩ := vh_bnx h
  rw [Bool.and_eq_true] at h1
  have hkd := Nat.eq_of_beq_eq_true h1.1
  have hx12 := Nat.blt_eq.mp h1.2
  have hN : w.1 < 122 := vh_kd122 (by omega)
  split at hg
  · rename_i CC TT NN hc
    obtain ⟨ty, hty, htyP⟩ := vh_tyC hc
    have hkd2 := vh_kdC hc hkd
    have hkd2 : (vh_kd w.1).2 = NN := hkd2
    rw [hkd2] at hs1 kk
    have hcell : vh_cell G (vh_new w) w.1 = .inr (x, vh_fs G (vh_new w) w.1 x NN) := by rw [vh_cell_o G _ hkd hx12, hkd2]
    refine va_new hx hb hts (vh_inC hc) ty hty hown (hts _ (vh_wdm hg)) (hts _ (vh_clsW _ _ hc).1) (hts _ (vh_clsW _ _ hc).2) hctx.1 hr.1 (vh_Dw G w) hS (fun q hq => Nat.le_trans hctx.2.2.2.2.2.2 hq) hc (fs := vh_fs G (vh_new w) w.1 x NN) (fun j hj => ?_) hc1 hs1 hd (fun q H1 p1 p2 p3 => ?_)
    · unfold vp_V
      rw [List.getD_eq_getElem?_getD, vh_fs_get G (vh_new w) hj]
      show defaultValue (ty j) = vh_fv G (vh_new w) w.1 x j
      unfold vh_fv vh_ro
      show defaultValue (ty j) = (if vh_ft x j = 1 then va_rf ((vh_sA w.2.1 w.1 (fun _ => none) w.1 j).map _) else .int (vh_sA w.2.2.1 w.1 (fun _ => 0) w.1 j))
      rw [vh_sA_s, vh_sA_s]
      rcases htyP _ hj with ⟨q1, q2⟩ | ⟨q1, q2⟩ | ⟨q1, ⟨C, q2⟩ | ⟨C, q2⟩⟩
      · rw [q2, q1, if_neg (by omega)]; rfl
      · rw [q2, q1, if_neg (by omega)]; rfl
      · rw [q2, q1, if_pos rfl]; rfl
      · rw [q2, q1, if_pos rfl]; rfl
    · intro T hT X
      have hz1 : H1.size ≤ G.1 + w.1 + 1 := by
        have := X.heapSize
        rw [hT] at this
        omega
      have hq := vh_newat p1 p2 hz1
      have K := kk rfl H1 locs ls (vh_repN hr hN hq hcell.symm p1) p3 hL
      simp only [List.map_cons] at K
      rw [vh_tvr G (by omega)] at K
      rw [hq]
      exact K T hT X
  · have := Nat.le_of_ble_eq_true hg
    omega
theorem vh_KA {cA' : ClassId} {ty : FieldType} {k : Nat} {cB : ClassId} (hK : va_K G.2.1 vwCl (vh_tys G) s) (h1 : va_K G.2.1 vwCl (vh_tys G ++ [(cA', ty)]) s) (hk : (vh_tys G)[k]? = some (cB, ty)) (hty : ∃ C : String, ty = .object C ∨ ty = .int ∨ ty = .boolean ∨ ty = .long) : cA' = cB := by
  have a1 := (h1.2 5 (cA', ty) (by rw [List.getElem?_append_right (Nat.le_refl 5)]; rfl)).2
  have a2 := (hK.2 k (cB, ty) hk).2
  obtain ⟨C, rfl | rfl | rfl | rfl⟩ := hty
  · obtain ⟨_, _, -, -, -, b1⟩ := a1
    obtain ⟨_, _, -, -, -, b2⟩ := a2
    exact Option.some.inj (b1.symm.trans b2)
  · exact Option.some.inj (a1.symm.trans a2)
  · exact Option.some.inj (a1.symm.trans a2)
  · exact Option.some.inj (a1.symm.trans a2)
theorem vh_q_nar {x : Nat} (h : vh_nar pc x L st w = some (.inl (pc', L', st', w'))) : ∃ n r, st = .int n :: r ∧ (vh_kd w.1).1 = x ∧ (vh_kd w.1).2 = n.toNatClampNeg ∧ ¬ n < 0 ∧ w.1 < 1000 ∧ pc' = pc ∧ L' = L ∧ st' = .ref w.1 :: r ∧ w' = vh_new w := by
  unfold vh_nar at h
  split at h
  · rename_i n r
    obtain ⟨h1, h2⟩ := vh_bnx h
    simp only [Bool.and_eq_true, decide_eq_true_eq] at h1
    exact ⟨n, r, rfl, Nat.eq_of_beq_eq_true h1.1.1, Nat.eq_of_beq_eq_true h1.1.2, h1.2.1, Nat.blt_eq.mp h1.2.2, h2⟩
  · cases h
theorem vh_s_nar (C : vh_Cx G row p s m args meth c) {t : ArrayType} {x n0 : Nat} (hd : decode row.2.1 pc = .ok (.newarray t, 2)) (hg : (t = .int ∧ x = 20) ∨ (t = .boolean ∧ x = 21) ∨ (t = .long ∧ x = 22)) (h : vh_nar (pc + 2) x L st w = some (.inl (pc', L', st', w')))
    (hn : n0 ≤ w.1) (hz : s.heap.size = G.1 + n0) (hcs : cells = w.1 - n0) (hc1 : cells + 1 ≤ R.cells) (hs1 : slots + (vh_kd w.1).2 ≤ R.slots)
    (hr : vh_rep G w H) (hS : va_S (vh_Ar G) s.heap H locs) (hL : vh_LR G ls L row.2.2.1 lx) (kk : vh_KK p l e R s m args below meth c (cells + 1) (slots + (vh_kd w.1).2) Q G row lx pc' L' st' w' w 1) : W p l e R s m args below meth c H locs cells slots Q (F0 m pc ls (st.map (vh_tv G))) := by
  obtain ⟨hx, hb, hml, hrt, hlk, hnm, hown, hts, hctx⟩ := C
  obtain ⟨n, r, rfl, hkd, hkn, hn0, hw, rfl, rfl, rfl, rfl⟩ := vh_q_nar h
  have hN : w.1 < 122 := vh_kd122 (by omega)
  have hB := vh_kdB _ hN
  have hA : ∀ q, s.heap.size ≤ q → vh_Ar G q := fun q hq => Nat.le_trans hctx.2.2.2.2.2.2 hq
  have fin : ∀ (q : Nat) (cA : ClassId) (a0 : vp_A) (H1 : Heap), (Sum.inl (cA, a0) : va_E) = vh_cell G (vh_new w) w.1 → va_P G.2.1 vwCl (vh_wl G w ++ [(q, .inl (cA, a0))]) H1 → va_D (vh_Ar G) (vh_wl G w ++ [(q, .inl (cA, a0))]) → va_S (vh_Ar G) s.heap H1 locs → W p l e R s m args below meth c H1 locs (cells + 1) (slots + (vh_kd w.1).2) Q (F0 m (pc + 2) ls (.ref q :: r.map (vh_tv G))) := by
    intro q cA a0 H1 hcell p1 p2 p3 T hT X
    have hz1 : H1.size ≤ G.1 + w.1 + 1 := by
      have := X.heapSize
      rw [hT] at this
      omega
    have hq := vh_newat p1 p2 hz1
    have K := kk rfl H1 locs ls (vh_repN hr hN hq hcell p1) p3 hL
    simp only [List.map_cons] at K
    rw [vh_tvr G hw] at K
    rw [hq]
    exact K T hT X
  rcases hg with ⟨rfl, rfl⟩ | ⟨rfl, rfl⟩ | ⟨rfl, rfl⟩
  · refine va_newa (atype := .int) (ty := .int) (N' := (vh_kd w.1).2) (a0 := ((vh_kd w.1).2, .inl (fun _ => 0))) hx hb (hts _ vh_arrW.1) rfl hctx.1 hr.1 (vh_Dw G w) hS hA (fun _ => rfl) hn0 hkn.symm (Nat.le_trans (Nat.mul_le_mul_left _ (by decide)) hB) hc1 hs1 hd (fun q cA H1 k1 p1 p2 p3 => fin q cA _ H1 ?_ p1 p2 p3)
    rw [vh_KA (k := 0) hctx.1 k1 rfl ⟨"", by simp⟩, vh_cell_i G _ hkd (Or.inl rfl)]
    show _ = Sum.inl (G.2.2.1 20, (vh_kd w.1).2, Sum.inl (vh_sA w.2.2.1 w.1 (fun _ => 0) w.1))
    rw [vh_sA_s]
  · refine va_newa (atype := .boolean) (ty := .boolean) (N' := (vh_kd w.1).2) (a0 := ((vh_kd w.1).2, .inl (fun _ => 0))) hx hb (hts _ vh_arrW.2.1) rfl hctx.1 hr.1 (vh_Dw G w) hS hA (fun _ => rfl) hn0 hkn.symm (Nat.le_trans (Nat.mul_le_mul_left _ (by decide)) hB) hc1 hs1 hd (fun q cA H1 k1 p1 p2 p3 => fin q cA _ H1 ?_ p1 p2 p3)
    rw [vh_KA (k := 1) hctx.1 k1 rfl ⟨"", by simp⟩, vh_cell_i G _ hkd (Or.inr rfl)]
    show _ = Sum.inl (G.2.2.1 21, (vh_kd w.1).2, Sum.inl (vh_sA w.2.2.1 w.1 (fun _ => 0) w.1))
    rw [vh_sA_s]
  · refine va_newa (atype := .long) (ty := .long) (N' := (vh_kd w.1).2) (a0 := ((vh_kd w.1).2, .inr (.inl (fun _ => 0)))) hx hb (hts _ vh_arrW.2.2) rfl hctx.1 hr.1 (vh_Dw G w) hS hA (fun _ => rfl) hn0 hkn.symm (Nat.le_trans (Nat.mul_le_mul_left _ (by decide)) hB) hc1 hs1 hd (fun q cA H1 k1 p1 p2 p3 => fin q cA _ H1 ?_ p1 p2 p3)
    rw [vh_KA (k := 2) hctx.1 k1 rfl ⟨"", by simp⟩, vh_cell_j G _ hkd]
    show _ = Sum.inl (G.2.2.1 22, (vh_kd w.1).2, Sum.inr (Sum.inl (vh_sA w.2.2.2 w.1 (fun _ => 0) w.1)))
    rw [vh_sA_s]
theorem vh_s_naq (C : vh_Cx G row p s m args meth c) {idx x pp n0 : Nat} (hd : decode row.2.1 pc = .ok (.anewarray idx, 3)) (hg : ((Nat.beq x 23 && vh_wd pp (.classLink row.1.cls idx "VillageHalls$Hall")) || (Nat.beq x 24 && vh_wd pp (.classLink row.1.cls idx "VillageHalls$Booking"))) = true) (h : vh_nar (pc + 3) x L st w = some (.inl (pc', L', st', w')))
    (hn : n0 ≤ w.1) (hz : s.heap.size = G.1 + n0) (hcs : cells = w.1 - n0) (hc1 : cells + 1 ≤ R.cells) (hs1 : slots + (vh_kd w.1).2 ≤ R.slots)
    (hr : vh_rep G w H) (hS : va_S (vh_Ar G) s.heap H locs) (hL : vh_LR G ls L row.2.2.1 lx) (kk : vh_KK p l e R s m args below meth c (cells + 1) (slots + (vh_kd w.1).2) Q G row lx pc' L' st' w' w 1) : W p l e R s m args below meth c H locs cells slots Q (F0 m pc ls (st.map (vh_tv G))) := by
  obtain ⟨hx, hb, hml, hrt, hlk, hnm, hown, hts, hctx⟩ := C
  obtain ⟨n, r, rfl, hkd, hkn, hn0, hw, rfl, rfl, rfl, rfl⟩ := vh_q_nar h
  simp only [Bool.or_eq_true, Bool.and_eq_true] at hg
  have hN : w.1 < 122 := vh_kd122 (by rcases hg with ⟨q, -⟩ | ⟨q, -⟩ <;> have := Nat.eq_of_beq_eq_true q <;> omega)
  have hB := vh_kdB _ hN
  have hA : ∀ q, s.heap.size ≤ q → vh_Ar G q := fun q hq => Nat.le_trans hctx.2.2.2.2.2.2 hq
  have fin : ∀ (q : Nat) (cA : ClassId) (a0 : vp_A) (H1 : Heap), (Sum.inl (cA, a0) : va_E) = vh_cell G (vh_new w) w.1 → va_P G.2.1 vwCl (vh_wl G w ++ [(q, .inl (cA, a0))]) H1 → va_D (vh_Ar G) (vh_wl G w ++ [(q, .inl (cA, a0))]) → va_S (vh_Ar G) s.heap H1 locs → W p l e R s m args below meth c H1 locs (cells + 1) (slots + (vh_kd w.1).2) Q (F0 m (pc + 3) ls (.ref q :: r.map (vh_tv G))) := by
    intro q cA a0 H1 hcell p1 p2 p3 T hT X
    have hz1 : H1.size ≤ G.1 + w.1 + 1 := by
      have := X.heapSize
      rw [hT] at this
      omega
    have hq := vh_newat p1 p2 hz1
    have K := kk rfl H1 locs ls (vh_repN hr hN hq hcell p1) p3 hL
    simp only [List.map_cons] at K
    rw [vh_tvr G hw] at K
    rw [hq]
    exact K T hT X
  rcases hg with ⟨e1, hg⟩ | ⟨e1, hg⟩
  · have e1 := Nat.eq_of_beq_eq_true e1
    subst e1
    refine va_newq (N' := (vh_kd w.1).2) hx hb hown (hts _ (vh_wdm hg)) hctx.2.2.1.1 hctx.1 hr.1 (vh_Dw G w) hS hA hn0 hkn.symm (by omega) hc1 hs1 hd (fun q cA H1 k1 p1 p2 p3 => fin q cA _ H1 ?_ p1 p2 p3)
    rw [vh_KA (k := 3) hctx.1 k1 rfl ⟨"VillageHalls$Hall", Or.inl rfl⟩, vh_cell_r G _ hkd (Or.inl rfl)]
    show _ = Sum.inl (G.2.2.1 23, (vh_kd w.1).2, Sum.inr (Sum.inr (Sum.inr (Sum.inr (vh_ro G (vh_sA w.2.1 w.1 (fun _ => none) w.1))))))
    rw [vh_sA_s]
    rfl
  · have e1 := Nat.eq_of_beq_eq_true e1
    subst e1
    refine va_newq (N' := (vh_kd w.1).2) hx hb hown (hts _ (vh_wdm hg)) hctx.2.2.1.2 hctx.1 hr.1 (vh_Dw G w) hS hA hn0 hkn.symm (by omega) hc1 hs1 hd (fun q cA H1 k1 p1 p2 p3 => fin q cA _ H1 ?_ p1 p2 p3)
    rw [vh_KA (k := 4) hctx.1 k1 rfl ⟨"VillageHalls$Booking", Or.inl rfl⟩, vh_cell_r G _ hkd (Or.inr rfl)]
    show _ = Sum.inl (G.2.2.1 24, (vh_kd w.1).2, Sum.inr (Sum.inr (Sum.inr (Sum.inr (vh_ro G (vh_sA w.2.1 w.1 (fun _ => none) w.1))))))
    rw [vh_sA_s]
    rfl
end VHN

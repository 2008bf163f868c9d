section VHA
variable {p : Program} {l : Launch} {e : Env} {R : Room} {s : State} {m : MethodId} {args : Array Value} {below : List Frame} {meth : Method} {c : Code} {H : Heap} {locs : List Loc} {cells slots : Nat} {Q : State → Prop}
variable {G : vh_G} {row : vh_M} {ls : Array Slot} {L L' : vh_L} {st st' : List Value} {w w' : vh_W} {pc pc' : Nat} {lx : List Nat}
theorem vh_lt3 {a : Nat} (h : (vh_kd a).1 ≠ 99) : a < 1000 := Nat.lt_of_lt_of_le (vh_kd122 h) (by omega)
theorem vh_hei (w : vh_W) {a ci : Nat} (h1 : a < w.1) (h2 : (vh_kd a).1 = ci) (hc : ci = 20 ∨ ci = 21) : (vh_wl G w)[a]? = some (G.1 + a, .inl (G.2.2.1 ci, (vh_kd a).2, .inl (w.2.2.1 a))) := by
  rw [vh_wl_get G h1, vh_cell_i G w h2 hc]
theorem vh_hej (w : vh_W) {a : Nat} (h1 : a < w.1) (h2 : (vh_kd a).1 = 22) : (vh_wl G w)[a]? = some (G.1 + a, .inl (G.2.2.1 22, (vh_kd a).2, .inr (.inl (w.2.2.2 a)))) := by
  rw [vh_wl_get G h1, vh_cell_j G w h2]
theorem vh_her (w : vh_W) {a ci : Nat} (h1 : a < w.1) (h2 : (vh_kd a).1 = ci) (hc : ci = 23 ∨ ci = 24) : (vh_wl G w)[a]? = some (G.1 + a, .inl (G.2.2.1 ci, (vh_kd a).2, .inr (.inr (.inr (.inr (vh_ro G (w.2.1 a))))))) := by
  rw [vh_wl_get G h1, vh_cell_r G w h2 hc]
theorem vh_s_ard (C : vh_Cx G row p s m args meth c) (hd : decode row.2.1 pc = .ok (.iaload, 1)) (h : vh_ard (pc + 1) 20 L st w = some (.inl (pc', L', st', w')))
    (hr : vh_rep G w H) (hS : va_S (vh_Ar G) s.heap H locs) (hL : vh_LR G ls L row.2.2.1 lx) (kk : vh_KK p l e R s m args below meth c cells slots Q G row lx pc' L' st' w' w 0) : W p l e R s m args below meth c H locs cells slots Q (F0 m pc ls (st.map (vh_tv G))) := by
  obtain ⟨hx, hb, hml, hrt, hlk, hnm, hown, hts, hctx⟩ := C
  unfold vh_ard at h
  split at h
  · rename_i i a r
    obtain ⟨h1, rfl, rfl, rfl, rfl⟩ := vh_bnx h
    rw [Bool.and_eq_true] at h1
    obtain ⟨ha1, ha2⟩ := vh_okd h1.1
    have K := kk rfl H locs ls hr hS hL
    simp only [List.map_cons] at K ⊢
    rw [vh_tvr G (vh_lt3 (a := a) (by omega))]
    exact va_iald hx hb hctx.1 hr.1 a 0 (vh_hei _ ha1 ha2 (Or.inl rfl)) rfl (vh_ixd h1.2) hd K
  · cases h
theorem vh_s_bld (C : vh_Cx G row p s m args meth c) (hd : decode row.2.1 pc = .ok (.baload, 1)) (h : vh_bld (pc + 1) L st w = some (.inl (pc', L', st', w')))
    (hr : vh_rep G w H) (hS : va_S (vh_Ar G) s.heap H locs) (hL : vh_LR G ls L row.2.2.1 lx) (kk : vh_KK p l e R s m args below meth c cells slots Q G row lx pc' L' st' w' w 0) : W p l e R s m args below meth c H locs cells slots Q (F0 m pc ls (st.map (vh_tv G))) := by
  obtain ⟨hx, hb, hml, hrt, hlk, hnm, hown, hts, hctx⟩ := C
  unfold vh_bld at h
  split at h
  · rename_i i a r
    cases h0 : (Nat.ble 2000 a && Nat.blt a 2012) with
    | true =>
      rw [h0] at h
      simp only [cond_true] at h
      obtain ⟨h1, rfl, rfl, rfl, rfl⟩ := vh_bnx h
      rw [Bool.and_eq_true] at h0
      have ha1 := Nat.le_of_ble_eq_true h0.1
      have ha2 := Nat.blt_eq.mp h0.2
      have K := kk rfl H locs ls hr hS hL
      simp only [List.map_cons] at K ⊢
      rw [vh_tvb G ha1 (by omega)]
      exact va_tb hx hb (hctx.2.2.2.1.1.1 (a - 2000) (by omega)).2.2.2 hS (vh_ixd h1) rfl hd K
    | false =>
      rw [h0] at h
      simp only [cond_false] at h
      obtain ⟨h1, rfl, rfl, rfl, rfl⟩ := vh_bnx h
      rw [Bool.and_eq_true] at h1
      obtain ⟨ha1, ha2⟩ := vh_okd h1.1
      have K := kk rfl H locs ls hr hS hL
      simp only [List.map_cons] at K ⊢
      rw [vh_tvr G (vh_lt3 (a := a) (by omega))]
      exact va_zald hx hb hctx.1 hr.1 a 1 (vh_hei _ ha1 ha2 (Or.inr rfl)) rfl (vh_ixd h1.2) hd K
  · cases h
theorem vh_s_jrd (C : vh_Cx G row p s m args meth c) (hd : decode row.2.1 pc = .ok (.laload, 1)) (h : vh_jrd (pc + 1) L st w = some (.inl (pc', L', st', w')))
    (hr : vh_rep G w H) (hS : va_S (vh_Ar G) s.heap H locs) (hL : vh_LR G ls L row.2.2.1 lx) (kk : vh_KK p l e R s m args below meth c cells slots Q G row lx pc' L' st' w' w 0) : W p l e R s m args below meth c H locs cells slots Q (F0 m pc ls (st.map (vh_tv G))) := by
  obtain ⟨hx, hb, hml, hrt, hlk, hnm, hown, hts, hctx⟩ := C
  unfold vh_jrd at h
  split at h
  · rename_i i a r
    obtain ⟨h1, rfl, rfl, rfl, rfl⟩ := vh_bnx h
    rw [Bool.and_eq_true] at h1
    obtain ⟨ha1, ha2⟩ := vh_okd h1.1
    have K := kk rfl H locs ls hr hS hL
    simp only [List.map_cons] at K ⊢
    rw [vh_tvr G (vh_lt3 (a := a) (by omega))]
    exact va_lald hx hb hctx.1 hr.1 a 2 (vh_hej _ ha1 ha2) rfl (vh_ixd h1.2) hd K
  · cases h
theorem vh_s_rrd (C : vh_Cx G row p s m args meth c) (hd : decode row.2.1 pc = .ok (.aaload, 1)) (h : vh_rrd (pc + 1) L st w = some (.inl (pc', L', st', w')))
    (hr : vh_rep G w H) (hS : va_S (vh_Ar G) s.heap H locs) (hL : vh_LR G ls L row.2.2.1 lx) (kk : vh_KK p l e R s m args below meth c cells slots Q G row lx pc' L' st' w' w 0) : W p l e R s m args below meth c H locs cells slots Q (F0 m pc ls (st.map (vh_tv G))) := by
  obtain ⟨hx, hb, hml, hrt, hlk, hnm, hown, hts, hctx⟩ := C
  unfold vh_rrd at h
  split at h
  · rename_i i a r
    obtain ⟨h1, rfl, rfl, rfl, rfl⟩ := vh_bnx h
    rw [Bool.and_eq_true, Bool.or_eq_true] at h1
    have K := kk rfl H locs ls hr hS hL
    simp only [List.map_cons] at K ⊢
    rw [vh_rvro G hr.2.1] at K
    rcases h1.1 with q | q
    · obtain ⟨ha1, ha2⟩ := vh_okd q
      rw [vh_tvr G (vh_lt3 (a := a) (by omega))]
      exact va_aldq hx hb hctx.1 hr.1 a 3 (vh_her _ ha1 ha2 (Or.inl rfl)) rfl (vh_ixd h1.2) hd K
    · obtain ⟨ha1, ha2⟩ := vh_okd q
      rw [vh_tvr G (vh_lt3 (a := a) (by omega))]
      exact va_aldq hx hb hctx.1 hr.1 a 4 (vh_her _ ha1 ha2 (Or.inr rfl)) rfl (vh_ixd h1.2) hd K
  · cases h
theorem vh_s_awr (C : vh_Cx G row p s m args meth c) (hd : decode row.2.1 pc = .ok (.iastore, 1)) (h : vh_awr (pc + 1) L st w = some (.inl (pc', L', st', w')))
    (hr : vh_rep G w H) (hS : va_S (vh_Ar G) s.heap H locs) (hL : vh_LR G ls L row.2.2.1 lx) (kk : vh_KK p l e R s m args below meth c cells slots Q G row lx pc' L' st' w' w 0) : W p l e R s m args below meth c H locs cells slots Q (F0 m pc ls (st.map (vh_tv G))) := by
  obtain ⟨hx, hb, hml, hrt, hlk, hnm, hown, hts, hctx⟩ := C
  unfold vh_awr at h
  split at h
  · rename_i v i a r
    obtain ⟨h1, rfl, rfl, rfl, rfl⟩ := vh_bnx h
    rw [Bool.and_eq_true] at h1
    obtain ⟨ha1, ha2⟩ := vh_okd h1.1
    simp only [List.map_cons]
    rw [vh_tvr G (vh_lt3 (a := a) (by omega))]
    refine va_iast hx hb hctx.1 hr.1 (vh_Dw G w) hS a 0 (vh_hei _ ha1 ha2 (Or.inl rfl)) rfl (vh_ixd h1.2) hd (fun H1 locs1 p1 p2 p3 => kk rfl H1 locs1 ls (vh_repI hr ?_) p3 hL)
    rw [vh_cell_i G _ ha2 (Or.inl rfl)]
    show va_P G.2.1 vwCl ((vh_wl G w).set a (G.1 + a, .inl (G.2.2.1 20, (vh_kd a).2, .inl (vh_sA w.2.2.1 a _ a)))) H1
    rw [vh_sA_s]
    exact p1
  · cases h
theorem vh_s_bwr (C : vh_Cx G row p s m args meth c) (hd : decode row.2.1 pc = .ok (.bastore, 1)) (h : vh_bwr (pc + 1) L st w = some (.inl (pc', L', st', w')))
    (hr : vh_rep G w H) (hS : va_S (vh_Ar G) s.heap H locs) (hL : vh_LR G ls L row.2.2.1 lx) (kk : vh_KK p l e R s m args below meth c cells slots Q G row lx pc' L' st' w' w 0) : W p l e R s m args below meth c H locs cells slots Q (F0 m pc ls (st.map (vh_tv G))) := by
  obtain ⟨hx, hb, hml, hrt, hlk, hnm, hown, hts, hctx⟩ := C
  unfold vh_bwr at h
  split at h
  · rename_i v i a r
    obtain ⟨h1, rfl, rfl, rfl, rfl⟩ := vh_bnx h
    rw [Bool.and_eq_true] at h1
    obtain ⟨ha1, ha2⟩ := vh_okd h1.1
    simp only [List.map_cons]
    rw [vh_tvr G (vh_lt3 (a := a) (by omega))]
    refine va_zast hx hb hctx.1 hr.1 (vh_Dw G w) hS a 1 (vh_hei _ ha1 ha2 (Or.inr rfl)) rfl (vh_ixd h1.2) hd (fun H1 locs1 p1 p2 p3 => kk rfl H1 locs1 ls (vh_repI hr ?_) p3 hL)
    rw [vh_cell_i G _ ha2 (Or.inr rfl)]
    show va_P G.2.1 vwCl ((vh_wl G w).set a (G.1 + a, .inl (G.2.2.1 21, (vh_kd a).2, .inl (vh_sA w.2.2.1 a _ a)))) H1
    rw [vh_sA_s]
    exact p1
  · cases h
theorem vh_s_jwr (C : vh_Cx G row p s m args meth c) (hd : decode row.2.1 pc = .ok (.lastore, 1)) (h : vh_jwr (pc + 1) L st w = some (.inl (pc', L', st', w')))
    (hr : vh_rep G w H) (hS : va_S (vh_Ar G) s.heap H locs) (hL : vh_LR G ls L row.2.2.1 lx) (kk : vh_KK p l e R s m args below meth c cells slots Q G row lx pc' L' st' w' w 0) : W p l e R s m args below meth c H locs cells slots Q (F0 m pc ls (st.map (vh_tv G))) := by
  obtain ⟨hx, hb, hml, hrt, hlk, hnm, hown, hts, hctx⟩ := C
  unfold vh_jwr at h
  split at h
  · rename_i v i a r
    obtain ⟨h1, rfl, rfl, rfl, rfl⟩ := vh_bnx h
    rw [Bool.and_eq_true] at h1
    obtain ⟨ha1, ha2⟩ := vh_okd h1.1
    simp only [List.map_cons]
    rw [vh_tvr G (vh_lt3 (a := a) (by omega))]
    refine va_last hx hb hctx.1 hr.1 (vh_Dw G w) hS a 2 (vh_hej _ ha1 ha2) rfl (vh_ixd h1.2) hd (fun H1 locs1 p1 p2 p3 => kk rfl H1 locs1 ls (vh_repJ hr ?_) p3 hL)
    rw [vh_cell_j G _ ha2]
    show va_P G.2.1 vwCl ((vh_wl G w).set a (G.1 + a, .inl (G.2.2.1 22, (vh_kd a).2, .inr (.inl (vh_sA w.2.2.2 a _ a))))) H1
    rw [vh_sA_s]
    exact p1
  · cases h
theorem vh_s_rwr (C : vh_Cx G row p s m args meth c) (hd : decode row.2.1 pc = .ok (.aastore, 1)) (h : vh_rwr (pc + 1) L st w = some (.inl (pc', L', st', w')))
    (hr : vh_rep G w H) (hS : va_S (vh_Ar G) s.heap H locs) (hL : vh_LR G ls L row.2.2.1 lx) (kk : vh_KK p l e R s m args below meth c cells slots Q G row lx pc' L' st' w' w 0) : W p l e R s m args below meth c H locs cells slots Q (F0 m pc ls (st.map (vh_tv G))) := by
  obtain ⟨hx, hb, hml, hrt, hlk, hnm, hown, hts, hctx⟩ := C
  unfold vh_rwr at h
  split at h
  · rename_i v i a r
    obtain ⟨h1, rfl, rfl, rfl, rfl⟩ := vh_bnx h
    simp only [Bool.and_eq_true, Bool.or_eq_true] at h1
    have hv := Nat.blt_eq.mp h1.2.2
    simp only [List.map_cons]
    rw [vh_tvr G hv]
    rcases h1.1 with ⟨q, q2⟩ | ⟨q, q2⟩
    · obtain ⟨ha1, ha2⟩ := vh_okd q
      obtain ⟨hb1, hb2⟩ := vh_okd q2
      rw [vh_tvr G (vh_lt3 (a := a) (by omega))]
      refine va_astq hx hb hctx.1 hr.1 (vh_Dw G w) hS a 3 v 4 (r := (RX4, TX4, 7)) (vh_her _ ha1 ha2 (Or.inl rfl)) rfl (vh_he _ hb1 hb2 (r := (RX4, TX4, 7)) rfl) rfl (vh_ixd h1.2.1) hd (fun H1 locs1 p1 p2 p3 => kk rfl H1 locs1 ls (vh_repR hv hr ?_) p3 hL)
      rw [vh_cell_r G _ ha2 (Or.inl rfl)]
      show va_P G.2.1 vwCl ((vh_wl G w).set a (G.1 + a, .inl (G.2.2.1 23, (vh_kd a).2, .inr (.inr (.inr (.inr (vh_ro G (vh_sA w.2.1 a _ a)))))))) H1
      rw [vh_sA_s, vh_ro_up]
      exact p1
    · obtain ⟨ha1, ha2⟩ := vh_okd q
      obtain ⟨hb1, hb2⟩ := vh_okd q2
      rw [vh_tvr G (vh_lt3 (a := a) (by omega))]
      refine va_astq hx hb hctx.1 hr.1 (vh_Dw G w) hS a 4 v 1 (r := (RX1, TX1, 10)) (vh_her _ ha1 ha2 (Or.inr rfl)) rfl (vh_he _ hb1 hb2 (r := (RX1, TX1, 10)) rfl) rfl (vh_ixd h1.2.1) hd (fun H1 locs1 p1 p2 p3 => kk rfl H1 locs1 ls (vh_repR hv hr ?_) p3 hL)
      rw [vh_cell_r G _ ha2 (Or.inr rfl)]
      show va_P G.2.1 vwCl ((vh_wl G w).set a (G.1 + a, .inl (G.2.2.1 24, (vh_kd a).2, .inr (.inr (.inr (.inr (vh_ro G (vh_sA w.2.1 a _ a)))))))) H1
      rw [vh_sA_s, vh_ro_up]
      exact p1
  · cases h
theorem vh_s_len (C : vh_Cx G row p s m args meth c) (hd : decode row.2.1 pc = .ok (.arraylength, 1)) (h : vh_len (pc + 1) L st w = some (.inl (pc', L', st', w')))
    (hr : vh_rep G w H) (hS : va_S (vh_Ar G) s.heap H locs) (hL : vh_LR G ls L row.2.2.1 lx) (kk : vh_KK p l e R s m args below meth c cells slots Q G row lx pc' L' st' w' w 0) : W p l e R s m args below meth c H locs cells slots Q (F0 m pc ls (st.map (vh_tv G))) := by
  obtain ⟨hx, hb, hml, hrt, hlk, hnm, hown, hts, hctx⟩ := C
  unfold vh_len at h
  split at h
  · rename_i a r
    obtain ⟨h1, rfl, rfl, rfl, rfl⟩ := vh_bnx h
    rw [Bool.and_eq_true] at h1
    have ha1 := Nat.le_of_ble_eq_true h1.1
    have ha2 := Nat.blt_eq.mp h1.2
    have K := kk rfl H locs ls hr hS hL
    simp only [List.map_cons] at K ⊢
    rw [vh_tvb G ha1 (by omega)]
    exact va_tlen hx hb (hctx.2.2.2.1.1.1 (a - 2000) (by omega)).2.2.2 hS rfl hd K
  · cases h
theorem vh_natW : (Cond.native arraycopyName) ∈ vh_big ∧ (Cond.static arraycopyName) ∈ vh_big ∧ (Cond.initialized "java/lang/System") ∈ vh_big := by
  refine ⟨List.mem_filter.mpr ⟨by decide +kernel, by decide +kernel⟩, List.mem_filter.mpr ⟨by decide +kernel, by decide +kernel⟩, List.mem_filter.mpr ⟨by decide +kernel, by decide +kernel⟩⟩
theorem vh_s_ocp (C : vh_Cx G row p s m args meth c) {idx pp : Nat} (hd : decode row.2.1 pc = .ok (.invokestatic idx, 3)) (hg : (vh_wd pp (.methodLink row.1.cls idx arraycopyName)) = true) (hf : 1 ≤ R.frames) (hlo : 40 ≤ R.locals) (h : vh_ocp (pc + 3) L st w = some (.inl (pc', L', st', w')))
    (hr : vh_rep G w H) (hS : va_S (vh_Ar G) s.heap H locs) (hL : vh_LR G ls L row.2.2.1 lx) (kk : vh_KK p l e R s m args below meth c cells slots Q G row lx pc' L' st' w' w 0) : W p l e R s m args below meth c H locs cells slots Q (F0 m pc ls (st.map (vh_tv G))) := by
  have C0 := C
  obtain ⟨hx, hb, hml, hrt, hlk, hnm, hown, hts, hctx⟩ := C
  unfold vh_ocp at h
  split at h
  · rename_i n dp b sp a r
    obtain ⟨h1, rfl, rfl, rfl, rfl⟩ := vh_bnx h
    simp only [Bool.and_eq_true, decide_eq_true_eq] at h1
    obtain ⟨⟨q1, q2⟩, ⟨g1, g2, g3, g4, g5⟩, g6⟩ := h1
    obtain ⟨ha1, ha2⟩ := vh_okd q1
    obtain ⟨hb1, hb2⟩ := vh_okd q2
    have g6 := Nat.le_of_ble_eq_true g6
    simp only [List.map_cons]
    rw [vh_tvr G (vh_lt3 (a := a) (by omega)), vh_tvr G (vh_lt3 (a := b) (by omega))]
    refine va_copyi (ty := .int) hx hb (hml.trans hL.1.1.symm) hown (hts _ (vh_wdm hg)) (hts _ vh_natW.1) (hts _ vh_natW.2.1) (hts _ vh_natW.2.2) hctx.1 hr.1 (vh_Dw G w) hS a b 0 0 (vh_hei _ ha1 ha2 (Or.inl rfl)) (vh_hei _ hb1 hb2 (Or.inl rfl)) rfl rfl rfl g1 g2 g3 g4 g5 (fun _ _ => rfl) hf ?_ hd (fun H1 locs1 p1 p2 p3 => kk rfl H1 locs1 ls (vh_repI hr ?_) p3 hL)
    · rw [vh_tvcs hctx.cat]
      have : nativeFrameWords "java/lang/System" "arraycopy" 5 = 7 := by decide
      omega
    · rw [vh_cell_i G _ hb2 (Or.inl rfl)]
      show va_P G.2.1 vwCl ((vh_wl G w).set b (G.1 + b, .inl (G.2.2.1 20, (vh_kd b).2, .inl (vh_sA w.2.2.1 b _ b)))) H1
      rw [vh_sA_s]
      exact p1
  · cases h
end VHA

theorem lw_chkd {w : vh_W} (h : lw_chk w = true) : w.1 = 122 ∧ lw_k5 w.2.1 = true ∧ lw_k1 w.2.2.1 = true ∧ lw_k2 w.2.2.1 = true ∧ lw_k3 w.2.2.1 = true ∧ lw_k4 w.2.2.1 = true := by
  unfold lw_chk at h
  rw [Bool.and_eq_true, Bool.and_eq_true, Bool.and_eq_true, Bool.and_eq_true, Bool.and_eq_true] at h
  obtain ⟨⟨h1, h2⟩, h3, h4, h5, h6⟩ := h
  exact ⟨Nat.eq_of_beq_eq_true h1, h2, h3, h4, h5, h6⟩
theorem lw_ini : ∃ w1 w2 : vh_W, vh_run 600 0 0 (vh_ent 1 [.ref 0]) [] (vh_new lw_w0) = some (none, w1) ∧ w1.1 = 88 ∧ vh_run 600 146 0 (vh_ent 1 [.ref 88]) [] (vh_new w1) = some (none, w2) ∧ lw_chk w2 = true := ⟨lw_w1, lw_w2, lw_e1.1, lw_e1.2, lw_e2.1, lw_e2.2⟩
set_option maxHeartbeats 4000000 in
/-- THE LAW, from its entry -/
theorem whole_start {p : Program} {e : Env} {s : State} {m : MethodId} {below : List Frame} {meth : Method} {c : Code} (l : Launch) {b L : Nat} {xs : Nat → Int32} (hL : L ≤ 3584) (C0 : lw_At p s m meth c b L xs) (hnm : meth.name = x.name) : W p l e room_1 s m #[Value.ref b] below meth c s.heap [] 0 0 (lw_Z below #[Value.ref b] s) (entryFrame m ([Value.ref b] : List Value).toArray 4) := by
  obtain ⟨G, hG, hb, hctx⟩ := lw_ctx C0
  have C := lw_Cx C0 hnm hctx
  obtain ⟨hx, hbc, hr, hml, hown, hts, hX, hbl, hlocks, hgv⟩ := C0
  have E : lw_E p s m meth c b G L xs := ⟨C, hG.symm, hb, hX, hbl, hL⟩
  obtain ⟨w1, w2, r1, w88, r2, h2⟩ := lw_ini
  obtain ⟨w122, k5, k1, k2, k3, k4⟩ := lw_chkd h2
  have Kl : lw_V p l e s m below meth c b G 18 (lw_L 0) [] w2 := by
    intro H locs ls hr hS hL'
    have K := lw_loop (l := l) (e := e) (below := below) E (L / 7) 0 (Nat.zero_le _) (by omega) 0 w2.2.2.1 w2.2.2.2 (lw_relC k1 k2 k3 k4) H locs ls (lw_repK hr w122 k5) hS hL'
    rw [w122]
    exact K
  have K : lw_V p l e s m below meth c b G 0 [some (.ref 1012), none, none, none] [] lw_w0 := by
    refine lw_nob C hG.symm (idx := 7) (x := 10) (pp := 87) (by decide +kernel) (by decide +kernel) ?_
    refine lw_st (i := .dup) (x := 0) (pp := 0) C (by decide +kernel) rfl rfl ?_
    refine lw_call (as := [.ref 0]) (st := [.ref 0]) (i := .invokespecial 9) (idx := 9) (x := 0) (pp := 89) C hG.symm (by decide +kernel) rfl (.inr ⟨rfl, rfl⟩) mt0 rfl (by decide) rfl ⟨0, [], rfl, .inl ⟨rfl, by decide⟩⟩ r1 ?_ (by rw [w88]; decide)
    refine lw_st (i := .astore_n 1) (x := 0) (pp := 0) C (by decide +kernel) rfl rfl ?_
    refine lw_nob C hG.symm (idx := 10) (x := 11) (pp := 1067) (by decide +kernel) (by rw [w88]; decide +kernel) ?_
    rw [w88]
    refine lw_st (i := .dup) (x := 0) (pp := 0) C (by decide +kernel) rfl rfl ?_
    refine lw_call (as := [.ref 88]) (st := [.ref 88]) (i := .invokespecial 12) (idx := 12) (x := 146) (pp := 1069) C hG.symm (by decide +kernel) rfl (.inr ⟨rfl, rfl⟩) mt146 rfl (by decide) rfl ⟨88, [], rfl, .inl ⟨rfl, by decide⟩⟩ r2 ?_ (by rw [w122]; decide)
    refine lw_st (i := .astore_n 2) (x := 0) (pp := 0) C (by decide +kernel) rfl rfl ?_
    refine lw_st (i := .iconst 0) (x := 0) (pp := 0) C (by decide +kernel) rfl rfl ?_
    refine lw_st (i := .istore_n 3) (x := 0) (pp := 0) C (by decide +kernel) rfl rfl ?_
    exact Kl
  have hLR := vh_entLR (G := G) hctx.cat (n := 4) (lx := []) (as := [.ref 1012]) rfl
  have hrep : vh_rep G lw_w0 s.heap := ⟨fun k q hq => (by simp [vh_wl, lw_w0] at hq), ⟨fun a k b h => (by cases h), Nat.zero_le _⟩⟩
  have q : ([.ref 1012] : List Value).map (vh_tv G) = [.ref b] := by rw [List.map_cons, lw_tvb hb]; rfl
  rw [q] at hLR
  rw [lg_entry_eq]
  exact K s.heap [] _ hrep va_S.rf hLR

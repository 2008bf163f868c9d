set_option maxRecDepth 100000 in
theorem vh_gcd {own : String} {idx K fr lo x p : Nat} (h : vh_gcall own idx K fr lo x p = true) {row : vh_M} (hm : vh_mt[x]? = some row) : row.2.2.2.2.1 = K ∧ row.2.2.2.2.2.1 + 1 ≤ fr ∧ 8 + (row.2.2.1 + 11) + row.2.2.2.2.2.2.1 ≤ lo ∧ (Cond.methodLink own idx row.1 ∈ vh_big ∨ Cond.methodLinkNest own idx row.1 "VillageHalls" ∈ vh_nest) := by
  unfold vh_gcall at h
  rw [hm] at h
  obtain ⟨y, b, mL, rt, kd, fr', lo', na⟩ := row
  simp only [Bool.and_eq_true] at h
  obtain ⟨⟨h1, h2, h3⟩, h4⟩ := h
  refine ⟨Nat.eq_of_beq_eq_true h1, Nat.le_of_ble_eq_true h2, Nat.le_of_ble_eq_true h3, ?_⟩
  revert h4
  generalize p - 10000 = z
  generalize Nat.blt p 10000 = b
  intro h4
  cases b with
  | true => exact Or.inl (vh_wdm h4)
  | false => exact Or.inr (vh_nwm h4)
theorem vh_insd {j pc : Nat} {e : vh_O} (h : vh_ins j pc = some e) : e.1 = pc ∧ e ∈ vh_ops.getD j [] := by
  unfold vh_ins at h
  have h1 := List.find?_some (p := fun e : vh_O => Nat.beq e.1 pc) h
  exact ⟨Nat.eq_of_beq_eq_true h1, List.mem_of_find?_eq_some h⟩
section VHY
variable {p : Program} {l : Launch} {e : Env} {s : State} {m : MethodId} {args : Array Value} {below : List Frame} {meth : Method} {c : Code} {H : Heap} {locs : List Loc} {Q : State → Prop}
variable {G : vh_G} {row : vh_M} {ls : Array Slot} {L : vh_L} {st st1 : List Value} {w : vh_W} {pc n0 j : Nat} {lx : List Nat}
theorem vh_docall {n x idx pp : Nat} {i : Instr} {as : List Value} {v1 : Option Value} {w2 : vh_W} {row' : vh_M} {cR sR : Nat} (hM : vh_Main l G n) (C : vh_Cx G row p s m args meth c)
    (hd : decode row.2.1 pc = .ok (i, 3)) (hg : vh_gd row.1.cls row.1.name row.2.2.1 row.2.2.2.2.2.1 row.2.2.2.2.2.2.1 lx (pc, i, x, pp) = true)
    (hi : (i = .invokevirtual idx) ∨ (i = .invokespecial idx ∧ Nat.beq x 9999 = false) ∨ (i = .invokestatic idx ∧ Nat.beq x 9998 = false ∧ Nat.beq x 9997 = false ∧ Nat.beq x 9996 = false ∧ Nat.beq x 9995 = false))
    (hm : vh_mt[x]? = some row') (hst : st = as.reverse ++ st1) (hlen : as.length = row'.2.2.2.2.2.2.2) (h8 : (st1.map fun v => v.category).sum ≤ 8) (hack : vh_ack row'.2.2.1 (vh_lsx x) as = true)
    (hrecv : row'.2.2.2.2.1 = 0 ∨ ∃ a as', as = .ref a :: as' ∧ ((row'.2.2.2.2.1 = 2 ∧ a < 1000) ∨ (bif Nat.beq (vh_mc x) 98 then Nat.ble 1000 a && Nat.blt a 1012 else vh_ok w a (vh_mc x)) = true))
    (hrun : vh_run n x 0 (vh_ent row'.2.2.1 as) [] w = some (v1, w2)) (hn : n0 ≤ w.1) (hsz : s.heap.size = G.1 + n0) (hr : vh_rep G w H) (hS : va_S (vh_Ar G) s.heap H locs) (hL : vh_LR G ls L row.2.2.1 lx)
    (hcc : (w.1 - n0) + (w2.1 - w.1) ≤ cR) (hss : (vh_SS w.1 - vh_SS n0) + (vh_SS w2.1 - vh_SS w.1) ≤ sR)
    (kk : ∀ (H1 : Heap) (locs1 : List Loc), vh_rep G w2 H1 → va_S (vh_Ar G) s.heap H1 locs1 → W p l e (vh_rm row cR sR) s m args below meth c H1 locs1 ((w.1 - n0) + (w2.1 - w.1)) ((vh_SS w.1 - vh_SS n0) + (vh_SS w2.1 - vh_SS w.1)) Q (F0 m (pc + 3) ls ((v1.map (vh_tv G)).toList ++ st1.map (vh_tv G)))) :
    W p l e (vh_rm row cR sR) s m args below meth c H locs (w.1 - n0) (vh_SS w.1 - vh_SS n0) Q (F0 m pc ls (st.map (vh_tv G))) := by
  obtain ⟨hx, hb, hml, hrt, hlk, hnm, hown, hts, hctx⟩ := C
  have hMet := vh_met hM hm hrun hack
  obtain ⟨⟨pq, hmg⟩, -⟩ := vh_ckd hm
  obtain ⟨f1, f2, f3, f4, f5, f6, f7, f8, f9⟩ := vh_mfd hmg
  have hG := vh_gdin f1
  refine vh_wsz hsz hn hr hS rfl (fun hH => ?_)
  have blind : FrameBlind (vh_Pc G as w) := fun a U g mk q => ⟨q.1, q.2.1.call g mk a, q.2.2⟩
  have hpre : ∀ U : State, U.heap = H → s.WarmedH U.vm → vh_Pc G as w (as.map (vh_tv G)).toArray U := fun U hU hW => ⟨rfl, hctx.warm hW (fun q h1 h2 => by rw [hU]; exact hS.2.1 q h1 h2) (by rw [hU, hH]; omega), by rw [hU]; exact hr, by rw [hU]; exact hH⟩
  have hsum : 2 * (F0 m pc ls (st.map (vh_tv G))).monitorRoom + ((st1.map (vh_tv G)).map fun v => v.category).sum ≤ 8 := by
    rw [vh_tvcs hctx.cat]
    exact Nat.le_trans (Nat.le_of_eq (by show 2 * 0 + _ = _; omega)) h8
  have hsize : (F0 m pc ls (st.map (vh_tv G))).locals.size = row.2.2.1 := hL.1.1
  have hstk : st.map (vh_tv G) = (as.map (vh_tv G)).reverse ++ st1.map (vh_tv G) := by rw [hst, List.map_append, List.map_reverse]
  have hfit : (w.1 - n0) + (w2.1 - w.1) ≤ (vh_rm row cR sR).cells ∧ (vh_SS w.1 - vh_SS n0) + (vh_SS w2.1 - vh_SS w.1) ≤ (vh_rm row cR sR).slots := ⟨hcc, hss⟩
  -- the receiver
  rcases hi with rfl | ⟨rfl, hx9⟩ | ⟨rfl, hx1, hx2, hx3, hx4⟩
  · have hg : vh_gcall row.1.cls idx 1 row.2.2.2.2.2.1 row.2.2.2.2.2.2.1 x pp = true := hg
    obtain ⟨k1, k2, k3, k4⟩ := vh_gcd hg hm
    obtain ⟨g1, g2⟩ := f4 k1
    obtain ⟨a, as', rfl, hrv⟩ : ∃ a as', as = .ref a :: as' ∧ ((row'.2.2.2.2.1 = 2 ∧ a < 1000) ∨ (bif Nat.beq (vh_mc x) 98 then Nat.ble 1000 a && Nat.blt a 1012 else vh_ok w a (vh_mc x)) = true) := hrecv.resolve_left (by omega)
    have hrv := hrv.resolve_left (fun q => by have := q.1; omega)
    have f9 := f9.resolve_left (by omega)
    have hpar : (parseMethodDescriptor row'.1.desc).map (fun d => d.parameters.length) = some as'.length := by
      rw [f8, k1]
      show some (row'.2.2.2.2.2.2.2 - 1) = _
      rw [← hlen]; rfl
    have hrec : ∃ b, vh_tv G (.ref a) = .ref b ∧ ∃ cellB : Cell, H[b]? = some cellB ∧ cellB.vm.isStatics = false ∧ s.vm.findClass row'.1.cls = some cellB.cls := by
      rcases f9 with ⟨q1, q2⟩ | ⟨q1, r, q2, q3⟩
      · rw [q1] at hrv
        simp only [cond_true, Bool.and_eq_true] at hrv
        have ha1 := Nat.le_of_ble_eq_true hrv.1
        have ha2 := Nat.blt_eq.mp hrv.2
        refine ⟨_, vh_tvk G ha1 (by omega), ?_⟩
        rw [q2]
        exact vk_recv hctx.2.2.2.1.1 (by omega) hS
      · rw [q1] at hrv
        simp only [cond_false] at hrv
        obtain ⟨ha1, ha2⟩ := vh_okd hrv
        have hc12 := vh_clC q2
        refine ⟨_, vh_tvr G (vh_lt3 (a := a) (by omega)), ?_⟩
        rw [q3]
        exact va_recv hctx.1 hr.1 q2 (vh_he w ha1 ha2 q2)
    obtain ⟨b, hb1, hb2⟩ := hrec
    have hpre' : ∀ U : State, U.heap = H → s.WarmedH U.vm → vh_Pc G (.ref a :: as') w (Value.ref b :: as'.map (vh_tv G)).toArray U := by
      rw [← hb1]; exact hpre
    have hstk' : st.map (vh_tv G) = (as'.map (vh_tv G)).reverse ++ .ref b :: st1.map (vh_tv G) := by
      rw [hstk, List.map_cons, List.reverse_cons, List.append_assoc, hb1]; rfl
    rcases k4 with k4 | k4
    · refine vh_after (va_runV (C := row'.1.cls) (b := b) (As := as'.map (vh_tv G)) (rest := st1.map (vh_tv G)) ⟨hx, hb, hml, hown, hts⟩ hMet ⟨callB_of as'.length hts hG rfl rfl rfl (hts _ f2) (hts _ k4) ⟨f7.1, f7.2, hpar⟩ ⟨k2, k3⟩, hts _ g1, hts _ g2⟩ ⟨blind, hb2, hpre'⟩ rfl (by simp) hsize hstk' hsum hd hfit) hS kk
    · refine vh_after (va_runVN (C := row'.1.cls) (b := b) (As := as'.map (vh_tv G)) (rest := st1.map (vh_tv G)) ⟨hx, hb, hml, hown, hts⟩ hMet ⟨va_cnB as'.length hts hG rfl rfl rfl (hctx.2.1 _ k4) (hts _ f2) ⟨f7.1, f7.2, hpar⟩ ⟨k2, k3⟩, hts _ g1, hts _ g2⟩ ⟨blind, hb2, hpre'⟩ rfl (by simp) hsize hstk' hsum hd hfit) hS kk
  · have hg : (bif Nat.beq x 9999 then vh_wd pp (.methodLink row.1.cls idx objectInit) && (Nat.ble 1 row.2.2.2.2.2.1 && Nat.ble 20 row.2.2.2.2.2.2.1) else vh_gcall row.1.cls idx 2 row.2.2.2.2.2.1 row.2.2.2.2.2.2.1 x pp) = true := hg
    rw [hx9] at hg
    obtain ⟨k1, k2, k3, k4⟩ := vh_gcd hg hm
    obtain ⟨g1, g2, g3⟩ := f5 k1
    obtain ⟨a, as', rfl, hrv⟩ : ∃ a as', as = .ref a :: as' ∧ ((row'.2.2.2.2.1 = 2 ∧ a < 1000) ∨ (bif Nat.beq (vh_mc x) 98 then Nat.ble 1000 a && Nat.blt a 1012 else vh_ok w a (vh_mc x)) = true) := hrecv.resolve_left (by omega)
    have hpar : (parseMethodDescriptor row'.1.desc).map (fun d => d.parameters.length) = some as'.length := by
      rw [f8, k1]
      show some (row'.2.2.2.2.2.2.2 - 1) = _
      rw [← hlen]; rfl
    have hrn : ∃ b, vh_tv G (.ref a) = .ref b := by
      rcases hrv with ⟨-, q⟩ | q
      · exact ⟨_, vh_tvr G q⟩
      · have f9 := f9.resolve_left (by omega)
        rcases f9 with ⟨q1, q2⟩ | ⟨q1, r, q2, q3⟩
        · rw [q1] at q
          simp only [cond_true, Bool.and_eq_true] at q
          have ha1 := Nat.le_of_ble_eq_true q.1
          have ha2 := Nat.blt_eq.mp q.2
          exact ⟨_, vh_tvk G ha1 (by omega)⟩
        · rw [q1] at q
          obtain ⟨ha1, ha2⟩ := vh_okd q
          have hc12 := vh_clC q2
          exact ⟨_, vh_tvr G (vh_lt3 (a := a) (by omega))⟩
    obtain ⟨b, hb1⟩ := hrn
    have hpre' : ∀ U : State, U.heap = H → s.WarmedH U.vm → vh_Pc G (.ref a :: as') w (Value.ref b :: as'.map (vh_tv G)).toArray U := by
      rw [← hb1]; exact hpre
    have hstk' : st.map (vh_tv G) = (as'.map (vh_tv G)).reverse ++ .ref b :: st1.map (vh_tv G) := by
      rw [hstk, List.map_cons, List.reverse_cons, List.append_assoc, hb1]; rfl
    rcases k4 with k4 | k4
    · refine vh_after (va_runI (maxL := row'.2.2.1) (bytes := row'.2.1) (b := b) (As := as'.map (vh_tv G)) (rest := st1.map (vh_tv G)) ⟨hx, hb, hml, hown, hts⟩ hMet ⟨by rw [← g3]; exact callB_of as'.length hts hG rfl rfl rfl (hts _ f2) (hts _ k4) ⟨f7.1, f7.2, hpar⟩ ⟨k2, k3⟩, g2, hts _ g1⟩ ⟨blind, hpre'⟩ rfl (by simp) hsize hstk' hsum hd hfit) hS kk
    · refine vh_after (va_runIN (maxL := row'.2.2.1) (bytes := row'.2.1) (b := b) (As := as'.map (vh_tv G)) (rest := st1.map (vh_tv G)) ⟨hx, hb, hml, hown, hts⟩ hMet ⟨by rw [← g3]; exact va_cnB as'.length hts hG rfl rfl rfl (hctx.2.1 _ k4) (hts _ f2) ⟨f7.1, f7.2, hpar⟩ ⟨k2, k3⟩, g2, hts _ g1⟩ ⟨blind, hpre'⟩ rfl (by simp) hsize hstk' hsum hd hfit) hS kk
  · have hg : vh_gcall row.1.cls idx 0 row.2.2.2.2.2.1 row.2.2.2.2.2.2.1 x pp = true := by
      have hg : (bif Nat.beq x 9998 then vh_wd pp (.methodLink row.1.cls idx arraycopyName) && (Nat.ble 1 row.2.2.2.2.2.1 && Nat.ble 40 row.2.2.2.2.2.2.1) else bif Nat.beq x 9997 then vh_wd pp (.methodLink row.1.cls idx Lib.Math.max.name) && (Nat.ble 1 row.2.2.2.2.2.1 && Nat.ble 40 row.2.2.2.2.2.2.1) else bif Nat.beq x 9996 then vh_wd pp (.methodLink row.1.cls idx Lib.Math.min.name) && (Nat.ble 1 row.2.2.2.2.2.1 && Nat.ble 40 row.2.2.2.2.2.2.1) else bif Nat.beq x 9995 then vh_wd pp (.methodLink row.1.cls idx Lib.MathLoose.max_long.x) && (Nat.ble 1 row.2.2.2.2.2.1 && Nat.ble 40 row.2.2.2.2.2.2.1) else (bif Nat.beq x 99999 then true else vh_gcall row.1.cls idx 0 row.2.2.2.2.2.1 row.2.2.2.2.2.2.1 x pp)) = true := hg
      rw [hx1, hx2, hx3, hx4] at hg
      have hx5 : Nat.beq x 99999 = false := by
        have hlt : x < 219 := by
          have := (List.getElem?_eq_some_iff.mp hm).1
          rw [vh_mtL] at this
          exact this
        cases hq : Nat.beq x 99999 with
        | false => rfl
        | true => have := Nat.eq_of_beq_eq_true hq; omega
      rw [hx5] at hg
      exact hg
    obtain ⟨k1, k2, k3, k4⟩ := vh_gcd hg hm
    have g1 := f3 k1
    have hpar : (parseMethodDescriptor row'.1.desc).map (fun d => d.parameters.length) = some as.length := by
      rw [f8, k1, hlen]; rfl
    rcases k4 with k4 | k4
    · refine vh_after (va_runS (As := as.map (vh_tv G)) (rest := st1.map (vh_tv G)) ⟨hx, hb, hml, hown, hts⟩ hMet ⟨callB_of as.length hts hG rfl rfl rfl (hts _ f2) (hts _ k4) ⟨f7.1, f7.2, hpar⟩ ⟨k2, k3⟩, hts _ g1⟩ ⟨blind, hpre⟩ rfl (by simp) hsize hstk hsum hd hfit) hS kk
    · refine vh_after (va_runSN (As := as.map (vh_tv G)) (rest := st1.map (vh_tv G)) ⟨hx, hb, hml, hown, hts⟩ hMet ⟨va_cnB as.length hts hG rfl rfl rfl (hctx.2.1 _ k4) (hts _ f2) ⟨f7.1, f7.2, hpar⟩ ⟨k2, k3⟩, hts _ g1, trivial⟩ ⟨blind, hpre⟩ rfl (by simp) hsize hstk hsum hd hfit) hS kk
end VHY

section VHM
variable {p : Program} {l : Launch} {e : Env} {R : Room} {s : State} {m : MethodId} {args : Array Value} {below : List Frame} {meth : Method} {c : Code} {H : Heap} {locs : List Loc} {cells slots : Nat} {Q : State → Prop}
variable {G : vh_G} {row : vh_M} {ls : Array Slot} {L L' : vh_L} {st st' : List Value} {w w' : vh_W} {pc pc' : Nat} {lx : List Nat}
set_option maxRecDepth 100000 in
theorem vh_gfldd {own : String} {idx x pp : Nat} (hg : vh_gfld own idx x pp = true) : ∃ r : vw_C, vwCl[x / 64]? = some r ∧ x % 64 < r.2.2 ∧ (Cond.fieldLink own idx r.1 (r.2.1 (x % 64)).2.1 (r.2.1 (x % 64)).2.2.1 ∈ vh_big ∨ (Nat.blt pp 10000 = false ∧ Cond.fieldLinkNest own idx r.1 (r.2.1 (x % 64)).2.1 (r.2.1 (x % 64)).2.2.1 "VillageHalls" ∈ vh_nest)) := by
  unfold vh_gfld at hg
  split at hg
  · rename_i C T N hc
    rw [Bool.and_eq_true] at hg
    refine ⟨(C, T, N), hc, Nat.blt_eq.mp hg.1, ?_⟩
    have hg2 := hg.2
    revert hg2
    generalize pp - 10000 = z
    generalize Nat.blt pp 10000 = b
    intro hg2
    cases b with
    | true => exact Or.inl (vh_wdm hg2)
    | false => exact Or.inr ⟨rfl, vh_nwm hg2⟩
  · cases hg
theorem vh_he (w : vh_W) {a ci : Nat} (h1 : a < w.1) (h2 : (vh_kd a).1 = ci) {r : vw_C} (hc : vwCl[ci]? = some r) : (vh_wl G w)[a]? = some (G.1 + a, .inr (ci, vh_fs G w a ci r.2.2)) := by
  rw [vh_wl_get G h1, vh_cell_o G w h2 (vh_clC hc), vh_kdC hc h2]
theorem vh_s_get (C : vh_Cx G row p s m args meth c) {idx x pp : Nat} (hd : decode row.2.1 pc = .ok (.getfield idx, 3)) (hg : (bif Nat.beq x 5000 then vh_wd pp (.fieldLink row.1.cls idx "java/lang/String" "value" "[B") else bif Nat.beq x 5001 then vh_wd pp (.fieldLink row.1.cls idx "java/lang/String" "coder" "B") else vh_gfld row.1.cls idx x pp) = true) (h : vh_get (pc + 3) x L st w = some (.inl (pc', L', st', w')))
    (hr : vh_rep G w H) (hS : va_S (vh_Ar G) s.heap H locs) (hL : vh_LR G ls L row.2.2.1 lx) (kk : vh_KK p l e R s m args below meth c cells slots Q G row lx pc' L' st' w' w 0) : W p l e R s m args below meth c H locs cells slots Q (F0 m pc ls (st.map (vh_tv G))) := by
  obtain ⟨hx, hb, hml, hrt, hlk, hnm, hown, hts, hctx⟩ := C
  unfold vh_get at h
  split at h
  · rename_i a r
    cases h5 : Nat.beq x 5000 with
    | true =>
      rw [h5] at h hg
      simp only [cond_true] at h hg
      obtain ⟨h1, rfl, rfl, rfl, rfl⟩ := vh_bnx h
      rw [Bool.and_eq_true] at h1
      have ha1 := Nat.le_of_ble_eq_true h1.1
      have ha2 := Nat.blt_eq.mp h1.2
      have K := kk rfl H locs ls hr hS hL
      simp only [List.map_cons] at K ⊢
      have e0 : ∀ z : Nat, 1000 ≤ z → z + 1000 - 2000 = z - 1000 := fun z hz => by omega
      rw [vh_tvb G (by omega) (by omega), e0 a ha1] at K
      rw [vh_tvk G ha1 (by omega)]
      exact vk_getf hx hb (hctx.2.2.2.1.1.1 (a - 1000) (by omega)).2.2.1 hS hown (hts _ (vh_wdm hg)) (fun _ h => h) hd K
    | false =>
      rw [h5] at h hg
      simp only [cond_false] at h hg
      cases h6 : Nat.beq x 5001 with
      | true =>
        rw [h6] at h hg
        simp only [cond_true] at h hg
        obtain ⟨h1, rfl, rfl, rfl, rfl⟩ := vh_bnx h
        rw [Bool.and_eq_true] at h1
        have ha1 := Nat.le_of_ble_eq_true h1.1
        have ha2 := Nat.blt_eq.mp h1.2
        have K := kk rfl H locs ls hr hS hL
        simp only [List.map_cons] at K ⊢
        rw [vh_tvk G ha1 (by omega)]
        exact vk_getf hx hb (hctx.2.2.2.1.1.1 (a - 1000) (by omega)).2.1 hS hown (hts _ (vh_wdm hg)) (fun _ h => h) hd K
      | false =>
        rw [h6] at h hg
        simp only [cond_false] at h hg
        obtain ⟨rc, hc, hk, hlink⟩ := vh_gfldd hg
        cases hok : vh_ok w a (x / 64) with
        | false => rw [hok] at h; cases h
        | true =>
          rw [hok] at h
          simp only [cond_true] at h
          obtain ⟨ha1, ha2⟩ := vh_okd hok
          have hcl := vh_clC hc
          have ha3 : a < 1000 := Nat.lt_of_lt_of_le (vh_kd122 (a := a) (by omega)) (by omega)
          have he := vh_he (G := G) w ha1 ha2 hc
          have hv := vh_fs_get G w (a := a) (c := x / 64) hk
          have hv2 : pc' = pc + 3 ∧ L' = L ∧ st'.map (vh_tv G) = vh_fv G w a (x / 64) (x % 64) :: r.map (vh_tv G) ∧ w' = w := by
            unfold vh_fv
            cases hft : Nat.beq (vh_ft (x / 64) (x % 64)) 1 with
            | true =>
              rw [hft] at h
              obtain ⟨e1, e2, e3, e4⟩ := vh_nxi h
              refine ⟨e1, e2, ?_, e4⟩
              rw [e3, if_pos (Nat.eq_of_beq_eq_true hft), List.map_cons, vh_rvro G hr.2.1]
            | false =>
              rw [hft] at h
              obtain ⟨e1, e2, e3, e4⟩ := vh_nxi h
              refine ⟨e1, e2, ?_, e4⟩
              rw [e3, if_neg (Nat.ne_of_beq_eq_false hft), List.map_cons]
              rfl
          obtain ⟨rfl, rfl, hst, rfl⟩ := hv2
          have K := kk rfl H locs ls hr hS hL
          rw [hst] at K
          simp only [List.map_cons]
          rw [vh_tvr G ha3]
          rcases hlink with hlink | ⟨-, hlink⟩
          · exact va_get hx hb hts (vh_inC hc) hown hctx.1 hr.1 a he hc (x % 64) hk (hts _ hlink) (by rw [vh_declC hc _ hk]; exact fun _ h => h) hv hd K
          · exact va_getN hx hb hts (vh_inC hc) hown hctx.1 hr.1 a he hc (x % 64) hk (va_Nw.use rfl (hctx.2.1 _ hlink)) (by rw [vh_declC hc _ hk]; exact fun _ h => h) hv hd K
  · cases h
theorem vh_repI {w : vh_W} {a : Nat} {f : Nat → Int32} {H' : Heap} (hr : vh_rep G w H) (hP : va_P G.2.1 vwCl ((vh_wl G w).set a (G.1 + a, vh_cell G (vh_sI w a f) a)) H') : vh_rep G (vh_sI w a f) H' :=
  ⟨by rw [vh_wl_set G (w := w) (w' := vh_sI w a f) (a := a) rfl (fun b hb => vh_cellI G w a b f hb)]; exact hP, hr.2.1, hr.2.2⟩
theorem vh_repJ {w : vh_W} {a : Nat} {f : Nat → Int64} {H' : Heap} (hr : vh_rep G w H) (hP : va_P G.2.1 vwCl ((vh_wl G w).set a (G.1 + a, vh_cell G (vh_sJ w a f) a)) H') : vh_rep G (vh_sJ w a f) H' :=
  ⟨by rw [vh_wl_set G (w := w) (w' := vh_sJ w a f) (a := a) rfl (fun b hb => vh_cellJ G w a b f hb)]; exact hP, hr.2.1, hr.2.2⟩
theorem vh_repR {w : vh_W} {a k v : Nat} {H' : Heap} (hv : v < 1000) (hr : vh_rep G w H) (hP : va_P G.2.1 vwCl ((vh_wl G w).set a (G.1 + a, vh_cell G (vh_sR w a (va_up (w.2.1 a) k (some v))) a)) H') : vh_rep G (vh_sR w a (va_up (w.2.1 a) k (some v))) H' := by
  refine ⟨by rw [vh_wl_set G (w := w) (w' := vh_sR w a (va_up (w.2.1 a) k (some v))) (a := a) rfl (fun b hb => vh_cellR G w a b _ hb)]; exact hP, fun b j u hu => ?_, hr.2.2⟩
  have hu : vh_sA w.2.1 a (va_up (w.2.1 a) k (some v)) b j = some u := hu
  unfold vh_sA va_up at hu
  by_cases hb : b = a
  · rw [if_pos hb] at hu
    by_cases hj : j = k
    · rw [if_pos hj] at hu
      cases hu
      exact hv
    · rw [if_neg hj] at hu
      exact hr.2.1 a j u hu
  · rw [if_neg hb] at hu
    exact hr.2.1 b j u hu
theorem vh_fvI {w : vh_W} {a c k j : Nat} {v : Int32} (h : j ≠ k) : vh_fv G (vh_sI w a (upd (w.2.2.1 a) k v)) a c j = vh_fv G w a c j := by
  unfold vh_fv
  show (if vh_ft c j = 1 then _ else Value.int (vh_sA w.2.2.1 a (upd (w.2.2.1 a) k v) a j)) = _
  rw [vh_sA_s]
  unfold upd
  rw [if_neg h]
  rfl
theorem vh_fvR {w : vh_W} {a c k j v : Nat} (h : j ≠ k) : vh_fv G (vh_sR w a (va_up (w.2.1 a) k (some v))) a c j = vh_fv G w a c j := by
  unfold vh_fv
  show (if vh_ft c j = 1 then va_rf (vh_ro G (vh_sA w.2.1 a (va_up (w.2.1 a) k (some v)) a) j) else _) = _
  rw [vh_sA_s, vh_ro_up]
  unfold va_up
  rw [if_neg h]
  rfl
theorem vh_s_put (C : vh_Cx G row p s m args meth c) {idx x pp : Nat} (hd : decode row.2.1 pc = .ok (.putfield idx, 3)) (hg : (vh_gfld row.1.cls idx x pp && vh_gfin row.1.cls row.1.name x pp) = true) (h : vh_put (pc + 3) x L st w = some (.inl (pc', L', st', w')))
    (hr : vh_rep G w H) (hS : va_S (vh_Ar G) s.heap H locs) (hL : vh_LR G ls L row.2.2.1 lx) (kk : vh_KK p l e R s m args below meth c cells slots Q G row lx pc' L' st' w' w 0) : W p l e R s m args below meth c H locs cells slots Q (F0 m pc ls (st.map (vh_tv G))) := by
  obtain ⟨hx, hb, hml, hrt, hlk, hnm, hown, hts, hctx⟩ := C
  rw [Bool.and_eq_true] at hg
  obtain ⟨hg, hfin⟩ := hg
  obtain ⟨rc, hc, hk, hlink⟩ := vh_gfldd hg
  obtain ⟨ty, hty, htyP⟩ := vh_tyC hc
  have hcl := vh_clC hc
  unfold vh_gfin at hfin
  rw [hc] at hfin
  simp only at hfin
  -- the common end
  have fin : ∀ (a : Nat) (r : List Value) (v : Value), vh_ok w a (x / 64) = true → st = v :: .ref a :: r → narrow (ty (x % 64)) (vh_tv G v) = vh_tv G v → fits (ty (x % 64)) (vh_tv G v) = true → pc' = pc + 3 → L' = L → st' = r → w'.1 = w.1 + 0 →
      (∀ H', va_P G.2.1 vwCl ((vh_wl G w).set a (G.1 + a, .inr (x / 64, (vh_fs G w a (x / 64) rc.2.2).set (x % 64) (vh_tv G v)))) H' → vh_rep G w' H') → W p l e R s m args below meth c H locs cells slots Q (F0 m pc ls (st.map (vh_tv G))) := by
    intro a r v hok hst hn hf e1 e2 e3 hN hrep
    subst hst; subst e1; subst e2; subst e3
    obtain ⟨ha1, ha2⟩ := vh_okd hok
    have ha3 : a < 1000 := Nat.lt_of_lt_of_le (vh_kd122 (a := a) (by omega)) (by omega)
    have he := vh_he (G := G) w ha1 ha2 hc
    simp only [List.map_cons]
    rw [vh_tvr G ha3]
    have hsame : ∀ z, s.fieldFound? (rc.2.1 (x % 64)).1 (rc.2.1 (x % 64)).2.1 (rc.2.1 (x % 64)).2.2.1 = some z → s.fieldFound? rc.1 (rc.2.1 (x % 64)).2.1 (rc.2.1 (x % 64)).2.2.1 = some z := by
      rw [vh_declC hc _ hk]; exact fun _ h => h
    have hlen : x % 64 < (vh_fs G w a (x / 64) rc.2.2).length := by simp [vh_fs]; exact hk
    cases hfi : (rc.2.1 (x % 64)).2.2.2 with
    | false =>
      rcases hlink with hlink | ⟨-, hlink⟩
      · exact va_put hx hb hts (vh_inC hc) ty hty (vh_nmC hc) hown hctx.1 hr.1 (vh_Dw G w) hS a he hc (x % 64) hk (hts _ hlink) hsame hfi (hty _ hk) hn hf hlen hd (fun H1 locs1 p1 p2 p3 => kk hN H1 locs1 ls (hrep H1 p1) p3 hL)
      · exact va_putN hx hb hts (vh_inC hc) ty hty (vh_nmC hc) hown hctx.1 hr.1 (vh_Dw G w) hS a he hc (x % 64) hk (va_Nw.use rfl (hctx.2.1 _ hlink)) hsame hfi (hty _ hk) hn hf hlen hd (fun H1 locs1 p1 p2 p3 => kk hN H1 locs1 ls (hrep H1 p1) p3 hL)
    | true =>
      rw [hfi] at hfin
      simp only [Bool.not_true, Bool.false_or, Bool.and_eq_true, decide_eq_true_eq] at hfin
      obtain ⟨f1, f2, f3⟩ := hfin
      rcases hlink with hlink | ⟨hlink, -⟩
      · exact va_putF hx hb hts (vh_inC hc) ty hty (vh_nmC hc) hown hctx.1 hr.1 (vh_Dw G w) hS a he hc (x % 64) hk (hts _ hlink) hsame hfi (hnm.trans f2) f3 (hty _ hk) hn hf hlen hd (fun H1 locs1 p1 p2 p3 => kk hN H1 locs1 ls (hrep H1 p1) p3 hL)
      · rw [f1] at hlink; cases hlink
  unfold vh_put at h
  split at h
  · rename_i v a r
    obtain ⟨h1, e1, e2, e3, e4⟩ := vh_bnx h
    rw [Bool.and_eq_true] at h1
    obtain ⟨hok, hft⟩ := h1
    obtain ⟨ha1, ha2⟩ := vh_okd hok
    subst e4
    have hnn : vh_ft (x / 64) (x % 64) ≠ 1 := by
      intro q
      rw [q] at hft
      simp at hft
    have htp : narrow (ty (x % 64)) (.int v) = .int v ∧ fits (ty (x % 64)) (.int v) = true := by
      rcases htyP _ hk with ⟨q1, q2⟩ | ⟨q1, q2⟩ | ⟨q1, -⟩
      · rw [q2]; exact ⟨rfl, rfl⟩
      · rw [q1] at hft
        have hfb : fits .boolean (.int v) = true := by simpa using hft
        rw [q2]
        refine ⟨?_, hfb⟩
        have : v = 0 ∨ v = 1 := by simpa [fits] using hfb
        rcases this with rfl | rfl <;> decide
      · exact absurd q1 hnn
    refine fin a r (.int v) hok rfl htp.1 htp.2 e1 e2 e3 rfl (fun H' hP => vh_repI hr ?_)
    rw [vh_cell_o G _ ha2 hcl, vh_kdC hc ha2, vh_fs_set G (w := w) (k := x % 64) (fun j hj => vh_fvI hj)]
    have hval : vh_fv G (vh_sI w a (upd (w.2.2.1 a) (x % 64) v)) a (x / 64) (x % 64) = .int v := by
      unfold vh_fv
      rw [if_neg hnn]
      show Value.int (vh_sA w.2.2.1 a (upd (w.2.2.1 a) (x % 64) v) a (x % 64)) = _
      rw [vh_sA_s]
      unfold upd
      rw [if_pos rfl]
    rw [hval]
    exact hP
  · rename_i v a r
    obtain ⟨h1, e1, e2, e3, e4⟩ := vh_bnx h
    simp only [Bool.and_eq_true] at h1
    obtain ⟨hok, hft, hv⟩ := h1
    obtain ⟨ha1, ha2⟩ := vh_okd hok
    have hv := Nat.blt_eq.mp hv
    have hft := Nat.eq_of_beq_eq_true hft
    subst e4
    have htp : narrow (ty (x % 64)) (vh_tv G (.ref v)) = vh_tv G (.ref v) ∧ fits (ty (x % 64)) (vh_tv G (.ref v)) = true := by
      rw [vh_tvr G hv]
      rcases htyP _ hk with ⟨q1, q2⟩ | ⟨q1, q2⟩ | ⟨q1, ⟨C, q2⟩ | ⟨C, q2⟩⟩
      · omega
      · omega
      · rw [q2]; exact ⟨rfl, rfl⟩
      · rw [q2]; exact ⟨rfl, rfl⟩
    refine fin a r (.ref v) hok rfl htp.1 htp.2 e1 e2 e3 rfl (fun H' hP => vh_repR hv hr ?_)
    rw [vh_cell_o G _ ha2 hcl, vh_kdC hc ha2, vh_fs_set G (w := w) (k := x % 64) (fun j hj => vh_fvR hj)]
    have hval : vh_fv G (vh_sR w a (va_up (w.2.1 a) (x % 64) (some v))) a (x / 64) (x % 64) = vh_tv G (.ref v) := by
      unfold vh_fv
      rw [if_pos hft]
      show va_rf (vh_ro G (vh_sA w.2.1 a (va_up (w.2.1 a) (x % 64) (some v)) a) (x % 64)) = _
      rw [vh_sA_s, vh_ro_up, vh_tvr G hv]
      unfold va_up
      rw [if_pos rfl]
      rfl
    rw [hval]
    exact hP
  · cases h
end VHM

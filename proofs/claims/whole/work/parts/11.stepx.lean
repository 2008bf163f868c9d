section VHX
variable {p : Program} {l : Launch} {e : Env} {R : Room} {s : State} {m : MethodId} {args : Array Value} {below : List Frame} {meth : Method} {c : Code} {H : Heap} {locs : List Loc} {cells slots : Nat} {Q : State → Prop}
variable {G : vh_G} {row : vh_M} {ls : Array Slot} {L L' : vh_L} {st st' : List Value} {w w' : vh_W} {pc pc' : Nat} {lx : List Nat}
theorem vh_objW : (Cond.instanceMethod objectInit) ∈ vh_big ∧ (Cond.code objectInit ⟨#[0xb1]⟩ 1 none) ∈ vh_big := by
  refine ⟨List.mem_filter.mpr ⟨by decide +kernel, by decide +kernel⟩, List.mem_filter.mpr ⟨by decide +kernel, by decide +kernel⟩⟩
theorem vh_mathW : (Cond.static Lib.Math.max.name ∈ vh_big ∧ Cond.code Lib.Math.max.name Lib.Math.max.code 2 (some .int) ∈ vh_big) ∧ (Cond.static Lib.Math.min.name ∈ vh_big ∧ Cond.code Lib.Math.min.name Lib.Math.min.code 2 (some .int) ∈ vh_big) ∧ (Cond.static Lib.MathLoose.max_long.x ∈ vh_big ∧ Cond.code Lib.MathLoose.max_long.x Lib.MathLoose.max_long.code 4 (some .long) ∈ vh_big) ∧ Cond.initialized "java/lang/Math" ∈ vh_big := by
  refine ⟨⟨List.mem_filter.mpr ⟨by decide +kernel, by decide +kernel⟩, List.mem_filter.mpr ⟨by decide +kernel, by decide +kernel⟩⟩, ⟨List.mem_filter.mpr ⟨by decide +kernel, by decide +kernel⟩, List.mem_filter.mpr ⟨by decide +kernel, by decide +kernel⟩⟩, ⟨List.mem_filter.mpr ⟨by decide +kernel, by decide +kernel⟩, List.mem_filter.mpr ⟨by decide +kernel, by decide +kernel⟩⟩, List.mem_filter.mpr ⟨by decide +kernel, by decide +kernel⟩⟩
theorem vh_q_tsw {d lo hi : Int} {offs : Array Int} (h : vh_tsw pc d lo hi offs L st w = some (.inl (pc', L', st', w'))) : ∃ v r, st = .int v :: r ∧ pc' = vh_swt pc d lo hi offs v.toInt ∧ L' = L ∧ st' = r ∧ w' = w := by
  unfold vh_tsw at h
  split at h
  · exact ⟨_, _, rfl, vh_nxi h⟩
  · cases h
def vh_alloc (i : Instr) : Bool := match i with
  | .new _ => true
  | .newarray _ => true
  | .anewarray _ => true
  | _ => false
theorem vh_s_obj (C : vh_Cx G row p s m args meth c) {idx pp : Nat} (hd : decode row.2.1 pc = .ok (.invokespecial idx, 3)) (hg : (vh_wd pp (.methodLink row.1.cls idx objectInit)) = true) (hf : 1 ≤ R.frames) (hlo : 20 ≤ R.locals) (h : vh_obj (pc + 3) L st w = some (.inl (pc', L', st', w')))
    (hr : vh_rep G w H) (hS : va_S (vh_Ar G) s.heap H locs) (hL : vh_LR G ls L row.2.2.1 lx) (kk : vh_KK p l e R s m args below meth c cells slots Q G row lx pc' L' st' w' w 0) : W p l e R s m args below meth c H locs cells slots Q (F0 m pc ls (st.map (vh_tv G))) := by
  obtain ⟨hx, hb, hml, hrt, hlk, hnm, hown, hts, hctx⟩ := C
  unfold vh_obj at h
  split at h
  · rename_i a r
    obtain ⟨h1, rfl, rfl, rfl, rfl⟩ := vh_bnx h
    rw [Bool.and_eq_true] at h1
    have ha := Nat.blt_eq.mp h1.1
    have g6 := Nat.le_of_ble_eq_true h1.2
    have K := kk rfl H locs ls hr hS hL
    simp only [List.map_cons]
    rw [vh_tvr G ha]
    refine W.objInit hx hb hown (hts _ (vh_wdm hg)) (hts _ vh_objW.1) (hts _ vh_objW.2) rfl (by rw [hml]; exact hL.1.1) rfl hd hf ?_ K
    show 2 * 0 + _ + 12 ≤ _
    rw [vh_tvcs hctx.cat]
    omega
  · cases h
theorem vh_callN (pc x : Nat) (L : vh_L) (st : List Value) (w : vh_W) : ¬ vh_call pc x L st w = some (.inl (pc', L', st', w')) := by
  intro h
  unfold vh_call at h
  split at h
  · cases h
  · rename_i mL rt kd fr lo na hm
    generalize hb : ((Nat.ble na st.length && Nat.ble ((st.drop na).map fun v => v.category).sum 8) && vh_ack mL (vh_lsL.getD x []) (st.take na).reverse) = b at h
    cases b with
    | false => cases h
    | true =>
      simp only [cond_true] at h
      split at h
      · rename_i a as _
        generalize hb2 : (Nat.beq kd 0 || ((Nat.beq kd 2 && Nat.blt a 1000) || (bif Nat.beq (vh_mc x) 98 then Nat.ble 1000 a && Nat.blt a 1012 else vh_ok w a (vh_mc x)))) = b2 at h
        cases b2 <;> cases h
      · generalize hb2 : Nat.beq kd 0 = b2 at h
        cases b2 <;> cases h
theorem vh_retN (rt : Option FieldType) (st : List Value) (w : vh_W) : ¬ vh_ret rt st w = some (.inl (pc', L', st', w')) := by
  intro h
  unfold vh_ret at h
  split at h
  · split at h <;> cases h
  · cases h
theorem vh_lrtN (rt : Option FieldType) (st : List Value) (w : vh_W) : ¬ vh_lrt rt st w = some (.inl (pc', L', st', w')) := by
  intro h
  unfold vh_lrt at h
  split at h <;> cases h
theorem vh_artN (rt : Option FieldType) (st : List Value) (w : vh_W) : ¬ vh_art rt st w = some (.inl (pc', L', st', w')) := by
  intro h
  unfold vh_art at h
  split at h
  · rename_i a C
    cases hb : Nat.blt a 1000 <;> rw [hb] at h <;> cases h
  · rename_i a C
    cases hb : Nat.blt a 1000 <;> rw [hb] at h <;> cases h
  · cases h
theorem vh_vrtN (rt : Option FieldType) (st : List Value) (w : vh_W) : ¬ vh_vrt rt st w = some (.inl (pc', L', st', w')) := by
  intro h
  unfold vh_vrt at h
  split at h <;> cases h
set_option maxHeartbeats 4000000 in
theorem vh_step (C : vh_Cx G row p s m args meth c) {j x pp : Nat} {i : Instr} (hd : decode row.2.1 pc = .ok (i, vh_ln i x)) (hg : vh_gd row.1.cls row.1.name row.2.2.1 R.frames R.locals lx (pc, i, x, pp) = true) (hc : cells ≤ R.cells) (hs : slots ≤ R.slots) (hna : vh_alloc i = false) (h : vh_act j (pc, i, x, pp) L st w = some (.inl (pc', L', st', w')))
    (hr : vh_rep G w H) (hS : va_S (vh_Ar G) s.heap H locs) (hL : vh_LR G ls L row.2.2.1 lx) (kk : vh_KK p l e R s m args below meth c cells slots Q G row lx pc' L' st' w' w 0) : W p l e R s m args below meth c H locs cells slots Q (F0 m pc ls (st.map (vh_tv G))) := by
  have C0 := C
  obtain ⟨hx, hb, hml, hrt, hlk, hnm, hown, hts, hctx⟩ := C
  have hf := hctx.cat
  cases i
  case iconst n =>
    obtain ⟨rfl, rfl, rfl, rfl⟩ := vh_nxi h
    exact lv_iconst hx hb hd rfl (kk rfl H locs ls hr hS hL)
  case bipush n =>
    obtain ⟨rfl, rfl, rfl, rfl⟩ := vh_nxi h
    exact lv_bipush hx hb hd rfl (kk rfl H locs ls hr hS hL)
  case sipush n =>
    obtain ⟨rfl, rfl, rfl, rfl⟩ := vh_nxi h
    exact lv_sipush hx hb hd rfl (kk rfl H locs ls hr hS hL)
  case lconst n =>
    obtain ⟨rfl, rfl, rfl, rfl⟩ := vh_nxi h
    exact lv_lconst hx hb hd rfl (kk rfl H locs ls hr hS hL)
  case ldc idx =>
    have hg : (bif Nat.blt x 1000 then vh_wd pp (.constant row.1.cls idx (vh_kiL.getD x 0)) else (bif Nat.blt x 1012 then decide (row.1.cls = "VillageHalls$RuleReader") && decide (vh_stxL[x - 1000]? = some idx) else true)) = true := hg
    have h : (bif Nat.blt x 1000 then vh_nx (pc + 2) L (.int (vh_kiL.getD x 0) :: st) w else (bif Nat.blt x 1012 then vh_nx (pc + 2) L (.ref x :: st) w else none)) = some (.inl (pc', L', st', w')) := h
    cases hx1 : Nat.blt x 1000 with
    | true =>
      rw [hx1] at h hg
      obtain ⟨rfl, rfl, rfl, rfl⟩ := vh_nxi h
      exact lv_ldc hx hb hown (hts _ (vh_wdm hg)) hd (kk rfl H locs ls hr hS hL)
    | false =>
      rw [hx1] at h hg
      have h : (bif Nat.blt x 1012 then vh_nx (pc + 2) L (.ref x :: st) w else none) = some (.inl (pc', L', st', w')) := h
      obtain ⟨h1, rfl, rfl, rfl, rfl⟩ := vh_bnx h
      have hg : (bif Nat.blt x 1012 then decide (row.1.cls = "VillageHalls$RuleReader") && decide (vh_stxL[x - 1000]? = some idx) else true) = true := hg
      rw [h1] at hg
      simp only [cond_true, Bool.and_eq_true, decide_eq_true_eq] at hg
      have h2 := Nat.blt_eq.mp h1
      have h3 : 1000 ≤ x := by
        rcases Nat.lt_or_ge x 1000 with q | q
        · rw [Nat.blt_eq.mpr q] at hx1; cases hx1
        · exact q
      have K := kk rfl H locs ls hr hS hL
      simp only [List.map_cons] at K
      rw [vh_tvk G h3 (by omega)] at K
      have hR := hctx.2.2.2.1.2 (x - 1000) (by omega)
      rw [List.getD_eq_getElem?_getD, hg.2] at hR
      exact va_ldcS hx hb hown (by rw [hg.1]; exact hR) hd K
  case ldc_w idx =>
    obtain ⟨rfl, rfl, rfl, rfl⟩ := vh_nxi h
    exact lv_ldcw hx hb hown (hts _ (vh_wdm hg)) hd (kk rfl H locs ls hr hS hL)
  case ldc2_w idx =>
    obtain ⟨rfl, rfl, rfl, rfl⟩ := vh_nxi h
    exact lv_ldc2 hx hb hown (hts _ (vh_wdm hg)) hd (kk rfl H locs ls hr hS hL)
  case iload k =>
    obtain ⟨v, hv, rfl, rfl, rfl, rfl⟩ := vh_q_ild h
    exact lv_iload hx hb hd (hL.at hv) (kk rfl H locs ls hr hS hL)
  case iload_n k =>
    obtain ⟨v, hv, rfl, rfl, rfl, rfl⟩ := vh_q_ild h
    exact lv_iload_n hx hb hd rfl (hL.at hv) (kk rfl H locs ls hr hS hL)
  case lload k =>
    obtain ⟨v, hv, rfl, rfl, rfl, rfl⟩ := vh_q_lld h
    exact lv_lload hx hb hd (hL.at hv) (kk rfl H locs ls hr hS hL)
  case lload_n k =>
    obtain ⟨v, hv, rfl, rfl, rfl, rfl⟩ := vh_q_lld h
    exact lv_lload_n hx hb hd rfl (hL.at hv) (kk rfl H locs ls hr hS hL)
  case aload k =>
    obtain ⟨v, hv, rfl, rfl, rfl, rfl⟩ := vh_q_ald h
    have K := kk rfl H locs ls hr hS hL
    simp only [List.map_cons] at K
    have hv := hL.at hv
    rcases vh_tvrn G hctx v with ⟨q, hq⟩ | hq
    · rw [hq] at K hv
      exact lv_aload hx hb hd hv K
    · rw [hq] at K hv
      exact lv_aloadN hx hb hd hv K
  case aload_n k =>
    obtain ⟨v, hv, rfl, rfl, rfl, rfl⟩ := vh_q_ald h
    have K := kk rfl H locs ls hr hS hL
    simp only [List.map_cons] at K
    have hv := hL.at hv
    rcases vh_tvrn G hctx v with ⟨q, hq⟩ | hq
    · rw [hq] at K hv
      exact lv_aload_n hx hb hd rfl hv K
    · rw [hq] at K hv
      exact lv_aload_nN hx hb hd rfl hv K
  case istore k =>
    obtain ⟨v, r, rfl, rfl, rfl, rfl, rfl⟩ := vh_q_ist h
    have hg : (Nat.blt k row.2.2.1 && vh_nls lx k) = true := hg
    rw [Bool.and_eq_true] at hg
    have hk := Nat.blt_eq.mp hg.1
    exact lv_istore hx hb hd hL.1 hk rfl (fun ls' h' => kk rfl H locs ls' hr hS (hL.put1 hf hk rfl hg.2 h'))
  case istore_n k =>
    obtain ⟨v, r, rfl, rfl, rfl, rfl, rfl⟩ := vh_q_ist h
    have hg : (Nat.blt k row.2.2.1 && vh_nls lx k) = true := hg
    rw [Bool.and_eq_true] at hg
    have hk := Nat.blt_eq.mp hg.1
    exact lv_istore_n hx hb hd rfl hL.1 hk rfl (fun ls' h' => kk rfl H locs ls' hr hS (hL.put1 hf hk rfl hg.2 h'))
  case lstore k =>
    obtain ⟨v, r, rfl, rfl, rfl, rfl, rfl⟩ := vh_q_lst h
    have hg : (Nat.blt (k + 1) row.2.2.1 && (vh_nls lx k && lx.elem k)) = true := hg
    simp only [Bool.and_eq_true] at hg
    have hk := Nat.blt_eq.mp hg.1
    exact lv_lstore hx hb hd hL.1 hk rfl (fun ls' h' => kk rfl H locs ls' hr hS (hL.put2 hf hk hg.2.1 (List.elem_iff.mp hg.2.2) h'))
  case lstore_n k =>
    obtain ⟨v, r, rfl, rfl, rfl, rfl, rfl⟩ := vh_q_lst h
    have hg : (Nat.blt (k + 1) row.2.2.1 && (vh_nls lx k && lx.elem (k : Nat))) = true := hg
    simp only [Bool.and_eq_true] at hg
    have hk := Nat.blt_eq.mp hg.1
    exact lv_lstore_n hx hb hd rfl hL.1 hk rfl (fun ls' h' => kk rfl H locs ls' hr hS (hL.put2 hf hk hg.2.1 (List.elem_iff.mp hg.2.2) h'))
  case astore k =>
    obtain ⟨v, r, rfl, rfl, rfl, rfl, rfl⟩ := vh_q_ast h
    have hg : (Nat.blt k row.2.2.1 && vh_nls lx k) = true := hg
    rw [Bool.and_eq_true] at hg
    have hk := Nat.blt_eq.mp hg.1
    simp only [List.map_cons]
    rcases vh_tvrn G hctx v with ⟨q, hq⟩ | hq
    · rw [hq]
      exact lv_astore hx hb hd hL.1 hk rfl (fun ls' h' => kk rfl H locs ls' hr hS (hL.put1 hf hk rfl hg.2 (by rw [hq]; exact h')))
    · rw [hq]
      exact lv_astoreN hx hb hd hL.1 hk rfl (fun ls' h' => kk rfl H locs ls' hr hS (hL.put1 hf hk rfl hg.2 (by rw [hq]; exact h')))
  case astore_n k =>
    obtain ⟨v, r, rfl, rfl, rfl, rfl, rfl⟩ := vh_q_ast h
    have hg : (Nat.blt k row.2.2.1 && vh_nls lx k) = true := hg
    rw [Bool.and_eq_true] at hg
    have hk := Nat.blt_eq.mp hg.1
    simp only [List.map_cons]
    rcases vh_tvrn G hctx v with ⟨q, hq⟩ | hq
    · rw [hq]
      exact lv_astore_n hx hb hd rfl hL.1 hk rfl (fun ls' h' => kk rfl H locs ls' hr hS (hL.put1 hf hk rfl hg.2 (by rw [hq]; exact h')))
    · rw [hq]
      exact lv_astore_nN hx hb hd rfl hL.1 hk rfl (fun ls' h' => kk rfl H locs ls' hr hS (hL.put1 hf hk rfl hg.2 (by rw [hq]; exact h')))
  case iinc k n =>
    obtain ⟨v, hv, rfl, rfl, rfl, rfl⟩ := vh_q_inc h
    have hg : (Nat.blt k row.2.2.1 && vh_nls lx k) = true := hg
    rw [Bool.and_eq_true] at hg
    have hk := Nat.blt_eq.mp hg.1
    obtain ⟨z, hz⟩ := List.getElem?_of_mem (vh_asc_mem G L hv)
    exact lv_iinc hx hb hd hL.1 hz rfl hk rfl (fun ls' h' => kk rfl H locs ls' hr hS (hL.put1 hf hk rfl hg.2 h'))
  case iadd => obtain ⟨a, b, r, rfl, rfl, rfl, rfl, rfl⟩ := vh_q_ib h; exact lv_iadd hx hb hd (kk rfl H locs ls hr hS hL)
  case isub => obtain ⟨a, b, r, rfl, rfl, rfl, rfl, rfl⟩ := vh_q_ib h; exact lv_isub hx hb hd (kk rfl H locs ls hr hS hL)
  case imul => obtain ⟨a, b, r, rfl, rfl, rfl, rfl, rfl⟩ := vh_q_ib h; exact lv_imul hx hb hd (kk rfl H locs ls hr hS hL)
  case iand => obtain ⟨a, b, r, rfl, rfl, rfl, rfl, rfl⟩ := vh_q_ib h; exact lv_iand hx hb hd (kk rfl H locs ls hr hS hL)
  case ior => obtain ⟨a, b, r, rfl, rfl, rfl, rfl, rfl⟩ := vh_q_ib h; exact lv_ior hx hb hd (kk rfl H locs ls hr hS hL)
  case ixor => obtain ⟨a, b, r, rfl, rfl, rfl, rfl, rfl⟩ := vh_q_ib h; exact lv_ixor hx hb hd (kk rfl H locs ls hr hS hL)
  case ishl => obtain ⟨a, b, r, rfl, rfl, rfl, rfl, rfl⟩ := vh_q_ib h; exact lv_ishl hx hb hd (kk rfl H locs ls hr hS hL)
  case ishr => obtain ⟨a, b, r, rfl, rfl, rfl, rfl, rfl⟩ := vh_q_ib h; exact lv_ishr hx hb hd (kk rfl H locs ls hr hS hL)
  case iushr => obtain ⟨a, b, r, rfl, rfl, rfl, rfl, rfl⟩ := vh_q_ib h; exact lv_iushr hx hb hd rfl (kk rfl H locs ls hr hS hL)
  case idiv => obtain ⟨a, b, r, rfl, h0, rfl, rfl, rfl, rfl⟩ := vh_q_id h; exact lv_idiv hx hb hd h0 (kk rfl H locs ls hr hS hL)
  case irem => obtain ⟨a, b, r, rfl, h0, rfl, rfl, rfl, rfl⟩ := vh_q_id h; exact lv_irem hx hb hd h0 (kk rfl H locs ls hr hS hL)
  case ladd => obtain ⟨a, b, r, rfl, rfl, rfl, rfl, rfl⟩ := vh_q_lb h; exact lv_ladd hx hb hd (kk rfl H locs ls hr hS hL)
  case lsub => obtain ⟨a, b, r, rfl, rfl, rfl, rfl, rfl⟩ := vh_q_lb h; exact lv_lsub hx hb hd (kk rfl H locs ls hr hS hL)
  case land => obtain ⟨a, b, r, rfl, rfl, rfl, rfl, rfl⟩ := vh_q_lb h; exact lv_land hx hb hd (kk rfl H locs ls hr hS hL)
  case lor => obtain ⟨a, b, r, rfl, rfl, rfl, rfl, rfl⟩ := vh_q_lb h; exact lv_lor hx hb hd (kk rfl H locs ls hr hS hL)
  case lneg => obtain ⟨a, r, rfl, rfl, rfl, rfl, rfl⟩ := vh_q_lu h; exact lv_lneg hx hb hd (kk rfl H locs ls hr hS hL)
  case lshl => obtain ⟨a, b, r, rfl, rfl, rfl, rfl, rfl⟩ := vh_q_ls h; exact lv_lshl hx hb hd rfl (kk rfl H locs ls hr hS hL)
  case lshr => obtain ⟨a, b, r, rfl, rfl, rfl, rfl, rfl⟩ := vh_q_ls h; exact lv_lshr hx hb hd rfl (kk rfl H locs ls hr hS hL)
  case lushr => obtain ⟨a, b, r, rfl, rfl, rfl, rfl, rfl⟩ := vh_q_ls h; exact lv_lushr hx hb hd rfl (kk rfl H locs ls hr hS hL)
  case lcmp =>
    have h : (match st with
      | .long y :: .long x :: r => vh_nx (pc + 1) L (.int (lg_cmp x y) :: r) w
      | _ => none) = some (.inl (pc', L', st', w')) := h
    split at h
    · obtain ⟨rfl, rfl, rfl, rfl⟩ := vh_nxi h
      exact W.lcmp hx hb hd (kk rfl H locs ls hr hS hL)
    · cases h
  case i2l =>
    have h : (match st with
      | .int x :: r => vh_nx (pc + 1) L (.long x.toInt64 :: r) w
      | _ => none) = some (.inl (pc', L', st', w')) := h
    split at h
    · obtain ⟨rfl, rfl, rfl, rfl⟩ := vh_nxi h
      exact lv_i2l hx hb hd rfl (kk rfl H locs ls hr hS hL)
    · cases h
  case l2i =>
    have h : (match st with
      | .long x :: r => vh_nx (pc + 1) L (.int x.toInt32 :: r) w
      | _ => none) = some (.inl (pc', L', st', w')) := h
    split at h
    · obtain ⟨rfl, rfl, rfl, rfl⟩ := vh_nxi h
      exact lv_l2i hx hb hd rfl (kk rfl H locs ls hr hS hL)
    · cases h
  case i2b => obtain ⟨a, r, rfl, rfl, rfl, rfl, rfl⟩ := vh_q_iu h; exact lv_i2b hx hb hd rfl (kk rfl H locs ls hr hS hL)
  case i2s => obtain ⟨a, r, rfl, rfl, rfl, rfl, rfl⟩ := vh_q_iu h; exact lv_i2s hx hb hd rfl (kk rfl H locs ls hr hS hL)
  case i2c => obtain ⟨a, r, rfl, rfl, rfl, rfl, rfl⟩ := vh_q_iu h; exact lv_i2c hx hb hd rfl (kk rfl H locs ls hr hS hL)
  case dup =>
    have h : (match st with
      | .int v :: r => vh_nx (pc + 1) L (.int v :: .int v :: r) w
      | .ref v :: r => vh_nx (pc + 1) L (.ref v :: .ref v :: r) w
      | _ => none) = some (.inl (pc', L', st', w')) := h
    split at h
    · obtain ⟨rfl, rfl, rfl, rfl⟩ := vh_nxi h
      exact lv_dup hx hb hd rfl (kk rfl H locs ls hr hS hL)
    · obtain ⟨rfl, rfl, rfl, rfl⟩ := vh_nxi h
      exact lv_dup hx hb hd (by rw [vh_tv_cat G hf]; rfl) (kk rfl H locs ls hr hS hL)
    · cases h
  case dup2 =>
    have h : (match st with
      | .int v :: .ref u :: r => vh_nx (pc + 1) L (.int v :: .ref u :: .int v :: .ref u :: r) w
      | _ => none) = some (.inl (pc', L', st', w')) := h
    split at h
    · obtain ⟨rfl, rfl, rfl, rfl⟩ := vh_nxi h
      exact lv_dup2_11 hx hb hd (by rw [vh_tv_cat G hf]; rfl) (by rw [vh_tv_cat G hf]; rfl) (kk rfl H locs ls hr hS hL)
    · cases h
  case pop =>
    have h : (match st with
      | .int _ :: r => vh_nx (pc + 1) L r w
      | _ => none) = some (.inl (pc', L', st', w')) := h
    split at h
    · obtain ⟨rfl, rfl, rfl, rfl⟩ := vh_nxi h
      exact lv_pop hx hb hd rfl (kk rfl H locs ls hr hS hL)
    · cases h
  case ifCond cd off =>
    obtain ⟨a, r, rfl, hp, rfl, rfl, rfl⟩ := vh_q_i1 h
    have hgi : (pc : Int) + off = (x : Int) := of_decide_eq_true hg
    clear hg
    have K := kk rfl H locs ls hr hS hL
    cases cd
    · simp only at hp; rw [hp] at K; exact lv_if_eq hx hb hd hgi (fun q => by rw [if_pos q] at K; exact K) (fun q => by rw [if_neg q] at K; exact K)
    · simp only at hp; rw [hp] at K; exact lv_if_ne hx hb hd hgi (fun q => by rw [if_pos q] at K; exact K) (fun q => by rw [if_neg (not_not_intro q)] at K; exact K)
    · simp only at hp; rw [hp] at K; exact lv_if_lt hx hb hd hgi (fun q => by rw [if_pos q] at K; exact K) (fun q => by rw [if_neg q] at K; exact K)
    · simp only at hp; rw [hp] at K; exact lv_if_ge hx hb hd hgi (fun q => by rw [if_pos q] at K; exact K) (fun q => by rw [if_neg q] at K; exact K)
    · simp only at hp; rw [hp] at K; exact lv_if_gt hx hb hd hgi (fun q => by rw [if_pos q] at K; exact K) (fun q => by rw [if_neg q] at K; exact K)
    · simp only at hp; rw [hp] at K; exact lv_if_le hx hb hd hgi (fun q => by rw [if_pos q] at K; exact K) (fun q => by rw [if_neg q] at K; exact K)
  case if_icmp cd off =>
    obtain ⟨a, b, r, rfl, hp, rfl, rfl, rfl⟩ := vh_q_i2 h
    have hgi : (pc : Int) + off = (x : Int) := of_decide_eq_true hg
    clear hg
    have K := kk rfl H locs ls hr hS hL
    cases cd
    · simp only at hp; rw [hp] at K; exact lv_icmp_eq hx hb hd hgi (fun q => by rw [if_pos q] at K; exact K) (fun q => by rw [if_neg q] at K; exact K)
    · simp only at hp; rw [hp] at K; exact lv_icmp_ne hx hb hd hgi (fun q => by rw [if_pos q] at K; exact K) (fun q => by rw [if_neg (not_not_intro q)] at K; exact K)
    · simp only at hp; rw [hp] at K; exact lv_icmp_lt hx hb hd hgi (fun q => by rw [if_pos q] at K; exact K) (fun q => by rw [if_neg q] at K; exact K)
    · simp only at hp; rw [hp] at K; exact lv_icmp_ge hx hb hd hgi (fun q => by rw [if_pos q] at K; exact K) (fun q => by rw [if_neg q] at K; exact K)
    · simp only at hp; rw [hp] at K; exact lv_icmp_gt hx hb hd hgi (fun q => by rw [if_pos q] at K; exact K) (fun q => by rw [if_neg q] at K; exact K)
    · simp only at hp; rw [hp] at K; exact lv_icmp_le hx hb hd hgi (fun q => by rw [if_pos q] at K; exact K) (fun q => by rw [if_neg q] at K; exact K)
  case goto off =>
    obtain ⟨rfl, rfl, rfl, rfl⟩ := vh_nxi h
    exact lv_goto hx hb hd (of_decide_eq_true hg) (kk rfl H locs ls hr hS hL)
  case tableswitch d lo hi offs =>
    have hg : (decide (0 ≤ (pc : Int) + d) && (decide (offs.size = (hi - lo + 1).toNat) && (decide (lo ≤ hi) && offs.toList.all (fun o => decide (0 ≤ (pc : Int) + o))))) = true := hg
    simp only [Bool.and_eq_true, decide_eq_true_eq] at hg
    obtain ⟨g1, g2, g3, g4⟩ := hg
    obtain ⟨v, r, rfl, hp, rfl, rfl, rfl⟩ := vh_q_tsw h
    have K := kk rfl H locs ls hr hS hL
    unfold vh_swt at hp
    by_cases hq : v.toInt < lo ∨ hi < v.toInt
    · rw [if_pos hq] at hp
      rw [hp] at K
      exact lv_tableOut hx hb hd hq (Int.toNat_of_nonneg g1).symm K
    · rw [if_neg hq] at hp
      rw [hp] at K
      have q1 : ¬ v.toInt < lo := fun z => hq (Or.inl z)
      have q2 : ¬ hi < v.toInt := fun z => hq (Or.inr z)
      have hlt : (v.toInt - lo).toNat < offs.size := by omega
      have e1 : offs[(v.toInt - lo).toNat]? = some (offs.getD (v.toInt - lo).toNat 0) := by
        rw [Array.getElem?_eq_getElem hlt, Array.getD_eq_getD_getElem?, Array.getElem?_eq_getElem hlt]; rfl
      have e2 : 0 ≤ (pc : Int) + offs.getD (v.toInt - lo).toNat 0 := by
        have := List.all_eq_true.mp g4 (offs.getD (v.toInt - lo).toNat 0) (by
          rw [← Array.getElem?_toList] at e1
          exact List.mem_of_getElem? e1)
        exact of_decide_eq_true this
      exact lv_tableIn hx hb hd q1 q2 e1 (Int.toNat_of_nonneg e2).symm K
  case getfield idx => exact vh_s_get C0 hd hg h hr hS hL kk
  case putfield idx => exact vh_s_put C0 hd hg h hr hS hL kk
  case getstatic idx =>
    have hg : (bif Nat.beq x 0 then vh_wd pp (.fieldLink row.1.cls idx "java/lang/String" "COMPACT_STRINGS" "Z") else vh_wd pp (.fieldLink row.1.cls idx "jdk/internal/util/Preconditions" "SIOOBE_FORMATTER" "Ljava/util/function/BiFunction;")) = true := hg
    have h : (bif Nat.beq x 0 then vh_nx (pc + 3) L (.int 1 :: st) w else vh_nx (pc + 3) L (.ref 3000 :: st) w) = some (.inl (pc', L', st', w')) := h
    cases hx0 : Nat.beq x 0 with
    | true =>
      rw [hx0] at h hg
      obtain ⟨rfl, rfl, rfl, rfl⟩ := vh_nxi h
      exact va_gets hx hb hctx.2.2.2.2.1.1 hS hown (hts _ (vh_wdm hg)) (fun _ h => h) hd (kk rfl H locs ls hr hS hL)
    | false =>
      rw [hx0] at h hg
      obtain ⟨rfl, rfl, rfl, rfl⟩ := vh_nxi h
      have K := kk rfl H locs ls hr hS hL
      simp only [List.map_cons] at K
      rw [vh_tvf] at K
      exact va_gets hx hb hctx.2.2.2.2.1.2 hS hown (hts _ (vh_wdm hg)) (fun _ h => h) hd K
  case iaload => exact vh_s_ard C0 hd h hr hS hL kk
  case baload => exact vh_s_bld C0 hd h hr hS hL kk
  case laload => exact vh_s_jrd C0 hd h hr hS hL kk
  case aaload => exact vh_s_rrd C0 hd h hr hS hL kk
  case iastore => exact vh_s_awr C0 hd h hr hS hL kk
  case bastore => exact vh_s_bwr C0 hd h hr hS hL kk
  case lastore => exact vh_s_jwr C0 hd h hr hS hL kk
  case aastore => exact vh_s_rwr C0 hd h hr hS hL kk
  case arraylength => exact vh_s_len C0 hd h hr hS hL kk
  case new idx => cases hna
  case newarray t => cases hna
  case anewarray idx => cases hna
  case invokespecial idx =>
    have hg : (bif Nat.beq x 9999 then vh_wd pp (.methodLink row.1.cls idx objectInit) && (Nat.ble 1 R.frames && Nat.ble 20 R.locals) else vh_gcall row.1.cls idx 2 R.frames R.locals x pp) = true := hg
    have h : (bif Nat.beq x 9999 then vh_obj (pc + 3) L st w else vh_call (pc + 3) x L st w) = some (.inl (pc', L', st', w')) := h
    cases hx0 : Nat.beq x 9999 with
    | true =>
      rw [hx0] at h hg
      simp only [cond_true, Bool.and_eq_true] at h hg
      exact vh_s_obj C0 hd hg.1 (Nat.le_of_ble_eq_true hg.2.1) (Nat.le_of_ble_eq_true hg.2.2) h hr hS hL kk
    | false =>
      rw [hx0] at h
      exact absurd h (vh_callN (pc + 3) x L st w)
  case invokevirtual idx => exact absurd h (vh_callN (pc + 3) x L st w)
  case invokestatic idx =>
    have hg : (bif Nat.beq x 9998 then vh_wd pp (.methodLink row.1.cls idx arraycopyName) && (Nat.ble 1 R.frames && Nat.ble 40 R.locals) else bif Nat.beq x 9997 then vh_wd pp (.methodLink row.1.cls idx Lib.Math.max.name) && (Nat.ble 1 R.frames && Nat.ble 40 R.locals) else bif Nat.beq x 9996 then vh_wd pp (.methodLink row.1.cls idx Lib.Math.min.name) && (Nat.ble 1 R.frames && Nat.ble 40 R.locals) else bif Nat.beq x 9995 then vh_wd pp (.methodLink row.1.cls idx Lib.MathLoose.max_long.x) && (Nat.ble 1 R.frames && Nat.ble 40 R.locals) else (bif Nat.beq x 99999 then true else vh_gcall row.1.cls idx 0 R.frames R.locals x pp)) = true := hg
    have h : (bif Nat.beq x 9998 then vh_ocp (pc + 3) L st w else bif Nat.beq x 9997 then vh_max (fun x y => if x < y then y else x) (pc + 3) L st w else bif Nat.beq x 9996 then vh_max (fun x y => if y < x then y else x) (pc + 3) L st w else bif Nat.beq x 9995 then vh_mxj (pc + 3) L st w else vh_call (pc + 3) x L st w) = some (.inl (pc', L', st', w')) := h
    cases hx0 : Nat.beq x 9998 with
    | true =>
      rw [hx0] at h hg
      simp only [cond_true, Bool.and_eq_true] at h hg
      exact vh_s_ocp C0 hd hg.1 (Nat.le_of_ble_eq_true hg.2.1) (Nat.le_of_ble_eq_true hg.2.2) h hr hS hL kk
    | false =>
      rw [hx0] at h hg
      cases hx1 : Nat.beq x 9997 with
      | true =>
        rw [hx1] at h hg
        simp only [cond_true, cond_false, Bool.and_eq_true] at h hg
        obtain ⟨a, b, r, rfl, h8, rfl, rfl, rfl, rfl⟩ := vh_q_mx h
        have h40 := Nat.le_of_ble_eq_true hg.2.2
        exact va_mmax hx hb (hml.trans hL.1.1.symm) hown (hts _ (vh_wdm hg.1)) (hts _ vh_mathW.1.1) (hts _ vh_mathW.2.2.2) (hts _ vh_mathW.1.2) (Nat.le_of_ble_eq_true hg.2.1) (by rw [vh_tvcs hf]; omega) hc hs hd (kk rfl H locs ls hr hS hL)
      | false =>
        rw [hx1] at h hg
        cases hx2 : Nat.beq x 9996 with
        | true =>
          rw [hx2] at h hg
          simp only [cond_true, cond_false, Bool.and_eq_true] at h hg
          obtain ⟨a, b, r, rfl, h8, rfl, rfl, rfl, rfl⟩ := vh_q_mx h
          have h40 := Nat.le_of_ble_eq_true hg.2.2
          exact va_mmin hx hb (hml.trans hL.1.1.symm) hown (hts _ (vh_wdm hg.1)) (hts _ vh_mathW.2.1.1) (hts _ vh_mathW.2.2.2) (hts _ vh_mathW.2.1.2) (Nat.le_of_ble_eq_true hg.2.1) (by rw [vh_tvcs hf]; omega) hc hs hd (kk rfl H locs ls hr hS hL)
        | false =>
          rw [hx2] at h hg
          cases hx3 : Nat.beq x 9995 with
          | true =>
            rw [hx3] at h hg
            simp only [cond_true, cond_false, Bool.and_eq_true] at h hg
            obtain ⟨a, b, r, rfl, h8, rfl, rfl, rfl, rfl⟩ := vh_q_mj h
            have h40 := Nat.le_of_ble_eq_true hg.2.2
            exact va_mmax_long hx hb (hml.trans hL.1.1.symm) hown (hts _ (vh_wdm hg.1)) (hts _ vh_mathW.2.2.1.1) (hts _ vh_mathW.2.2.2) (hts _ vh_mathW.2.2.1.2) (Nat.le_of_ble_eq_true hg.2.1) (by rw [vh_tvcs hf]; omega) hc hs hd (kk rfl H locs ls hr hS hL)
          | false =>
            rw [hx3] at h
            exact absurd h (vh_callN (pc + 3) x L st w)
  case ireturn => exact absurd h (vh_retN (vh_rty j) st w)
  case lreturn => exact absurd h (vh_lrtN (vh_rty j) st w)
  case areturn => exact absurd h (vh_artN (vh_rty j) st w)
  case return_ => exact absurd h (vh_vrtN (vh_rty j) st w)
  all_goals cases h
end VHX

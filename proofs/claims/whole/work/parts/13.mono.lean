section VHO
variable {L L' : vh_L} {st st' : List Value} {w w' : vh_W} {pc pc' : Nat}
theorem vh_n_get {x : Nat} (h : vh_get pc x L st w = some (.inl (pc', L', st', w'))) : w'.1 = w.1 := by
  unfold vh_get at h
  split at h
  · rename_i a r
    revert h
    generalize Nat.beq x 5000 = b1
    generalize Nat.beq x 5001 = b2
    generalize (Nat.ble 1000 a && Nat.blt a 1012) = b3
    generalize vh_ok w a (x / 64) = b4
    generalize Nat.beq (vh_ft (x / 64) (x % 64)) 1 = b5
    cases b1 <;> cases b2 <;> cases b3 <;> cases b4 <;> cases b5 <;> intro h <;> cases h <;> rfl
  · cases h
theorem vh_n_put {x : Nat} (h : vh_put pc x L st w = some (.inl (pc', L', st', w'))) : w'.1 = w.1 := by
  unfold vh_put at h
  split at h
  · obtain ⟨-, -, -, -, rfl⟩ := vh_bnx h; rfl
  · obtain ⟨-, -, -, -, rfl⟩ := vh_bnx h; rfl
  · cases h
theorem vh_n_ard {x : Nat} (h : vh_ard pc x L st w = some (.inl (pc', L', st', w'))) : w'.1 = w.1 := by
  unfold vh_ard at h
  split at h
  · obtain ⟨-, -, -, -, rfl⟩ := vh_bnx h; rfl
  · cases h
theorem vh_n_bld (h : vh_bld pc L st w = some (.inl (pc', L', st', w'))) : w'.1 = w.1 := by
  unfold vh_bld at h
  split at h
  · rename_i i a r
    revert h
    generalize (Nat.ble 2000 a && Nat.blt a 2012) = b1
    generalize vh_ix i (vh_lenL.getD (a - 2000) 0) = b2
    generalize (vh_ok w a 21 && vh_ix i (vh_kd a).2) = b3
    cases b1 <;> cases b2 <;> cases b3 <;> intro h <;> cases h <;> rfl
  · cases h
theorem vh_n_jrd (h : vh_jrd pc L st w = some (.inl (pc', L', st', w'))) : w'.1 = w.1 := by
  unfold vh_jrd at h
  split at h
  · obtain ⟨-, -, -, -, rfl⟩ := vh_bnx h; rfl
  · cases h
theorem vh_n_rrd (h : vh_rrd pc L st w = some (.inl (pc', L', st', w'))) : w'.1 = w.1 := by
  unfold vh_rrd at h
  split at h
  · obtain ⟨-, -, -, -, rfl⟩ := vh_bnx h; rfl
  · cases h
theorem vh_n_awr (h : vh_awr pc L st w = some (.inl (pc', L', st', w'))) : w'.1 = w.1 := by
  unfold vh_awr at h
  split at h
  · obtain ⟨-, -, -, -, rfl⟩ := vh_bnx h; rfl
  · cases h
theorem vh_n_bwr (h : vh_bwr pc L st w = some (.inl (pc', L', st', w'))) : w'.1 = w.1 := by
  unfold vh_bwr at h
  split at h
  · obtain ⟨-, -, -, -, rfl⟩ := vh_bnx h; rfl
  · cases h
theorem vh_n_jwr (h : vh_jwr pc L st w = some (.inl (pc', L', st', w'))) : w'.1 = w.1 := by
  unfold vh_jwr at h
  split at h
  · obtain ⟨-, -, -, -, rfl⟩ := vh_bnx h; rfl
  · cases h
theorem vh_n_rwr (h : vh_rwr pc L st w = some (.inl (pc', L', st', w'))) : w'.1 = w.1 := by
  unfold vh_rwr at h
  split at h
  · obtain ⟨-, -, -, -, rfl⟩ := vh_bnx h; rfl
  · cases h
theorem vh_n_len (h : vh_len pc L st w = some (.inl (pc', L', st', w'))) : w'.1 = w.1 := by
  unfold vh_len at h
  split at h
  · obtain ⟨-, -, -, -, rfl⟩ := vh_bnx h; rfl
  · cases h
theorem vh_n_obj (h : vh_obj pc L st w = some (.inl (pc', L', st', w'))) : w'.1 = w.1 := by
  unfold vh_obj at h
  split at h
  · obtain ⟨-, -, -, -, rfl⟩ := vh_bnx h; rfl
  · cases h
theorem vh_n_ocp (h : vh_ocp pc L st w = some (.inl (pc', L', st', w'))) : w'.1 = w.1 := by
  unfold vh_ocp at h
  split at h
  · obtain ⟨-, -, -, -, rfl⟩ := vh_bnx h; rfl
  · cases h
theorem vh_n_nob {x : Nat} (h : vh_nob pc x L st w = some (.inl (pc', L', st', w'))) : w'.1 = w.1 + 1 := by
  unfold vh_nob at h
  obtain ⟨-, -, -, -, rfl⟩ := vh_bnx h
  rfl
theorem vh_n_nar {x : Nat} (h : vh_nar pc x L st w = some (.inl (pc', L', st', w'))) : w'.1 = w.1 + 1 := by
  obtain ⟨_, _, -, -, -, -, -, -, -, -, rfl⟩ := vh_q_nar h
  rfl
set_option maxHeartbeats 1000000 in
theorem vh_actN {j x pp : Nat} {i : Instr} (h : vh_act j (pc, i, x, pp) L st w = some (.inl (pc', L', st', w'))) : w'.1 = w.1 + (if vh_alloc i = true then 1 else 0) := by
  cases i
  case iconst n => obtain ⟨-, -, -, rfl⟩ := vh_nxi h; rfl
  case bipush n => obtain ⟨-, -, -, rfl⟩ := vh_nxi h; rfl
  case sipush n => obtain ⟨-, -, -, rfl⟩ := vh_nxi h; rfl
  case lconst n => obtain ⟨-, -, -, rfl⟩ := vh_nxi h; rfl
  case ldc idx =>
    have h : (bif Nat.blt x 1000 then vh_nx (pc + 2) L (.int (vh_kiL.getD x 0) :: st) w else (bif Nat.blt x 1012 then vh_nx (pc + 2) L (.ref x :: st) w else none)) = some (.inl (pc', L', st', w')) := h
    revert h
    generalize Nat.blt x 1000 = b1
    generalize Nat.blt x 1012 = b2
    cases b1 <;> cases b2 <;> intro h <;> cases h <;> rfl
  case ldc_w idx => obtain ⟨-, -, -, rfl⟩ := vh_nxi h; rfl
  case ldc2_w idx => obtain ⟨-, -, -, rfl⟩ := vh_nxi h; rfl
  case iload k => obtain ⟨v, hv, -, -, -, rfl⟩ := vh_q_ild h; rfl
  case iload_n k => obtain ⟨v, hv, -, -, -, rfl⟩ := vh_q_ild h; rfl
  case lload k => obtain ⟨v, hv, -, -, -, rfl⟩ := vh_q_lld h; rfl
  case lload_n k => obtain ⟨v, hv, -, -, -, rfl⟩ := vh_q_lld h; rfl
  case aload k => obtain ⟨v, hv, -, -, -, rfl⟩ := vh_q_ald h; rfl
  case aload_n k => obtain ⟨v, hv, -, -, -, rfl⟩ := vh_q_ald h; rfl
  case istore k => obtain ⟨v, r, -, -, -, -, rfl⟩ := vh_q_ist h; rfl
  case istore_n k => obtain ⟨v, r, -, -, -, -, rfl⟩ := vh_q_ist h; rfl
  case lstore k => obtain ⟨v, r, -, -, -, -, rfl⟩ := vh_q_lst h; rfl
  case lstore_n k => obtain ⟨v, r, -, -, -, -, rfl⟩ := vh_q_lst h; rfl
  case astore k => obtain ⟨v, r, -, -, -, -, rfl⟩ := vh_q_ast h; rfl
  case astore_n k => obtain ⟨v, r, -, -, -, -, rfl⟩ := vh_q_ast h; rfl
  case iinc k n => obtain ⟨v, -, -, -, -, rfl⟩ := vh_q_inc h; rfl
  case iadd => obtain ⟨a, b, r, -, -, -, -, rfl⟩ := vh_q_ib h; rfl
  case isub => obtain ⟨a, b, r, -, -, -, -, rfl⟩ := vh_q_ib h; rfl
  case imul => obtain ⟨a, b, r, -, -, -, -, rfl⟩ := vh_q_ib h; rfl
  case iand => obtain ⟨a, b, r, -, -, -, -, rfl⟩ := vh_q_ib h; rfl
  case ior => obtain ⟨a, b, r, -, -, -, -, rfl⟩ := vh_q_ib h; rfl
  case ixor => obtain ⟨a, b, r, -, -, -, -, rfl⟩ := vh_q_ib h; rfl
  case ishl => obtain ⟨a, b, r, -, -, -, -, rfl⟩ := vh_q_ib h; rfl
  case ishr => obtain ⟨a, b, r, -, -, -, -, rfl⟩ := vh_q_ib h; rfl
  case iushr => obtain ⟨a, b, r, -, -, -, -, rfl⟩ := vh_q_ib h; rfl
  case idiv => obtain ⟨a, b, r, -, -, -, -, -, rfl⟩ := vh_q_id h; rfl
  case irem => obtain ⟨a, b, r, -, -, -, -, -, rfl⟩ := vh_q_id h; rfl
  case ladd => obtain ⟨a, b, r, -, -, -, -, rfl⟩ := vh_q_lb h; rfl
  case lsub => obtain ⟨a, b, r, -, -, -, -, rfl⟩ := vh_q_lb h; rfl
  case land => obtain ⟨a, b, r, -, -, -, -, rfl⟩ := vh_q_lb h; rfl
  case lor => obtain ⟨a, b, r, -, -, -, -, rfl⟩ := vh_q_lb h; rfl
  case lneg => obtain ⟨a, r, -, -, -, -, rfl⟩ := vh_q_lu h; rfl
  case lshl => obtain ⟨a, b, r, -, -, -, -, rfl⟩ := vh_q_ls h; rfl
  case lshr => obtain ⟨a, b, r, -, -, -, -, rfl⟩ := vh_q_ls h; rfl
  case lushr => obtain ⟨a, b, r, -, -, -, -, rfl⟩ := vh_q_ls h; rfl
  case lcmp =>
    have h : (match st with
      | .long y :: .long x :: r => vh_nx (pc + 1) L (.int (lg_cmp x y) :: r) w
      | _ => none) = some (.inl (pc', L', st', w')) := h
    split at h
    · obtain ⟨-, -, -, rfl⟩ := vh_nxi h; rfl
    · cases h
  case i2l =>
    have h : (match st with
      | .int x :: r => vh_nx (pc + 1) L (.long x.toInt64 :: r) w
      | _ => none) = some (.inl (pc', L', st', w')) := h
    split at h
    · obtain ⟨-, -, -, rfl⟩ := vh_nxi h; rfl
    · cases h
  case l2i =>
    have h : (match st with
      | .long x :: r => vh_nx (pc + 1) L (.int x.toInt32 :: r) w
      | _ => none) = some (.inl (pc', L', st', w')) := h
    split at h
    · obtain ⟨-, -, -, rfl⟩ := vh_nxi h; rfl
    · cases h
  case i2b => obtain ⟨a, r, -, -, -, -, rfl⟩ := vh_q_iu h; rfl
  case i2s => obtain ⟨a, r, -, -, -, -, rfl⟩ := vh_q_iu h; rfl
  case i2c => obtain ⟨a, r, -, -, -, -, rfl⟩ := vh_q_iu h; rfl
  case dup =>
    have h : (match st with
      | .int v :: r => vh_nx (pc + 1) L (.int v :: .int v :: r) w
      | .ref v :: r => vh_nx (pc + 1) L (.ref v :: .ref v :: r) w
      | _ => none) = some (.inl (pc', L', st', w')) := h
    split at h
    · obtain ⟨-, -, -, rfl⟩ := vh_nxi h; rfl
    · obtain ⟨-, -, -, rfl⟩ := vh_nxi h; rfl
    · cases h
  case dup2 =>
    have h : (match st with
      | .int v :: .ref u :: r => vh_nx (pc + 1) L (.int v :: .ref u :: .int v :: .ref u :: r) w
      | _ => none) = some (.inl (pc', L', st', w')) := h
    split at h
    · obtain ⟨-, -, -, rfl⟩ := vh_nxi h; rfl
    · cases h
  case pop =>
    have h : (match st with
      | .int _ :: r => vh_nx (pc + 1) L r w
      | _ => none) = some (.inl (pc', L', st', w')) := h
    split at h
    · obtain ⟨-, -, -, rfl⟩ := vh_nxi h; rfl
    · cases h
  case ifCond cd off => obtain ⟨a, r, -, -, -, -, rfl⟩ := vh_q_i1 h; rfl
  case if_icmp cd off => obtain ⟨a, b, r, -, -, -, -, rfl⟩ := vh_q_i2 h; rfl
  case goto off => obtain ⟨-, -, -, rfl⟩ := vh_nxi h; rfl
  case tableswitch d lo hi offs => obtain ⟨v, r, -, -, -, -, rfl⟩ := vh_q_tsw h; rfl
  case getfield idx => exact vh_n_get h
  case putfield idx => exact vh_n_put h
  case getstatic idx =>
    have h : (bif Nat.beq x 0 then vh_nx (pc + 3) L (.int 1 :: st) w else vh_nx (pc + 3) L (.ref 3000 :: st) w) = some (.inl (pc', L', st', w')) := h
    revert h
    generalize Nat.beq x 0 = b1
    cases b1 <;> intro h <;> cases h <;> rfl
  case iaload => exact vh_n_ard h
  case baload => exact vh_n_bld h
  case laload => exact vh_n_jrd h
  case aaload => exact vh_n_rrd h
  case iastore => exact vh_n_awr h
  case bastore => exact vh_n_bwr h
  case lastore => exact vh_n_jwr h
  case aastore => exact vh_n_rwr h
  case arraylength => exact vh_n_len h
  case new idx => exact vh_n_nob h
  case newarray t => exact vh_n_nar h
  case anewarray idx => exact vh_n_nar h
  case invokespecial idx =>
    have h : (bif Nat.beq x 9999 then vh_obj (pc + 3) L st w else vh_call (pc + 3) x L st w) = some (.inl (pc', L', st', w')) := h
    revert h
    generalize Nat.beq x 9999 = b1
    cases b1 <;> intro h
    · exact absurd h (vh_callN (pc + 3) x L st w)
    · exact vh_n_obj h
  case invokevirtual idx => exact absurd h (vh_callN (pc + 3) x L st w)
  case invokestatic idx =>
    have h : (bif Nat.beq x 9998 then vh_ocp (pc + 3) L st w else bif Nat.beq x 9997 then vh_max (fun x y => if x < y then y else x) (pc + 3) L st w else bif Nat.beq x 9996 then vh_max (fun x y => if y < x then y else x) (pc + 3) L st w else bif Nat.beq x 9995 then vh_mxj (pc + 3) L st w else vh_call (pc + 3) x L st w) = some (.inl (pc', L', st', w')) := h
    revert h
    generalize Nat.beq x 9998 = b1
    generalize Nat.beq x 9997 = b2
    generalize Nat.beq x 9996 = b3
    generalize Nat.beq x 9995 = b4
    cases b1
    · cases b2
      · cases b3
        · cases b4 <;> intro h
          · exact absurd h (vh_callN (pc + 3) x L st w)
          · obtain ⟨a, b, r, -, -, -, -, -, rfl⟩ := vh_q_mj h; rfl
        · intro h
          obtain ⟨a, b, r, -, -, -, -, -, rfl⟩ := vh_q_mx h; rfl
      · intro h
        obtain ⟨a, b, r, -, -, -, -, -, rfl⟩ := vh_q_mx h; rfl
    · intro h
      exact vh_n_ocp h
  case ireturn => exact absurd h (vh_retN (vh_rty j) st w)
  case lreturn => exact absurd h (vh_lrtN (vh_rty j) st w)
  case areturn => exact absurd h (vh_artN (vh_rty j) st w)
  case return_ => exact absurd h (vh_vrtN (vh_rty j) st w)
  all_goals cases h
/-- what a call is -/
theorem vh_q_call {x : Nat} {k : Nat} {as : List Value} {w1 : vh_W} (h : vh_call pc x L st w = some (.inr (.inr (k, as, w1, pc', L', st')))) : ∃ row, vh_mt[x]? = some row ∧ k = x ∧ w1 = w ∧ pc' = pc ∧ L' = L ∧ st = as.reverse ++ st' ∧ as.length = row.2.2.2.2.2.2.2 ∧ (st'.map fun v => v.category).sum ≤ 8 ∧ vh_ack row.2.2.1 (vh_lsx x) as = true ∧
    (row.2.2.2.2.1 = 0 ∨ ∃ a as', as = .ref a :: as' ∧ ((row.2.2.2.2.1 = 2 ∧ a < 1000) ∨ (bif Nat.beq (vh_mc x) 98 then Nat.ble 1000 a && Nat.blt a 1012 else vh_ok w a (vh_mc x)) = true)) := by
  unfold vh_call at h
  split at h
  · cases h
  · rename_i y b mL rt kd fr lo na hm
    revert h
    generalize hb : ((Nat.ble na st.length && Nat.ble ((st.drop na).map fun v => v.category).sum 8) && vh_ack mL (vh_lsL.getD x []) (st.take na).reverse) = b1
    cases b1 with
    | false => intro h; cases h
    | true =>
      simp only [Bool.and_eq_true] at hb
      obtain ⟨⟨hl, hs⟩, hack⟩ := hb
      have hl := Nat.le_of_ble_eq_true hl
      have hs := Nat.le_of_ble_eq_true hs
      have hst : ∀ as : List Value, (st.take na).reverse = as → st = as.reverse ++ st.drop na := fun as e => by rw [← e, List.reverse_reverse, List.take_append_drop]
      have hln : ∀ as : List Value, (st.take na).reverse = as → as.length = na := fun as e => by rw [← e, List.length_reverse, List.length_take]; omega
      intro h
      simp only [cond_true] at h
      split at h
      · rename_i a as2 he
        revert h
        generalize hk0 : Nat.beq kd 0 = c1
        generalize hk2 : (Nat.beq kd 2 && Nat.blt a 1000) = c2
        generalize hk3 : (bif Nat.beq (vh_mc x) 98 then Nat.ble 1000 a && Nat.blt a 1012 else vh_ok w a (vh_mc x)) = c3
        intro h
        have hc : (c1 || (c2 || c3)) = true := by
          cases hcc : (c1 || (c2 || c3)) with
          | true => rfl
          | false => rw [hcc] at h; cases h
        rw [hc] at h
        cases h
        refine ⟨_, hm, rfl, rfl, rfl, rfl, hst _ he, hln _ he, hs, by rw [he] at hack; exact hack, ?_⟩
        cases c1 with
        | true => exact Or.inl (Nat.eq_of_beq_eq_true hk0)
        | false =>
          refine Or.inr ⟨a, as2, rfl, ?_⟩
          cases c2 with
          | true =>
            rw [Bool.and_eq_true] at hk2
            exact Or.inl ⟨Nat.eq_of_beq_eq_true hk2.1, Nat.blt_eq.mp hk2.2⟩
          | false =>
            cases c3 with
            | true => exact Or.inr hk3
            | false => cases hc
      · revert h
        generalize hk0 : Nat.beq kd 0 = c1
        intro h
        cases c1 with
        | false => cases h
        | true =>
          cases h
          exact ⟨_, hm, rfl, rfl, rfl, rfl, hst _ rfl, hln _ rfl, hs, hack, Or.inl (Nat.eq_of_beq_eq_true hk0)⟩
end VHO

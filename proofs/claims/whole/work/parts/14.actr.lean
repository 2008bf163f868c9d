section VHR
variable {L : vh_L} {st : List Value} {w : vh_W} {pc : Nat} {z : (Option Value × vh_W) ⊕ (Nat × List Value × vh_W × Nat × vh_L × List Value)}
theorem vh_rnx (h : vh_nx pc L st w = some (.inr z)) : False := by cases h
theorem vh_rbn {b : Bool} (h : (bif b then vh_nx pc L st w else none) = some (.inr z)) : False := by cases b <;> cases h
theorem vh_rbr {P : Prop} [Decidable P] {tgt : Nat} (h : vh_br pc tgt P L st w = some (.inr z)) : False := by cases h
theorem vh_r_ild {k : Nat} (h : vh_ild pc k L st w = some (.inr z)) : False := by
  unfold vh_ild at h
  split at h
  · exact vh_rnx h
  · cases h
theorem vh_r_lld {k : Nat} (h : vh_lld pc k L st w = some (.inr z)) : False := by
  unfold vh_lld at h
  split at h
  · exact vh_rnx h
  · cases h
theorem vh_r_ald {k : Nat} (h : vh_ald pc k L st w = some (.inr z)) : False := by
  unfold vh_ald at h
  split at h
  · exact vh_rnx h
  · cases h
theorem vh_r_ist {k : Nat} (h : vh_ist pc k L st w = some (.inr z)) : False := by
  unfold vh_ist at h
  split at h
  · exact vh_rnx h
  · cases h
theorem vh_r_lst {k : Nat} (h : vh_lst pc k L st w = some (.inr z)) : False := by
  unfold vh_lst at h
  split at h
  · exact vh_rnx h
  · cases h
theorem vh_r_ast {k : Nat} (h : vh_ast pc k L st w = some (.inr z)) : False := by
  unfold vh_ast at h
  split at h
  · exact vh_rnx h
  · cases h
theorem vh_r_inc {k : Nat} {n : Int} (h : vh_inc pc k n L st w = some (.inr z)) : False := by
  unfold vh_inc at h
  split at h
  · exact vh_rnx h
  · cases h
theorem vh_r_ib {f : Int32 → Int32 → Int32} (h : vh_ib f pc L st w = some (.inr z)) : False := by
  unfold vh_ib at h
  split at h
  · exact vh_rnx h
  · cases h
theorem vh_r_lb {f : Int64 → Int64 → Int64} (h : vh_lb f pc L st w = some (.inr z)) : False := by
  unfold vh_lb at h
  split at h
  · exact vh_rnx h
  · cases h
theorem vh_r_ls {f : Int64 → Int32 → Int64} (h : vh_ls f pc L st w = some (.inr z)) : False := by
  unfold vh_ls at h
  split at h
  · exact vh_rnx h
  · cases h
theorem vh_r_iu {f : Int32 → Int32} (h : vh_iu f pc L st w = some (.inr z)) : False := by
  unfold vh_iu at h
  split at h
  · exact vh_rnx h
  · cases h
theorem vh_r_lu {f : Int64 → Int64} (h : vh_lu f pc L st w = some (.inr z)) : False := by
  unfold vh_lu at h
  split at h
  · exact vh_rnx h
  · cases h
theorem vh_r_max {f : Int32 → Int32 → Int32} (h : vh_max f pc L st w = some (.inr z)) : False := by
  unfold vh_max at h
  split at h
  · exact vh_rbn h
  · cases h
theorem vh_r_mxj  (h : vh_mxj pc L st w = some (.inr z)) : False := by
  unfold vh_mxj at h
  split at h
  · exact vh_rbn h
  · cases h
theorem vh_r_tsw {d lo hi : Int} {offs : Array Int} (h : vh_tsw pc d lo hi offs L st w = some (.inr z)) : False := by
  unfold vh_tsw at h
  split at h
  · exact vh_rnx h
  · cases h
theorem vh_r_put {x : Nat} (h : vh_put pc x L st w = some (.inr z)) : False := by
  unfold vh_put at h
  split at h
  · exact vh_rbn h
  · exact vh_rbn h
  · cases h
theorem vh_r_ard {x : Nat} (h : vh_ard pc x L st w = some (.inr z)) : False := by
  unfold vh_ard at h
  split at h
  · exact vh_rbn h
  · cases h
theorem vh_r_jrd  (h : vh_jrd pc L st w = some (.inr z)) : False := by
  unfold vh_jrd at h
  split at h
  · exact vh_rbn h
  · cases h
theorem vh_r_rrd  (h : vh_rrd pc L st w = some (.inr z)) : False := by
  unfold vh_rrd at h
  split at h
  · exact vh_rbn h
  · cases h
theorem vh_r_awr  (h : vh_awr pc L st w = some (.inr z)) : False := by
  unfold vh_awr at h
  split at h
  · exact vh_rbn h
  · cases h
theorem vh_r_bwr  (h : vh_bwr pc L st w = some (.inr z)) : False := by
  unfold vh_bwr at h
  split at h
  · exact vh_rbn h
  · cases h
theorem vh_r_jwr  (h : vh_jwr pc L st w = some (.inr z)) : False := by
  unfold vh_jwr at h
  split at h
  · exact vh_rbn h
  · cases h
theorem vh_r_rwr  (h : vh_rwr pc L st w = some (.inr z)) : False := by
  unfold vh_rwr at h
  split at h
  · exact vh_rbn h
  · cases h
theorem vh_r_len  (h : vh_len pc L st w = some (.inr z)) : False := by
  unfold vh_len at h
  split at h
  · exact vh_rbn h
  · cases h
theorem vh_r_obj  (h : vh_obj pc L st w = some (.inr z)) : False := by
  unfold vh_obj at h
  split at h
  · exact vh_rbn h
  · cases h
theorem vh_r_ocp  (h : vh_ocp pc L st w = some (.inr z)) : False := by
  unfold vh_ocp at h
  split at h
  · exact vh_rbn h
  · cases h
theorem vh_r_nar {x : Nat} (h : vh_nar pc x L st w = some (.inr z)) : False := by
  unfold vh_nar at h
  split at h
  · exact vh_rbn h
  · cases h
theorem vh_r_id {f : Int32 → Int32 → Int32} (h : vh_id f pc L st w = some (.inr z)) : False := by
  unfold vh_id at h
  split at h
  · split at h
    · cases h
    · exact vh_rnx h
  · cases h
theorem vh_r_i1 {tgt : Nat} {cd : ClassFile.Cond} (h : vh_i1 pc tgt cd L st w = some (.inr z)) : False := by
  unfold vh_i1 at h
  split at h
  · cases cd <;> cases h
  · cases h
theorem vh_r_i2 {tgt : Nat} {cd : ClassFile.Cond} (h : vh_i2 pc tgt cd L st w = some (.inr z)) : False := by
  unfold vh_i2 at h
  split at h
  · cases cd <;> cases h
  · cases h
theorem vh_r_get {x : Nat} (h : vh_get pc x L st w = some (.inr z)) : False := by
  unfold vh_get at h
  split at h
  · rename_i a r
    revert h
    generalize Nat.beq x 5000 = b1
    generalize Nat.beq x 5001 = b2
    generalize (Nat.ble 1000 a && Nat.blt a 1012) = b3
    generalize vh_ok w a (x / 64) = b4
    generalize Nat.beq (vh_ft (x / 64) (x % 64)) 1 = b5
    cases b1 <;> cases b2 <;> cases b3 <;> cases b4 <;> cases b5 <;> intro h <;> cases h
  · cases h
theorem vh_r_bld (h : vh_bld pc L st w = some (.inr z)) : False := by
  unfold vh_bld at h
  split at h
  · rename_i i a r
    revert h
    generalize (Nat.ble 2000 a && Nat.blt a 2012) = b1
    generalize vh_ix i (vh_lenL.getD (a - 2000) 0) = b2
    generalize (vh_ok w a 21 && vh_ix i (vh_kd a).2) = b3
    cases b1 <;> cases b2 <;> cases b3 <;> intro h <;> cases h
  · cases h
theorem vh_r_nob {x : Nat} (h : vh_nob pc x L st w = some (.inr z)) : False := by
  unfold vh_nob at h
  exact vh_rbn h
set_option maxHeartbeats 1000000 in
/-- an instruction that does not go on by itself is a return or a call -/
theorem vh_actR {j x pp : Nat} {i : Instr} (h : vh_act j (pc, i, x, pp) L st w = some (.inr z)) :
    (i = .ireturn ∧ vh_ret (vh_rty j) st w = some (.inr z)) ∨ (i = .lreturn ∧ vh_lrt (vh_rty j) st w = some (.inr z)) ∨ (i = .areturn ∧ vh_art (vh_rty j) st w = some (.inr z)) ∨ (i = .return_ ∧ vh_vrt (vh_rty j) st w = some (.inr z)) ∨
    (∃ idx, ((i = .invokevirtual idx) ∨ (i = .invokespecial idx ∧ Nat.beq x 9999 = false) ∨ (i = .invokestatic idx ∧ Nat.beq x 9998 = false ∧ Nat.beq x 9997 = false ∧ Nat.beq x 9996 = false ∧ Nat.beq x 9995 = false)) ∧ vh_call (pc + 3) x L st w = some (.inr z)) := by
  cases i
  case iconst n => exact (vh_rnx h).elim
  case bipush n => exact (vh_rnx h).elim
  case sipush n => exact (vh_rnx h).elim
  case lconst n => exact (vh_rnx h).elim
  case ldc_w idx => exact (vh_rnx h).elim
  case ldc2_w idx => exact (vh_rnx h).elim
  case iload k => exact (vh_r_ild h).elim
  case iload_n k => exact (vh_r_ild h).elim
  case lload k => exact (vh_r_lld h).elim
  case lload_n k => exact (vh_r_lld h).elim
  case aload k => exact (vh_r_ald h).elim
  case aload_n k => exact (vh_r_ald h).elim
  case istore k => exact (vh_r_ist h).elim
  case istore_n k => exact (vh_r_ist h).elim
  case lstore k => exact (vh_r_lst h).elim
  case lstore_n k => exact (vh_r_lst h).elim
  case astore k => exact (vh_r_ast h).elim
  case astore_n k => exact (vh_r_ast h).elim
  case iinc k n => exact (vh_r_inc h).elim
  case idiv => exact (vh_r_id h).elim
  case irem => exact (vh_r_id h).elim
  case lneg => exact (vh_r_lu h).elim
  case lshl => exact (vh_r_ls h).elim
  case lshr => exact (vh_r_ls h).elim
  case lushr => exact (vh_r_ls h).elim
  case i2b => exact (vh_r_iu h).elim
  case i2s => exact (vh_r_iu h).elim
  case i2c => exact (vh_r_iu h).elim
  case ifCond cd off => exact (vh_r_i1 h).elim
  case if_icmp cd off => exact (vh_r_i2 h).elim
  case goto off => exact (vh_rnx h).elim
  case tableswitch d lo hi offs => exact (vh_r_tsw h).elim
  case getfield idx => exact (vh_r_get h).elim
  case putfield idx => exact (vh_r_put h).elim
  case iaload => exact (vh_r_ard h).elim
  case baload => exact (vh_r_bld h).elim
  case laload => exact (vh_r_jrd h).elim
  case aaload => exact (vh_r_rrd h).elim
  case iastore => exact (vh_r_awr h).elim
  case bastore => exact (vh_r_bwr h).elim
  case lastore => exact (vh_r_jwr h).elim
  case aastore => exact (vh_r_rwr h).elim
  case arraylength => exact (vh_r_len h).elim
  case new idx => exact (vh_r_nob h).elim
  case newarray t => exact (vh_r_nar h).elim
  case anewarray idx => exact (vh_r_nar h).elim
  case iadd => exact (vh_r_ib h).elim
  case isub => exact (vh_r_ib h).elim
  case imul => exact (vh_r_ib h).elim
  case iand => exact (vh_r_ib h).elim
  case ior => exact (vh_r_ib h).elim
  case ixor => exact (vh_r_ib h).elim
  case ishl => exact (vh_r_ib h).elim
  case ishr => exact (vh_r_ib h).elim
  case iushr => exact (vh_r_ib h).elim
  case ladd => exact (vh_r_lb h).elim
  case lsub => exact (vh_r_lb h).elim
  case land => exact (vh_r_lb h).elim
  case lor => exact (vh_r_lb h).elim
  case ldc idx =>
    have h : (bif Nat.blt x 1000 then vh_nx (pc + 2) L (.int (vh_kiL.getD x 0) :: st) w else (bif Nat.blt x 1012 then vh_nx (pc + 2) L (.ref x :: st) w else none)) = some (.inr z) := h
    revert h
    generalize Nat.blt x 1000 = b1
    generalize Nat.blt x 1012 = b2
    cases b1 <;> cases b2 <;> intro h <;> cases h
  case lcmp =>
    have h : (match st with
      | .long y :: .long x :: r => vh_nx (pc + 1) L (.int (lg_cmp x y) :: r) w
      | _ => none) = some (.inr z) := h
    split at h <;> cases h
  case i2l =>
    have h : (match st with
      | .int x :: r => vh_nx (pc + 1) L (.long x.toInt64 :: r) w
      | _ => none) = some (.inr z) := h
    split at h <;> cases h
  case l2i =>
    have h : (match st with
      | .long x :: r => vh_nx (pc + 1) L (.int x.toInt32 :: r) w
      | _ => none) = some (.inr z) := h
    split at h <;> cases h
  case dup =>
    have h : (match st with
      | .int v :: r => vh_nx (pc + 1) L (.int v :: .int v :: r) w
      | .ref v :: r => vh_nx (pc + 1) L (.ref v :: .ref v :: r) w
      | _ => none) = some (.inr z) := h
    split at h
    · cases h
    · cases h
    · cases h
  case dup2 =>
    have h : (match st with
      | .int v :: .ref u :: r => vh_nx (pc + 1) L (.int v :: .ref u :: .int v :: .ref u :: r) w
      | _ => none) = some (.inr z) := h
    split at h
    · cases h
    · cases h
  case pop =>
    have h : (match st with
      | .int _ :: r => vh_nx (pc + 1) L r w
      | _ => none) = some (.inr z) := h
    split at h <;> cases h
  case getstatic idx =>
    have h : (bif Nat.beq x 0 then vh_nx (pc + 3) L (.int 1 :: st) w else vh_nx (pc + 3) L (.ref 3000 :: st) w) = some (.inr z) := h
    revert h
    generalize Nat.beq x 0 = b1
    cases b1 <;> intro h <;> cases h
  case invokespecial idx =>
    have h : (bif Nat.beq x 9999 then vh_obj (pc + 3) L st w else vh_call (pc + 3) x L st w) = some (.inr z) := h
    cases hb : Nat.beq x 9999 with
    | true => rw [hb] at h; exact (vh_r_obj h).elim
    | false => rw [hb] at h; exact Or.inr (Or.inr (Or.inr (Or.inr ⟨idx, Or.inr (Or.inl ⟨rfl, rfl⟩), h⟩)))
  case invokevirtual idx => exact Or.inr (Or.inr (Or.inr (Or.inr ⟨idx, Or.inl rfl, h⟩)))
  case invokestatic idx =>
    have h : (bif Nat.beq x 9998 then vh_ocp (pc + 3) L st w else bif Nat.beq x 9997 then vh_max (fun x y => if x < y then y else x) (pc + 3) L st w else bif Nat.beq x 9996 then vh_max (fun x y => if y < x then y else x) (pc + 3) L st w else bif Nat.beq x 9995 then vh_mxj (pc + 3) L st w else vh_call (pc + 3) x L st w) = some (.inr z) := h
    cases hb : Nat.beq x 9998 with
    | true => rw [hb] at h; exact (vh_r_ocp h).elim
    | false =>
      rw [hb] at h
      cases hb2 : Nat.beq x 9997 with
      | true => rw [hb2] at h; exact (vh_r_max h).elim
      | false =>
        rw [hb2] at h
        cases hb3 : Nat.beq x 9996 with
        | true => rw [hb3] at h; exact (vh_r_max h).elim
        | false =>
          rw [hb3] at h
          cases hb4 : Nat.beq x 9995 with
          | true => rw [hb4] at h; exact (vh_r_mxj h).elim
          | false => rw [hb4] at h; exact Or.inr (Or.inr (Or.inr (Or.inr ⟨idx, Or.inr (Or.inr ⟨rfl, rfl, rfl, rfl, rfl⟩), h⟩)))
  case ireturn => exact Or.inl ⟨rfl, h⟩
  case lreturn => exact Or.inr (Or.inl ⟨rfl, h⟩)
  case areturn => exact Or.inr (Or.inr (Or.inl ⟨rfl, h⟩))
  case return_ => exact Or.inr (Or.inr (Or.inr (Or.inl ⟨rfl, h⟩)))
  all_goals cases h
end VHR

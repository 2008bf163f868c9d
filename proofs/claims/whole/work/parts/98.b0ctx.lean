/-! THE LAW'S ENTRY: what the machine needs of the tables, out of lw_At -/
def lw_tm (i : Nat) : Term := .string "VillageHalls$RuleReader" (vh_stxL.getD i 0)
def lw_fl : List Cond := flatC (Jvm.Cond.and given_1 narrow_1)
theorem lw_lt12 {i : Nat} (h : i < 12) : i ∈ List.range 12 := List.mem_range.mpr h
theorem lw_s1 : ((List.range 12).all fun i => decide (Cond.exactly (lw_tm i) "java/lang/String" ∈ lw_fl)) = true := by decide +kernel
theorem lw_s2 : ((List.range 12).all fun i => decide (Cond.eq (.field (lw_tm i) "java/lang/String" "coder" "B") (.int 0) ∈ lw_fl)) = true := by decide +kernel
theorem lw_s3 : ((List.range 12).all fun i => decide (Cond.arrayOf (.field (lw_tm i) "java/lang/String" "value" "[B") .byte ∈ lw_fl)) = true := by decide +kernel
theorem lw_s4 : ((List.range 12).all fun i => decide (Cond.eq (.length (.field (lw_tm i) "java/lang/String" "value" "[B")) (.int (Int32.ofNat (vh_lenL.getD i 0))) ∈ lw_fl)) = true := by decide +kernel
theorem lw_s5 : ((List.range 12).all fun i => (List.range (vh_lenL.getD i 0)).all fun j => decide (Cond.eq (.elem (.field (lw_tm i) "java/lang/String" "value" "[B") (.int (Int32.ofNat j))) (.int ((vh_bytL.getD i []).getD j 0)) ∈ lw_fl)) = true := by decide +kernel
theorem lw_s6 : ((List.range 12).all fun i => (List.range 12).all fun j => decide (i = j) || (decide (Cond.not (Cond.eq (lw_tm i) (lw_tm j)) ∈ lw_fl) || decide (Cond.not (Cond.eq (lw_tm j) (lw_tm i)) ∈ lw_fl))) = true := by decide +kernel
theorem lw_s7 : ((List.range 12).all fun i => decide (Cond.stringRef "VillageHalls$RuleReader" (vh_stxL.getD i 0) (vh_strL.getD i "") ∈ lw_tbl)) = true := by decide +kernel
theorem lw_s8 : (vh_nest.all fun w => decide (w ∈ lw_tbl)) = true := by decide +kernel
theorem lw_s9 : (vh_nest.all fun w => w.onTables) = true := by decide +kernel
def lw_ins : List Nat := [6, 10, 6, 7, 7, 5, 4, 8, 3, 5, 13, 54]
theorem lw_s10 : ((List.range 12).all fun i => match vwCl[i]? with | some r => decide (Cond.instantiable r.1 r.2.2 ∈ lw_tbl) | none => false) = true := by decide +kernel

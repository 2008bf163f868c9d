/-! THE LAW'S BODY, step by step over the machine's memory; the script is the machine's address 1012 -/
def lw_V (p : Program) (l : Launch) (e : Env) (s : State) (m : MethodId) (below : List Frame) (meth : Method) (c : Code) (b : Nat) (G : vh_G) (pc : Nat) (L : vh_L) (st : List Value) (w : vh_W) : Prop :=
  ∀ (H : Heap) (locs : List Loc) (ls : Array Slot), vh_rep G w H → va_S (vh_Ar G) s.heap H locs → vh_LR G ls L 4 [] →
    W p l e (vh_rm lw_row 600000 7302250) s m #[Value.ref b] below meth c H locs (w.1 - 0) (vh_SS w.1 - vh_SS 0) (lw_Z below #[Value.ref b] s) (F0 m pc ls (st.map (vh_tv G)))
theorem lw_SSb : vh_SS 122 ≤ 7302250 := by decide +kernel
theorem lw_SSw {G : vh_G} {w : vh_W} {H : Heap} (h : vh_rep G w H) : vh_SS w.1 ≤ 7302250 := Nat.le_trans (vh_SSm h.2.2) lw_SSb
def lw_ok (e : vh_O) : Bool := vh_good lw_row [] e
section LWB
variable {p : Program} {l : Launch} {e : Env} {s : State} {m : MethodId} {below : List Frame} {meth : Method} {c : Code} {b : Nat} {G : vh_G} {pc : Nat} {L : vh_L} {st : List Value} {w : vh_W}
theorem lw_okd {i : Instr} {x pp : Nat} (h : lw_ok (pc, i, x, pp) = true) : decode code pc = .ok (i, vh_ln i x) ∧ vh_gd lw_row.1.cls lw_row.1.name 4 14 514 [] (pc, i, x, pp) = true := by
  have h : (decide (decode code pc = .ok (i, vh_ln i x)) && vh_gd lw_row.1.cls lw_row.1.name 4 14 514 [] (pc, i, x, pp)) = true := h
  rw [Bool.and_eq_true] at h
  exact ⟨of_decide_eq_true h.1, h.2⟩
theorem lw_st (C : vh_Cx G lw_row p s m #[Value.ref b] meth c) {i : Instr} {x pp pc' : Nat} {L' : vh_L} {st' : List Value} {w' : vh_W} (hk : lw_ok (pc, i, x, pp) = true) (hna : vh_alloc i = false) (h : vh_act 0 (pc, i, x, pp) L st w = some (.inl (pc', L', st', w')))
    (k : lw_V p l e s m below meth c b G pc' L' st' w') : lw_V p l e s m below meth c b G pc L st w := by
  intro H locs ls hr hS hL
  obtain ⟨hd, hg⟩ := lw_okd hk
  have hb : w.1 - 0 ≤ 600000 := by have := hr.2.2; omega
  have hs : vh_SS w.1 - vh_SS 0 ≤ 7302250 := Nat.le_trans (Nat.sub_le _ _) (lw_SSw hr)
  refine vh_step (row := lw_row) (R := vh_rm lw_row 600000 7302250) (j := 0) (pp := pp) C hd hg hb hs hna h hr hS hL (fun hN H' locs' ls' hr' hS' hL' => ?_)
  have K := k H' locs' ls' hr' hS' hL'
  have hN : w'.1 = w.1 := hN
  rw [hN] at K
  exact K
theorem lw_nob (C : vh_Cx G lw_row p s m #[Value.ref b] meth c) (hG : s.heap.size = G.1) {idx x pp : Nat} (hk : lw_ok (pc, .new idx, x, pp) = true) (hkd : (Nat.beq (vh_kd w.1).1 x && Nat.blt x 12) = true)
    (k : lw_V p l e s m below meth c b G (pc + 3) L (.ref w.1 :: st) (vh_new w)) : lw_V p l e s m below meth c b G pc L st w := by
  intro H locs ls hr hS hL
  obtain ⟨hd, hg⟩ := lw_okd hk
  have hact : vh_nob (pc + 3) x L st w = some (.inl (pc + 3, L, .ref w.1 :: st, vh_new w)) := by
    unfold vh_nob
    rw [hkd]
    rfl
  have hb : w.1 - 0 + 1 ≤ 600000 := by have := hr.2.2; omega
  have hlt : w.1 < 122 := by
    rw [Bool.and_eq_true] at hkd
    have h1 := Nat.eq_of_beq_eq_true hkd.1
    have h2 := Nat.blt_eq.mp hkd.2
    exact vh_kd122 (by omega)
  have hss : vh_SS (w.1 + 1) ≤ 7302250 := Nat.le_trans (vh_SSm hlt) lw_SSb
  have hs : vh_SS w.1 - vh_SS 0 + (vh_kd w.1).2 ≤ 7302250 := by
    have h0 : vh_SS 0 = 0 := rfl
    have h1 : vh_SS (w.1 + 1) = vh_SS w.1 + (vh_kd w.1).2 := rfl
    omega
  refine vh_s_nob (row := lw_row) (R := vh_rm lw_row 600000 7302250) (n0 := 0) C hd hg hact (Nat.zero_le _) (by rw [hG]; rfl) rfl hb hs hr hS hL (fun hN H' locs' ls' hr' hS' hL' => ?_)
  have K := k H' locs' ls' hr' hS' hL'
  have e1 : (vh_new w).1 = w.1 + 1 := rfl
  have e2 : vh_SS (vh_new w).1 - vh_SS 0 = vh_SS w.1 - vh_SS 0 + (vh_kd w.1).2 := rfl
  rw [e2, e1] at K
  exact K
theorem lw_call (C : vh_Cx G lw_row p s m #[Value.ref b] meth c) (hG : s.heap.size = G.1) {i : Instr} {idx x pp : Nat} {row' : vh_M} {as : List Value} {v1 : Option Value} {w2 : vh_W} (hk : lw_ok (pc, i, x, pp) = true) (hln : vh_ln i x = 3) (hi : (i = .invokevirtual idx) ∨ (i = .invokespecial idx ∧ Nat.beq x 9999 = false))
    (hm : vh_mt[x]? = some row') (hlen : as.length = row'.2.2.2.2.2.2.2) (h8 : (st.map fun v => v.category).sum ≤ 8) (hack : vh_ack row'.2.2.1 (vh_lsx x) as = true)
    (hrecv : ∃ a as', as = .ref a :: as' ∧ ((row'.2.2.2.2.1 = 2 ∧ a < 1000) ∨ (bif Nat.beq (vh_mc x) 98 then Nat.ble 1000 a && Nat.blt a 1012 else vh_ok w a (vh_mc x)) = true))
    {n : Nat} (hrun : vh_run n x 0 (vh_ent row'.2.2.1 as) [] w = some (v1, w2))
    (k : lw_V p l e s m below meth c b G (pc + 3) L (v1.toList ++ st) w2) (h2 : w2.1 ≤ 122) : lw_V p l e s m below meth c b G pc L (as.reverse ++ st) w := by
  intro H locs ls hr hS hL
  obtain ⟨hd, hg⟩ := lw_okd hk
  rw [hln] at hd
  have hmo := (vh_main l G n x row' hm 0 _ [] w v1 w2 hrun).1
  have hso := vh_SSm hmo
  have hs2 : vh_SS w2.1 ≤ 7302250 := Nat.le_trans (vh_SSm h2) lw_SSb
  have e0 : vh_SS 0 = 0 := rfl
  refine vh_docall (row := lw_row) (idx := idx) (lx := []) (n0 := 0) (cR := 600000) (sR := 7302250) (pp := pp) (st := as.reverse ++ st) (st1 := st) (vh_main l G n) C hd hg (by rcases hi with h | h; exact .inl h; exact .inr (.inl h)) hm rfl hlen h8 hack (.inr hrecv) hrun (Nat.zero_le _) (by rw [hG]; rfl) hr hS hL (by omega) (by omega) (fun H1 locs1 hr1 hS1 => ?_)
  have K := k H1 locs1 ls hr1 hS1 hL
  have q1 : w.1 - 0 + (w2.1 - w.1) = w2.1 - 0 := by omega
  have q2 : vh_SS w.1 - vh_SS 0 + (vh_SS w2.1 - vh_SS w.1) = vh_SS w2.1 - vh_SS 0 := by omega
  rw [q1, q2]
  have q3 : (v1.map (vh_tv G)).toList ++ st.map (vh_tv G) = (v1.toList ++ st).map (vh_tv G) := by cases v1 <;> rfl
  rw [q3]
  exact K
end LWB

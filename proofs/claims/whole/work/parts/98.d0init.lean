/-! THE CONSTRUCTORS, run by the kernel -/
def lw_w0 : vh_W := (0, fun _ _ => none, fun _ _ => 0, fun _ _ => 0)
def lw_rg (x : Int32) (a b : Nat) : Bool := Nat.ble a x.toNatClampNeg && (Nat.ble x.toNatClampNeg b && decide (x = nI x.toNatClampNeg))
theorem lw_rg_of {x : Int32} {a b : Nat} (h : lw_rg x a b = true) : rng x a b := by
  simp only [lw_rg, Bool.and_eq_true, decide_eq_true_eq] at h
  exact ⟨_, Nat.le_of_ble_eq_true h.1, Nat.le_of_ble_eq_true h.2.1, h.2.2⟩
def lw_k1 (mi : Nat → Nat → Int32) : Bool := (List.range 8).all fun s => decide (mi 2 s = -1) && (decide (mi 96 s = -1) && (decide (mi 3 s = 0) && decide (mi 97 s = 0)))
def lw_k2 (mi : Nat → Nat → Int32) : Bool := (List.range 4).all fun h =>
  (decide (mi (6 + 4 * h) 0 = mi 89 h) && (decide (mi (6 + 4 * h) 1 = mi 90 h) && (decide (mi (6 + 4 * h) 2 = mi 91 h) && decide (mi (6 + 4 * h) 3 = mi 92 h)))) &&
  ((lw_rg (mi 89 h) 0 8 && (lw_rg (mi 90 h) 0 50 && (lw_rg (mi 91 h) 0 60 && lw_rg (mi 92 h) 0 100))) &&
  (((List.range 2).all fun f => decide (mi (7 + 4 * h) f = mi 93 (2 * h + f)) && lw_rg (mi 93 (2 * h + f)) 0 500) &&
  (((List.range 5).all fun u => decide (mi (8 + 4 * h) u = mi 94 (5 * h + u)) && lw_rg (mi 94 (5 * h + u)) 0 1000) &&
  ((List.range 5).all fun u => decide (mi (9 + 4 * h) u = mi 95 (5 * h + u)) && (lw_rg (mi 95 (5 * h + u)) 0 4 && decide (mi 95 (5 * h + u) = nI u))))))
def lw_k3 (mi : Nat → Nat → Int32) : Bool := (List.range 16).all fun k => decide (mi (47 + k) 9 = -1000000)
def lw_k4 (mi : Nat → Nat → Int32) : Bool := [(0, 11), (88, 27), (0, 12), (88, 1), (22, 1), (88, 13), (24, 6), (88, 14), (42, 5), (88, 24), (67, 4), (88, 33), (72, 4), (88, 37), (77, 4), (88, 42), (82, 3), (88, 46), (86, 1), (88, 53)].all fun q : Nat × Nat => decide (mi q.1 q.2 = 0)
def lw_k5 (r : Nat → Nat → Option Nat) : Bool := (List.range 122).all fun a => bif Nat.blt (vh_kd a).1 12 then (List.range (vh_kd a).2).all (fun k => !(Nat.beq (vh_ft (vh_kd a).1 k) 1) || decide (r a k = vh_RR 0 a k)) else bif Nat.ble 23 (vh_kd a).1 then (List.range (vh_kd a).2).all (fun k => decide (r a k = vh_RR 0 a k)) else true
def lw_chk (w : vh_W) : Bool := (Nat.beq w.1 122 && lw_k5 w.2.1) && (lw_k1 w.2.2.1 && (lw_k2 w.2.2.1 && (lw_k3 w.2.2.1 && lw_k4 w.2.2.1)))
def lw_rn1 : vh_R := vh_run 600 0 0 (vh_ent 1 [.ref 0]) [] (vh_new lw_w0)
def lw_w1 : vh_W := match lw_rn1 with | some r => r.2 | none => lw_w0
def lw_rn2 : vh_R := vh_run 600 146 0 (vh_ent 1 [.ref 88]) [] (vh_new lw_w1)
def lw_w2 : vh_W := match lw_rn2 with | some r => r.2 | none => lw_w0
theorem lw_t1 : (match lw_rn1 with | some (none, w) => Nat.beq w.1 88 | _ => false) = true := by decide +kernel
theorem lw_t2 : (match lw_rn2 with | some (none, w) => lw_chk w | _ => false) = true := by decide +kernel
theorem lw_e1 : lw_rn1 = some (none, lw_w1) ∧ lw_w1.1 = 88 := by
  have h := lw_t1
  unfold lw_w1
  split at h
  · rename_i w e
    rw [e]
    exact ⟨rfl, Nat.eq_of_beq_eq_true h⟩
  · cases h
theorem lw_e2 : lw_rn2 = some (none, lw_w2) ∧ lw_chk lw_w2 = true := by
  have h := lw_t2
  unfold lw_w2
  split at h
  · rename_i w e
    rw [e]
    exact ⟨rfl, h⟩
  · cases h

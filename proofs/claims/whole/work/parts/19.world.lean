/-! THE WORLD BEHIND THE CONSTRUCTORS -/
def vh_rrL : List (List (Option Nat)) := [[some 1, some 5, some 22, some 24, some 42, some 63, some 67, some 72, some 77, some 82, some 86, none, none], [some 2, some 3, some 4], [], [], [], [], [none, none, none, none, some 7, some 8, some 9], [], [], [], [none, none, none, none, some 11, some 12, some 13], [], [], [], [none, none, none, none, some 15, some 16, some 17], [], [], [], [none, none, none, none, some 19, some 20, some 21], [], [], [], [some 23, none, none, none, none], [], [some 22, some 5, some 25, some 26, none, none, none, none], [], [none, none, none, none, some 27, some 28, some 29], [], [], [], [none, none, none, none, some 31, some 32, some 33], [], [], [], [none, none, none, none, some 35, some 36, some 37], [], [], [], [none, none, none, none, some 39, some 40, some 41], [], [], [], [some 5, some 43, some 44, some 45, some 46, none], [], [], [], [], [], [], [], [], [], [], [], [], [], [], [], [], [], [], [], [], [some 42, some 5, some 64, some 65, some 66, none, none], [], [], [], [some 68, some 69, some 70, some 71, none], [], [], [], [], [some 73, some 74, some 75, some 76, none], [], [], [], [], [some 78, some 79, some 80, some 81, none], [], [], [], [], [some 83, some 84, some 85, none], [], [], [], [some 87, none, none, none, none, none], [], [none, none, some 89, some 90, some 91, some 92, some 93, some 94, some 95, some 96, some 97, some 98, some 99, none, none, none, none, none, none, none, none, none, none, none, none, some 100, some 101, none, some 102, some 103, some 104, some 105, none, none, some 106, some 107, some 108, none, some 109, some 110, some 111, some 112, none, some 113, some 114, some 115, none, some 116, some 117, some 118, some 119, some 120, some 121, none], [], [], [], [], [], [], [], [], [], [], [], [], [], [], [], [], [], [], [], [], [], [], [], [], [], [], [], [], [], [], [], [], []]
def vh_RR (d : Nat) (a k : Nat) : Option Nat :=
  bif Nat.beq a 43 then (bif Nat.blt k 16 then some (47 + k) else none)
  else bif Nat.beq a 5 then (bif Nat.blt k 4 then some (6 + 4 * k) else none)
  else bif Nat.beq a 25 then (bif Nat.blt k 4 then some (26 + 4 * k) else none)
  else bif Nat.beq a 24 && Nat.beq k 3 then some (26 + 4 * d)
  else (vh_rrL.getD a []).getD k none
def vh_K (d : Nat) (mi : Nat → Nat → Int32) (ml : Nat → Nat → Int64) : vh_W := (122, vh_RR d, mi, ml)
def vh_okk (a c : Nat) : Bool := Nat.blt a 122 && Nat.beq (vh_kd a).1 c
def vh_ixa (a : Nat) (i : Int32) : Bool := vh_ix i (vh_kd a).2
section VHK
variable {L : vh_L} {st : List Value} {w : vh_W} {pc x a d : Nat} {mi : Nat → Nat → Int32} {ml : Nat → Nat → Int64} {i v : Int32}
theorem vh_idq {f : Int32 → Int32 → Int32} {x y : Int32} (h : ¬ y = 0) : vh_id f pc L (.int y :: .int x :: st) w = some (.inl (pc, L, .int (f x y) :: st, w)) := by
  unfold vh_id
  simp only [h, if_false]
  rfl
theorem vh_gSv (h : (Nat.ble 1000 a && Nat.blt a 1012) = true) : vh_get pc 5000 L (.ref a :: st) w = some (.inl (pc, L, .ref (a + 1000) :: st, w)) := by
  unfold vh_get
  simp only [show Nat.beq 5000 5000 = true from rfl, h, cond_true]
  rfl
theorem vh_gSc (h : (Nat.ble 1000 a && Nat.blt a 1012) = true) : vh_get pc 5001 L (.ref a :: st) w = some (.inl (pc, L, .int 0 :: st, w)) := by
  unfold vh_get
  simp only [show Nat.beq 5001 5000 = false from rfl, show Nat.beq 5001 5001 = true from rfl, h, cond_true, cond_false]
  rfl
theorem vh_gI (h : vh_okk a (x / 64) = true) (h1 : Nat.beq x 5000 = false) (h2 : Nat.beq x 5001 = false) (h3 : Nat.beq (vh_ft (x / 64) (x % 64)) 1 = false) : vh_get pc x L (.ref a :: st) (vh_K d mi ml) = some (.inl (pc, L, .int (mi a (x % 64)) :: st, vh_K d mi ml)) := by
  have h : vh_ok (vh_K d mi ml) a (x / 64) = true := h
  unfold vh_get
  simp only [h1, h2, h3, h, cond_true, cond_false]
  rfl
theorem vh_gR (h : vh_okk a (x / 64) = true) (h1 : Nat.beq x 5000 = false) (h2 : Nat.beq x 5001 = false) (h3 : Nat.beq (vh_ft (x / 64) (x % 64)) 1 = true) : vh_get pc x L (.ref a :: st) (vh_K d mi ml) = some (.inl (pc, L, va_rf (vh_RR d a (x % 64)) :: st, vh_K d mi ml)) := by
  have h : vh_ok (vh_K d mi ml) a (x / 64) = true := h
  unfold vh_get
  simp only [h1, h2, h3, h, cond_true, cond_false]
  rfl
theorem vh_pI (h : vh_okk a (x / 64) = true) (h3 : Nat.beq (vh_ft (x / 64) (x % 64)) 0 = true) : vh_put pc x L (.int v :: .ref a :: st) (vh_K d mi ml) = some (.inl (pc, L, st, vh_K d (vh_sA mi a (upd (mi a) (x % 64) v)) ml)) := by
  have h : vh_ok (vh_K d mi ml) a (x / 64) = true := h
  unfold vh_put
  simp only [h3, h, Bool.true_or, Bool.and_true, cond_true]
  rfl
theorem vh_pZ (h : vh_okk a (x / 64) = true) (h3 : Nat.beq (vh_ft (x / 64) (x % 64)) 2 = true) (h4 : fits .boolean (.int v) = true) : vh_put pc x L (.int v :: .ref a :: st) (vh_K d mi ml) = some (.inl (pc, L, st, vh_K d (vh_sA mi a (upd (mi a) (x % 64) v)) ml)) := by
  have h : vh_ok (vh_K d mi ml) a (x / 64) = true := h
  unfold vh_put
  simp only [h3, h, h4, Bool.and_true, Bool.or_true, cond_true]
  rfl
theorem vh_rrS (d e : Nat) : vh_sA (vh_RR d) 24 (va_up (vh_RR d 24) 3 (some (26 + 4 * e))) = vh_RR e := by
  funext a k
  unfold vh_sA va_up
  by_cases h : a = 24
  · subst h
    rw [if_pos rfl]
    by_cases hk : k = 3
    · subst hk
      rfl
    · rw [if_neg hk]
      have : Nat.beq k 3 = false := by
        cases hb : Nat.beq k 3 with
        | false => rfl
        | true => exact absurd (Nat.eq_of_beq_eq_true hb) hk
      unfold vh_RR
      rw [this]
      rfl
  · rw [if_neg h]
    have : Nat.beq a 24 = false := by
      cases hb : Nat.beq a 24 with
      | false => rfl
      | true => exact absurd (Nat.eq_of_beq_eq_true hb) h
    unfold vh_RR
    rw [this]
    rfl
theorem vh_pD {v : Nat} (h : v < 4) : vh_put pc 451 L (.ref (26 + 4 * v) :: .ref 24 :: st) (vh_K d mi ml) = some (.inl (pc, L, st, vh_K v mi ml)) := by
  have h1 : Nat.blt (26 + 4 * v) 1000 = true := Nat.blt_eq.mpr (by omega)
  unfold vh_put
  show (bif (true && (true && Nat.blt (26 + 4 * v) 1000)) then vh_nx pc L st (vh_sR (vh_K d mi ml) 24 (va_up (vh_RR d 24) 3 (some (26 + 4 * v)))) else none) = _
  rw [h1]
  show some (Sum.inl (pc, L, st, ((122, vh_sA (vh_RR d) 24 (va_up (vh_RR d 24) 3 (some (26 + 4 * v))), mi, ml) : vh_W))) = _
  rw [vh_rrS]
  rfl
theorem vh_xget {j idx p : Nat} : vh_act j (pc, .getfield idx, x, p) L st w = vh_get (pc + 3) x L st w := rfl
theorem vh_xgI {j idx p : Nat} (h : vh_okk a (x / 64) = true) (h1 : Nat.beq x 5000 = false) (h2 : Nat.beq x 5001 = false) (h3 : Nat.beq (vh_ft (x / 64) (x % 64)) 1 = false) : vh_act j (pc, .getfield idx, x, p) L (.ref a :: st) (vh_K d mi ml) = some (.inl (pc + 3, L, .int (mi a (x % 64)) :: st, vh_K d mi ml)) := vh_gI h h1 h2 h3
theorem vh_xgR {j idx p : Nat} (h : vh_okk a (x / 64) = true) (h1 : Nat.beq x 5000 = false) (h2 : Nat.beq x 5001 = false) (h3 : Nat.beq (vh_ft (x / 64) (x % 64)) 1 = true) : vh_act j (pc, .getfield idx, x, p) L (.ref a :: st) (vh_K d mi ml) = some (.inl (pc + 3, L, va_rf (vh_RR d a (x % 64)) :: st, vh_K d mi ml)) := vh_gR h h1 h2 h3
theorem vh_xpI {j idx p : Nat} (h : vh_okk a (x / 64) = true) (h3 : Nat.beq (vh_ft (x / 64) (x % 64)) 0 = true) : vh_act j (pc, .putfield idx, x, p) L (.int v :: .ref a :: st) (vh_K d mi ml) = some (.inl (pc + 3, L, st, vh_K d (vh_sA mi a (upd (mi a) (x % 64) v)) ml)) := vh_pI h h3
theorem vh_xpZ {j idx p : Nat} (h : vh_okk a (x / 64) = true) (h3 : Nat.beq (vh_ft (x / 64) (x % 64)) 2 = true) (h4 : fits .boolean (.int v) = true) : vh_act j (pc, .putfield idx, x, p) L (.int v :: .ref a :: st) (vh_K d mi ml) = some (.inl (pc + 3, L, st, vh_K d (vh_sA mi a (upd (mi a) (x % 64) v)) ml)) := vh_pZ h h3 h4
theorem vh_xgSv {j idx p : Nat} (h : (Nat.ble 1000 a && Nat.blt a 1012) = true) : vh_act j (pc, .getfield idx, 5000, p) L (.ref a :: st) w = some (.inl (pc + 3, L, .ref (a + 1000) :: st, w)) := vh_xget.trans (vh_gSv h)
theorem vh_xgSc {j idx p : Nat} (h : (Nat.ble 1000 a && Nat.blt a 1012) = true) : vh_act j (pc, .getfield idx, 5001, p) L (.ref a :: st) w = some (.inl (pc + 3, L, .int 0 :: st, w)) := vh_xget.trans (vh_gSc h)
theorem vh_aI (h : vh_okk a 20 = true) (h2 : vh_ixa a i = true) : vh_ard pc 20 L (.int i :: .ref a :: st) (vh_K d mi ml) = some (.inl (pc, L, .int (mi a i.toNatClampNeg) :: st, vh_K d mi ml)) := by
  have h : vh_ok (vh_K d mi ml) a 20 = true := h
  have h2 : vh_ix i (vh_kd a).2 = true := h2
  unfold vh_ard
  simp only [h, h2, Bool.and_true, cond_true]
  rfl
theorem vh_aS (h : (Nat.ble 2000 a && Nat.blt a 2012) = true) (h2 : vh_ix i (vh_lenL.getD (a - 2000) 0) = true) : vh_bld pc L (.int i :: .ref a :: st) w = some (.inl (pc, L, .int ((vh_bytL.getD (a - 2000) []).getD i.toNatClampNeg 0) :: st, w)) := by
  unfold vh_bld
  simp only [h, h2, cond_true]
  rfl
theorem vh_okk_lt {c : Nat} (h : vh_okk a c = true) : a < 122 := by
  unfold vh_okk at h
  rw [Bool.and_eq_true] at h
  exact Nat.blt_eq.mp h.1
theorem vh_aZ (h : vh_okk a 21 = true) (h2 : vh_ixa a i = true) : vh_bld pc L (.int i :: .ref a :: st) (vh_K d mi ml) = some (.inl (pc, L, .int (mi a i.toNatClampNeg) :: st, vh_K d mi ml)) := by
  have h0 : Nat.ble 2000 a = false := by
    cases hb : Nat.ble 2000 a with
    | false => rfl
    | true => have := Nat.le_of_ble_eq_true hb; have := vh_okk_lt h; omega
  have h : vh_ok (vh_K d mi ml) a 21 = true := h
  have h2 : vh_ix i (vh_kd a).2 = true := h2
  unfold vh_bld
  simp only [h0, h, h2, Bool.and_true, Bool.false_and, cond_true, cond_false]
  rfl
theorem vh_aJ (h : vh_okk a 22 = true) (h2 : vh_ixa a i = true) : vh_jrd pc L (.int i :: .ref a :: st) (vh_K d mi ml) = some (.inl (pc, L, .long (ml a i.toNatClampNeg) :: st, vh_K d mi ml)) := by
  have h : vh_ok (vh_K d mi ml) a 22 = true := h
  have h2 : vh_ix i (vh_kd a).2 = true := h2
  unfold vh_jrd
  simp only [h, h2, Bool.and_true, cond_true]
  rfl
theorem vh_aR (h : (vh_okk a 23 || vh_okk a 24) = true) (h2 : vh_ixa a i = true) : vh_rrd pc L (.int i :: .ref a :: st) (vh_K d mi ml) = some (.inl (pc, L, va_rf (vh_RR d a i.toNatClampNeg) :: st, vh_K d mi ml)) := by
  have h : (vh_ok (vh_K d mi ml) a 23 || vh_ok (vh_K d mi ml) a 24) = true := h
  have h2 : vh_ix i (vh_kd a).2 = true := h2
  unfold vh_rrd
  simp only [h, h2, Bool.and_true, cond_true]
  rfl
theorem vh_wI (h : vh_okk a 20 = true) (h2 : vh_ixa a i = true) : vh_awr pc L (.int v :: .int i :: .ref a :: st) (vh_K d mi ml) = some (.inl (pc, L, st, vh_K d (vh_sA mi a (upd (mi a) i.toNatClampNeg v)) ml)) := by
  have h : vh_ok (vh_K d mi ml) a 20 = true := h
  have h2 : vh_ix i (vh_kd a).2 = true := h2
  unfold vh_awr
  simp only [h, h2, Bool.and_true, cond_true]
  rfl
theorem vh_wZ (h : vh_okk a 21 = true) (h2 : vh_ixa a i = true) : vh_bwr pc L (.int v :: .int i :: .ref a :: st) (vh_K d mi ml) = some (.inl (pc, L, st, vh_K d (vh_sA mi a (upd (mi a) i.toNatClampNeg (v &&& 1))) ml)) := by
  have h : vh_ok (vh_K d mi ml) a 21 = true := h
  have h2 : vh_ix i (vh_kd a).2 = true := h2
  unfold vh_bwr
  simp only [h, h2, Bool.and_true, cond_true]
  rfl
theorem vh_wJ {v : Int64} (h : vh_okk a 22 = true) (h2 : vh_ixa a i = true) : vh_jwr pc L (.long v :: .int i :: .ref a :: st) (vh_K d mi ml) = some (.inl (pc, L, st, vh_K d mi (vh_sA ml a (vp_updL (ml a) i.toNatClampNeg v)))) := by
  have h : vh_ok (vh_K d mi ml) a 22 = true := h
  have h2 : vh_ix i (vh_kd a).2 = true := h2
  unfold vh_jwr
  simp only [h, h2, Bool.and_true, cond_true]
  rfl
theorem vh_lS (h : (Nat.ble 2000 a && Nat.blt a 2012) = true) : vh_len pc L (.ref a :: st) w = some (.inl (pc, L, .int (Int32.ofNat (vh_lenL.getD (a - 2000) 0)) :: st, w)) := by
  unfold vh_len
  simp only [h, cond_true]
  rfl
theorem vh_cp {n dp sp : Int32} (h : vh_okk a 20 = true) (h2 : ¬ sp < 0 ∧ ¬ dp < 0 ∧ ¬ n < 0 ∧ sp.toNatClampNeg + n.toNatClampNeg ≤ (vh_kd a).2 ∧ dp.toNatClampNeg + n.toNatClampNeg ≤ (vh_kd a).2) : vh_ocp pc L [.int n, .int dp, .ref a, .int sp, .ref a] (vh_K d mi ml) = some (.inl (pc, L, [], vh_K d (vh_sA mi a (va_cpy (mi a) (mi a) sp.toNatClampNeg dp.toNatClampNeg n.toNatClampNeg)) ml)) := by
  have h : vh_ok (vh_K d mi ml) a 20 = true := h
  unfold vh_ocp
  simp only [h, decide_eq_true h2, Bool.and_true, Bool.true_and]
  rfl
theorem vh_xst {j idx p : Nat} : vh_act j (pc, .invokestatic idx, x, p) L st w = (bif Nat.beq x 9998 then vh_ocp (pc + 3) L st w else bif Nat.beq x 9997 then vh_max (fun x y => if x < y then y else x) (pc + 3) L st w else bif Nat.beq x 9996 then vh_max (fun x y => if y < x then y else x) (pc + 3) L st w else bif Nat.beq x 9995 then vh_mxj (pc + 3) L st w else vh_call (pc + 3) x L st w) := rfl
theorem vh_xcp {j idx p : Nat} {n dp sp : Int32} (hx : Nat.beq x 9998 = true) (h : vh_okk a 20 = true) (h2 : ¬ sp < 0 ∧ ¬ dp < 0 ∧ ¬ n < 0 ∧ sp.toNatClampNeg + n.toNatClampNeg ≤ (vh_kd a).2 ∧ dp.toNatClampNeg + n.toNatClampNeg ≤ (vh_kd a).2) : vh_act j (pc, .invokestatic idx, x, p) L [.int n, .int dp, .ref a, .int sp, .ref a] (vh_K d mi ml) = some (.inl (pc + 3, L, [], vh_K d (vh_sA mi a (va_cpy (mi a) (mi a) sp.toNatClampNeg dp.toNatClampNeg n.toNatClampNeg)) ml)) := by
  rw [vh_xst, hx]
  exact vh_cp h h2
theorem vh_xmx {j idx p : Nat} {y z : Int32} (h1 : Nat.beq x 9998 = false) (h2 : Nat.beq x 9997 = true) (h3 : Nat.ble ((st.map fun v => v.category).sum) 8 = true) : vh_act j (pc, .invokestatic idx, x, p) L (.int z :: .int y :: st) w = some (.inl (pc + 3, L, .int (if y < z then z else y) :: st, w)) := by
  rw [vh_xst, h1, h2]
  show (bif Nat.ble ((st.map fun v => v.category).sum) 8 then _ else none) = _
  rw [h3]
  rfl
theorem vh_xmn {j idx p : Nat} {y z : Int32} (h1 : Nat.beq x 9998 = false) (h2 : Nat.beq x 9997 = false) (h3 : Nat.beq x 9996 = true) (h4 : Nat.ble ((st.map fun v => v.category).sum) 8 = true) : vh_act j (pc, .invokestatic idx, x, p) L (.int z :: .int y :: st) w = some (.inl (pc + 3, L, .int (if z < y then z else y) :: st, w)) := by
  rw [vh_xst, h1, h2, h3]
  show (bif Nat.ble ((st.map fun v => v.category).sum) 8 then _ else none) = _
  rw [h4]
  rfl
theorem vh_xml {j idx p : Nat} {y z : Int64} (h1 : Nat.beq x 9998 = false) (h2 : Nat.beq x 9997 = false) (h3 : Nat.beq x 9996 = false) (h3' : Nat.beq x 9995 = true) (h4 : Nat.ble ((st.map fun v => v.category).sum) 8 = true) : vh_act j (pc, .invokestatic idx, x, p) L (.long z :: .long y :: st) w = some (.inl (pc + 3, L, .long (if z < y then y else z) :: st, w)) := by
  rw [vh_xst, h1, h2, h3, h3']
  show (bif Nat.ble ((st.map fun v => v.category).sum) 8 then _ else none) = _
  rw [h4]
  rfl
theorem vh_clV {k mL kd fr lo na : Nat} {y : MethodName} {b : ByteArray} {rt : Option FieldType} {as rest : List Value} (hm : vh_mt[k]? = some (y, b, mL, rt, kd, fr, lo, na)) (h1 : ((Nat.ble na st.length && Nat.ble (((st.drop na).map fun v => v.category).sum) 8) && vh_ack mL (vh_lsL.getD k []) (st.take na).reverse) = true) (h2 : ((st.take na).reverse, st.drop na) = (.ref a :: as, rest))
    (h3 : (bif Nat.beq (vh_mc k) 98 then Nat.ble 1000 a && Nat.blt a 1012 else vh_ok w a (vh_mc k)) = true) : vh_call pc k L st w = some (.inr (.inr (k, .ref a :: as, w, pc, L, rest))) := by
  unfold vh_call
  rw [hm]
  simp only [h1, cond_true]
  cases h2' : (st.take na).reverse with
  | nil => rw [h2'] at h2; cases h2
  | cons u us =>
    rw [h2'] at h2
    cases h2
    simp only [h3, Bool.or_true, cond_true]
theorem vh_clR {k mL fr lo na : Nat} {y : MethodName} {b : ByteArray} {rt : Option FieldType} {as rest : List Value} (hm : vh_mt[k]? = some (y, b, mL, rt, 0, fr, lo, na)) (h1 : ((Nat.ble na st.length && Nat.ble (((st.drop na).map fun v => v.category).sum) 8) && vh_ack mL (vh_lsL.getD k []) (st.take na).reverse) = true) (h2 : (st.take na).reverse = .ref a :: as) (h4 : st.drop na = rest) : vh_call pc k L st w = some (.inr (.inr (k, .ref a :: as, w, pc, L, rest))) := by
  subst h4
  unfold vh_call
  rw [hm]
  simp only [h1, cond_true]
  rw [h2]
  rfl
theorem vh_clS {k mL fr lo na : Nat} {y : MethodName} {b : ByteArray} {rt : Option FieldType} {as rest : List Value} (hm : vh_mt[k]? = some (y, b, mL, rt, 0, fr, lo, na)) (h1 : ((Nat.ble na st.length && Nat.ble (((st.drop na).map fun v => v.category).sum) 8) && vh_ack mL (vh_lsL.getD k []) (st.take na).reverse) = true) (h2 : (st.take na).reverse = as) (h4 : st.drop na = rest) : vh_call pc k L st w = some (.inr (.inr (k, as, w, pc, L, rest))) := by
  subst h4
  subst h2
  unfold vh_call
  rw [hm]
  simp only [h1, cond_true]
  split <;> rename_i q
  · rw [← q]; rfl
  · rfl
theorem vh_riI {j : Nat} (h : vh_rty j = some .int) : vh_ret (vh_rty j) [.int v] w = some (.inr (.inl (some (.int v), w))) := by
  rw [h]
  unfold vh_ret
  simp only
  rw [if_pos (show narrow .int (.int v) = .int v from rfl)]
  rfl
theorem vh_riZ {j : Nat} (h : vh_rty j = some .boolean) (hv : v &&& 1 = v) : vh_ret (vh_rty j) [.int v] w = some (.inr (.inl (some (.int v), w))) := by
  rw [h]
  unfold vh_ret
  simp only
  rw [if_pos (by show Value.int (v &&& 1) = _; rw [hv])]
  rfl
theorem vh_riN {j : Nat} {ty : FieldType} (h : vh_rty j = some ty) (hv : narrow ty (.int v) = .int v) : vh_ret (vh_rty j) [.int v] w = some (.inr (.inl (some (.int v), w))) := by
  rw [h]
  unfold vh_ret
  simp only
  rw [if_pos hv]
  rfl
theorem vh_riJ {j : Nat} {v : Int64} (h : vh_rty j = some .long) : vh_lrt (vh_rty j) [.long v] w = some (.inr (.inl (some (.long v), w))) := by
  rw [h]
  rfl
theorem vh_riR {j : Nat} {C : String} {v : Nat} (h : vh_rty j = some (.object C)) (hv : Nat.blt v 1000 = true) : vh_art (vh_rty j) [.ref v] w = some (.inr (.inl (some (.ref v), w))) := by
  rw [h]
  unfold vh_art
  simp only [hv, cond_true]
  rfl
theorem vh_riV {j : Nat} (h : vh_rty j = none) : vh_vrt (vh_rty j) [] w = some (.inr (.inl (none, w))) := by
  rw [h]
  rfl
end VHK

/-! THE MACHINE: a small deterministic reading of the bytecode over a flat memory. Addresses: below 1000 the cells that the law makes, in the order of making; 1000 + i the i-th String constant, 2000 + i its bytes; 3000 the formatter. -/
abbrev vh_L : Type := List (Option Value)
abbrev vh_W : Type := Nat × (Nat → Nat → Option Nat) × (Nat → Nat → Int32) × (Nat → Nat → Int64)
abbrev vh_A : Type := (Nat × vh_L × List Value × vh_W) ⊕ ((Option Value × vh_W) ⊕ (Nat × List Value × vh_W × Nat × vh_L × List Value))
def vh_kd (a : Nat) : Nat × Nat := vh_kdL.getD a (99, 0)
def vh_ft (c k : Nat) : Nat := (vh_ftL.getD c []).getD k 9
def vh_ok (w : vh_W) (a c : Nat) : Bool := Nat.blt a w.1 && Nat.beq (vh_kd a).1 c
def vh_ix (i : Int32) (n : Nat) : Bool := decide (¬ (i < 0 ∨ n ≤ i.toNatClampNeg))
def vh_sA {α : Type} (m : Nat → α) (a : Nat) (f : α) : Nat → α := fun c => if c = a then f else m c
def vh_sI (w : vh_W) (a : Nat) (f : Nat → Int32) : vh_W := (w.1, w.2.1, vh_sA w.2.2.1 a f, w.2.2.2)
def vh_sJ (w : vh_W) (a : Nat) (f : Nat → Int64) : vh_W := (w.1, w.2.1, w.2.2.1, vh_sA w.2.2.2 a f)
def vh_sR (w : vh_W) (a : Nat) (f : Nat → Option Nat) : vh_W := (w.1, vh_sA w.2.1 a f, w.2.2.1, w.2.2.2)
def vh_new (w : vh_W) : vh_W := (w.1 + 1, vh_sA w.2.1 w.1 (fun _ => none), vh_sA w.2.2.1 w.1 (fun _ => 0), vh_sA w.2.2.2 w.1 (fun _ => 0))
def vh_nx (pc : Nat) (L : vh_L) (st : List Value) (w : vh_W) : Option vh_A := some (.inl (pc, L, st, w))
def vh_rt (v : Option Value) (w : vh_W) : Option vh_A := some (.inr (.inl (v, w)))
def vh_br (pc tgt : Nat) (c : Prop) [Decidable c] (L : vh_L) (st : List Value) (w : vh_W) : Option vh_A := vh_nx (if c then tgt else pc + 3) L st w
def vh_ild (pc k : Nat) (L : vh_L) (st : List Value) (w : vh_W) : Option vh_A := match L.getD k none with
  | some (.int v) => vh_nx pc L (.int v :: st) w
  | _ => none
def vh_lld (pc k : Nat) (L : vh_L) (st : List Value) (w : vh_W) : Option vh_A := match L.getD k none with
  | some (.long v) => vh_nx pc L (.long v :: st) w
  | _ => none
def vh_ald (pc k : Nat) (L : vh_L) (st : List Value) (w : vh_W) : Option vh_A := match L.getD k none with
  | some (.ref v) => vh_nx pc L (.ref v :: st) w
  | _ => none
def vh_ist (pc k : Nat) (L : vh_L) (st : List Value) (w : vh_W) : Option vh_A := match st with
  | .int v :: r => vh_nx pc (L.set k (some (.int v))) r w
  | _ => none
def vh_lst (pc k : Nat) (L : vh_L) (st : List Value) (w : vh_W) : Option vh_A := match st with
  | .long v :: r => vh_nx pc ((L.set k (some (.long v))).set (k + 1) none) r w
  | _ => none
def vh_ast (pc k : Nat) (L : vh_L) (st : List Value) (w : vh_W) : Option vh_A := match st with
  | .ref v :: r => vh_nx pc (L.set k (some (.ref v))) r w
  | _ => none
def vh_inc (pc k : Nat) (n : Int) (L : vh_L) (st : List Value) (w : vh_W) : Option vh_A := match L.getD k none with
  | some (.int v) => vh_nx pc (L.set k (some (.int (v + Int32.ofInt n)))) st w
  | _ => none
def vh_ib (f : Int32 → Int32 → Int32) (pc : Nat) (L : vh_L) (st : List Value) (w : vh_W) : Option vh_A := match st with
  | .int y :: .int x :: r => vh_nx pc L (.int (f x y) :: r) w
  | _ => none
def vh_id (f : Int32 → Int32 → Int32) (pc : Nat) (L : vh_L) (st : List Value) (w : vh_W) : Option vh_A := match st with
  | .int y :: .int x :: r => if y = 0 then none else vh_nx pc L (.int (f x y) :: r) w
  | _ => none
def vh_lb (f : Int64 → Int64 → Int64) (pc : Nat) (L : vh_L) (st : List Value) (w : vh_W) : Option vh_A := match st with
  | .long y :: .long x :: r => vh_nx pc L (.long (f x y) :: r) w
  | _ => none
def vh_ls (f : Int64 → Int32 → Int64) (pc : Nat) (L : vh_L) (st : List Value) (w : vh_W) : Option vh_A := match st with
  | .int y :: .long x :: r => vh_nx pc L (.long (f x y) :: r) w
  | _ => none
def vh_iu (f : Int32 → Int32) (pc : Nat) (L : vh_L) (st : List Value) (w : vh_W) : Option vh_A := match st with
  | .int x :: r => vh_nx pc L (.int (f x) :: r) w
  | _ => none
def vh_lu (f : Int64 → Int64) (pc : Nat) (L : vh_L) (st : List Value) (w : vh_W) : Option vh_A := match st with
  | .long x :: r => vh_nx pc L (.long (f x) :: r) w
  | _ => none
def vh_i1 (pc tgt : Nat) (c : ClassFile.Cond) (L : vh_L) (st : List Value) (w : vh_W) : Option vh_A := match st with
  | .int x :: r => match c with
    | .eq => vh_br pc tgt (x = 0) L r w
    | .ne => vh_br pc tgt (¬ x = 0) L r w
    | .lt => vh_br pc tgt (x < 0) L r w
    | .ge => vh_br pc tgt (0 ≤ x) L r w
    | .gt => vh_br pc tgt (0 < x) L r w
    | .le => vh_br pc tgt (x ≤ 0) L r w
  | _ => none
def vh_i2 (pc tgt : Nat) (c : ClassFile.Cond) (L : vh_L) (st : List Value) (w : vh_W) : Option vh_A := match st with
  | .int y :: .int x :: r => match c with
    | .eq => vh_br pc tgt (x = y) L r w
    | .ne => vh_br pc tgt (¬ x = y) L r w
    | .lt => vh_br pc tgt (x < y) L r w
    | .ge => vh_br pc tgt (y ≤ x) L r w
    | .gt => vh_br pc tgt (y < x) L r w
    | .le => vh_br pc tgt (x ≤ y) L r w
  | _ => none
def vh_swt (pc : Nat) (d lo hi : Int) (offs : Array Int) (v : Int) : Nat := if v < lo ∨ hi < v then ((pc : Int) + d).toNat else ((pc : Int) + offs.getD (v - lo).toNat 0).toNat
def vh_tsw (pc : Nat) (d lo hi : Int) (offs : Array Int) (L : vh_L) (st : List Value) (w : vh_W) : Option vh_A := match st with
  | .int x :: r => vh_nx (vh_swt pc d lo hi offs x.toInt) L r w
  | _ => none
def vh_get (pc x : Nat) (L : vh_L) (st : List Value) (w : vh_W) : Option vh_A := match st with
  | .ref a :: r =>
    bif Nat.beq x 5000 then (bif Nat.ble 1000 a && Nat.blt a 1012 then vh_nx pc L (.ref (a + 1000) :: r) w else none)
    else bif Nat.beq x 5001 then (bif Nat.ble 1000 a && Nat.blt a 1012 then vh_nx pc L (.int 0 :: r) w else none)
    else bif vh_ok w a (x / 64) then
      (bif Nat.beq (vh_ft (x / 64) (x % 64)) 1 then vh_nx pc L (va_rf (w.2.1 a (x % 64)) :: r) w else vh_nx pc L (.int (w.2.2.1 a (x % 64)) :: r) w)
    else none
  | _ => none
def vh_put (pc x : Nat) (L : vh_L) (st : List Value) (w : vh_W) : Option vh_A := match st with
  | .int v :: .ref a :: r =>
    bif vh_ok w a (x / 64) && (Nat.beq (vh_ft (x / 64) (x % 64)) 0 || (Nat.beq (vh_ft (x / 64) (x % 64)) 2 && fits .boolean (.int v))) then vh_nx pc L r (vh_sI w a (upd (w.2.2.1 a) (x % 64) v)) else none
  | .ref v :: .ref a :: r =>
    bif vh_ok w a (x / 64) && (Nat.beq (vh_ft (x / 64) (x % 64)) 1 && Nat.blt v 1000) then vh_nx pc L r (vh_sR w a (va_up (w.2.1 a) (x % 64) (some v))) else none
  | _ => none
def vh_ard (pc c : Nat) (L : vh_L) (st : List Value) (w : vh_W) : Option vh_A := match st with
  | .int i :: .ref a :: r => bif vh_ok w a c && vh_ix i (vh_kd a).2 then vh_nx pc L (.int (w.2.2.1 a i.toNatClampNeg) :: r) w else none
  | _ => none
def vh_bld (pc : Nat) (L : vh_L) (st : List Value) (w : vh_W) : Option vh_A := match st with
  | .int i :: .ref a :: r =>
    bif Nat.ble 2000 a && Nat.blt a 2012 then (bif vh_ix i (vh_lenL.getD (a - 2000) 0) then vh_nx pc L (.int ((vh_bytL.getD (a - 2000) []).getD i.toNatClampNeg 0) :: r) w else none)
    else bif vh_ok w a 21 && vh_ix i (vh_kd a).2 then vh_nx pc L (.int (w.2.2.1 a i.toNatClampNeg) :: r) w else none
  | _ => none
def vh_jrd (pc : Nat) (L : vh_L) (st : List Value) (w : vh_W) : Option vh_A := match st with
  | .int i :: .ref a :: r => bif vh_ok w a 22 && vh_ix i (vh_kd a).2 then vh_nx pc L (.long (w.2.2.2 a i.toNatClampNeg) :: r) w else none
  | _ => none
def vh_rrd (pc : Nat) (L : vh_L) (st : List Value) (w : vh_W) : Option vh_A := match st with
  | .int i :: .ref a :: r => bif (vh_ok w a 23 || vh_ok w a 24) && vh_ix i (vh_kd a).2 then vh_nx pc L (va_rf (w.2.1 a i.toNatClampNeg) :: r) w else none
  | _ => none
def vh_awr (pc : Nat) (L : vh_L) (st : List Value) (w : vh_W) : Option vh_A := match st with
  | .int v :: .int i :: .ref a :: r => bif vh_ok w a 20 && vh_ix i (vh_kd a).2 then vh_nx pc L r (vh_sI w a (upd (w.2.2.1 a) i.toNatClampNeg v)) else none
  | _ => none
def vh_bwr (pc : Nat) (L : vh_L) (st : List Value) (w : vh_W) : Option vh_A := match st with
  | .int v :: .int i :: .ref a :: r => bif vh_ok w a 21 && vh_ix i (vh_kd a).2 then vh_nx pc L r (vh_sI w a (upd (w.2.2.1 a) i.toNatClampNeg (vp_nar .boolean v))) else none
  | _ => none
def vh_jwr (pc : Nat) (L : vh_L) (st : List Value) (w : vh_W) : Option vh_A := match st with
  | .long v :: .int i :: .ref a :: r => bif vh_ok w a 22 && vh_ix i (vh_kd a).2 then vh_nx pc L r (vh_sJ w a (vp_updL (w.2.2.2 a) i.toNatClampNeg v)) else none
  | _ => none
def vh_rwr (pc : Nat) (L : vh_L) (st : List Value) (w : vh_W) : Option vh_A := match st with
  | .ref v :: .int i :: .ref a :: r => bif ((vh_ok w a 23 && vh_ok w v 4) || (vh_ok w a 24 && vh_ok w v 1)) && (vh_ix i (vh_kd a).2 && Nat.blt v 1000) then vh_nx pc L r (vh_sR w a (va_up (w.2.1 a) i.toNatClampNeg (some v))) else none
  | _ => none
def vh_len (pc : Nat) (L : vh_L) (st : List Value) (w : vh_W) : Option vh_A := match st with
  | .ref a :: r => bif Nat.ble 2000 a && Nat.blt a 2012 then vh_nx pc L (.int (Int32.ofNat (vh_lenL.getD (a - 2000) 0)) :: r) w else none
  | _ => none
def vh_nob (pc x : Nat) (L : vh_L) (st : List Value) (w : vh_W) : Option vh_A :=
  bif Nat.beq (vh_kd w.1).1 x && Nat.blt x 12 then vh_nx pc L (.ref w.1 :: st) (vh_new w) else none
def vh_nar (pc x : Nat) (L : vh_L) (st : List Value) (w : vh_W) : Option vh_A := match st with
  | .int n :: r => bif (Nat.beq (vh_kd w.1).1 x && Nat.beq (vh_kd w.1).2 n.toNatClampNeg) && (decide (¬ n < 0) && Nat.blt w.1 1000) then vh_nx pc L (.ref w.1 :: r) (vh_new w) else none
  | _ => none
def vh_a1 (v : Value) : vh_L := match v with
  | .long x => [some (.long x), none]
  | v => [some v]
def vh_dbl (v : Value) : Bool := match v with
  | .double _ => true
  | _ => false
def vh_c2 (lx : List Nat) : Nat → vh_L → Bool
  | _, [] => true
  | i, none :: l => vh_c2 lx (i + 1) l
  | i, some v :: l => (Nat.beq v.category 1 || lx.elem i) && vh_c2 lx (i + 1) l
def vh_ack (mL : Nat) (lx : List Nat) (as : List Value) : Bool := Nat.ble (as.flatMap vh_a1).length mL && (as.all (fun v => !vh_dbl v) && vh_c2 lx 0 (as.flatMap vh_a1))
def vh_call (pc x : Nat) (L : vh_L) (st : List Value) (w : vh_W) : Option vh_A :=
  match vh_mt[x]? with
  | none => none
  | some (_, _, mL, _, kd, _, _, na) =>
    bif (Nat.ble na st.length && Nat.ble ((st.drop na).map fun v => v.category).sum 8) && vh_ack mL (vh_lsL.getD x []) (st.take na).reverse then
      (match (st.take na).reverse with
      | .ref a :: as => bif Nat.beq kd 0 || ((Nat.beq kd 2 && Nat.blt a 1000) || (bif Nat.beq (vh_mc x) 98 then Nat.ble 1000 a && Nat.blt a 1012 else vh_ok w a (vh_mc x))) then some (.inr (.inr (x, .ref a :: as, w, pc, L, st.drop na))) else none
      | as => bif Nat.beq kd 0 then some (.inr (.inr (x, as, w, pc, L, st.drop na))) else none)
    else none
def vh_ocp (pc : Nat) (L : vh_L) (st : List Value) (w : vh_W) : Option vh_A := match st with
  | .int n :: .int dp :: .ref b :: .int sp :: .ref a :: r =>
    bif (vh_ok w a 20 && vh_ok w b 20) && (decide (¬ sp < 0 ∧ ¬ dp < 0 ∧ ¬ n < 0 ∧ sp.toNatClampNeg + n.toNatClampNeg ≤ (vh_kd a).2 ∧ dp.toNatClampNeg + n.toNatClampNeg ≤ (vh_kd b).2) && Nat.ble ((r.map fun v => v.category).sum) 8) then
      vh_nx pc L r (vh_sI w b (va_cpy (w.2.2.1 a) (w.2.2.1 b) sp.toNatClampNeg dp.toNatClampNeg n.toNatClampNeg)) else none
  | _ => none
def vh_max (f : Int32 → Int32 → Int32) (pc : Nat) (L : vh_L) (st : List Value) (w : vh_W) : Option vh_A := match st with
  | .int y :: .int x :: r => bif Nat.ble ((r.map fun v => v.category).sum) 8 then vh_nx pc L (.int (f x y) :: r) w else none
  | _ => none
def vh_mxj (pc : Nat) (L : vh_L) (st : List Value) (w : vh_W) : Option vh_A := match st with
  | .long y :: .long x :: r => bif Nat.ble ((r.map fun v => v.category).sum) 8 then vh_nx pc L (.long (if y < x then x else y) :: r) w else none
  | _ => none
def vh_obj (pc : Nat) (L : vh_L) (st : List Value) (w : vh_W) : Option vh_A := match st with
  | .ref a :: r => bif Nat.blt a 1000 && Nat.ble ((r.map fun v => v.category).sum) 8 then vh_nx pc L r w else none
  | _ => none
def vh_ret (rt : Option FieldType) (st : List Value) (w : vh_W) : Option vh_A := match st, rt with
  | [.int v], some ty => if narrow ty (.int v) = .int v then vh_rt (some (.int v)) w else none
  | _, _ => none
def vh_lrt (rt : Option FieldType) (st : List Value) (w : vh_W) : Option vh_A := match st, rt with
  | [.long v], some .long => vh_rt (some (.long v)) w
  | _, _ => none
def vh_art (rt : Option FieldType) (st : List Value) (w : vh_W) : Option vh_A := match st, rt with
  | [.ref a], some (.object C) => bif Nat.blt a 1000 then vh_rt (some (.ref a)) w else none
  | [.ref a], some (.array C) => bif Nat.blt a 1000 then vh_rt (some (.ref a)) w else none
  | _, _ => none
def vh_vrt (rt : Option FieldType) (st : List Value) (w : vh_W) : Option vh_A := match st, rt with
  | [], none => vh_rt none w
  | _, _ => none
def vh_rty (j : Nat) : Option FieldType := match vh_mt[j]? with
  | some (_, _, _, r, _) => r
  | none => none
def vh_mxl (j : Nat) : Nat := match vh_mt[j]? with
  | some (_, _, m, _) => m
  | none => 0
def vh_act (j : Nat) (e : vh_O) (L : vh_L) (st : List Value) (w : vh_W) : Option vh_A :=
  match e with
  | (pc, i, x, _) =>
  match i with
  | .iconst n => vh_nx (pc + 1) L (.int (Int32.ofInt n) :: st) w
  | .bipush n => vh_nx (pc + 2) L (.int (Int8.ofInt n).toInt32 :: st) w
  | .sipush n => vh_nx (pc + 3) L (.int (Int16.ofInt n).toInt32 :: st) w
  | .lconst n => vh_nx (pc + 1) L (.long (Int64.ofNat (n : Nat)) :: st) w
  | .ldc _ => bif Nat.blt x 1000 then vh_nx (pc + 2) L (.int (vh_kiL.getD x 0) :: st) w else (bif Nat.blt x 1012 then vh_nx (pc + 2) L (.ref x :: st) w else none)
  | .ldc_w _ => vh_nx (pc + 3) L (.int (vh_kiL.getD x 0) :: st) w
  | .ldc2_w _ => vh_nx (pc + 3) L (.long (vh_kjL.getD x 0) :: st) w
  | .iload k => vh_ild (pc + 2) k L st w
  | .iload_n k => vh_ild (pc + 1) k L st w
  | .lload k => vh_lld (pc + 2) k L st w
  | .lload_n k => vh_lld (pc + 1) k L st w
  | .aload k => vh_ald (pc + 2) k L st w
  | .aload_n k => vh_ald (pc + 1) k L st w
  | .istore k => vh_ist (pc + 2) k L st w
  | .istore_n k => vh_ist (pc + 1) k L st w
  | .lstore k => vh_lst (pc + 2) k L st w
  | .lstore_n k => vh_lst (pc + 1) k L st w
  | .astore k => vh_ast (pc + 2) k L st w
  | .astore_n k => vh_ast (pc + 1) k L st w
  | .iinc k n => vh_inc (pc + 3) k n L st w
  | .iadd => vh_ib (fun x y => x + y) (pc + 1) L st w
  | .isub => vh_ib (fun x y => x - y) (pc + 1) L st w
  | .imul => vh_ib (fun x y => x * y) (pc + 1) L st w
  | .iand => vh_ib (fun x y => x &&& y) (pc + 1) L st w
  | .ior => vh_ib (fun x y => x ||| y) (pc + 1) L st w
  | .ixor => vh_ib (fun x y => x ^^^ y) (pc + 1) L st w
  | .ishl => vh_ib (fun x y => x <<< (y &&& 31)) (pc + 1) L st w
  | .ishr => vh_ib (fun x y => x >>> (y &&& 31)) (pc + 1) L st w
  | .iushr => vh_ib (fun x y => (x.toUInt32 >>> (y.toUInt32 &&& Int32.toUInt32 31)).toInt32) (pc + 1) L st w
  | .idiv => vh_id (fun x y => x / y) (pc + 1) L st w
  | .irem => vh_id (fun x y => x - x / y * y) (pc + 1) L st w
  | .ladd => vh_lb (fun x y => x + y) (pc + 1) L st w
  | .lsub => vh_lb (fun x y => x - y) (pc + 1) L st w
  | .land => vh_lb (fun x y => x &&& y) (pc + 1) L st w
  | .lor => vh_lb (fun x y => x ||| y) (pc + 1) L st w
  | .lneg => vh_lu (fun x => -x) (pc + 1) L st w
  | .lshl => vh_ls (fun x y => x <<< (y.toInt64 &&& 63)) (pc + 1) L st w
  | .lshr => vh_ls (fun x y => x >>> (y.toInt64 &&& 63)) (pc + 1) L st w
  | .lushr => vh_ls (fun x y => (x.toUInt64 >>> (y.toInt64.toUInt64 &&& Int64.toUInt64 63)).toInt64) (pc + 1) L st w
  | .lcmp => (match st with
    | .long y :: .long x :: r => vh_nx (pc + 1) L (.int (lg_cmp x y) :: r) w
    | _ => none)
  | .i2l => (match st with
    | .int x :: r => vh_nx (pc + 1) L (.long x.toInt64 :: r) w
    | _ => none)
  | .l2i => (match st with
    | .long x :: r => vh_nx (pc + 1) L (.int x.toInt32 :: r) w
    | _ => none)
  | .i2b => vh_iu (fun x => x.toInt8.toInt32) (pc + 1) L st w
  | .i2s => vh_iu (fun x => x.toInt16.toInt32) (pc + 1) L st w
  | .i2c => vh_iu (fun x => (x.toUInt32 % 65536).toInt32) (pc + 1) L st w
  | .dup => (match st with
    | .int v :: r => vh_nx (pc + 1) L (.int v :: .int v :: r) w
    | .ref v :: r => vh_nx (pc + 1) L (.ref v :: .ref v :: r) w
    | _ => none)
  | .dup2 => (match st with
    | .int v :: .ref u :: r => vh_nx (pc + 1) L (.int v :: .ref u :: .int v :: .ref u :: r) w
    | _ => none)
  | .pop => (match st with
    | .int _ :: r => vh_nx (pc + 1) L r w
    | _ => none)
  | .ifCond c _ => vh_i1 pc x c L st w
  | .if_icmp c _ => vh_i2 pc x c L st w
  | .goto _ => vh_nx x L st w
  | .tableswitch d lo hi offs => vh_tsw pc d lo hi offs L st w
  | .getfield _ => vh_get (pc + 3) x L st w
  | .putfield _ => vh_put (pc + 3) x L st w
  | .getstatic _ => bif Nat.beq x 0 then vh_nx (pc + 3) L (.int 1 :: st) w else vh_nx (pc + 3) L (.ref 3000 :: st) w
  | .iaload => vh_ard (pc + 1) 20 L st w
  | .baload => vh_bld (pc + 1) L st w
  | .laload => vh_jrd (pc + 1) L st w
  | .aaload => vh_rrd (pc + 1) L st w
  | .iastore => vh_awr (pc + 1) L st w
  | .bastore => vh_bwr (pc + 1) L st w
  | .lastore => vh_jwr (pc + 1) L st w
  | .aastore => vh_rwr (pc + 1) L st w
  | .arraylength => vh_len (pc + 1) L st w
  | .new _ => vh_nob (pc + 3) x L st w
  | .newarray _ => vh_nar (pc + 2) x L st w
  | .anewarray _ => vh_nar (pc + 3) x L st w
  | .invokespecial _ => bif Nat.beq x 9999 then vh_obj (pc + 3) L st w else vh_call (pc + 3) x L st w
  | .invokevirtual _ => vh_call (pc + 3) x L st w
  | .invokestatic _ => bif Nat.beq x 9998 then vh_ocp (pc + 3) L st w else bif Nat.beq x 9997 then vh_max (fun x y => if x < y then y else x) (pc + 3) L st w else bif Nat.beq x 9996 then vh_max (fun x y => if y < x then y else x) (pc + 3) L st w else bif Nat.beq x 9995 then vh_mxj (pc + 3) L st w else vh_call (pc + 3) x L st w
  | .ireturn => vh_ret (vh_rty j) st w
  | .lreturn => vh_lrt (vh_rty j) st w
  | .areturn => vh_art (vh_rty j) st w
  | .return_ => vh_vrt (vh_rty j) st w
  | _ => none
def vh_ins (j pc : Nat) : Option vh_O := (vh_ops.getD j []).find? (fun e => Nat.beq e.1 pc)
def vh_ent (n : Nat) (as : List Value) : vh_L := as.flatMap vh_a1 ++ List.replicate (n - (as.flatMap vh_a1).length) none
abbrev vh_R : Type := Option (Option Value × vh_W)
def vh_run : Nat → Nat → Nat → vh_L → List Value → vh_W → vh_R
  | 0, _, _, _, _, _ => none
  | n + 1, j, pc, L, st, w => match vh_ins j pc with
    | none => none
    | some e => match vh_act j e L st w with
      | none => none
      | some (.inl (pc', L', st', w')) => vh_run n j pc' L' st' w'
      | some (.inr (.inl r)) => some r
      | some (.inr (.inr (k, as, w', pc', L', st'))) => match vh_run n k 0 (vh_ent (vh_mxl k) as) [] w' with
        | none => none
        | some (v, w'') => vh_run n j pc' L' (v.toList ++ st') w''

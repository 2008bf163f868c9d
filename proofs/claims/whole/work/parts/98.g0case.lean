def lw_L (n : Nat) : vh_L := [some (.ref 1012), some (.ref 0), some (.ref 88), some (.int (nI (7 * n)))]
/-- what holds all along: the context, the script -/
def lw_E (p : Program) (s : State) (m : MethodId) (meth : Method) (c : Code) (b : Nat) (G : vh_G) (N : Nat) (xs : Nat → Int32) : Prop :=
  vh_Cx G lw_row p s m #[Value.ref b] meth c ∧ s.heap.size = G.1 ∧ G.2.2.2.1 12 = b ∧ va_X b N xs s s.heap ∧ b < s.heap.size ∧ N ≤ 3584
section LWC
variable {p : Program} {l : Launch} {e : Env} {s : State} {m : MethodId} {below : List Frame} {meth : Method} {c : Code} {b : Nat} {G : vh_G} {pc : Nat} {L : vh_L} {st : List Value} {w : vh_W} {N n : Nat} {xs : Nat → Int32}
theorem lw_tvb (hb : G.2.2.2.1 12 = b) : vh_tv G (.ref 1012) = .ref b := by
  rw [vh_tvk G (by omega) (by omega), show 1012 - 1000 = 12 from rfl, hb]
theorem lw_sle (E : lw_E p s m meth c b G N xs) (hd : decode code pc = .ok (.arraylength, 1)) (k : lw_V p l e s m below meth c b G (pc + 1) L (.int (Int32.ofNat N) :: st) w) : lw_V p l e s m below meth c b G pc L (.ref 1012 :: st) w := by
  obtain ⟨C, hG, hb, hX, hbl, hN⟩ := E
  intro H locs ls hr hS hL
  have K := k H locs ls hr hS hL
  have q : ((.ref 1012 :: st : List Value).map (vh_tv G)) = .ref b :: st.map (vh_tv G) := by rw [List.map_cons, lw_tvb hb]
  rw [q]
  exact va_slen (A := vh_Ar G) (H0 := s.heap) C.1 C.2.1 hX hbl (fun h => by have h : G.1 ≤ b := h; omega) hS hd K
theorem lw_sla (E : lw_E p s m meth c b G N xs) {i : Int32} (hin : vp_in i N) (hd : decode code pc = .ok (.iaload, 1)) (k : lw_V p l e s m below meth c b G (pc + 1) L (.int (xs i.toNatClampNeg) :: st) w) : lw_V p l e s m below meth c b G pc L (.int i :: .ref 1012 :: st) w := by
  obtain ⟨C, hG, hb, hX, hbl, hN⟩ := E
  intro H locs ls hr hS hL
  have K := k H locs ls hr hS hL
  have q : ((.int i :: .ref 1012 :: st : List Value).map (vh_tv G)) = .int i :: .ref b :: st.map (vh_tv G) := by rw [List.map_cons, List.map_cons, lw_tvb hb]; rfl
  rw [q]
  exact va_sld (A := vh_Ar G) (H0 := s.heap) C.1 C.2.1 hX hbl (fun h => by have h : G.1 ≤ b := h; omega) hS hin hd K
def lw_pl (k : Nat) : Nat := bif Nat.beq k 6 then 6 else 5
def lw_pk (pc k : Nat) : Bool := (lw_ok (pc, .aload_n 0, 0, 0) && lw_ok (pc + 1, .iload_n 3, 0, 0)) &&
  (bif Nat.beq k 6 then lw_ok (pc + 2, .bipush 6, 0, 0) && (lw_ok (pc + 4, .iadd, 0, 0) && decide (decode code (pc + 5) = .ok (.iaload, 1))) else lw_ok (pc + 2, .iconst (k : Int), 0, 0) && (lw_ok (pc + 3, .iadd, 0, 0) && decide (decode code (pc + 4) = .ok (.iaload, 1))))
theorem lw_push (E : lw_E p s m meth c b G N xs) {k : Nat} (hk : k ≤ 6) (hn : 7 * n + k < N) (h : lw_pk pc k = true) (kk : lw_V p l e s m below meth c b G (pc + lw_pl k) (lw_L n) (.int (xs (7 * n + k)) :: st) w) : lw_V p l e s m below meth c b G pc (lw_L n) st w := by
  have C := E.1
  have hN := E.2.2.2.2.2
  simp only [lw_pk, Bool.and_eq_true] at h
  obtain ⟨⟨h1, h2⟩, h3⟩ := h
  refine lw_st C h1 rfl rfl ?_
  refine lw_st C h2 rfl rfl ?_
  have e1 : nI (7 * n) + nI k = nI (7 * n + k) := nI_add _ _
  have e2 : (nI (7 * n + k)).toNatClampNeg = 7 * n + k := nI_clamp (by omega)
  have e3 : vp_in (nI (7 * n + k)) N := by
    unfold vp_in
    rw [e2]
    rintro (h | h)
    · rw [i32_ltI, nI_toInt (by omega), show (0 : Int32).toInt = 0 from rfl] at h
      omega
    · omega
  by_cases e6 : k = 6
  · rw [e6] at h3
    simp only [Nat.beq_eq_true_eq, cond_true, Bool.and_eq_true, decide_eq_true_eq, show Nat.beq 6 6 = true from rfl] at h3
    obtain ⟨h4, h5, h6⟩ := h3
    refine lw_st C h4 rfl rfl ?_
    refine lw_st C h5 rfl rfl ?_
    have q : (nI (7 * n) + (Int8.ofInt 6).toInt32) = nI (7 * n + k) := by rw [← e1, e6]; rfl
    refine lw_sla (i := nI (7 * n) + (Int8.ofInt 6).toInt32) E (by rw [q]; exact e3) h6 ?_
    rw [q, e2]
    have : lw_pl k = 6 := by rw [e6]; rfl
    rw [this] at kk
    exact kk
  · have hb6 : Nat.beq k 6 = false := by
      cases hq : Nat.beq k 6 with
      | false => rfl
      | true => exact absurd (Nat.eq_of_beq_eq_true hq) e6
    rw [hb6] at h3
    simp only [cond_false, Bool.and_eq_true, decide_eq_true_eq] at h3
    obtain ⟨h4, h5, h6⟩ := h3
    refine lw_st C h4 rfl rfl ?_
    refine lw_st C h5 rfl rfl ?_
    have q : (nI (7 * n) + Int32.ofInt (k : Int)) = nI (7 * n + k) := by rw [← e1]; rfl
    refine lw_sla (i := nI (7 * n) + Int32.ofInt (k : Int)) E (by rw [q]; exact e3) h6 ?_
    rw [q, e2]
    have : lw_pl k = 5 := by unfold lw_pl; rw [hb6]; rfl
    rw [this] at kk
    exact kk
def lw_pe : Nat → List Nat → Nat
  | pc, [] => pc
  | pc, k :: ks => lw_pe (pc + lw_pl k) ks
def lw_pks : Nat → List Nat → Bool
  | _, [] => true
  | pc, k :: ks => (Nat.ble k 6 && lw_pk pc k) && lw_pks (pc + lw_pl k) ks
def lw_vs (n : Nat) (xs : Nat → Int32) (ks : List Nat) : List Value := ks.map fun k => .int (xs (7 * n + k))
theorem lw_pushes (E : lw_E p s m meth c b G N xs) (hn : 7 * n + 6 < N) : ∀ (ks : List Nat) (pc : Nat) (st : List Value), lw_pks pc ks = true → lw_V p l e s m below meth c b G (lw_pe pc ks) (lw_L n) ((lw_vs n xs ks).reverse ++ st) w → lw_V p l e s m below meth c b G pc (lw_L n) st w := by
  intro ks
  induction ks with
  | nil => intro pc st _ h; exact h
  | cons k ks ih =>
    intro pc st hc h
    simp only [lw_pks, Bool.and_eq_true] at hc
    obtain ⟨⟨h1, h2⟩, h3⟩ := hc
    have h1 := Nat.le_of_ble_eq_true h1
    refine lw_push E h1 (by omega) h2 (ih _ _ h3 ?_)
    have q : (lw_vs n xs ks).reverse ++ .int (xs (7 * n + k)) :: st = (lw_vs n xs (k :: ks)).reverse ++ st := by simp [lw_vs]
    rw [q]
    exact h
end LWC

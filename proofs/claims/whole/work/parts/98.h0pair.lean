def lw_cc (pc p1 p2 jx idx1 pp1 jm idx2 pp2 : Nat) (off : Int) : Bool :=
  (lw_ok (pc, .aload_n 1, 0, 0) && (lw_ok (p1, .invokevirtual idx1, jx, pp1) && lw_ok (p1 + 3, .aload_n 2, 0, 0))) && ((lw_ok (p2, .invokevirtual idx2, jm, pp2) && lw_ok (p2 + 3, .if_icmp .eq off, 1357, 0)) && (Nat.beq (vh_mc jx) 10 && Nat.beq (vh_mc jm) 11))
section LWD
variable {p : Program} {l : Launch} {e : Env} {s : State} {m : MethodId} {below : List Frame} {meth : Method} {c : Code} {b : Nat} {G : vh_G} {pc : Nat} {L : vh_L} {st : List Value} {w : vh_W} {N n : Nat} {xs : Nat → Int32}
theorem lw_pair (E : lw_E p s m meth c b G N xs) {p1 p2 jx idx1 pp1 jm idx2 pp2 : Nat} {off : Int} {rx rm : vh_M} {vs : List Value} {d : Nat} {mi : Nat → Nat → Int32} {ml : Nat → Nat → Int64}
    (hc : lw_cc pc p1 p2 jx idx1 pp1 jm idx2 pp2 off = true)
    (P1 : ∀ st w, lw_V p l e s m below meth c b G p1 (lw_L n) (vs.reverse ++ st) w → lw_V p l e s m below meth c b G (pc + 1) (lw_L n) st w)
    (P2 : ∀ st w, lw_V p l e s m below meth c b G p2 (lw_L n) (vs.reverse ++ st) w → lw_V p l e s m below meth c b G (p1 + 4) (lw_L n) st w)
    (hmx : vh_mt[jx]? = some rx) (hmm : vh_mt[jm]? = some rm) (hlx : vs.length + 1 = rx.2.2.2.2.2.2.2) (hlm : vs.length + 1 = rm.2.2.2.2.2.2.2)
    (hax : vh_ack rx.2.2.1 (vh_lsx jx) (.ref 0 :: vs) = true) (ham : vh_ack rm.2.2.1 (vh_lsx jm) (.ref 88 :: vs) = true)
    (hsim : Sim jx jm vs d mi ml) (k : ∀ d mi ml, Rel d mi → lw_V p l e s m below meth c b G 1357 (lw_L n) [] (vh_K d mi ml)) : lw_V p l e s m below meth c b G pc (lw_L n) [] (vh_K d mi ml) := by
  have C := E.1
  have hG := E.2.1
  simp only [lw_cc, Bool.and_eq_true] at hc
  obtain ⟨⟨h1, h3, h4⟩, ⟨h6, h7⟩, h8, h9⟩ := hc
  have h8 := Nat.eq_of_beq_eq_true h8
  have h9 := Nat.eq_of_beq_eq_true h9
  obtain ⟨v, d', mi1, mi2, ml1, c1, c2, hR⟩ := hsim
  obtain ⟨f1, r1⟩ := vh_Ei.mp c1
  obtain ⟨f2, r2⟩ := vh_Ei.mp c2
  have ex : vh_mxl jx = rx.2.2.1 := by unfold vh_mxl; rw [hmx]
  have em : vh_mxl jm = rm.2.2.1 := by unfold vh_mxl; rw [hmm]
  rw [ex] at r1
  rw [em] at r2
  refine lw_st C h1 rfl rfl ?_
  refine P1 _ _ ?_
  have q1 : vs.reverse ++ [Value.ref 0] = (.ref 0 :: vs).reverse ++ [] := by simp
  rw [q1]
  refine lw_call C hG h3 rfl (.inl rfl) hmx (by simpa using hlx) (by decide) hax ⟨0, vs, rfl, .inr ?_⟩ r1 ?_ (Nat.le_refl _)
  · rw [h8]; exact (show vh_okk 0 10 = true by decide)
  refine lw_st C h4 rfl rfl ?_
  refine P2 _ _ ?_
  have q2 : vs.reverse ++ (Value.ref 88 :: ((some (Value.int v)).toList ++ [])) = (.ref 88 :: vs).reverse ++ [.int v] := by simp
  rw [q2]
  refine lw_call C hG h6 rfl (.inl rfl) hmm (by simpa using hlm) (Nat.le_of_ble_eq_true rfl) ham ⟨88, vs, rfl, .inr ?_⟩ r2 ?_ (Nat.le_refl _)
  · rw [h9]; exact (show vh_okk 88 11 = true by decide)
  refine lw_st (pc' := 1357) (L' := lw_L n) (st' := []) C h7 rfl ?_ (k d' mi2 ml1 hR)
  show vh_nx (if v = v then 1357 else p2 + 3 + 3) (lw_L n) [] _ = _
  rw [if_pos rfl]
  rfl
theorem lw_case (E : lw_E p s m meth c b G N xs) (hn : 7 * n + 6 < N) (ks : List Nat) {p1 p2 jx idx1 pp1 jm idx2 pp2 : Nat} {off : Int} {rx rm : vh_M} {d : Nat} {mi : Nat → Nat → Int32} {ml : Nat → Nat → Int64}
    (hc : lw_cc pc p1 p2 jx idx1 pp1 jm idx2 pp2 off = true) (hk : ((lw_pks (pc + 1) ks && lw_pks (p1 + 4) ks) && (Nat.beq (lw_pe (pc + 1) ks) p1 && Nat.beq (lw_pe (p1 + 4) ks) p2)) = true)
    (hmx : vh_mt[jx]? = some rx) (hmm : vh_mt[jm]? = some rm) (hlx : ks.length + 1 = rx.2.2.2.2.2.2.2) (hlm : ks.length + 1 = rm.2.2.2.2.2.2.2)
    (hax : vh_ack rx.2.2.1 (vh_lsx jx) (.ref 0 :: lw_vs n xs ks) = true) (ham : vh_ack rm.2.2.1 (vh_lsx jm) (.ref 88 :: lw_vs n xs ks) = true)
    (hsim : Sim jx jm (lw_vs n xs ks) d mi ml) (k : ∀ d mi ml, Rel d mi → lw_V p l e s m below meth c b G 1357 (lw_L n) [] (vh_K d mi ml)) : lw_V p l e s m below meth c b G pc (lw_L n) [] (vh_K d mi ml) := by
  simp only [Bool.and_eq_true] at hk
  obtain ⟨⟨k1, k2⟩, k3, k4⟩ := hk
  have k3 := Nat.eq_of_beq_eq_true k3
  have k4 := Nat.eq_of_beq_eq_true k4
  refine lw_pair E hc (fun st w h => lw_pushes E hn ks _ st k1 (by rw [k3]; exact h)) (fun st w h => lw_pushes E hn ks _ st k2 (by rw [k4]; exact h)) hmx hmm (by simpa [lw_vs] using hlx) (by simpa [lw_vs] using hlm) hax ham hsim k
theorem lw_ldc (E : lw_E p s m meth c b G N xs) (hd : decode code pc = .ok (.ldc2_w 32, 3)) (k : lw_V p l e s m below meth c b G (pc + 3) L (.long 4294967295 :: st) w) : lw_V p l e s m below meth c b G pc L st w := by
  obtain ⟨C, hG, hb, hX, hbl, hN⟩ := E
  obtain ⟨hx, hb, hml, hrt, hlk, hnm, hown, hts, hctx⟩ := C
  intro H locs ls hr hS hL
  have hw : vh_wd 1557 (.constantLong "VillageHallsLaw" 32 4294967295) = true := by decide +kernel
  exact lv_ldc2 hx hb (own := "VillageHallsLaw") hown (hts _ (vh_wdm hw)) hd (k H locs ls hr hS hL)
def lw_fw (n : Nat) (xs : Nat → Int32) : Int64 := ((xs (7 * n + 1)).toInt64 <<< ((Int8.ofInt 32).toInt32.toInt64 &&& 63)) ||| ((xs (7 * n + 2)).toInt64 &&& 4294967295)
def lw_fk (pc : Nat) : Bool := (lw_pk pc 1 && (lw_ok (pc + 5, .i2l, 0, 0) && (lw_ok (pc + 6, .bipush 32, 0, 0) && lw_ok (pc + 8, .lshl, 0, 0)))) &&
  ((lw_pk (pc + 9) 2 && (lw_ok (pc + 14, .i2l, 0, 0) && decide (decode code (pc + 15) = .ok (.ldc2_w 32, 3)))) && (lw_ok (pc + 18, .land, 0, 0) && (lw_ok (pc + 19, .lor, 0, 0) && lw_pk (pc + 20) 3)))
theorem lw_feedp (E : lw_E p s m meth c b G N xs) (hn : 7 * n + 6 < N) (h : lw_fk pc = true) (k : lw_V p l e s m below meth c b G (pc + 25) (lw_L n) ([Value.long (lw_fw n xs), .int (xs (7 * n + 3))].reverse ++ st) w) : lw_V p l e s m below meth c b G pc (lw_L n) st w := by
  have C := E.1
  simp only [lw_fk, Bool.and_eq_true, decide_eq_true_eq] at h
  obtain ⟨⟨a1, a2, a3, a4⟩, ⟨b1, b2, b3⟩, c1, c2, c3⟩ := h
  refine lw_push E (by omega) (by omega) a1 ?_
  refine lw_st C a2 rfl rfl ?_
  refine lw_st C a3 rfl rfl ?_
  refine lw_st C a4 rfl rfl ?_
  refine lw_push E (by omega) (by omega) b1 ?_
  refine lw_st C b2 rfl rfl ?_
  refine lw_ldc E b3 ?_
  refine lw_st C c1 rfl rfl ?_
  refine lw_st C c2 rfl rfl ?_
  exact lw_push E (by omega) (by omega) c3 k
theorem lw_feed (E : lw_E p s m meth c b G N xs) (hn : 7 * n + 6 < N) {p1 jx idx1 pp1 jm idx2 pp2 : Nat} {off : Int} {rx rm : vh_M} {d : Nat} {mi : Nat → Nat → Int32} {ml : Nat → Nat → Int64}
    (hc : lw_cc pc (pc + 26) (pc + 26 + 29) jx idx1 pp1 jm idx2 pp2 off = true) (hk : (lw_fk (pc + 1) && lw_fk (pc + 26 + 4)) = true)
    (hmx : vh_mt[jx]? = some rx) (hmm : vh_mt[jm]? = some rm) (hlx : 3 = rx.2.2.2.2.2.2.2) (hlm : 3 = rm.2.2.2.2.2.2.2)
    (hax : vh_ack rx.2.2.1 (vh_lsx jx) [.ref 0, .long (lw_fw n xs), .int (xs (7 * n + 3))] = true) (ham : vh_ack rm.2.2.1 (vh_lsx jm) [.ref 88, .long (lw_fw n xs), .int (xs (7 * n + 3))] = true)
    (hsim : Sim jx jm [.long (lw_fw n xs), .int (xs (7 * n + 3))] d mi ml) (k : ∀ d mi ml, Rel d mi → lw_V p l e s m below meth c b G 1357 (lw_L n) [] (vh_K d mi ml)) : lw_V p l e s m below meth c b G pc (lw_L n) [] (vh_K d mi ml) := by
  rw [Bool.and_eq_true] at hk
  exact lw_pair E hc (fun st w h => lw_feedp E hn hk.1 h) (fun st w h => lw_feedp E hn hk.2 h) hmx hmm hlx hlm hax ham hsim k
end LWD

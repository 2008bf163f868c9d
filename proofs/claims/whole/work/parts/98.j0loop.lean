theorem lw_cmp {N n : Nat} (hN : N ≤ 3584) (hn : 7 * n ≤ N) : (Int32.ofNat N - (Int8.ofInt 7).toInt32 < nI (7 * n)) ↔ N < 7 * n + 7 := by
  have e7 : (Int8.ofInt 7).toInt32 = nI 7 := by decide
  rw [e7]
  by_cases h7 : 7 ≤ N
  · have e : Int32.ofNat N - nI 7 = nI (N - 7) := by
      obtain ⟨M, rfl⟩ : ∃ M, N = M + 7 := ⟨N - 7, by omega⟩
      rw [show M + 7 - 7 = M by omega]
      show nI (M + 7) - nI 7 = nI M
      rw [← nI_add M 7, Int32.add_sub_cancel]
    rw [e, i32_ltI, nI_toInt (by omega), nI_toInt (by omega)]
    omega
  · have h0 : n = 0 := by omega
    subst h0
    have : ∀ N, N < 7 → Int32.ofNat N - nI 7 < nI (7 * 0) := by decide
    exact ⟨fun _ => by omega, fun _ => this N (by omega)⟩
theorem lw_and (x : Int32) : ∃ k, k < 32 ∧ x &&& (Int8.ofInt 31).toInt32 = nI k := by
  refine ⟨(x &&& (Int8.ofInt 31).toInt32).toBitVec.toNat, ?_, (nI_all _).symm⟩
  have e : (x &&& (Int8.ofInt 31).toInt32).toBitVec.toNat = x.toBitVec.toNat &&& 31 := by
    rw [Int32.toBitVec_and, BitVec.toNat_and]
    rfl
  rw [e]
  exact Nat.lt_succ_of_le Nat.and_le_right
def lw_offs : Array Int := #[139, 182, 225, 288, 311, 374, 387, 400, 433, 466, 499, 532, 565, 598, 651, 726, 779, 822, 875, 928, 971, 1024, 1057, 1120, 1153, 1176, 1199, 1232, 1265, 1288, 1311]
def lw_tg : List Nat := [172, 215, 258, 321, 344, 407, 420, 433, 466, 499, 532, 565, 598, 631, 684, 759, 812, 855, 908, 961, 1004, 1057, 1090, 1153, 1186, 1209, 1232, 1265, 1298, 1321, 1344, 1357]
theorem lw_tgs : ∀ k, k < 32 → vh_swt 33 1324 0 30 lw_offs (nI k).toInt = lw_tg.getD k 0 := by decide +kernel
section LWF
variable {p : Program} {l : Launch} {e : Env} {s : State} {m : MethodId} {below : List Frame} {meth : Method} {c : Code} {b : Nat} {G : vh_G} {L : vh_L} {w : vh_W} {N n : Nat} {xs : Nat → Int32}
theorem lw_exit (E : lw_E p s m meth c b G N xs) : lw_V p l e s m below meth c b G 1363 L [] w := by
  have C := E.1
  have hG := E.2.1
  refine lw_st (i := .iconst 1) (x := 0) (pp := 0) C (by decide +kernel) rfl rfl ?_
  intro H locs ls hr hS hL
  obtain ⟨hx, hb, hml, hrt, hlk, hnm, hown, hts, hctx⟩ := C
  refine va_forget (fun q hq => by have h : G.1 ≤ q.base := hS.2.2 q hq; omega) ?_
  have hw := hr.2.2
  have hss := lw_SSw hr
  refine W.widen (k := 600000) (n := 7302250) (by omega) (Nat.le_trans (Nat.sub_le _ _) hss) ?_
  exact lw_ret hx hb hrt hlk (by decide +kernel)
theorem lw_sw (E : lw_E p s m meth c b G N xs) (hn : 7 * n + 6 < N) {d : Nat} {mi : Nat → Nat → Int32} {ml : Nat → Nat → Int64} (hR : Rel d mi) (k : ∀ d mi ml, Rel d mi → lw_V p l e s m below meth c b G 1357 (lw_L n) [] (vh_K d mi ml)) {j : Nat} (hj : j < 32) : lw_V p l e s m below meth c b G (lw_tg.getD j 0) (lw_L n) [] (vh_K d mi ml) := by
  match j, hj with
  | 0, _ => exact lw_c0 E hn hR k
  | 1, _ => exact lw_c1 E hn hR k
  | 2, _ => exact lw_c2 E hn hR k
  | 3, _ => exact lw_c3 E hn hR k
  | 4, _ => exact lw_c4 E hn hR k
  | 5, _ => exact lw_c5 E hn hR k
  | 6, _ => exact lw_c6 E hn hR k
  | 7, _ => exact lw_c7 E hn hR k
  | 8, _ => exact lw_c8 E hn hR k
  | 9, _ => exact lw_c9 E hn hR k
  | 10, _ => exact lw_c10 E hn hR k
  | 11, _ => exact lw_c11 E hn hR k
  | 12, _ => exact lw_c12 E hn hR k
  | 13, _ => exact lw_c13 E hn hR k
  | 14, _ => exact lw_c14 E hn hR k
  | 15, _ => exact lw_c15 E hn hR k
  | 16, _ => exact lw_c16 E hn hR k
  | 17, _ => exact lw_c17 E hn hR k
  | 18, _ => exact lw_c18 E hn hR k
  | 19, _ => exact lw_c19 E hn hR k
  | 20, _ => exact lw_c20 E hn hR k
  | 21, _ => exact lw_c21 E hn hR k
  | 22, _ => exact lw_c22 E hn hR k
  | 23, _ => exact lw_c23 E hn hR k
  | 24, _ => exact lw_c24 E hn hR k
  | 25, _ => exact lw_c25 E hn hR k
  | 26, _ => exact lw_c26 E hn hR k
  | 27, _ => exact lw_c27 E hn hR k
  | 28, _ => exact lw_c28 E hn hR k
  | 29, _ => exact lw_c29 E hn hR k
  | 30, _ => exact lw_c30 E hn hR k
  | 31, _ => exact k d mi ml hR
  | j + 32, h => exact absurd h (by omega)
theorem lw_loop (E : lw_E p s m meth c b G N xs) : ∀ (r n : Nat), 7 * n ≤ N → N < 7 * (n + r) + 7 → ∀ (d : Nat) (mi : Nat → Nat → Int32) (ml : Nat → Nat → Int64), Rel d mi → lw_V p l e s m below meth c b G 18 (lw_L n) [] (vh_K d mi ml) := by
  have C := E.1
  have hN := E.2.2.2.2.2
  intro r
  induction r with
  | zero =>
    intro n h1 h2 d mi ml hR
    refine lw_st (i := .iload_n 3) (x := 0) (pp := 0) C (by decide +kernel) rfl rfl ?_
    refine lw_st (i := .aload_n 0) (x := 0) (pp := 0) C (by decide +kernel) rfl rfl ?_
    refine lw_sle E (by decide +kernel) ?_
    refine lw_st (i := .bipush 7) (x := 0) (pp := 0) C (by decide +kernel) rfl rfl ?_
    refine lw_st (i := .isub) (x := 0) (pp := 0) C (by decide +kernel) rfl rfl ?_
    refine lw_st (i := .if_icmp .gt 1339) (x := 1363) (pp := 0) (pc' := 1363) (L' := lw_L n) (st' := []) (w' := vh_K d mi ml) C (by decide +kernel) rfl ?_ (lw_exit E)
    show vh_nx (if Int32.ofNat N - (Int8.ofInt 7).toInt32 < nI (7 * n) then 1363 else 27) (lw_L n) [] _ = _
    rw [if_pos ((lw_cmp hN h1).mpr (by omega))]
    rfl
  | succ r ih =>
    intro n h1 h2 d mi ml hR
    refine lw_st (i := .iload_n 3) (x := 0) (pp := 0) C (by decide +kernel) rfl rfl ?_
    refine lw_st (i := .aload_n 0) (x := 0) (pp := 0) C (by decide +kernel) rfl rfl ?_
    refine lw_sle E (by decide +kernel) ?_
    refine lw_st (i := .bipush 7) (x := 0) (pp := 0) C (by decide +kernel) rfl rfl ?_
    refine lw_st (i := .isub) (x := 0) (pp := 0) C (by decide +kernel) rfl rfl ?_
    by_cases hend : N < 7 * n + 7
    · refine lw_st (i := .if_icmp .gt 1339) (x := 1363) (pp := 0) (pc' := 1363) (L' := lw_L n) (st' := []) (w' := vh_K d mi ml) C (by decide +kernel) rfl ?_ (lw_exit E)
      show vh_nx (if Int32.ofNat N - (Int8.ofInt 7).toInt32 < nI (7 * n) then 1363 else 27) (lw_L n) [] _ = _
      rw [if_pos ((lw_cmp hN h1).mpr hend)]
      rfl
    · refine lw_st (i := .if_icmp .gt 1339) (x := 1363) (pp := 0) (pc' := 27) (L' := lw_L n) (st' := []) (w' := vh_K d mi ml) C (by decide +kernel) rfl ?_ ?_
      · show vh_nx (if Int32.ofNat N - (Int8.ofInt 7).toInt32 < nI (7 * n) then 1363 else 27) (lw_L n) [] _ = _
        rw [if_neg (fun h => hend ((lw_cmp hN h1).mp h))]
        rfl
      refine lw_st (i := .aload_n 0) (x := 0) (pp := 0) C (by decide +kernel) rfl rfl ?_
      refine lw_st (i := .iload_n 3) (x := 0) (pp := 0) C (by decide +kernel) rfl rfl ?_
      have e2 : (nI (7 * n)).toNatClampNeg = 7 * n := nI_clamp (by omega)
      refine lw_sla (i := nI (7 * n)) E ?_ (by decide +kernel) ?_
      · unfold vp_in
        rw [e2]
        rintro (h | h)
        · rw [i32_ltI, nI_toInt (by omega), show (0 : Int32).toInt = 0 from rfl] at h
          omega
        · omega
      rw [e2]
      refine lw_st (i := .bipush 31) (x := 0) (pp := 0) C (by decide +kernel) rfl rfl ?_
      refine lw_st (i := .iand) (x := 0) (pp := 0) C (by decide +kernel) rfl rfl ?_
      obtain ⟨k, hk, hv⟩ := lw_and (xs (7 * n))
      have hnx : ∀ d mi ml, Rel d mi → lw_V p l e s m below meth c b G 1357 (lw_L n) [] (vh_K d mi ml) := by
        intro d mi ml hR
        refine lw_st (i := .iinc 3 7) (x := 0) (pp := 0) C (by decide +kernel) rfl rfl ?_
        refine lw_st (i := .goto (-1342)) (x := 18) (pp := 0) C (by decide +kernel) rfl rfl ?_
        have q : (lw_L n).set 3 (some (.int (nI (7 * n) + Int32.ofInt 7))) = lw_L (n + 1) := by
          have : nI (7 * n) + Int32.ofInt 7 = nI (7 * (n + 1)) := by
            rw [Nat.mul_add]
            exact nI_add (7 * n) (7 * 1)
          rw [this]
          rfl
        rw [q]
        exact ih (n + 1) (by omega) (by omega) d mi ml hR
      refine lw_st (i := .tableswitch 1324 0 30 lw_offs) (x := 139) (pp := 0) (pc' := lw_tg.getD k 0) (L' := lw_L n) (st' := []) (w' := vh_K d mi ml) C (by decide +kernel) rfl ?_ (lw_sw E (by omega) hR hnx hk)
      show vh_nx (vh_swt 33 1324 0 30 lw_offs (xs (7 * n) &&& (Int8.ofInt 31).toInt32).toInt) (lw_L n) [] _ = _
      rw [hv, lw_tgs k hk]
      rfl
end LWF

theorem vh_main (l : Launch) (G : vh_G) : ∀ n, vh_Main l G n := by
  intro n
  induction n with
  | zero => intro j row hm pc L st w v w' h; cases h
  | succ n ih =>
    intro j row hm pc L st w v w' h
    rw [vh_run] at h
    cases hins : vh_ins j pc with
    | none => rw [hins] at h; cases h
    | some en =>
      rw [hins] at h
      obtain ⟨hpc, hmem⟩ := vh_insd hins
      have hgood := (vh_ckd hm).2 en hmem
      obtain ⟨pc0, i, x, pp⟩ := en
      have hpc : pc0 = pc := hpc
      subst hpc
      have hgood : (decide (decode row.2.1 pc0 = .ok (i, vh_ln i x)) && vh_gd row.1.cls row.1.name row.2.2.1 row.2.2.2.2.2.1 row.2.2.2.2.2.2.1 (vh_lsx j) (pc0, i, x, pp)) = true := hgood
      rw [Bool.and_eq_true] at hgood
      have hd := of_decide_eq_true hgood.1
      have hg := hgood.2
      have hrty : vh_rty j = row.2.2.2.1 := by unfold vh_rty; rw [hm]
      simp only at h
      cases hact : vh_act j (pc0, i, x, pp) L st w with
      | none => rw [hact] at h; cases h
      | some z =>
        rw [hact] at h
        cases z with
        | inl q =>
          obtain ⟨pc1, L1, st1, w1⟩ := q
          simp only at h
          have hN := vh_actN hact
          obtain ⟨hmo, hW⟩ := ih j row hm pc1 L1 st1 w1 v w' h
          refine ⟨Nat.le_trans (by rw [hN]; exact Nat.le_add_right _ _) hmo, ?_⟩
          intro p e s m args below meth c H locs ls n0 hn C hsz hr hS hL
          have hSS := vh_SSm hn
          cases hal : vh_alloc i with
          | false =>
            rw [hal, if_neg (by decide)] at hN
            have hSS2 := vh_SSm hmo
            rw [hN] at hSS2 hmo
            refine vh_step (R := vh_rm row (w'.1 - n0) (vh_SS w'.1 - vh_SS n0)) (j := j) (pp := pp) C hd hg (Nat.sub_le_sub_right hmo n0) (Nat.sub_le_sub_right hSS2 _) hal hact hr hS hL (fun hN' H' locs' ls' hr' hS' hL' => ?_)
            have K := hW p e s m args below meth c H' locs' ls' n0 (by rw [hN]; exact hn) C hsz hr' hS' hL'
            rw [hN] at K
            exact K
          | true =>
            rw [hal, if_pos rfl] at hN
            have hSS2 := vh_SSm hmo
            have hS1 : vh_SS w1.1 = vh_SS w.1 + (vh_kd w.1).2 := by rw [hN]; rfl
            rw [hN] at hmo
            rw [hS1] at hSS2
            have hc1 : (w.1 - n0) + 1 ≤ (vh_rm row (w'.1 - n0) (vh_SS w'.1 - vh_SS n0)).cells := by show (w.1 - n0) + 1 ≤ w'.1 - n0; omega
            have hs1 : (vh_SS w.1 - vh_SS n0) + (vh_kd w.1).2 ≤ (vh_rm row (w'.1 - n0) (vh_SS w'.1 - vh_SS n0)).slots := by show _ ≤ vh_SS w'.1 - vh_SS n0; omega
            have kk : vh_KK p l e (vh_rm row (w'.1 - n0) (vh_SS w'.1 - vh_SS n0)) s m args below meth c ((w.1 - n0) + 1) ((vh_SS w.1 - vh_SS n0) + (vh_kd w.1).2) (MQ below (vh_Qc G v w') args s (w'.1 - n0) (vh_SS w'.1 - vh_SS n0) (vh_Ar G)) G row (vh_lsx j) pc1 L1 st1 w1 w 1 := by
              intro hN' H' locs' ls' hr' hS' hL'
              have K := hW p e s m args below meth c H' locs' ls' n0 (by omega) C hsz hr' hS' hL'
              rw [hS1, hN, show w.1 + 1 - n0 = w.1 - n0 + 1 by omega, show vh_SS w.1 + (vh_kd w.1).2 - vh_SS n0 = vh_SS w.1 - vh_SS n0 + (vh_kd w.1).2 by omega] at K
              exact K
            cases i
            case new idx => exact vh_s_nob C hd hg hact hn hsz rfl hc1 hs1 hr hS hL kk
            case newarray t => exact vh_s_nar C hd (of_decide_eq_true hg) hact hn hsz rfl hc1 hs1 hr hS hL kk
            case anewarray idx => exact vh_s_naq C hd hg hact hn hsz rfl hc1 hs1 hr hS hL kk
            all_goals cases hal
        | inr q =>
          have hR := vh_actR hact
          cases q with
          | inl r =>
            obtain ⟨v2, w2⟩ := r
            cases h
            rcases hR with ⟨rfl, hR⟩ | ⟨rfl, hR⟩ | ⟨rfl, hR⟩ | ⟨rfl, hR⟩ | ⟨idx, -, hR⟩
            · rw [hrty] at hR
              unfold vh_ret at hR
              split at hR
              · rename_i u ty hty
                split at hR
                · rename_i hnar
                  cases hR
                  refine ⟨Nat.le_refl _, ?_⟩
                  intro p e s m args below meth c H locs ls n0 hn C hsz hr hS hL
                  obtain ⟨hx, hb, hml, hrt, hlk, hnm, hown, hts, hctx⟩ := C
                  refine vh_wsz hsz hn hr hS rfl (fun hH => ?_)
                  exact W.zret hx hb (hrt.trans hty) hnar (fun t ht hW => ⟨rfl, by rw [ht]; exact hr, by rw [ht]; exact hH, hS.F ht⟩) hS.2.2 hd hlk
                · cases hR
              · cases hR
            · rw [hrty] at hR
              unfold vh_lrt at hR
              split at hR
              · rename_i u hty
                cases hR
                refine ⟨Nat.le_refl _, ?_⟩
                intro p e s m args below meth c H locs ls n0 hn C hsz hr hS hL
                obtain ⟨hx, hb, hml, hrt, hlk, hnm, hown, hts, hctx⟩ := C
                refine vh_wsz hsz hn hr hS rfl (fun hH => ?_)
                exact W.lret hx hb (hrt.trans hty) (fun t ht hW => ⟨rfl, by rw [ht]; exact hr, by rw [ht]; exact hH, hS.F ht⟩) hS.2.2 hd hlk
              · cases hR
            · rw [hrty] at hR
              unfold vh_art at hR
              split at hR
              · rename_i u Cn hty
                cases hu : Nat.blt u 1000 with
                | false => rw [hu] at hR; cases hR
                | true =>
                  rw [hu] at hR
                  cases hR
                  refine ⟨Nat.le_refl _, ?_⟩
                  intro p e s m args below meth c H locs ls n0 hn C hsz hr hS hL
                  obtain ⟨hx, hb, hml, hrt, hlk, hnm, hown, hts, hctx⟩ := C
                  refine vh_wsz hsz hn hr hS rfl (fun hH => ?_)
                  simp only [List.map_cons, List.map_nil]
                  exact W.aret hx hb (hrt.trans hty) (Or.inl ⟨_, rfl⟩) (Or.inr ⟨_, vh_tvr G (Nat.blt_eq.mp hu)⟩) (fun t ht hW => ⟨rfl, by rw [ht]; exact hr, by rw [ht]; exact hH, hS.F ht⟩) hS.2.2 hd hlk
              · rename_i u Cn hty
                cases hu : Nat.blt u 1000 with
                | false => rw [hu] at hR; cases hR
                | true =>
                  rw [hu] at hR
                  cases hR
                  refine ⟨Nat.le_refl _, ?_⟩
                  intro p e s m args below meth c H locs ls n0 hn C hsz hr hS hL
                  obtain ⟨hx, hb, hml, hrt, hlk, hnm, hown, hts, hctx⟩ := C
                  refine vh_wsz hsz hn hr hS rfl (fun hH => ?_)
                  simp only [List.map_cons, List.map_nil]
                  exact W.aret hx hb (hrt.trans hty) (Or.inr ⟨_, rfl⟩) (Or.inr ⟨_, vh_tvr G (Nat.blt_eq.mp hu)⟩) (fun t ht hW => ⟨rfl, by rw [ht]; exact hr, by rw [ht]; exact hH, hS.F ht⟩) hS.2.2 hd hlk
              · cases hR
            · rw [hrty] at hR
              unfold vh_vrt at hR
              split at hR
              · rename_i hty
                cases hR
                refine ⟨Nat.le_refl _, ?_⟩
                intro p e s m args below meth c H locs ls n0 hn C hsz hr hS hL
                obtain ⟨hx, hb, hml, hrt, hlk, hnm, hown, hts, hctx⟩ := C
                refine vh_wsz hsz hn hr hS rfl (fun hH => ?_)
                exact W.vret hx hb (hrt.trans hty) (fun t ht hW => ⟨rfl, by rw [ht]; exact hr, by rw [ht]; exact hH, hS.F ht⟩) hS.2.2 hd hlk
              · cases hR
            · exfalso
              unfold vh_call at hR
              split at hR
              · cases hR
              · rename_i y b mL rt kd fr lo na hmm
                revert hR
                generalize ((Nat.ble na st.length && Nat.ble ((st.drop na).map fun v => v.category).sum 8) && vh_ack mL (vh_lsL.getD x []) (st.take na).reverse) = b1
                intro hR
                cases b1 with
                | false => cases hR
                | true =>
                  simp only [cond_true] at hR
                  split at hR
                  · rename_i a as2 he
                    revert hR
                    generalize (Nat.beq kd 0 || ((Nat.beq kd 2 && Nat.blt a 1000) || (bif Nat.beq (vh_mc x) 98 then Nat.ble 1000 a && Nat.blt a 1012 else vh_ok w a (vh_mc x)))) = b2
                    intro hR
                    cases b2 <;> cases hR
                  · revert hR
                    generalize Nat.beq kd 0 = b2
                    intro hR
                    cases b2 <;> cases hR
          | inr r =>
            obtain ⟨k, as, w1, pc1, L1, st1⟩ := r
            simp only at h
            rcases hR with ⟨rfl, hR⟩ | ⟨rfl, hR⟩ | ⟨rfl, hR⟩ | ⟨rfl, hR⟩ | ⟨idx, hi, hR⟩
            · exfalso
              unfold vh_ret at hR
              split at hR
              · split at hR <;> cases hR
              · cases hR
            · exfalso
              unfold vh_lrt at hR
              split at hR <;> cases hR
            · exfalso
              unfold vh_art at hR
              split at hR
              · rename_i u Cn hty
                cases hu : Nat.blt u 1000 <;> rw [hu] at hR <;> cases hR
              · rename_i u Cn hty
                cases hu : Nat.blt u 1000 <;> rw [hu] at hR <;> cases hR
              · cases hR
            · exfalso
              unfold vh_vrt at hR
              split at hR <;> cases hR
            · obtain ⟨row', hm', rfl, rfl, rfl, rfl, hst, hlen, h8, hack, hrecv⟩ := vh_q_call hR
              have hmx : vh_mxl k = row'.2.2.1 := by unfold vh_mxl; rw [hm']
              rw [hmx] at h
              cases hrun : vh_run n k 0 (vh_ent row'.2.2.1 as) [] w1 with
              | none => rw [hrun] at h; cases h
              | some r2 =>
                obtain ⟨v1, w2⟩ := r2
                rw [hrun] at h
                simp only at h
                have hm1 := (ih k row' hm' 0 _ [] w1 v1 w2 hrun).1
                obtain ⟨hm2, hW⟩ := ih j row hm (pc0 + 3) L1 (v1.toList ++ st1) w2 v w' h
                refine ⟨Nat.le_trans hm1 hm2, ?_⟩
                intro p e s m args below meth c H locs ls n0 hn C hsz hr hS hL
                have hSS := vh_SSm hn
                have hSS1 := vh_SSm hm1
                have hSS2 := vh_SSm hm2
                have hd3 : decode row.2.1 pc0 = .ok (i, 3) := by
                  rcases hi with rfl | ⟨rfl, -⟩ | ⟨rfl, -⟩ <;> exact hd
                refine vh_docall (cR := w'.1 - n0) (sR := vh_SS w'.1 - vh_SS n0) (lx := vh_lsx j) (pp := pp) ih C hd3 hg hi hm' hst hlen h8 hack hrecv hrun hn hsz hr hS hL (by omega) (by omega) (fun H1 locs1 hr1 hS1 => ?_)
                have K := hW p e s m args below meth c H1 locs1 ls n0 (by omega) C hsz hr1 hS1 hL
                rw [show w2.1 - n0 = w1.1 - n0 + (w2.1 - w1.1) by omega, show vh_SS w2.1 - vh_SS n0 = vh_SS w1.1 - vh_SS n0 + (vh_SS w2.1 - vh_SS w1.1) by omega, List.map_append] at K
                cases v1 with
                | none => exact K
                | some u => exact K

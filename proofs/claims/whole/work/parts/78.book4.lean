section
variable {d : Nat} {mi : Nat → Nat → Int32} {ml : Nat → Nat → Int64}
theorem Rel.stat1 {f : Int32} (h : Rel d mi) : Rel d (vh_sA (vh_sA mi 0 (upd (mi 0) 12 f)) 88 (upd (upd (mi 88) 0 0) 1 f)) := by
  unfold Rel at h ⊢
  simp only [sAn, sAs, sAA, ups, upn, bkv_n, hlv_n, ne_eq, Nat.reduceEqDiff, Nat.reduceLT, Nat.reduceLeDiff, or_true, true_or, not_false_eq_true]
  exact ⟨h.1, h.2.1, trivial, h.2.2.2⟩
theorem rng_of {x : Int32} {a b : Nat} (h1 : nI a ≤ x) (h2 : x ≤ nI b) (ha : a < 2 ^ 31) (hb : b < 2 ^ 31) : rng x a b := by
  obtain ⟨k, hk, rfl⟩ := nIr (Int32.le_trans (nI_pos' ha) h1) h2 hb
  exact ⟨k, (nI_leI ha (by omega)).mp h1, hk, rfl⟩
theorem sim_book {x i : Int32} (hR : Rel d mi) : Sim 63 173 [.int x, .int i] d mi ml := by
  obtain ⟨e, n, hn, hc, hfree, hb⟩ := hR.2.2.2.2.2.2.2.1
  have h88 : mi 88 24 = nI n := e.symm.trans hc
  by_cases hs0 : 0 ≤ x ∧ x ≤ 7
  · obtain ⟨s, hs, rfl⟩ := sN hs0
    by_cases hf : n = 16
    · subst hf
      exact Sim.mk (s63f hs hc) (s173f hs h88) rfl hR.thrown
    · have hn' : n < 16 := by omega
      obtain ⟨e1, e2, e3, z, hz, e4, e5⟩ := hR.2.2.2.1 s hs
      by_cases hm : mi 2 s = -1
      · refine Sim.mk (s63b hn' hs hc hm) (s173b hn' hs ?_ ?_) rfl ?_
        · simp only [sAn, sAs, sAA, ups, upn, bkv_n, hlv_n, ne_eq, Nat.reduceEqDiff, Nat.reduceLT, Nat.reduceLeDiff, or_true, true_or, not_false_eq_true]; exact h88
        · simp only [sAn, sAs, sAA, ups, upn, bkv_n, hlv_n, ne_eq, Nat.reduceEqDiff, Nat.reduceLT, Nat.reduceLeDiff, or_true, true_or, not_false_eq_true]; rw [← e1]; exact hm
        · simp only [sAn, sAs, sAA, ups, upn, bkv_n, hlv_n, ne_eq, Nat.reduceEqDiff, Nat.reduceLT, Nat.reduceLeDiff, or_true, true_or, not_false_eq_true]; exact hR.stat1
      · have h96 : 0 ≤ mi 96 s := by rw [← e1, ln0 e3]; exact hm
        have h97 : mi 97 s = nI z := e2.symm.trans e4
        by_cases hi : ∃ k, k + 9 ≤ z ∧ i = nI k
        · obtain ⟨k, hk, rfl⟩ := hi
          have hx : (fun f => mi 98 (s * 60 + k + f)) = fun f => (if f < 9 then mi 4 (s * 60 + (k + f)) else mi 98 (s * 60 + k + f)) := by
            funext f
            by_cases q : f < 9
            · rw [if_pos q, Nat.add_assoc]
              exact (e5 hm (k + f) (by omega)).symm
            · rw [if_neg q]
          have hG : bkG (fun f => mi 98 (s * 60 + k + f)) ↔ bkG (fun f => mi 4 (s * 60 + (k + f))) := by rw [hx]; exact Iff.rfl
          by_cases hg : bkG (fun f => mi 4 (s * 60 + (k + f)))
          · refine Sim.mk (s63e hn' hs hc hm e4 hz hk hg) (s173e (z := z) hn' hs ?_ ?_ ?_ hz hk ?_) rfl ?_
            · simp only [sAn, sAs, sAA, ups, upn, bkv_n, hlv_n, ne_eq, Nat.reduceEqDiff, Nat.reduceLT, Nat.reduceLeDiff, or_true, true_or, not_false_eq_true, sAnB hn']; exact h88
            · simp only [sAn, sAs, sAA, ups, upn, bkv_n, hlv_n, ne_eq, Nat.reduceEqDiff, Nat.reduceLT, Nat.reduceLeDiff, or_true, true_or, not_false_eq_true, sAnB hn']; exact h96
            · simp only [sAn, sAs, sAA, ups, upn, bkv_n, hlv_n, ne_eq, Nat.reduceEqDiff, Nat.reduceLT, Nat.reduceLeDiff, or_true, true_or, not_false_eq_true, sAnB hn']; exact h97
            · simp only [sAn, sAs, sAA, ups, upn, bkv_n, hlv_n, ne_eq, Nat.reduceEqDiff, Nat.reduceLT, Nat.reduceLeDiff, or_true, true_or, not_false_eq_true, sAnB hn']; exact hG.mpr hg
            · unfold Rel at hR ⊢
              simp only [sAn, sAs, sAA, ups, upn, bkv_n, hlv_n, ne_eq, Nat.reduceEqDiff, Nat.reduceLT, Nat.reduceLeDiff, or_true, true_or, not_false_eq_true, sAnB hn', hlvB hn', bkv_s hn']
              refine ⟨hR.1, hR.2.1, trivial, hR.2.2.2.1, hR.2.2.2.2.1, hR.2.2.2.2.2.1, hR.2.2.2.2.2.2.1, ?_, hR.2.2.2.2.2.2.2.2⟩
              refine ⟨rfl, n + 1, by omega, rfl, ?_, ?_⟩
              · intro j h1 h2
                rw [sAn (by omega)]
                exact hfree j (by omega) h2
              · intro j hj
                by_cases hjn : j = n
                · subst hjn
                  rw [sAs, ups]
                  obtain ⟨g0, g1, g2, g3, g8, g5, g6, g7⟩ := hg
                  have u : ∀ c, c < 9 → bkU (mi (47 + j)) (fun f => mi 4 (s * 60 + (k + f))) c = mi 4 (s * 60 + (k + c)) := fun c hc => if_pos hc
                  rw [u 0 (by decide), u 1 (by decide), u 2 (by decide), u 3 (by decide), u 4 (by decide), u 5 (by decide), u 6 (by decide), u 7 (by decide), u 8 (by decide), show bkU (mi (47 + j)) (fun f => mi 4 (s * 60 + (k + f))) 9 = mi (47 + j) 9 from if_neg (by decide), bkv_g (mi := mi) hn', hfree j (Nat.le_refl _) hn']
                  obtain ⟨dy, hdy, edy⟩ := nIr g2.1 (show _ ≤ nI 364 from g2.2) (by decide)
                  obtain ⟨to, hto, eto⟩ := nIr (Int32.le_trans g3.1 (Int32.le_of_lt g3.2.1)) (show _ ≤ nI 96 from g3.2.2) (by decide)
                  have g31 := g3.2.1
                  rw [eto] at g31
                  obtain ⟨fr, hfr, efr⟩ := nIr g3.1 (Int32.le_of_lt g31) (by omega)
                  rw [efr] at g31
                  have g82 := g8.2
                  rw [edy] at g82
                  obtain ⟨cm, hcm, ecm⟩ := nIr g8.1 g82 (by omega)
                  refine ⟨?_, rfl, rng_of (a := 0) (b := 3) g0.1 g0.2 (by decide) (by decide), rng_of (a := 0) (b := 1) g1.1 g1.2 (by decide) (by decide), rng_of (a := 1) (b := 999) g5.1 g5.2 (by decide) (by decide), rng_of (a := 0) (b := 4) g6.1 g6.2 (by decide) (by decide), rng_of (a := 0) (b := 1) g7.1 g7.2 (by decide) (by decide), dy, fr, to, cm, edy, efr, eto, ecm, hdy, (nI_ltI (by omega) (by omega)).mp g31, hto, hcm, Or.inl rfl⟩
                  intro f hf
                  rw [show bkU (bkv mi j) (fun f => mi 4 (s * 60 + (k + f))) f = mi 4 (s * 60 + (k + f)) from if_pos hf]
                  unfold rowF
                  rw [if_pos (by omega), show 9 * j + f - 9 * j = f by omega]
                  show _ = mi 98 (s * 60 + k + f)
                  rw [Nat.add_assoc]
                  exact e5 hm (k + f) (by omega)
                · rw [sAn hjn, upn hjn]
                  obtain ⟨r, rest⟩ := hb j (by omega)
                  refine ⟨?_, rest⟩
                  intro f hf
                  rw [r f hf]
                  unfold rowF
                  rw [if_neg (by omega)]
          · refine Sim.mk (s63d hn' hs hc hm e4 hz hk hg) (s173d (n := n) (z := z) hn' hs ?_ ?_ ?_ hz hk ?_) rfl ?_
            · simp only [sAnB hn' (Or.inr (show 63 ≤ 88 by decide))]; exact h88
            · simp only [sAnB hn' (Or.inr (show 63 ≤ 96 by decide))]; exact h96
            · simp only [sAnB hn' (Or.inr (show 63 ≤ 97 by decide))]; exact h97
            · simp only [sAnB hn' (Or.inr (show 63 ≤ 98 by decide))]; exact fun z => hg (hG.mp z)
            · apply Rel.thrown
              unfold Rel at hR ⊢
              simp only [sAn, sAs, sAA, ups, upn, bkv_n, hlv_n, ne_eq, Nat.reduceEqDiff, Nat.reduceLT, Nat.reduceLeDiff, or_true, true_or, not_false_eq_true, sAnB hn', hlvB hn', bkv_s hn']
              refine ⟨hR.1, hR.2.1, hR.2.2.1, hR.2.2.2.1, hR.2.2.2.2.1, hR.2.2.2.2.2.1, hR.2.2.2.2.2.2.1, ?_, hR.2.2.2.2.2.2.2.2⟩
              refine ⟨e, n, hn, hc, ?_, ?_⟩
              · intro j h1 h2
                by_cases hjn : j = n
                · subst hjn
                  rw [sAs, show bkU (mi (47 + j)) (fun f => mi 4 (s * 60 + (k + f))) 9 = mi (47 + j) 9 from if_neg (by decide), bkv_g (mi := mi) h2]
                  exact hfree j h1 h2
                · rw [sAn hjn]
                  exact hfree j h1 h2
              · intro j hj
                rw [sAn (by omega)]
                exact hb j hj
        · refine Sim.mk (s63c hn' hs hc hm e4 hz hi) (s173c (z := z) hn' hs ?_ ?_ ?_ hz hi) rfl ?_
          · simp only [sAn, sAs, sAA, ups, upn, bkv_n, hlv_n, ne_eq, Nat.reduceEqDiff, Nat.reduceLT, Nat.reduceLeDiff, or_true, true_or, not_false_eq_true]; exact h88
          · simp only [sAn, sAs, sAA, ups, upn, bkv_n, hlv_n, ne_eq, Nat.reduceEqDiff, Nat.reduceLT, Nat.reduceLeDiff, or_true, true_or, not_false_eq_true]; exact h96
          · simp only [sAn, sAs, sAA, ups, upn, bkv_n, hlv_n, ne_eq, Nat.reduceEqDiff, Nat.reduceLT, Nat.reduceLeDiff, or_true, true_or, not_false_eq_true]; exact h97
          · simp only [sAn, sAs, sAA, ups, upn, bkv_n, hlv_n, ne_eq, Nat.reduceEqDiff, Nat.reduceLT, Nat.reduceLeDiff, or_true, true_or, not_false_eq_true]; exact hR.stat1
  · exact Sim.mk (s63a hs0) (s173a hs0) rfl hR.thrown
end

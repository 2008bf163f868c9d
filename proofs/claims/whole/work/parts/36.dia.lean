/-! BOOKINGS AND HALLS AS NUMBERS -/
def canI (q : Nat) : Int32 := if q = 1000 then -1000000 else nI q
/-- booking's numbers -/
def BkB (b : Nat → Nat) : Prop := b 0 ≤ 3 ∧ b 1 ≤ 1 ∧ b 2 ≤ 364 ∧ b 3 < b 4 ∧ b 4 ≤ 96 ∧ 1 ≤ b 5 ∧ b 5 ≤ 999 ∧ b 6 ≤ 4 ∧ b 7 ≤ 1 ∧ b 8 ≤ b 2 ∧ (b 9 = 1000 ∨ (b 8 ≤ b 9 ∧ b 9 ≤ b 2))
/-- hall's numbers: 0..3 fields, 4 5 fire, 10.. rate, 20.. rank -/
def HlB (g : Nat → Nat) : Prop := g 0 ≤ 8 ∧ g 1 ≤ 50 ∧ g 2 ≤ 60 ∧ g 3 ≤ 100 ∧ (∀ f, f < 2 → g (4 + f) ≤ 500) ∧ (∀ u, u < 5 → g (10 + u) ≤ 1000) ∧ (∀ u, u < 5 → g (20 + u) ≤ 4) ∧ (∀ u v, u < 5 → v < 5 → g (20 + u) = g (20 + v) → u = v)
def DiC (mi : Nat → Nat → Int32) (n : Nat) (b g : Nat → Nat → Nat) : Prop := mi 42 5 = nI n ∧ (∀ k, k < n → ∀ f, f < 9 → mi (47 + k) f = nI (b k f)) ∧ (∀ k, k < 16 → mi (47 + k) 9 = canI (b k 9)) ∧
  ∀ h, h < 4 → (∀ f, f < 4 → mi (6 + 4 * h) f = nI (g h f)) ∧ (∀ f, f < 2 → mi (7 + 4 * h) f = nI (g h (4 + f))) ∧ (∀ u, u < 5 → mi (8 + 4 * h) u = nI (g h (10 + u))) ∧ (∀ u, u < 5 → mi (9 + 4 * h) u = nI (g h (20 + u)))
def DiM (mi : Nat → Nat → Int32) (n : Nat) (b g : Nat → Nat → Nat) : Prop := mi 88 24 = nI n ∧ (∀ k, k < n → ∀ f, f < 9 → mi 100 (9 * k + f) = nI (b k f)) ∧ (∀ k, k < n → mi 101 k = canI (b k 9)) ∧
  ∀ h, h < 4 → (mi 89 h = nI (g h 0) ∧ mi 90 h = nI (g h 1) ∧ mi 91 h = nI (g h 2) ∧ mi 92 h = nI (g h 3)) ∧ (∀ f, f < 2 → mi 93 (2 * h + f) = nI (g h (4 + f))) ∧ (∀ u, u < 5 → mi 94 (5 * h + u) = nI (g h (10 + u))) ∧ (∀ u, u < 5 → mi 95 (5 * h + u) = nI (g h (20 + u)))
def DiB (n : Nat) (b g : Nat → Nat → Nat) : Prop := n ≤ 16 ∧ (∀ k, k < n → BkB (b k)) ∧ (∀ k, n ≤ k → b k 9 = 1000) ∧ ∀ h, h < 4 → HlB (g h)
theorem rng_c {x : Int32} {a b : Nat} (hb : b < 2 ^ 31) (h : rng x a b) : x = nI x.toNatClampNeg ∧ a ≤ x.toNatClampNeg ∧ x.toNatClampNeg ≤ b := by
  obtain ⟨k, h1, h2, rfl⟩ := h
  rw [nI_clamp (by omega)]
  exact ⟨rfl, h1, h2⟩
theorem Rel.dia {d : Nat} {mi : Nat → Nat → Int32} (hR : Rel d mi) : ∃ n b g, DiB n b g ∧ DiC mi n b g ∧ DiM mi n b g := by
  obtain ⟨e, n, hn, hc, hfree, hb⟩ := hR.2.2.2.2.2.2.2.1
  have hH := hR.2.2.2.2.1
  refine ⟨n, fun k f => if f = 9 then (if mi (47 + k) 9 = -1000000 ∨ n ≤ k then 1000 else (mi (47 + k) 9).toNatClampNeg) else (mi (47 + k) f).toNatClampNeg,
    fun h f => if f < 4 then (mi (6 + 4 * h) f).toNatClampNeg else if f < 6 then (mi (7 + 4 * h) (f - 4)).toNatClampNeg else if f < 20 then (mi (8 + 4 * h) (f - 10)).toNatClampNeg else (mi (9 + 4 * h) (f - 20)).toNatClampNeg, ?_, ?_, ?_⟩
  · refine ⟨hn, ?_, ?_, ?_⟩
    · intro k hk
      have hk6 : k < 16 := by omega
      obtain ⟨r, rc, b0, b1, b5, b6, b7, dy, fr, to, cm, e2, e3, e4, e8, hdy, hft, hto, hcm, hcan⟩ := hb k hk
      rw [← bkv_g (mi := mi) hk6] at b0 b1 b5 b6 b7 e2 e3 e4 e8 hcan
      unfold BkB
      simp only [Nat.reduceEqDiff, if_true, if_false, e2, e3, e4, e8, nI_clamp (show dy < 2 ^ 31 by omega), nI_clamp (show fr < 2 ^ 31 by omega), nI_clamp (show to < 2 ^ 31 by omega), nI_clamp (show cm < 2 ^ 31 by omega)]
      refine ⟨(rng_c (by decide) b0).2.2, (rng_c (by decide) b1).2.2, hdy, hft, hto, (rng_c (by decide) b5).2.1, (rng_c (by decide) b5).2.2, (rng_c (by decide) b6).2.2, (rng_c (by decide) b7).2.2, hcm, ?_⟩
      rcases hcan with h | ⟨q, h1, h2, h3⟩
      · exact Or.inl (if_pos (Or.inl h))
      · right
        rw [if_neg (by rw [h3]; rintro (z | z); exact nmN (by omega) z; omega), h3, nI_clamp (by omega)]
        exact ⟨h1, h2⟩
    · intro k hk
      show (if (9 : Nat) = 9 then _ else _) = _
      rw [if_pos rfl, if_pos (Or.inr hk)]
    · intro h hh
      obtain ⟨⟨a0, a1, a2, a3⟩, ⟨r0, r1, r2, r3⟩, a4, a5, a6, a7⟩ := hH h hh
      rw [← hlv_g (mi := mi) (b := 6) hh] at a0 a1 a2 a3
      simp only [← hlv_g (mi := mi) (b := 7) hh, ← hlv_g (mi := mi) (b := 8) hh, ← hlv_g (mi := mi) (b := 9) hh] at a4 a5 a6
      unfold HlB
      simp only [Nat.reduceLT, if_true, a0, a1, a2, a3]
      refine ⟨(rng_c (by decide) r0).2.2, (rng_c (by decide) r1).2.2, (rng_c (by decide) r2).2.2, (rng_c (by decide) r3).2.2, ?_, ?_, ?_, ?_⟩
      · intro f hf
        rw [if_neg (by omega), if_pos (by omega), show 4 + f - 4 = f by omega, (a4 f hf).1]
        exact (rng_c (by decide) (a4 f hf).2).2.2
      · intro f hf
        rw [if_neg (by omega), if_neg (by omega), if_pos (by omega), show 10 + f - 10 = f by omega, (a5 f hf).1]
        exact (rng_c (by decide) (a5 f hf).2).2.2
      · intro f hf
        rw [if_neg (by omega), if_neg (by omega), if_neg (by omega), show 20 + f - 20 = f by omega, (a6 f hf).1]
        exact (rng_c (by decide) (a6 f hf).2).2.2
      · intro u v hu hv
        rw [if_neg (by omega), if_neg (by omega), if_neg (by omega), if_neg (by omega), if_neg (by omega), if_neg (by omega), show 20 + u - 20 = u by omega, show 20 + v - 20 = v by omega, (a6 u hu).1, (a6 v hv).1]
        intro z
        apply a7 u v hu hv
        rw [(rng_c (by decide) (a6 u hu).2).1, (rng_c (by decide) (a6 v hv).2).1, z]
  · refine ⟨hc, ?_, ?_, ?_⟩
    · intro k hk f hf
      have hk6 : k < 16 := by omega
      obtain ⟨r, rc, b0, b1, b5, b6, b7, dy, fr, to, cm, e2, e3, e4, e8, hdy, hft, hto, hcm, hcan⟩ := hb k hk
      rw [← bkv_g (mi := mi) hk6] at b0 b1 b5 b6 b7 e2 e3 e4 e8 hcan
      show _ = nI (if f = 9 then _ else _)
      rw [if_neg (by omega)]
      rcases (show f = 0 ∨ f = 1 ∨ f = 2 ∨ f = 3 ∨ f = 4 ∨ f = 5 ∨ f = 6 ∨ f = 7 ∨ f = 8 by omega) with rfl | rfl | rfl | rfl | rfl | rfl | rfl | rfl | rfl
      · exact (rng_c (by decide) b0).1
      · exact (rng_c (by decide) b1).1
      · rw [e2, nI_clamp (by omega)]
      · rw [e3, nI_clamp (by omega)]
      · rw [e4, nI_clamp (by omega)]
      · exact (rng_c (by decide) b5).1
      · exact (rng_c (by decide) b6).1
      · exact (rng_c (by decide) b7).1
      · rw [e8, nI_clamp (by omega)]
    · intro k hk6
      show _ = canI (if (9 : Nat) = 9 then _ else _)
      rw [if_pos rfl]
      by_cases hk : k < n
      · obtain ⟨r, rc, b0, b1, b5, b6, b7, dy, fr, to, cm, e2, e3, e4, e8, hdy, hft, hto, hcm, hcan⟩ := hb k hk
        rw [← bkv_g (mi := mi) hk6] at hcan
        rcases hcan with h | ⟨q, h1, h2, h3⟩
        · rw [if_pos (Or.inl h), h]; rfl
        · rw [if_neg (by rw [h3]; rintro (z | z); exact nmN (by omega) z; omega), h3, nI_clamp (by omega)]
          unfold canI
          rw [if_neg (by omega)]
      · rw [if_pos (Or.inr (by omega)), bkv_g (mi := mi) hk6, hfree k (by omega) hk6]; rfl
    · intro h hh
      obtain ⟨⟨a0, a1, a2, a3⟩, ⟨r0, r1, r2, r3⟩, a4, a5, a6, a7⟩ := hH h hh
      rw [← hlv_g (mi := mi) (b := 6) hh] at a0 a1 a2 a3
      simp only [← hlv_g (mi := mi) (b := 7) hh, ← hlv_g (mi := mi) (b := 8) hh, ← hlv_g (mi := mi) (b := 9) hh] at a4 a5 a6
      refine ⟨?_, ?_, ?_, ?_⟩
      · intro f hf
        show _ = nI (if f < 4 then _ else _)
        rw [if_pos hf]
        rcases (show f = 0 ∨ f = 1 ∨ f = 2 ∨ f = 3 by omega) with rfl | rfl | rfl | rfl
        · rw [a0]; exact (rng_c (by decide) r0).1
        · rw [a1]; exact (rng_c (by decide) r1).1
        · rw [a2]; exact (rng_c (by decide) r2).1
        · rw [a3]; exact (rng_c (by decide) r3).1
      · intro f hf
        show _ = nI (if 4 + f < 4 then _ else _)
        rw [if_neg (by omega), if_pos (by omega), show 4 + f - 4 = f by omega, (a4 f hf).1]
        exact (rng_c (by decide) (a4 f hf).2).1
      · intro f hf
        show _ = nI (if 10 + f < 4 then _ else _)
        rw [if_neg (by omega), if_neg (by omega), if_pos (by omega), show 10 + f - 10 = f by omega, (a5 f hf).1]
        exact (rng_c (by decide) (a5 f hf).2).1
      · intro f hf
        show _ = nI (if 20 + f < 4 then _ else _)
        rw [if_neg (by omega), if_neg (by omega), if_neg (by omega), show 20 + f - 20 = f by omega, (a6 f hf).1]
        exact (rng_c (by decide) (a6 f hf).2).1
  · refine ⟨e.symm.trans hc, ?_, ?_, ?_⟩
    · intro k hk f hf
      have hk6 : k < 16 := by omega
      obtain ⟨r, rc, b0, b1, b5, b6, b7, dy, fr, to, cm, e2, e3, e4, e8, hdy, hft, hto, hcm, hcan⟩ := hb k hk
      rw [← r f hf]
      rw [← bkv_g (mi := mi) hk6] at b0 b1 b5 b6 b7 e2 e3 e4 e8 hcan ⊢
      show _ = nI (if f = 9 then _ else _)
      rw [if_neg (by omega)]
      rcases (show f = 0 ∨ f = 1 ∨ f = 2 ∨ f = 3 ∨ f = 4 ∨ f = 5 ∨ f = 6 ∨ f = 7 ∨ f = 8 by omega) with rfl | rfl | rfl | rfl | rfl | rfl | rfl | rfl | rfl
      · exact (rng_c (by decide) b0).1
      · exact (rng_c (by decide) b1).1
      · rw [e2, nI_clamp (by omega)]
      · rw [e3, nI_clamp (by omega)]
      · rw [e4, nI_clamp (by omega)]
      · exact (rng_c (by decide) b5).1
      · exact (rng_c (by decide) b6).1
      · exact (rng_c (by decide) b7).1
      · rw [e8, nI_clamp (by omega)]
    · intro k hk
      have hk6 : k < 16 := by omega
      obtain ⟨r, rc, b0, b1, b5, b6, b7, dy, fr, to, cm, e2, e3, e4, e8, hdy, hft, hto, hcm, hcan⟩ := hb k hk
      rw [← rc]
      rw [← bkv_g (mi := mi) hk6] at hcan ⊢
      show _ = canI (if (9 : Nat) = 9 then _ else _)
      rw [if_pos rfl]
      rcases hcan with h | ⟨q, h1, h2, h3⟩
      · rw [if_pos (Or.inl h), h]; rfl
      · rw [if_neg (by rw [h3]; rintro (z | z); exact nmN (by omega) z; omega), h3, nI_clamp (by omega)]
        unfold canI
        rw [if_neg (by omega)]
    · intro h hh
      obtain ⟨⟨a0, a1, a2, a3⟩, ⟨r0, r1, r2, r3⟩, a4, a5, a6, a7⟩ := hH h hh
      rw [← hlv_g (mi := mi) (b := 6) hh] at a0 a1 a2 a3
      simp only [← hlv_g (mi := mi) (b := 7) hh, ← hlv_g (mi := mi) (b := 8) hh, ← hlv_g (mi := mi) (b := 9) hh] at a4 a5 a6
      simp only [Nat.reduceLT, if_true]
      rw [a0, a1, a2, a3]
      refine ⟨⟨(rng_c (by decide) r0).1, (rng_c (by decide) r1).1, (rng_c (by decide) r2).1, (rng_c (by decide) r3).1⟩, ?_, ?_, ?_⟩
      · intro f hf
        rw [if_neg (by omega), if_pos (by omega), show 4 + f - 4 = f by omega, (a4 f hf).1]
        exact (rng_c (by decide) (a4 f hf).2).1
      · intro f hf
        rw [if_neg (by omega), if_neg (by omega), if_pos (by omega), show 10 + f - 10 = f by omega, (a5 f hf).1]
        exact (rng_c (by decide) (a5 f hf).2).1
      · intro f hf
        rw [if_neg (by omega), if_neg (by omega), if_neg (by omega), show 20 + f - 20 = f by omega, (a6 f hf).1]
        exact (rng_c (by decide) (a6 f hf).2).1

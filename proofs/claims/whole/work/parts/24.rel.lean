/-! HOW THE CLASS AND THE REFERENCE STAND TO EACH OTHER BETWEEN TWO CALLS -/
/-- sheets -/
def RSh (lc zc ic lr zr ir : Nat → Int32) : Prop := ∀ s, s < 8 → lc s = lr s ∧ zc s = zr s ∧ (lc s = -1 ∨ lc s = 0 ∨ lc s = 1 ∨ lc s = 2) ∧ ∃ z, z ≤ 60 ∧ zc s = nI z ∧ (lc s ≠ -1 → ∀ i, i < z → ic (s * 60 + i) = ir (s * 60 + i))
/-- a number of that range -/
def rng (x : Int32) (a b : Nat) : Prop := ∃ k : Nat, a ≤ k ∧ k ≤ b ∧ x = nI k
/-- halls: h -> fields, fire, rate, rank -/
def RHl (hc fc rc kc : Nat → Nat → Int32) (st li la fo fi ra rk : Nat → Int32) : Prop := ∀ h, h < 4 →
  (hc h 0 = st h ∧ hc h 1 = li h ∧ hc h 2 = la h ∧ hc h 3 = fo h) ∧ (rng (st h) 0 8 ∧ rng (li h) 0 50 ∧ rng (la h) 0 60 ∧ rng (fo h) 0 100) ∧
  (∀ f, f < 2 → fc h f = fi (2 * h + f) ∧ rng (fi (2 * h + f)) 0 500) ∧ (∀ u, u < 5 → rc h u = ra (5 * h + u) ∧ rng (ra (5 * h + u)) 0 1000) ∧
  (∀ u, u < 5 → kc h u = rk (5 * h + u) ∧ rng (rk (5 * h + u)) 0 4) ∧ (∀ u v, u < 5 → v < 5 → rk (5 * h + u) = rk (5 * h + v) → u = v)
/-- tape -/
def RTp (nc : Int32) (bc : Nat → Int32) (nr : Int32) (br : Nat → Int32) : Prop := nc = nr ∧ ∃ n, n ≤ 400 ∧ nc = nI n ∧ ∀ i, i < n → bc i = br i ∧ rng (br i) 0 255
/-- bookings -/
def RBk (nc : Int32) (bc : Nat → Nat → Int32) (nr : Int32) (row can : Nat → Int32) : Prop := nc = nr ∧ ∃ n, n ≤ 16 ∧ nc = nI n ∧ (∀ k, n ≤ k → k < 16 → bc k 9 = -1000000) ∧
  ∀ k, k < n → (∀ f, f < 9 → bc k f = row (9 * k + f)) ∧ bc k 9 = can k ∧ rng (bc k 0) 0 3 ∧ rng (bc k 1) 0 1 ∧ rng (bc k 5) 1 999 ∧ rng (bc k 6) 0 4 ∧ rng (bc k 7) 0 1 ∧
    ∃ dy fr to cm : Nat, bc k 2 = nI dy ∧ bc k 3 = nI fr ∧ bc k 4 = nI to ∧ bc k 8 = nI cm ∧ dy ≤ 364 ∧ fr < to ∧ to ≤ 96 ∧ cm ≤ dy ∧ (bc k 9 = -1000000 ∨ ∃ q, cm ≤ q ∧ q ≤ dy ∧ bc k 9 = nI q)
/-- a log: the list that was told, and the same in order of time -/
def lgIns (x : Int32 × Int32 × Int32 × Int32) : List (Int32 × Int32 × Int32 × Int32) → List (Int32 × Int32 × Int32 × Int32)
  | [] => [x]
  | y :: l => if x.1 < y.1 then x :: y :: l else y :: lgIns x l
def lgSort (l : List (Int32 × Int32 × Int32 × Int32)) : List (Int32 × Int32 × Int32 × Int32) := l.foldl (fun a x => lgIns x a) []
def lgL (n : Nat) (t h a b : Nat → Int32) : List (Int32 × Int32 × Int32 × Int32) := (List.range n).map (fun i => (t i, h i, a i, b i))
def RLg (nc : Int32) (t h a b : Nat → Int32) (nr : Int32) (told : List (Int32 × Int32 × Int32 × Int32) → Prop) (okp : Int32 × Int32 × Int32 × Int32 → Prop) : Prop := nc = nr ∧ ∃ n, n ≤ 40 ∧ nc = nI n ∧ ∃ l, l.length = n ∧ told l ∧ lgL n t h a b = lgSort l ∧ ∀ x ∈ l, okp x
def okC (x : Int32 × Int32 × Int32 × Int32) : Prop := rng x.1 0 35039 ∧ rng x.2.1 0 3 ∧ rng x.2.2.1 1 600
def okG (x : Int32 × Int32 × Int32 × Int32) : Prop := rng x.1 0 364 ∧ rng x.2.1 0 3 ∧ rng x.2.2.1 0 9 ∧ rng x.2.2.2 0 9
def okL (x : Int32 × Int32 × Int32 × Int32) : Prop := rng x.1 0 35039 ∧ rng x.2.1 0 3 ∧ rng x.2.2.1 0 255
/-- meetings -/
def RMt (nc : Int32) (va ca hc : Nat → Int32) (nr : Int32) (ye no qu hr : Nat → Int32) : Prop := nc = nr ∧ ∃ n, n ≤ 10 ∧ nc = nI n ∧ ∀ k, k < n → hc k = hr k ∧ rng (ye k) 0 99 ∧ rng (no k) 0 99 ∧ rng (qu k) 0 99 ∧
  (hr k = -1000000 ∨ ∃ g, g < k ∧ hr k = nI g) ∧ (va k = 0 ∨ va k = 1) ∧ (ca k = 0 ∨ ca k = 1) ∧
  (va k = 1 ↔ qu k ≤ ye k + no k ∧ ∀ g, g < k → hr k = nI g → ca g = 1) ∧ (ca k = 1 ↔ va k = 1 ∧ no k < ye k)
/-- asks -/
def RAs (nc : Int32) (bc : Nat → Int32) (nr : Int32) (br : Nat → Int32) : Prop := nc = nr ∧ ∃ n, n ≤ 16 ∧ nc = nI n ∧ ∀ i, i < n → bc i = br i
def bkv (mi : Nat → Nat → Int32) : Nat → Nat → Int32 := fun k => if k < 16 then mi (47 + k) else fun _ => 0
def hlv (mi : Nat → Nat → Int32) (b : Nat) : Nat → Nat → Int32 := fun h => if h < 4 then mi (b + 4 * h) else fun _ => 0
theorem bkv_n {mi : Nat → Nat → Int32} {a : Nat} {f : Nat → Int32} (h : a < 47 ∨ 63 ≤ a) : bkv (vh_sA mi a f) = bkv mi := by
  funext k
  unfold bkv
  by_cases hk : k < 16
  · rw [if_pos hk, if_pos hk, sAn (by omega)]
  · rw [if_neg hk, if_neg hk]
theorem bkv_s {mi : Nat → Nat → Int32} {k : Nat} {f : Nat → Int32} (h : k < 16) : bkv (vh_sA mi (47 + k) f) = vh_sA (bkv mi) k f := by
  funext j
  unfold bkv
  by_cases hj : j < 16
  · rw [if_pos hj]
    by_cases e : j = k
    · rw [e, sAs, sAs]
    · rw [sAn (by omega), sAn e, if_pos hj]
  · rw [if_neg hj, sAn (by omega), if_neg hj]
theorem bkv_g {mi : Nat → Nat → Int32} {k : Nat} (h : k < 16) : mi (47 + k) = bkv mi k := by unfold bkv; rw [if_pos h]
theorem hlv_n {mi : Nat → Nat → Int32} {a b : Nat} {f : Nat → Int32} (hb : b < 10) (h : a < 6 ∨ 22 ≤ a) (hb6 : 6 ≤ b) : hlv (vh_sA mi a f) b = hlv mi b := by
  funext k
  unfold hlv
  by_cases hk : k < 4
  · rw [if_pos hk, if_pos hk, sAn (by omega)]
  · rw [if_neg hk, if_neg hk]
theorem hlv_g {mi : Nat → Nat → Int32} {b k : Nat} (h : k < 4) : mi (b + 4 * k) = hlv mi b k := by unfold hlv; rw [if_pos h]
def Rel (d : Nat) (mi : Nat → Nat → Int32) : Prop := d < 4 ∧ (mi 0 11 = mi 88 27 ∧ rng (mi 88 27) 0 364) ∧ mi 0 12 = mi 88 1 ∧ RSh (mi 2) (mi 3) (mi 4) (mi 96) (mi 97) (mi 98) ∧
  RHl (hlv mi 6) (hlv mi 7) (hlv mi 8) (hlv mi 9) (mi 89) (mi 90) (mi 91) (mi 92) (mi 93) (mi 94) (mi 95) ∧
  RTp (mi 22 1) (mi 23) (mi 88 13) (mi 99) ∧ mi 24 6 = mi 88 14 ∧ RBk (mi 42 5) (bkv mi) (mi 88 24) (mi 100) (mi 101) ∧
  RLg (mi 67 4) (mi 68) (mi 69) (mi 70) (mi 71) (mi 88 33) (fun l => l = lgL l.length (mi 107) (mi 106) (mi 108) (fun _ => 0)) okC ∧
  RLg (mi 72 4) (mi 73) (mi 74) (mi 75) (mi 76) (mi 88 37) (fun l => l = lgL l.length (mi 112) (mi 109) (mi 110) (mi 111)) okG ∧
  RLg (mi 77 4) (mi 78) (mi 79) (mi 80) (mi 81) (mi 88 42) (fun l => l = lgL l.length (mi 114) (mi 113) (mi 115) (fun _ => 0)) okL ∧
  RMt (mi 82 3) (mi 83) (mi 84) (mi 85) (mi 88 46) (mi 117) (mi 118) (mi 119) (mi 120) ∧ RAs (mi 86 1) (mi 87) (mi 88 53) (mi 121)
/-- one call of both -/
def Sim (jx jm : Nat) (as : List Value) (d : Nat) (mi : Nat → Nat → Int32) (ml : Nat → Nat → Int64) : Prop := ∃ (v : Int32) (d' : Nat) (mi1 mi2 : Nat → Nat → Int32) (ml1 : Nat → Nat → Int64),
  vh_C jx (.ref 0 :: as) (vh_K d mi ml) = some (some (.int v), vh_K d' mi1 ml1) ∧ vh_C jm (.ref 88 :: as) (vh_K d' mi1 ml1) = some (some (.int v), vh_K d' mi2 ml1) ∧ Rel d' mi2
/-- the reference's first act in each call -/
theorem thr {mi : Nat → Nat → Int32} {f : Nat → Int32} {k : Nat} (h : k ≠ 0) : upd f 0 0 k = f k := if_neg h
theorem Rel.thrown {d : Nat} {mi : Nat → Nat → Int32} (h : Rel d mi) : Rel d (vh_sA mi 88 (upd (mi 88) 0 0)) := by
  unfold Rel at h ⊢
  simp only [sAn, sAs, upn, bkv_n, hlv_n, ne_eq, Nat.reduceEqDiff, Nat.reduceLT, Nat.reduceLeDiff, or_true, true_or, not_false_eq_true]
  exact h
theorem sim_status {d : Nat} {mi : Nat → Nat → Int32} {ml : Nat → Nat → Int64} (h : Rel d mi) : Sim 145 218 [] d mi ml := by
  refine ⟨mi 0 12, d, mi, vh_sA mi 88 (upd (mi 88) 0 0), ml, ?_, ?_, h.thrown⟩
  · simp only [c145, e145_0, e145_1, e145_4, ok0]
  · simp only [c218, e218_0, e218_1, e218_2, e218_5, e218_6, e218_9, ok88, sAs, thr (mi := mi) (f := mi 88) (show 1 ≠ 0 by decide), h.2.2.1]
theorem sim_fault {d : Nat} {mi : Nat → Nat → Int32} {ml : Nat → Nat → Int64} (h : Rel d mi) : Sim 59 170 [] d mi ml := by
  refine ⟨mi 24 6, d, mi, vh_sA mi 88 (upd (mi 88) 0 0), ml, ?_, ?_, h.thrown⟩
  · simp only [c59, e59_0, e59_1, e59_4, e59_7, ok0, ok24, rf0_3]
  · simp only [c170, e170_0, e170_1, e170_2, e170_5, e170_6, e170_9, ok88, sAs, thr (mi := mi) (f := mi 88) (show 14 ≠ 0 by decide), h.2.2.2.2.2.2.1]

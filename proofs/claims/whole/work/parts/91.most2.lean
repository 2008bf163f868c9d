def pN (g : Nat → Nat → Nat) (p : Nat → Nat) : Nat := if p 9 = 1000 then (p 4 - p 3) * g (p 0) (10 + p 6) else if g (p 0) 2 ≤ p 2 - p 9 then 0 else (p 4 - p 3) * g (p 0) (10 + p 6) * g (p 0) 3 / 100
theorem pN_le {g : Nat → Nat → Nat} {p : Nat → Nat} (hp : BkB p) (hg : HlB (g (p 0))) : pN g p ≤ 96000 := by
  obtain ⟨a0, a1, a2, a3, a4, a5, a5', a6, a7, a8, a9⟩ := hp
  have h1 : (p 4 - p 3) * g (p 0) (10 + p 6) ≤ 96 * 1000 := Nat.mul_le_mul (by omega) (hg.2.2.2.2.2.1 (p 6) (by omega))
  have h2 : (p 4 - p 3) * g (p 0) (10 + p 6) * g (p 0) 3 ≤ 96 * 1000 * 100 := Nat.mul_le_mul h1 hg.2.2.2.1
  unfold pN
  split
  · exact h1
  · split
    · exact Nat.zero_le _
    · omega
theorem prI_e {g : Nat → Nat → Nat} {p : Nat → Nat} (hp : BkB p) (hg : HlB (g (p 0))) : prI g p = nI (pN g p) := by
  obtain ⟨a0, a1, a2, a3, a4, a5, a5', a6, a7, a8, a9⟩ := hp
  have h1 : (p 4 - p 3) * g (p 0) (10 + p 6) ≤ 96 * 1000 := Nat.mul_le_mul (by omega) (hg.2.2.2.2.2.1 (p 6) (by omega))
  have h2 : (p 4 - p 3) * g (p 0) (10 + p 6) * g (p 0) 3 ≤ 96 * 1000 * 100 := Nat.mul_le_mul h1 hg.2.2.2.1
  have hl := hg.2.2.1
  unfold prI pN
  rw [pk_sub (show p 3 ≤ p 4 by omega), pk_mul, pk_mul]
  by_cases q : p 9 = 1000
  · rw [if_pos (can_e.mpr (Or.inl q)), if_pos q]
  · rw [if_neg (fun z => by rcases can_e.mp z with z | z <;> omega), if_neg q]
    unfold canI
    rw [if_neg q, pk_sub (show p 9 ≤ p 2 by omega)]
    by_cases q2 : g (p 0) 2 ≤ p 2 - p 9
    · rw [if_pos (nI_le q2 (by omega)), if_pos q2]; rfl
    · rw [if_neg (nI_ge (by omega) (by omega)), if_neg q2]
      exact pk_div (d := 100) (by omega) (by decide) (by decide)
theorem DiB.pr {n : Nat} {b g : Nat → Nat → Nat} {k : Nat} (B : DiB n b g) (hk : k < n) : prI g (b k) = nI (pN g (b k)) ∧ pN g (b k) ≤ 96000 := by
  have hb := B.2.1 k hk
  have hg := B.2.2.2 (b k 0) (by have := hb.1; omega)
  exact ⟨prI_e hb hg, pN_le hb hg⟩
theorem psI_e {n : Nat} {b g : Nat → Nat → Nat} {M : Nat} (B : DiB n b g) : ∀ {k : Nat}, k ≤ n → psI b g M k = nI (wtF (fun k => pN g (b k)) M.testBit k) := by
  intro k
  induction k with
  | zero => intro _; rfl
  | succ k ih =>
    intro hk
    by_cases q : M.testBit k = true
    · rw [ps_t q, wt_t q, ih (by omega), (B.pr (show k < n by omega)).1, nI_add]
    · rw [ps_f q, wt_f q, ih (by omega)]
def mwB (b g : Nat → Nat → Nat) (H f D t : Nat) (k : Nat) : Bool := decide (b k 0 = H ∧ b k 1 = f ∧ b k 2 = D) && (thB (b k) t && frB g (b k))
theorem mw_i {b g : Nat → Nat → Nat} {H f D t k : Nat} : mwB b g H f D t k = true ↔ (b k 0 = H ∧ b k 1 = f ∧ b k 2 = D) ∧ thB (b k) t = true ∧ frB g (b k) = true := by unfold mwB; rw [Bool.and_eq_true, Bool.and_eq_true, decide_eq_true_iff]
theorem mw_tr {n : Nat} {b g : Nat → Nat → Nat} {H f D t : Nat} (B : DiB n b g) : ∀ a c e, a < n → c < n → e < n → mwB b g H f D t a = true → mwB b g H f D t c = true → mwB b g H f D t e = true → b a 3 ≤ b c 3 → b c 3 ≤ b e 3 → ¬ clsh g (b a) (b c) = true → ¬ clsh g (b c) (b e) = true → ¬ clsh g (b a) (b e) = true := by
  intro a c e ha hc he wa wc we k1 k2 n1 n2 n3
  obtain ⟨⟨a1, a2, a3⟩, -⟩ := mw_i.mp wa
  obtain ⟨⟨c1, c2, c3⟩, -⟩ := mw_i.mp wc
  obtain ⟨⟨e1, e2, e3⟩, -⟩ := mw_i.mp we
  have fa := (B.2.1 a ha).2.2.2.1
  have fc := (B.2.1 c hc).2.2.2.1
  have fe := (B.2.1 e he).2.2.2.1
  rw [clsh_i, a1, a2, a3, c1, c2, c3] at n1
  rw [clsh_i, c1, c2, c3, e1, e2, e3] at n2
  rw [clsh_i, a1, a2, a3, e1, e2, e3] at n3
  have n1 : ¬ nearB (g H 0) (b a 3) (b a 4) (b a 6) (b c 3) (b c 4) (b c 6) = true := fun z => n1 ⟨⟨rfl, rfl, rfl⟩, z⟩
  have n2 : ¬ nearB (g H 0) (b c 3) (b c 4) (b c 6) (b e 3) (b e 4) (b e 6) = true := fun z => n2 ⟨⟨rfl, rfl, rfl⟩, z⟩
  have n3 := n3.2
  by_cases u1 : b a 6 = b c 6
  · rw [near_e u1] at n1
    by_cases u2 : b c 6 = b e 6
    · rw [near_e u2] at n2
      rw [near_e (u1.trans u2)] at n3
      omega
    · rw [near_n u2] at n2
      rw [near_n (fun z => u2 (u1.symm.trans z))] at n3
      omega
  · rw [near_n u1] at n1
    by_cases u2 : b c 6 = b e 6
    · rw [near_e u2] at n2
      rw [near_n (fun z => u1 (z.trans u2.symm))] at n3
      omega
    · rw [near_n u2] at n2
      by_cases u3 : b a 6 = b e 6
      · rw [near_e u3] at n3; omega
      · rw [near_n u3] at n3; omega
/-! LONGS AS INTEGERS -/
def iL (z : Int) : Int64 := Int64.ofInt z
theorem iL_t {z : Int} (h1 : -(2 ^ 62) ≤ z) (h2 : z ≤ 2 ^ 62) : (iL z).toInt = z := Int64.toInt_ofInt_of_le (by omega) (by omega)
theorem iL_add {a c : Int} : iL a + iL c = iL (a + c) := (Int64.ofInt_add a c).symm
theorem iL_sub {a c : Int} : iL a - iL c = iL (a - c) := (Int64.ofInt_sub a c).symm
theorem iL_neg {a : Int} : -iL a = iL (-a) := (Int64.ofInt_neg a).symm
theorem iL_n {n : Nat} (h : n ≤ 2 ^ 62) : lN n = iL n := by
  apply Int64.toInt_inj.mp
  rw [pk_lT (by omega), iL_t (by omega) (by omega)]
theorem iL_lt {a c : Int} (a1 : -(2 ^ 62) ≤ a) (a2 : a ≤ 2 ^ 62) (c1 : -(2 ^ 62) ≤ c) (c2 : c ≤ 2 ^ 62) : iL a < iL c ↔ a < c := by
  rw [Int64.lt_iff_toInt_lt, iL_t a1 a2, iL_t c1 c2]
theorem iL_mask {w S : Nat} (hS : S < 65536) : (-iL ((w : Int) * 65536 - (S : Int)) &&& 65535).toInt32 = nI S := by
  have e : (-iL ((w : Int) * 65536 - (S : Int))) &&& 65535 = lN S := by
    rw [iL_neg]
    apply Int64.toBitVec_inj.mp
    apply BitVec.eq_of_toNat_eq
    rw [Int64.toBitVec_and, BitVec.toNat_and, show (65535 : Int64).toBitVec.toNat = 2 ^ 16 - 1 from rfl, Nat.and_two_pow_sub_one_eq_mod, l_tn (by omega)]
    have : (iL (-((w : Int) * 65536 - (S : Int)))).toBitVec.toNat = ((-((w : Int) * 65536 - (S : Int))) % (2 ^ 64 : Int)).toNat := by
      show (BitVec.ofInt 64 _).toNat = _
      rw [BitVec.toNat_ofInt]
      rfl
    rw [this]
    omega
  rw [e, lN_i]
theorem VS_le {p : Nat → Nat} {S : Nat → Bool} : ∀ {k : Nat}, k ≤ 16 → (∀ j, j < k → p j ≤ 96000) → -(65536 * (k : Int)) ≤ VS p S k ∧ VS p S k ≤ 96000 * 65536 * (k : Int) := by
  intro k
  induction k with
  | zero => intro _ _; show _ ≤ (0 : Int) ∧ (0 : Int) ≤ _; omega
  | succ k ih =>
    intro hk hp
    obtain ⟨h1, h2⟩ := ih (by omega) (fun j hj => hp j (by omega))
    have h3 := hp k (by omega)
    have h4 := p16 (show k < 16 by omega)
    show _ ≤ VS p S k + (if S k = true then (p k : Int) * 65536 - ((2 ^ k : Nat) : Int) else 0) ∧ VS p S k + (if S k = true then (p k : Int) * 65536 - ((2 ^ k : Nat) : Int) else 0) ≤ _
    generalize 2 ^ k = z at h4 ⊢
    split <;> omega

/-! HOW MANY BITS -/
theorem andN {a b : Nat} (ha : a < 2 ^ 31) (hb : b < 2 ^ 31) : nI a &&& nI b = nI (a &&& b) := by
  have := Nat.and_lt_two_pow a hb
  apply Int32.toBitVec_inj.mp
  apply BitVec.eq_of_toNat_eq
  rw [Int32.toBitVec_and, BitVec.toNat_and, pk_tn (by omega), pk_tn (by omega), pk_tn (by omega)]
def pc (M : Nat) : Nat → Nat
  | 0 => 0
  | k + 1 => if M.testBit k = true then pc M k + 1 else pc M k
theorem pc_t {M k : Nat} (h : M.testBit k = true) : pc M (k + 1) = pc M k + 1 := if_pos h
theorem pc_f {M k : Nat} (h : ¬ M.testBit k = true) : pc M (k + 1) = pc M k := if_neg h
theorem pc_le {M : Nat} : ∀ {k : Nat}, pc M k ≤ k := by
  intro k
  induction k with
  | zero => exact Nat.le_refl _
  | succ k ih => unfold pc; split <;> omega
theorem pc_c {M N : Nat} : ∀ {k : Nat}, (∀ j, j < k → M.testBit j = N.testBit j) → pc M k = pc N k := by
  intro k
  induction k with
  | zero => intro _; rfl
  | succ k ih =>
    intro h
    unfold pc
    rw [ih (fun j hj => h j (by omega)), h k (by omega)]
theorem pc_hi {M a : Nat} : ∀ {k : Nat}, M < 2 ^ a → a ≤ k → pc M k = pc M a := by
  intro k
  induction k with
  | zero => intro _ h; rw [show a = 0 by omega]
  | succ k ih =>
    intro h1 h2
    by_cases e : a = k + 1
    · rw [e]
    · rw [pc_f (by rw [Nat.testBit_lt_two_pow (Nat.lt_of_lt_of_le h1 (Nat.pow_le_pow_right (by decide) (by omega)))]; decide), ih h1 (by omega)]
def bc1 (M : Nat) : Nat := Nat.sub M (Nat.land (Nat.div M 2) 1431655765)
def bc2 (x : Nat) : Nat := Nat.add (Nat.land x 858993459) (Nat.land (Nat.div x 4) 858993459)
def bc3 (x : Nat) : Nat := Nat.land (Nat.add x (Nat.div x 16)) 252645135
def bc4 (x : Nat) : Nat := Nat.add x (Nat.div x 256)
def bc5 (x : Nat) : Nat := Nat.land (Nat.add x (Nat.div x 65536)) 63
def bcM (M : Nat) : Nat := bc5 (bc4 (bc3 (bc2 (bc1 M))))
def pcF (M : Nat) : Nat → Nat
  | 0 => 0
  | k + 1 => Nat.add (pcF M k) (Nat.mod (Nat.div M (Nat.pow 2 k)) 2)
theorem pcF_e {M : Nat} : ∀ {k : Nat}, pcF M k = pc M k := by
  intro k
  induction k with
  | zero => rfl
  | succ k ih =>
    show pcF M k + M / 2 ^ k % 2 = _
    rw [ih]
    have h := Nat.testBit_eq_decide_div_mod_eq (x := M) (i := k)
    by_cases q : M / 2 ^ k % 2 = 1
    · rw [pc_t (by rw [h]; exact decide_eq_true q), q]
    · rw [pc_f (by rw [h]; simpa using q)]; omega
def chk (f : Nat → Bool) : Nat → Nat → Bool
  | 0, b => f b
  | k + 1, b => chk f k (Nat.mul 2 b) && chk f k (Nat.add (Nat.mul 2 b) 1)
theorem chk_i {f : Nat → Bool} : ∀ (k b : Nat), chk f k b = true → ∀ j, j < 2 ^ k → f (2 ^ k * b + j) = true := by
  intro k
  induction k with
  | zero =>
    intro b h j hj
    have : j = 0 := by simpa using hj
    subst this
    rw [show 2 ^ 0 * b + 0 = b by simp]
    exact h
  | succ k ih =>
    intro b h j hj
    have h : (chk f k (2 * b) && chk f k (2 * b + 1)) = true := h
    rw [Bool.and_eq_true] at h
    have e : 2 ^ (k + 1) = 2 ^ k * 2 := Nat.pow_succ ..
    by_cases q : j < 2 ^ k
    · have := ih (2 * b) h.1 j q
      rw [← Nat.mul_assoc, ← e] at this
      exact this
    · have := ih (2 * b + 1) h.2 (j - 2 ^ k) (by omega)
      rw [Nat.mul_add, ← Nat.mul_assoc, ← e, Nat.mul_one, Nat.add_assoc, show 2 ^ k + (j - 2 ^ k) = j by omega] at this
      exact this
theorem bc_all : chk (fun M => Nat.beq (bcM M) (pcF M 16)) 16 0 = true := by decide +kernel
theorem bc_e {M : Nat} (h : M < 2 ^ 16) : bcM M = pc M 16 := by
  have := chk_i 16 0 bc_all M h
  rw [Nat.mul_zero, Nat.zero_add] at this
  rw [← pcF_e]
  exact Nat.eq_of_beq_eq_true this

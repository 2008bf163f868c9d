/-! THE MOST WORTH -/
def VS (p : Nat → Nat) (S : Nat → Bool) : Nat → Int
  | 0 => 0
  | k + 1 => VS p S k + (if S k = true then (p k : Int) * 65536 - ((2 ^ k : Nat) : Int) else 0)
def wtF (p : Nat → Nat) (S : Nat → Bool) : Nat → Nat
  | 0 => 0
  | k + 1 => if S k = true then wtF p S k + p k else wtF p S k
theorem wt_t {p : Nat → Nat} {S : Nat → Bool} {k : Nat} (h : S k = true) : wtF p S (k + 1) = wtF p S k + p k := if_pos h
theorem wt_f {p : Nat → Nat} {S : Nat → Bool} {k : Nat} (h : ¬ S k = true) : wtF p S (k + 1) = wtF p S k := if_neg h
theorem wt_c {p : Nat → Nat} {S T : Nat → Bool} : ∀ {k : Nat}, (∀ j, j < k → S j = T j) → wtF p S k = wtF p T k := by
  intro k
  induction k with
  | zero => intro _; rfl
  | succ k ih =>
    intro h
    unfold wtF
    rw [ih (fun j hj => h j (by omega)), h k (by omega)]
theorem wt_le {p : Nat → Nat} {S : Nat → Bool} {c : Nat} : ∀ {k : Nat}, (∀ j, j < k → p j ≤ c) → wtF p S k ≤ c * k := by
  intro k
  induction k with
  | zero => intro _; exact Nat.le_refl _
  | succ k ih =>
    intro h
    have h1 := ih (fun j hj => h j (by omega))
    have h2 := h k (by omega)
    unfold wtF
    rw [Nat.mul_succ]
    split <;> omega
theorem VS_m {p : Nat → Nat} {M : Nat} : ∀ {k : Nat}, VS p M.testBit k = (wtF p M.testBit k : Int) * 65536 - ((M % 2 ^ k : Nat) : Int) := by
  intro k
  induction k with
  | zero =>
    have : M % 2 ^ 0 = 0 := Nat.mod_one _
    rw [this]
    show (0 : Int) = ((0 : Nat) : Int) * 65536 - ((0 : Nat) : Int)
    omega
  | succ k ih =>
    show VS p M.testBit k + _ = _
    have e : M % 2 ^ (k + 1) = M % 2 ^ k + 2 ^ k * (M / 2 ^ k % 2) := by rw [Nat.pow_succ, Nat.mod_mul]
    have h := Nat.testBit_eq_decide_div_mod_eq (x := M) (i := k)
    rw [ih, e]
    by_cases q : M / 2 ^ k % 2 = 1
    · have hb : M.testBit k = true := by rw [h]; exact decide_eq_true q
      rw [if_pos hb, wt_t hb, q, Nat.mul_one]
      omega
    · have hb : ¬ M.testBit k = true := by rw [h]; simpa using q
      rw [if_neg hb, wt_f hb, show M / 2 ^ k % 2 = 0 by omega, Nat.mul_zero]
      omega
theorem VS_0 {p : Nat → Nat} {S : Nat → Bool} : ∀ {k : Nat}, (∀ j, j < k → ¬ S j = true) → VS p S k = 0 := by
  intro k
  induction k with
  | zero => intro _; rfl
  | succ k ih =>
    intro h
    show VS p S k + _ = _
    rw [ih (fun j hj => h j (by omega)), if_neg (h k (by omega))]; rfl
theorem VS_c {p : Nat → Nat} {S T : Nat → Bool} : ∀ {k : Nat}, (∀ j, j < k → S j = T j) → VS p S k = VS p T k := by
  intro k
  induction k with
  | zero => intro _; rfl
  | succ k ih =>
    intro h
    show VS p S k + _ = VS p T k + _
    rw [ih (fun j hj => h j (by omega)), h k (by omega)]
def sadd (S : Nat → Bool) (y : Nat) : Nat → Bool := fun j => if j = y then true else S j
def sdel (S : Nat → Bool) (y : Nat) : Nat → Bool := fun j => if j = y then false else S j
theorem VS_add {p : Nat → Nat} {S : Nat → Bool} {y : Nat} (hy : ¬ S y = true) : ∀ {k : Nat}, y < k → VS p (sadd S y) k = VS p S k + ((p y : Int) * 65536 - ((2 ^ y : Nat) : Int)) := by
  intro k
  induction k with
  | zero => intro h; omega
  | succ k ih =>
    intro h
    show VS p (sadd S y) k + _ = VS p S k + _ + _
    by_cases e : k = y
    · subst e
      rw [VS_c (S := sadd S k) (T := S) (fun j hj => if_neg (by omega)), if_pos (show sadd S k k = true from if_pos rfl), if_neg hy]
      omega
    · rw [ih (by omega), show sadd S y k = S k from if_neg e]
      omega
theorem sdel_add {S : Nat → Bool} {y : Nat} (h : S y = true) : sadd (sdel S y) y = S := by
  funext j
  unfold sadd sdel
  by_cases e : j = y
  · rw [if_pos e, e, h]
  · rw [if_neg e, if_neg e]
theorem sdel_y {S : Nat → Bool} {y : Nat} : ¬ sdel S y y = true := by unfold sdel; rw [if_pos rfl]; decide
def wel (W : Nat → Bool) (cl : Nat → Nat → Bool) (n : Nat) (S : Nat → Bool) : Prop := (∀ a, a < n → S a = true → W a = true) ∧ ∀ a c, a < n → c < n → a ≠ c → S a = true → S c = true → ¬ cl a c = true
def inT (L : List Nat) (n i : Nat) (S : Nat → Bool) : Prop := ∀ a, a < n → S a = true → ∃ j, j < i ∧ L[j]? = some a
def dpI (W : Nat → Bool) (cl : Nat → Nat → Bool) (p : Nat → Nat) (n : Nat) (L : List Nat) (i : Nat) (w : Int) : Prop := ∃ y, L[i]? = some y ∧ (∀ S, wel W cl n S → S y = true → inT L n (i + 1) S → VS p S n ≤ w) ∧ ∃ S, wel W cl n S ∧ S y = true ∧ inT L n (i + 1) S ∧ VS p S n = w
def bsI (W : Nat → Bool) (cl : Nat → Nat → Bool) (p : Nat → Nat) (n : Nat) (L : List Nat) (i : Nat) (w : Int) : Prop := (∀ S, wel W cl n S → inT L n i S → VS p S n ≤ w) ∧ ∃ S, wel W cl n S ∧ inT L n i S ∧ VS p S n = w
section
variable {W : Nat → Bool} {cl : Nat → Nat → Bool} {p : Nat → Nat} {n : Nat} {L : List Nat} {key : Nat → Nat}
theorem bs_0 : bsI W cl p n L 0 0 := by
  refine ⟨fun S _ h => ?_, fun _ => false, ⟨fun a _ h => (by cases h), fun a c _ _ _ h => (by cases h)⟩, fun a _ h => (by cases h), VS_0 (fun j _ h => by cases h)⟩
  rw [VS_0 (fun j hj hs => by obtain ⟨k, hk, -⟩ := h j hj hs; omega)]
  exact Int.le_refl _
theorem last_in (L : List Nat) (S : Nat → Bool) : ∀ i : Nat, (∀ j : Nat, j < i → ∀ z : Nat, L[j]? = some z → ¬ S z = true) ∨ ∃ j z : Nat, j < i ∧ L[j]? = some z ∧ S z = true ∧ ∀ j' : Nat, j < j' → j' < i → ∀ z : Nat, L[j']? = some z → ¬ S z = true := by
  intro i
  induction i with
  | zero => left; intro j hj; omega
  | succ i ih =>
    by_cases q : ∃ z, L[i]? = some z ∧ S z = true
    · obtain ⟨z, h1, h2⟩ := q
      exact Or.inr ⟨i, z, by omega, h1, h2, fun j' h3 h4 => by omega⟩
    · have q' : ∀ z, L[i]? = some z → ¬ S z = true := fun z h1 h2 => q ⟨z, h1, h2⟩
      rcases ih with h | ⟨j, z, h1, h2, h3, h4⟩
      · left
        intro j hj z hz
        by_cases e : j = i
        · subst e; exact q' z hz
        · exact h j (by omega) z hz
      · right
        refine ⟨j, z, by omega, h2, h3, ?_⟩
        intro j' h5 h6 z hz
        by_cases e : j' = i
        · subst e; exact q' z hz
        · exact h4 j' h5 (by omega) z hz
theorem ord_get {i j a c : Nat} (hL : OrdL key W n L) (hij : i < j) (hi : L[i]? = some a) (hj : L[j]? = some c) : ahd key a c := by
  obtain ⟨h1, e1⟩ := List.getElem?_eq_some_iff.mp hi
  obtain ⟨h2, e2⟩ := List.getElem?_eq_some_iff.mp hj
  have := List.pairwise_iff_getElem.mp hL.1 i j h1 h2 hij
  rw [e1, e2] at this
  exact this
theorem ord_mem {i a : Nat} (hL : OrdL key W n L) (hi : L[i]? = some a) : a < n ∧ W a = true := (hL.2.1 a).mp (List.mem_of_getElem? hi)
theorem dp_step {i y : Nat} {w : Nat → Int} {a : Int} (hL : OrdL key W n L) (hsym : ∀ a c, cl a c = cl c a) (htr : ∀ a c e, a < n → c < n → e < n → W a = true → W c = true → W e = true → key a ≤ key c → key c ≤ key e → ¬ cl a c = true → ¬ cl c e = true → ¬ cl a e = true) (hy : L[i]? = some y) (hw : ∀ j, j < i → dpI W cl p n L j (w j)) (ha0 : 0 ≤ a) (ha1 : ∀ j z, j < i → L[j]? = some z → ¬ cl z y = true → w j ≤ a) (ha2 : a = 0 ∨ ∃ j z, j < i ∧ L[j]? = some z ∧ ¬ cl z y = true ∧ w j = a) : dpI W cl p n L i (a + ((p y : Int) * 65536 - ((2 ^ y : Nat) : Int))) := by
  have hyn := ord_mem hL hy
  refine ⟨y, hy, ?_, ?_⟩
  · intro S hS hSy hin
    have e := VS_add (p := p) (S := sdel S y) (y := y) sdel_y hyn.1
    rw [sdel_add hSy] at e
    rw [e]
    have hdel : ∀ a, sdel S y a = true → S a = true ∧ a ≠ y := by
      intro a h
      unfold sdel at h
      by_cases q : a = y
      · rw [if_pos q] at h; cases h
      · rw [if_neg q] at h; exact ⟨h, q⟩
    have hS' : wel W cl n (sdel S y) := ⟨fun a h1 h2 => hS.1 a h1 (hdel a h2).1, fun a c h1 h2 h3 h4 h5 => hS.2 a c h1 h2 h3 (hdel a h4).1 (hdel c h5).1⟩
    have hin' : ∀ a, a < n → sdel S y a = true → ∃ j, j < i ∧ L[j]? = some a := by
      intro a h1 h2
      obtain ⟨j, h3, h4⟩ := hin a h1 (hdel a h2).1
      have : j ≠ i := by
        intro z
        rw [z, hy] at h4
        exact (hdel a h2).2 (Option.some.inj h4).symm
      exact ⟨j, by omega, h4⟩
    suffices VS p (sdel S y) n ≤ a by omega
    rcases last_in L (sdel S y) i with h | ⟨j, z, h1, h2, h3, h4⟩
    · rw [VS_0 (fun k hk hs => by obtain ⟨j, h1, h2⟩ := hin' k hk hs; exact h j h1 k h2 hs)]
      exact ha0
    · have hz := ord_mem hL h2
      obtain ⟨y', e1, e2, -⟩ := hw j h1
      rw [h2] at e1
      cases e1
      have k1 := e2 (sdel S y) hS' h3 (fun a g1 g2 => by
        obtain ⟨j', g3, g4⟩ := hin' a g1 g2
        refine ⟨j', ?_, g4⟩
        rcases Nat.lt_or_ge j j' with q | q
        · exact absurd g2 (h4 j' q g3 a g4)
        · omega)
      have k2 := ha1 j z h1 h2 (hS.2 z y hz.1 hyn.1 (hdel z h3).2 (hdel z h3).1 hSy)
      omega
  · rcases ha2 with q | ⟨j, z, h1, h2, h3, h4⟩
    · refine ⟨sadd (fun _ => false) y, ⟨?_, ?_⟩, if_pos rfl, ?_, ?_⟩
      · intro a h1 h2
        unfold sadd at h2
        by_cases e : a = y
        · rw [e]; exact hyn.2
        · rw [if_neg e] at h2; cases h2
      · intro a c h1 h2 h3 h4 h5
        unfold sadd at h4 h5
        by_cases e : a = y
        · by_cases e2 : c = y
          · omega
          · rw [if_neg e2] at h5; cases h5
        · rw [if_neg e] at h4; cases h4
      · intro a h1 h2
        unfold sadd at h2
        by_cases e : a = y
        · exact ⟨i, by omega, by rw [e]; exact hy⟩
        · rw [if_neg e] at h2; cases h2
      · rw [VS_add (fun h => by cases h) hyn.1, VS_0 (fun j _ h => by cases h), q]
    · have hz := ord_mem hL h2
      obtain ⟨y', e1, -, S, s1, s2, s3, s4⟩ := hw j h1
      rw [h2] at e1
      cases e1
      have hbef : ∀ a, a < n → S a = true → ¬ cl a y = true ∧ a ≠ y := by
        intro a g1 g2
        obtain ⟨j', g3, g4⟩ := s3 a g1 g2
        have hay : ahd key a y := ord_get hL (by omega) g4 hy
        have hzy : ahd key z y := ord_get hL h1 h2 hy
        refine ⟨?_, fun q => by rw [q] at hay; unfold ahd at hay; omega⟩
        by_cases e : j' = j
        · rw [e, h2] at g4; cases g4; exact h3
        · have haz : ahd key a z := ord_get hL (by omega) g4 h2
          have hne : a ≠ z := fun q => by rw [q] at haz; unfold ahd at haz; omega
          exact htr a z y g1 hz.1 hyn.1 (s1.1 a g1 g2) hz.2 hyn.2 (by unfold ahd at haz; omega) (by unfold ahd at hzy; omega) (s1.2 a z g1 hz.1 hne g2 s2) h3
      have hSy : ¬ S y = true := fun q => (hbef y hyn.1 q).2 rfl
      have hadd : ∀ a, sadd S y a = true → a = y ∨ S a = true := by
        intro a h
        unfold sadd at h
        by_cases e : a = y
        · exact Or.inl e
        · rw [if_neg e] at h; exact Or.inr h
      refine ⟨sadd S y, ⟨?_, ?_⟩, if_pos rfl, ?_, ?_⟩
      · intro a g1 g2
        rcases hadd a g2 with q | q
        · rw [q]; exact hyn.2
        · exact s1.1 a g1 q
      · intro a c g1 g2 g3 g4 g5
        rcases hadd a g4 with q | q
        · rcases hadd c g5 with q2 | q2
          · omega
          · rw [q, hsym]; exact (hbef c g2 q2).1
        · rcases hadd c g5 with q2 | q2
          · rw [q2]; exact (hbef a g1 q).1
          · exact s1.2 a c g1 g2 g3 q q2
      · intro a g1 g2
        rcases hadd a g2 with q | q
        · exact ⟨i, by omega, by rw [q]; exact hy⟩
        · obtain ⟨j', g3, g4⟩ := s3 a g1 q
          exact ⟨j', by omega, g4⟩
      · rw [VS_add hSy hyn.1, s4, h4]
theorem bs_step {i : Nat} {wi bst : Int} (h : bsI W cl p n L i bst) (hd : dpI W cl p n L i wi) : bsI W cl p n L (i + 1) (if wi < bst then bst else wi) := by
  obtain ⟨y, hy, d1, S1, t1, t2, t3, t4⟩ := hd
  obtain ⟨b1, S2, u1, u2, u3⟩ := h
  refine ⟨?_, ?_⟩
  · intro S hS hin
    by_cases q : S y = true
    · have := d1 S hS q hin
      split <;> omega
    · have := b1 S hS (fun a g1 g2 => by
        obtain ⟨j, g3, g4⟩ := hin a g1 g2
        have : j ≠ i := fun z => by rw [z, hy] at g4; cases g4; exact q g2
        exact ⟨j, by omega, g4⟩)
      split <;> omega
  · by_cases q : wi < bst
    · rw [if_pos q]
      exact ⟨S2, u1, fun a g1 g2 => by obtain ⟨j, g3, g4⟩ := u2 a g1 g2; exact ⟨j, by omega, g4⟩, u3⟩
    · rw [if_neg q]
      exact ⟨S1, t1, t3, t4⟩
theorem bs_all {bst : Int} (hL : OrdL key W n L) (h : bsI W cl p n L L.length bst) : (∀ S, wel W cl n S → VS p S n ≤ bst) ∧ ∃ S, wel W cl n S ∧ VS p S n = bst := by
  obtain ⟨b1, S2, u1, u2, u3⟩ := h
  refine ⟨fun S hS => b1 S hS ?_, S2, u1, u3⟩
  intro a g1 g2
  have := (hL.2.1 a).mpr ⟨g1, hS.1 a g1 g2⟩
  obtain ⟨j, hj, e⟩ := List.getElem_of_mem this
  exact ⟨j, hj, by rw [List.getElem?_eq_getElem hj, e]⟩
end

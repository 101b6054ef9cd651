/-! A BIT FIXED OR FREED in a set of assignments -/
theorem and_pow0 (i v : Nat) : i &&& 2 ^ v = 0 ↔ i.testBit v = false := by
  constructor
  · intro h
    have h1 : (i &&& 2 ^ v).testBit v = false := by rw [h]; exact Nat.zero_testBit v
    rw [Nat.testBit_and, pow_bit] at h1
    simpa using h1
  · intro h
    apply Nat.eq_of_testBit_eq
    intro j
    rw [Nat.testBit_and, pow_bit, Nat.zero_testBit]
    by_cases e : v = j
    · subst e; rw [h]; rfl
    · simp [e]
theorem nAnd_pow_bit (a v j : Nat) : (nAnd a (2 ^ v)).testBit j = (a.testBit j && !decide (v = j)) := by rw [nAnd_bit, pow_bit]
theorem nAnd_pow_v (a v : Nat) : (nAnd a (2 ^ v)).testBit v = false := by rw [nAnd_pow_bit]; simp
theorem nAnd_le (a b : Nat) : nAnd a b ≤ a := by
  have h : nAnd a b &&& a = nAnd a b := by
    apply Nat.eq_of_testBit_eq
    intro j
    rw [Nat.testBit_and, nAnd_bit]
    cases a.testBit j <;> cases b.testBit j <;> rfl
  rw [← h]; exact Nat.and_le_right
/-- a number with the bit v clear: the two numbers above it -/
theorem base_iff {i v : Nat} (h : i.testBit v = false) (a : Nat) : nAnd a (2 ^ v) = i ↔ a = i ∨ a = i ||| 2 ^ v := by
  constructor
  · intro e
    cases ha : a.testBit v
    · refine Or.inl (Nat.eq_of_testBit_eq fun j => ?_)
      rw [← e, nAnd_pow_bit]
      by_cases q : v = j
      · subst q; rw [ha]; rfl
      · simp [q]
    · refine Or.inr (Nat.eq_of_testBit_eq fun j => ?_)
      rw [Nat.testBit_or, ← e, nAnd_pow_bit, pow_bit]
      by_cases q : v = j
      · subst q; rw [ha]; simp
      · simp [q]
  · rintro (rfl | rfl)
    · refine Nat.eq_of_testBit_eq fun j => ?_
      rw [nAnd_pow_bit]
      by_cases q : v = j
      · subst q; rw [h]; rfl
      · simp [q]
    · refine Nat.eq_of_testBit_eq fun j => ?_
      rw [nAnd_pow_bit, Nat.testBit_or, pow_bit]
      by_cases q : v = j
      · subst q; rw [h]; simp
      · simp [q]
theorem base_self (a v : Nat) : nAnd (nAnd a (2 ^ v)) (2 ^ v) = nAnd a (2 ^ v) := (base_iff (nAnd_pow_v a v) _).mpr (Or.inl rfl)
theorem base_or {i v t : Nat} (h : i.testBit v = false) (ht : t = 0 ∨ t = 2 ^ v) : nAnd (i ||| t) (2 ^ v) = i := by
  rcases ht with rfl | rfl
  · rw [Nat.or_zero]; exact (base_iff h _).mpr (Or.inl rfl)
  · exact (base_iff h _).mpr (Or.inr rfl)
theorem shl01 {x v : Nat} (h : x ≤ 1) : x <<< v = 0 ∨ x <<< v = 2 ^ v := by
  rcases (show x = 0 ∨ x = 1 by omega) with rfl | rfl
  · exact Or.inl (Nat.zero_shiftLeft v)
  · exact Or.inr (Nat.one_shiftLeft v)
theorem or_lt2 {a b n : Nat} (ha : a < 2 ^ n) (hb : b < 2 ^ n) : a ||| b < 2 ^ n := Nat.or_lt_two_pow ha hb
theorem pow_lt2 {v n : Nat} (h : v < n) : 2 ^ v < 2 ^ n := Nat.pow_lt_pow_right (by decide) h
theorem shl01_lt {x v n : Nat} (h : x ≤ 1) (hv : v < n) : x <<< v < 2 ^ n := by
  rcases shl01 (v := v) h with e | e <;> rw [e]
  · exact Nat.two_pow_pos n
  · exact pow_lt2 hv
/-- what comes out when the variable v is fixed -/
def fixS (n v x : Nat) (X : Nat → Bool) : Nat → Bool := fun a => decide (a < 2 ^ n) && X (nAnd a (2 ^ v) ||| x <<< v)
def fixM (n v x i : Nat) (X : Nat → Bool) : Nat → Bool := fun a => if nAnd a (2 ^ v) < i ∧ a < 2 ^ n then X (nAnd a (2 ^ v) ||| x <<< v) else X a
/-- when it is freed -/
def freeS (n v : Nat) (X : Nat → Bool) : Nat → Bool := fun a => decide (a < 2 ^ n) && (X a || X (a ^^^ 2 ^ v))
def freeM (n v i : Nat) (X : Nat → Bool) : Nat → Bool := fun a => if nAnd a (2 ^ v) < i ∧ a < 2 ^ n then X (nAnd a (2 ^ v)) || X (nAnd a (2 ^ v) ||| 2 ^ v) else X a
theorem fixM_0 (n v x : Nat) (X : Nat → Bool) : fixM n v x 0 X = X := by funext a; exact if_neg (fun h => absurd h.1 (by omega))
theorem freeM_0 (n v : Nat) (X : Nat → Bool) : freeM n v 0 X = X := by funext a; exact if_neg (fun h => absurd h.1 (by omega))
theorem fixM_end {n v x i : Nat} {X : Nat → Bool} (hi : 2 ^ n ≤ i) (hX : ∀ a, 2 ^ n ≤ a → X a = false) : fixM n v x i X = fixS n v x X := by
  funext a
  unfold fixM fixS
  by_cases h : a < 2 ^ n
  · rw [if_pos ⟨by have := nAnd_le a (2 ^ v); omega, h⟩]; simp [h]
  · rw [if_neg (fun q => h q.2), hX a (by omega)]; simp [h]
theorem fixM_get {n v x i : Nat} {X : Nat → Bool} (hb : i.testBit v = false) (hx : x ≤ 1) : fixM n v x i X (i ||| x <<< v) = X (i ||| x <<< v) := by
  unfold fixM
  rw [base_or hb (shl01 hx), if_neg (fun h => absurd h.1 (by omega))]
theorem fixM_step {n v x i : Nat} {X : Nat → Bool} (hb : i.testBit v = false) (hi : i < 2 ^ n) (hv : v < n) : upB (upB (fixM n v x i X) i (X (i ||| x <<< v))) (i ||| 2 ^ v) (X (i ||| x <<< v)) = fixM n v x (i + 1) X := by
  funext a
  unfold upB fixM
  have hlt : i ||| 2 ^ v < 2 ^ n := or_lt2 hi (pow_lt2 hv)
  by_cases e2 : a = i ||| 2 ^ v
  · rw [if_pos e2]
    have hB : nAnd a (2 ^ v) = i := (base_iff hb a).mpr (Or.inr e2)
    rw [hB, if_pos ⟨by omega, by omega⟩]
  · rw [if_neg e2]
    by_cases e1 : a = i
    · rw [if_pos e1]
      have hB : nAnd a (2 ^ v) = i := (base_iff hb a).mpr (Or.inl e1)
      rw [hB, if_pos ⟨by omega, by omega⟩]
    · rw [if_neg e1]
      have hB : nAnd a (2 ^ v) ≠ i := fun h => ((base_iff hb a).mp h).elim e1 e2
      by_cases q : nAnd a (2 ^ v) < i ∧ a < 2 ^ n
      · rw [if_pos q, if_pos ⟨by omega, q.2⟩]
      · rw [if_neg q, if_neg (fun h => q ⟨by omega, h.2⟩)]
theorem fixM_skip {n v x i : Nat} {X : Nat → Bool} (hb : i.testBit v = true) : fixM n v x i X = fixM n v x (i + 1) X := by
  funext a
  unfold fixM
  have hB : nAnd a (2 ^ v) ≠ i := fun h => by have := nAnd_pow_v a v; rw [h, hb] at this; cases this
  by_cases q : nAnd a (2 ^ v) < i ∧ a < 2 ^ n
  · rw [if_pos q, if_pos ⟨by omega, q.2⟩]
  · rw [if_neg q, if_neg (fun h => q ⟨by omega, h.2⟩)]
theorem freeM_get {n v i : Nat} {X : Nat → Bool} (hb : i.testBit v = false) : freeM n v i X i = X i ∧ freeM n v i X (i ||| 2 ^ v) = X (i ||| 2 ^ v) := by
  unfold freeM
  refine ⟨if_neg (fun h => ?_), if_neg (fun h => ?_)⟩
  · rw [(base_iff hb i).mpr (Or.inl rfl)] at h; omega
  · rw [base_or hb (Or.inr rfl)] at h; omega
theorem freeM_step {n v i : Nat} {b : Bool} {X : Nat → Bool} (hb : i.testBit v = false) (hi : i < 2 ^ n) (hv : v < n) (hB' : b = (X i || X (i ||| 2 ^ v))) : upB (upB (freeM n v i X) i b) (i ||| 2 ^ v) b = freeM n v (i + 1) X := by
  subst hB'
  funext a
  unfold upB freeM
  have hlt : i ||| 2 ^ v < 2 ^ n := or_lt2 hi (pow_lt2 hv)
  by_cases e2 : a = i ||| 2 ^ v
  · rw [if_pos e2]
    have hB : nAnd a (2 ^ v) = i := (base_iff hb a).mpr (Or.inr e2)
    rw [hB, if_pos ⟨by omega, by omega⟩]
  · rw [if_neg e2]
    by_cases e1 : a = i
    · rw [if_pos e1]
      have hB : nAnd a (2 ^ v) = i := (base_iff hb a).mpr (Or.inl e1)
      rw [hB, if_pos ⟨by omega, by omega⟩]
    · rw [if_neg e1]
      have hB : nAnd a (2 ^ v) ≠ i := fun h => ((base_iff hb a).mp h).elim e1 e2
      by_cases q : nAnd a (2 ^ v) < i ∧ a < 2 ^ n
      · rw [if_pos q, if_pos ⟨by omega, q.2⟩]
      · rw [if_neg q, if_neg (fun h => q ⟨by omega, h.2⟩)]
theorem freeM_skip {n v i : Nat} {X : Nat → Bool} (hb : i.testBit v = true) : freeM n v i X = freeM n v (i + 1) X := by
  funext a
  unfold freeM
  have hB : nAnd a (2 ^ v) ≠ i := fun h => by have := nAnd_pow_v a v; rw [h, hb] at this; cases this
  by_cases q : nAnd a (2 ^ v) < i ∧ a < 2 ^ n
  · rw [if_pos q, if_pos ⟨by omega, q.2⟩]
  · rw [if_neg q, if_neg (fun h => q ⟨by omega, h.2⟩)]
theorem free_two (a v : Nat) (X : Nat → Bool) : (X (nAnd a (2 ^ v)) || X (nAnd a (2 ^ v) ||| 2 ^ v)) = (X a || X (a ^^^ 2 ^ v)) := by
  have h := (base_iff (nAnd_pow_v a v) a).mp rfl
  have hx : ∀ i, i.testBit v = false → i ^^^ 2 ^ v = i ||| 2 ^ v := fun i hi => by
    apply Nat.eq_of_testBit_eq
    intro j
    rw [Nat.testBit_xor, Nat.testBit_or, pow_bit]
    by_cases q : v = j
    · subst q; rw [hi]; simp
    · simp [q]
  have hy : ∀ i, i.testBit v = false → (i ||| 2 ^ v) ^^^ 2 ^ v = i := fun i hi => by
    rw [← hx i hi, Nat.xor_assoc, Nat.xor_self, Nat.xor_zero]
  rcases h with e | e
  · rw [show nAnd a (2 ^ v) = a from e.symm, hx a (by have := nAnd_pow_v a v; rw [← e] at this; exact this)]
  · have h0 := nAnd_pow_v a v
    have e2 : a ^^^ 2 ^ v = nAnd a (2 ^ v) := by
      conv => lhs; rw [e]
      exact hy _ h0
    rw [e2, ← e, Bool.or_comm]
theorem freeM_end {n v i : Nat} {X : Nat → Bool} (hi : 2 ^ n ≤ i) (hX : ∀ a, 2 ^ n ≤ a → X a = false) : freeM n v i X = freeS n v X := by
  funext a
  unfold freeM freeS
  by_cases h : a < 2 ^ n
  · rw [if_pos ⟨by have := nAnd_le a (2 ^ v); omega, h⟩, free_two]; simp [h]
  · rw [if_neg (fun q => h q.2), hX a (by omega)]; simp [h]

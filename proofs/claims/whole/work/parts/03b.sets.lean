/-! SETS OF NUMBERS AS WORDS OF BITS: counts, all, sums of bits; a word of 64 of a set -/
/-- how many below n -/
def cnt (S : Nat → Bool) : Nat → Nat
  | 0 => 0
  | n + 1 => cnt S n + (if S n then 1 else 0)
def allB (g : Nat → Bool) : Nat → Bool
  | 0 => true
  | n + 1 => allB g n && g n
def bsum (g : Nat → Bool) : Nat → Nat
  | 0 => 0
  | n + 1 => bsum g n + (if g n then 2 ^ n else 0)
def upB {α : Type} (S : Nat → α) (a : Nat) (v : α) : Nat → α := fun j => if j = a then v else S j
theorem upB_same {α : Type} {S : Nat → α} {a : Nat} {v : α} : upB S a v a = v := if_pos rfl
theorem upB_ne {α : Type} {S : Nat → α} {a j : Nat} {v : α} (h : j ≠ a) : upB S a v j = S j := if_neg h
theorem cnt_le (S : Nat → Bool) (n : Nat) : cnt S n ≤ n := by
  induction n with
  | zero => exact Nat.le_refl 0
  | succ n ih => simp only [cnt]; split <;> omega
theorem cnt_mono (S : Nat → Bool) {a b : Nat} (h : a ≤ b) : cnt S a ≤ cnt S b := by
  induction h with
  | refl => exact Nat.le_refl _
  | step _ ih => simp only [cnt]; omega
theorem cnt_congr {S T : Nat → Bool} {n : Nat} (h : ∀ a, a < n → S a = T a) : cnt S n = cnt T n := by
  induction n with
  | zero => rfl
  | succ n ih => simp only [cnt]; rw [ih (fun a ha => h a (by omega)), h n (by omega)]
theorem cnt_add (S : Nat → Bool) (a b : Nat) : cnt S (a + b) = cnt S a + cnt (fun j => S (a + j)) b := by
  induction b with
  | zero => rfl
  | succ b ih =>
    show cnt S (a + b) + (if S (a + b) then 1 else 0) = cnt S a + (cnt (fun j => S (a + j)) b + (if S (a + b) then 1 else 0))
    rw [ih]; omega
theorem cnt_zero {S : Nat → Bool} {n : Nat} : cnt S n = 0 ↔ ∀ a, a < n → S a = false := by
  induction n with
  | zero => exact ⟨fun _ a h => absurd h (by omega), fun _ => rfl⟩
  | succ n ih =>
    simp only [cnt]
    constructor
    · intro h a ha
      have h1 : cnt S n = 0 := by omega
      have h2 : S n = false := by
        cases hS : S n
        · rfl
        · rw [hS] at h; simp at h
      rcases Nat.lt_or_ge a n with q | q
      · exact ih.mp h1 a q
      · rw [show a = n by omega]; exact h2
    · intro h
      rw [ih.mpr (fun a ha => h a (by omega)), h n (by omega)]; rfl
theorem allB_iff {g : Nat → Bool} {n : Nat} : allB g n = true ↔ ∀ a, a < n → g a = true := by
  induction n with
  | zero => exact ⟨fun _ a h => absurd h (by omega), fun _ => rfl⟩
  | succ n ih =>
    simp only [allB, Bool.and_eq_true, ih]
    constructor
    · intro h a ha
      rcases Nat.lt_or_ge a n with q | q
      · exact h.1 a q
      · rw [show a = n by omega]; exact h.2
    · intro h; exact ⟨fun a ha => h a (by omega), h n (by omega)⟩
theorem allB_congr {g h : Nat → Bool} {n : Nat} (e : ∀ a, a < n → g a = h a) : allB g n = allB h n := by
  induction n with
  | zero => rfl
  | succ n ih => simp only [allB]; rw [ih (fun a ha => e a (by omega)), e n (by omega)]
theorem allB_false {g : Nat → Bool} {n a : Nat} (ha : a < n) (h : g a = false) : allB g n = false := by
  cases hh : allB g n
  · rfl
  · rw [allB_iff.mp hh a ha] at h; cases h
theorem bsum_lt (g : Nat → Bool) (n : Nat) : bsum g n < 2 ^ n := by
  induction n with
  | zero => exact Nat.zero_lt_one
  | succ n ih =>
    simp only [bsum]
    have : 2 ^ (n + 1) = 2 ^ n + 2 ^ n := by rw [Nat.pow_succ]; omega
    split <;> omega
theorem bsum_bit (g : Nat → Bool) (n i : Nat) : (bsum g n).testBit i = (decide (i < n) && g i) := by
  induction n with
  | zero => simp [bsum]
  | succ n ih =>
    simp only [bsum]
    have hlt := bsum_lt g n
    by_cases hg : g n = true
    · rw [if_pos hg, Nat.add_comm]
      rcases Nat.lt_trichotomy i n with q | q | q
      · rw [Nat.testBit_two_pow_add_gt q, ih]
        simp [q, Nat.lt_succ_of_lt q]
      · subst q
        rw [Nat.testBit_two_pow_add_eq, Nat.testBit_lt_two_pow hlt]
        simp [hg]
      · rw [Nat.testBit_lt_two_pow (show 2 ^ n + bsum g n < 2 ^ i from by
          have h1 : 2 ^ (n + 1) ≤ 2 ^ i := Nat.pow_le_pow_right (by decide) q
          have : 2 ^ (n + 1) = 2 ^ n + 2 ^ n := by rw [Nat.pow_succ]; omega
          omega)]
        have h2 : ¬ i < n + 1 := by omega
        simp [h2]
    · rw [if_neg hg, Nat.add_zero, ih]
      rcases Nat.lt_trichotomy i n with q | q | q
      · simp [q, Nat.lt_succ_of_lt q]
      · subst q; simp [hg]
      · have h1 : ¬ i < n := by omega
        have h2 : ¬ i < n + 1 := by omega
        simp [h1, h2]
theorem bsum_congr {g h : Nat → Bool} {n : Nat} (e : ∀ a, a < n → g a = h a) : bsum g n = bsum h n := by
  induction n with
  | zero => rfl
  | succ n ih => simp only [bsum]; rw [ih (fun a ha => e a (by omega)), e n (by omega)]
theorem bsum_ext {g : Nat → Bool} {n N : Nat} (hN : N < 2 ^ n) (h : ∀ b, b < n → N.testBit b = g b) : N = bsum g n := by
  apply Nat.eq_of_testBit_eq
  intro i
  rw [bsum_bit]
  rcases Nat.lt_or_ge i n with q | q
  · rw [h i q]; simp [q]
  · rw [Nat.testBit_lt_two_pow (Nat.lt_of_lt_of_le hN (Nat.pow_le_pow_right (by decide) q))]
    have h2 : ¬ i < n := by omega
    simp [h2]
/-- the i-th word of a set -/
def wdN (S : Nat → Bool) (i : Nat) : Nat := bsum (fun b => S (64 * i + b)) 64
def wd (S : Nat → Bool) : Nat → Int64 := fun i => lN (wdN S i)
theorem wdN_lt (S : Nat → Bool) (i : Nat) : wdN S i < 2 ^ 64 := bsum_lt _ 64
theorem wdN_bit (S : Nat → Bool) (i b : Nat) (hb : b < 64) : (wdN S i).testBit b = S (64 * i + b) := by
  unfold wdN; rw [bsum_bit]; simp [hb]
theorem wdN_congr {S T : Nat → Bool} {i : Nat} (h : ∀ b, b < 64 → S (64 * i + b) = T (64 * i + b)) : wdN S i = wdN T i := bsum_congr h
theorem wd_upd {S S' : Nat → Bool} {q N : Nat} (hN : N < 2 ^ 64) (h1 : ∀ b, b < 64 → N.testBit b = S' (64 * q + b)) (h2 : ∀ i, i ≠ q → ∀ b, b < 64 → S' (64 * i + b) = S (64 * i + b)) : vp_updL (wd S) q (lN N) = wd S' := by
  funext i
  unfold vp_updL wd
  by_cases e : i = q
  · subst e
    rw [if_pos rfl, bsum_ext hN h1]; rfl
  · rw [if_neg e]
    rw [wdN_congr (h2 i e)]
theorem wd_0 : wd (fun _ => false) = fun _ => lN 0 := by
  funext i
  unfold wd wdN
  have : ∀ n, bsum (fun _ => false) n = 0 := fun n => by
    induction n with
    | zero => rfl
    | succ n ih => simp only [bsum, ih]; rfl
  rw [this]
theorem div64 (a : Nat) : 64 * (a / 64) + a % 64 = a := by omega
theorem wd_has (S : Nat → Bool) (a : Nat) : wdN S (a / 64) / 2 ^ (a % 64) % 2 = if S a then 1 else 0 := by
  have h := wdN_bit S (a / 64) (a % 64) (by omega)
  rw [div64] at h
  rw [Nat.testBit_eq_decide_div_mod_eq] at h
  cases hS : S a
  · rw [hS] at h
    have := of_decide_eq_false h
    simp; omega
  · rw [hS] at h
    have := of_decide_eq_true h
    simp; omega
theorem lN_andn {a b : Nat} (ha : a < 2 ^ 64) (hb : b < 2 ^ 64) : lN a &&& (lN b ^^^ (-1)) = lN (nAnd a b) := by
  apply wb_inj
  rw [Int64.toBitVec_and, Int64.toBitVec_xor, wb_tb, wb_tb, wb_tb]
  have h1 : (-1 : Int64).toBitVec = BitVec.allOnes 64 := rfl
  rw [h1]
  apply BitVec.eq_of_getLsbD_eq
  intro i hi
  simp only [BitVec.getLsbD_and, BitVec.getLsbD_xor, BitVec.getLsbD_ofNat, BitVec.getLsbD_allOnes, nAnd_bit, hi, decide_true, Bool.true_and, Bool.xor_true]
theorem nAnd_lt {a b n : Nat} (ha : a < 2 ^ n) : nAnd a b < 2 ^ n := by
  apply Nat.lt_pow_two_of_testBit
  intro i hi
  rw [nAnd_bit, Nat.testBit_lt_two_pow (Nat.lt_of_lt_of_le ha (Nat.pow_le_pow_right (by decide) hi))]
  rfl
theorem pow_bit (k b : Nat) : (2 ^ k).testBit b = decide (k = b) := Nat.testBit_two_pow
theorem wd_add (S : Nat → Bool) (a : Nat) : vp_updL (wd S) (a / 64) (lN (wdN S (a / 64) ||| 2 ^ (a % 64))) = wd (upB S a true) := by
  have hm : a % 64 < 64 := Nat.mod_lt _ (by decide)
  refine wd_upd (Nat.or_lt_two_pow (wdN_lt _ _) (Nat.pow_lt_pow_right (by decide) hm)) ?_ ?_
  · intro b hb
    rw [Nat.testBit_or, wdN_bit _ _ _ hb, pow_bit]
    unfold upB
    by_cases e : a % 64 = b
    · subst e; rw [div64, if_pos rfl]; simp
    · rw [if_neg (show ¬ 64 * (a / 64) + b = a by omega)]; simp [e]
  · intro i hi b hb
    exact upB_ne (by omega)
theorem wd_rem (S : Nat → Bool) (a : Nat) : vp_updL (wd S) (a / 64) (lN (nAnd (wdN S (a / 64)) (2 ^ (a % 64)))) = wd (upB S a false) := by
  have hm : a % 64 < 64 := Nat.mod_lt _ (by decide)
  refine wd_upd (nAnd_lt (wdN_lt _ _)) ?_ ?_
  · intro b hb
    rw [nAnd_bit, wdN_bit _ _ _ hb, pow_bit]
    unfold upB
    by_cases e : a % 64 = b
    · subst e; rw [div64, if_pos rfl]; simp
    · rw [if_neg (show ¬ 64 * (a / 64) + b = a by omega)]; simp [e]
  · intro i hi b hb
    exact upB_ne (by omega)
theorem wd_sub0 (S T : Nat → Bool) (i : Nat) : nAnd (wdN S i) (wdN T i) = 0 ↔ ∀ b, b < 64 → (!S (64 * i + b) || T (64 * i + b)) = true := by
  constructor
  · intro h b hb
    have h1 := nAnd_bit (wdN S i) (wdN T i) b
    rw [h, Nat.zero_testBit, wdN_bit _ _ _ hb, wdN_bit _ _ _ hb] at h1
    revert h1
    cases S (64 * i + b) <;> cases T (64 * i + b) <;> decide
  · intro h
    apply Nat.eq_of_testBit_eq
    intro b
    rw [nAnd_bit, Nat.zero_testBit]
    rcases Nat.lt_or_ge b 64 with q | q
    · rw [wdN_bit _ _ _ q, wdN_bit _ _ _ q]
      have := h b q
      revert this
      cases S (64 * i + b) <;> cases T (64 * i + b) <;> decide
    · rw [Nat.testBit_lt_two_pow (Nat.lt_of_lt_of_le (wdN_lt S i) (Nat.pow_le_pow_right (by decide) q))]; rfl
/-- the words below i are another set's -/
def mixS (i : Nat) (S T : Nat → Bool) : Nat → Bool := fun a => if a < 64 * i then S a else T a
theorem mixS_0 (S T : Nat → Bool) : mixS 0 S T = T := by funext a; exact if_neg (by omega)
theorem mixS_w (i : Nat) (S T : Nat → Bool) : wdN (mixS i S T) i = wdN T i := wdN_congr (fun b _ => if_neg (by omega))
theorem mixS_s {i : Nat} {S T : Nat → Bool} {N : Nat} (hN : N < 2 ^ 64) (h : ∀ b, b < 64 → N.testBit b = S (64 * i + b)) : vp_updL (wd (mixS i S T)) i (lN N) = wd (mixS (i + 1) S T) := by
  refine wd_upd hN (fun b hb => ?_) (fun j hj b hb => ?_)
  · rw [h b hb]; exact (if_pos (by omega)).symm
  · unfold mixS
    by_cases e : 64 * j + b < 64 * i
    · rw [if_pos e, if_pos (by omega)]
    · rw [if_neg e, if_neg (by omega)]

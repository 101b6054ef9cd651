/-! THE ORDER OF ASSIGNMENTS: the one that comes at a place; all of them in their order; the best ones -/
/-- the assignment at the place p: the variable 0 weighs most -/
def revN (n p : Nat) : Nat := bsum (fun v => p.testBit (n - 1 - v)) n
theorem revN_lt (n p : Nat) : revN n p < 2 ^ n := bsum_lt _ _
theorem revN_bit {n p v : Nat} : (revN n p).testBit v = (decide (v < n) && p.testBit (n - 1 - v)) := bsum_bit _ _ _
theorem ones_iff {t i : Nat} : t % 2 ^ i = 2 ^ i - 1 ↔ ∀ m, m < i → t.testBit m = true := by
  induction i with
  | zero => rw [Nat.pow_zero, Nat.mod_one]; exact ⟨fun _ m h => absurd h (by omega), fun _ => rfl⟩
  | succ i ih =>
    have hl := Nat.mod_lt t (Nat.two_pow_pos i)
    have hp : 2 ^ (i + 1) = 2 ^ i + 2 ^ i := by rw [Nat.pow_succ]; omega
    rw [mod_bit]
    constructor
    · intro h m hm
      by_cases hb : t.testBit i = true
      · rw [if_pos hb] at h
        rcases Nat.lt_or_ge m i with q | q
        · exact ih.mp (by omega) m q
        · rw [show m = i by omega]; exact hb
      · rw [if_neg hb] at h; omega
    · intro h
      rw [if_pos (h i (by omega))]
      have := ih.mpr (fun m hm => h m (by omega))
      omega
theorem fol_rev0 {n t : Nat} (ht : t + 1 < 2 ^ n) : ∀ k j x, k + j = n → (∀ m, m < j → t.testBit m = true) → (∀ v, v < n → x.testBit v = (decide (j ≤ n - 1 - v) && t.testBit (n - 1 - v))) → x < 2 ^ n → folN k x = revN n (t + 1) := by
  intro k
  induction k with
  | zero =>
    intro j x hkj hj _ _
    have : t % 2 ^ n = 2 ^ n - 1 := ones_iff.mpr (fun m hm => hj m (by omega))
    rw [Nat.mod_eq_of_lt (by omega)] at this
    omega
  | succ k ih =>
    intro j x hkj hj hx hxl
    have hkn : k < n := by omega
    have hjk : n - 1 - k = j := by omega
    have hy : (x ^^^ 2 ^ k).testBit k = !t.testBit j := by
      rw [Nat.testBit_xor, pow_bit, hx k hkn, hjk]
      simp
    have hyl : x ^^^ 2 ^ k < 2 ^ n := Nat.xor_lt_two_pow hxl (pow_lt2 hkn)
    have hyv : ∀ v, v ≠ k → (x ^^^ 2 ^ k).testBit v = x.testBit v := fun v hv => by
      rw [Nat.testBit_xor, pow_bit, decide_eq_false (fun q => hv q.symm), Bool.xor_false]
    show (if (x ^^^ 2 ^ k).testBit k then x ^^^ 2 ^ k else folN k (x ^^^ 2 ^ k)) = _
    rw [hy]
    cases htj : t.testBit j
    · rw [if_pos (by rfl)]
      apply Nat.eq_of_testBit_eq
      intro v
      rw [revN_bit]
      rcases Nat.lt_or_ge v n with q | q
      · rw [decide_eq_true q, Bool.true_and, tb_succ_carry]
        by_cases e : v = k
        · subst e
          rw [hy, htj, hjk, htj, decide_eq_true (ones_iff.mpr hj)]; rfl
        · rw [hyv v e, hx v q]
          rcases Nat.lt_or_ge (n - 1 - v) j with z | z
          · rw [decide_eq_false (by omega), hj _ z, decide_eq_true (ones_iff.mpr (fun m hm => hj m (by omega)))]; rfl
          · have zz : j < n - 1 - v := by omega
            rw [decide_eq_true z, decide_eq_false (fun w => by rw [ones_iff.mp w j zz] at htj; cases htj), Bool.xor_false, Bool.true_and]
      · rw [decide_eq_false (by omega), Bool.false_and]
        exact Nat.testBit_lt_two_pow (Nat.lt_of_lt_of_le hyl (Nat.pow_le_pow_right (by decide) q))
    · rw [if_neg (by decide)]
      refine ih (j + 1) _ (by omega) (fun m hm => ?_) (fun v hv => ?_) hyl
      · rcases Nat.lt_or_ge m j with q | q
        · exact hj m q
        · rw [show m = j by omega]; exact htj
      · by_cases e : v = k
        · subst e
          rw [hy, htj, hjk, decide_eq_false (by omega)]; rfl
        · rw [hyv v e, hx v hv]
          congr 1
          exact decide_eq_decide.mpr (by omega)
theorem fol_rev {n t : Nat} (ht : t + 1 < 2 ^ n) : folN n (revN n t) = revN n (t + 1) :=
  fol_rev0 ht n 0 _ (by omega) (fun m h => absurd h (by omega)) (fun v hv => by rw [revN_bit, decide_eq_true hv, decide_eq_true (by omega)]) (revN_lt n t)
theorem revN_0 (n : Nat) : revN n 0 = 0 := by
  apply Nat.eq_of_testBit_eq
  intro v
  rw [revN_bit, Nat.zero_testBit, Nat.zero_testBit, Bool.and_false]
/-- counted over places or over assignments -/
theorem sumI_add (X : Nat → Bool) (f : Nat → Nat) (a b : Nat) : sumI X f (a + b) = sumI X f a + sumI (fun j => X (a + j)) (fun j => f (a + j)) b := by
  induction b with
  | zero => rfl
  | succ b ih =>
    show sumI X f (a + b) + (if X (a + b) then f (a + b) else 0) = sumI X f a + (sumI (fun j => X (a + j)) (fun j => f (a + j)) b + (if X (a + b) then f (a + b) else 0))
    rw [ih]; omega
theorem sumI_two (X : Nat → Bool) (f : Nat → Nat) (n : Nat) : sumI X f (2 * n) = sumI (fun j => X (2 * j)) (fun j => f (2 * j)) n + sumI (fun j => X (2 * j + 1)) (fun j => f (2 * j + 1)) n := by
  induction n with
  | zero => rfl
  | succ n ih =>
    show sumI X f (2 * n) + (if X (2 * n) then f (2 * n) else 0) + (if X (2 * n + 1) then f (2 * n + 1) else 0) = _
    rw [ih]
    show _ = (sumI (fun j => X (2 * j)) (fun j => f (2 * j)) n + (if X (2 * n) then f (2 * n) else 0)) + (sumI (fun j => X (2 * j + 1)) (fun j => f (2 * j + 1)) n + (if X (2 * n + 1) then f (2 * n + 1) else 0))
    omega
theorem revN_lo {n p : Nat} (h : p < 2 ^ n) : revN (n + 1) p = 2 * revN n p := by
  apply Nat.eq_of_testBit_eq
  intro v
  rw [revN_bit]
  cases v with
  | zero =>
    rw [Nat.testBit_lt_two_pow (show p < 2 ^ (n + 1 - 1 - 0) from h), Bool.and_false]
    symm; rw [Nat.testBit_zero]; simp
  | succ v =>
    rw [show 2 * revN n p = revN n p * 2 ^ 1 by omega, Nat.testBit_mul_two_pow, revN_bit]
    simp
    rw [show n - (v + 1) = n - 1 - v by omega]
theorem revN_hi {n p : Nat} (h : p < 2 ^ n) : revN (n + 1) (2 ^ n + p) = 2 * revN n p + 1 := by
  apply Nat.eq_of_testBit_eq
  intro v
  rw [revN_bit]
  cases v with
  | zero =>
    rw [show n + 1 - 1 - 0 = n by omega, Nat.testBit_two_pow_add_eq, Nat.testBit_lt_two_pow h]
    symm; rw [Nat.testBit_zero]; simp
  | succ v =>
    rw [Nat.testBit_succ, show (2 * revN n p + 1) / 2 = revN n p by omega, revN_bit]
    by_cases q : v < n
    · rw [decide_eq_true (by omega), decide_eq_true q, show n + 1 - 1 - (v + 1) = n - 1 - v by omega, Nat.testBit_two_pow_add_gt (by omega)]
    · rw [decide_eq_false (by omega), decide_eq_false q]; rfl
theorem sumI_rev (n : Nat) : ∀ (X : Nat → Bool) (f : Nat → Nat), sumI (fun p => X (revN n p)) (fun p => f (revN n p)) (2 ^ n) = sumI X f (2 ^ n) := by
  induction n with
  | zero => intro X f; rfl
  | succ n ih =>
    intro X f
    have hp : 2 ^ (n + 1) = 2 ^ n + 2 ^ n := by rw [Nat.pow_succ]; omega
    rw [hp, sumI_add, show 2 ^ n + 2 ^ n = 2 * 2 ^ n by omega, sumI_two, ← ih (fun j => X (2 * j)) (fun j => f (2 * j)), ← ih (fun j => X (2 * j + 1)) (fun j => f (2 * j + 1))]
    congr 1
    · exact sumI_congr (fun p hq => by rw [revN_lo hq]; exact ⟨rfl, fun _ => rfl⟩)
    · exact sumI_congr (fun p hq => by rw [revN_hi hq]; exact ⟨rfl, fun _ => rfl⟩)
theorem cnt_sumI (X : Nat → Bool) (n : Nat) : cnt X n = sumI X (fun _ => 1) n := by
  induction n with
  | zero => rfl
  | succ n ih => simp only [cnt, sumI]; rw [ih]
theorem cnt_rev (n : Nat) (X : Nat → Bool) : cnt (fun p => X (revN n p)) (2 ^ n) = cnt X (2 ^ n) := by
  rw [cnt_sumI, cnt_sumI]; exact sumI_rev n X (fun _ => 1)
/-- of two places, the first one's assignment is the better -/
def betB (W : Nat → Nat) (q p : Nat) : Prop := W p < W q ∨ (W q = W p ∧ q < p)
/-- f lists the places below t that are in M, the best first -/
def srtI (M : Nat → Bool) (W : Nat → Nat) (t len : Nat) (f : Nat → Nat) : Prop :=
  len = cnt M t ∧ (∀ i j, i < j → j < len → betB W (f i) (f j)) ∧ (∀ j, j < len → f j < t ∧ M (f j) = true) ∧ ∀ p, p < t → M p = true → ∃ j, j < len ∧ f j = p
theorem srtI_0 (M : Nat → Bool) (W : Nat → Nat) (f : Nat → Nat) : srtI M W 0 0 f := ⟨rfl, fun i j _ h => absurd h (by omega), fun j h => absurd h (by omega), fun p h => absurd h (by omega)⟩
theorem srtI_f {M : Nat → Bool} {W : Nat → Nat} {t len : Nat} {f : Nat → Nat} (h : srtI M W t len f) (hM : M t = false) : srtI M W (t + 1) len f :=
  ⟨by rw [cnt_s0 hM]; exact h.1, h.2.1, fun j hj => ⟨by have := (h.2.2.1 j hj).1; omega, (h.2.2.1 j hj).2⟩, fun p hp hm => h.2.2.2 p (by
    rcases Nat.lt_or_ge p t with q | q
    · exact q
    · rw [show p = t by omega] at hm; rw [hM] at hm; cases hm) hm⟩
theorem srtI_sorted {M : Nat → Bool} {W : Nat → Nat} {t len i j : Nat} {f : Nat → Nat} (h : srtI M W t len f) (hij : i ≤ j) (hj : j < len) : W (f j) ≤ W (f i) := by
  rcases Nat.eq_or_lt_of_le hij with q | q
  · rw [q]; exact Nat.le_refl _
  · rcases h.2.1 i j q hj with z | z
    · omega
    · omega
theorem insF_lo {r e x j : Nat} {f : Nat → Nat} (h : j < r) : insF r e x f j = f j := if_pos h
theorem insF_mid {r e x j : Nat} {f : Nat → Nat} (h : j = r) : insF r e x f j = x := by rw [insF_at, if_neg (by omega), if_pos h]
theorem insF_hi {r e x j : Nat} {f : Nat → Nat} (h : r < j) (he : j ≤ e) : insF r e x f j = f (j - 1) := by rw [insF_at, if_neg (by omega), if_neg (by omega), if_pos he]
/-- put in behind all of no less weight -/
theorem srtI_t {M : Nat → Bool} {W : Nat → Nat} {t len r : Nat} {f : Nat → Nat} (h : srtI M W t len f) (hM : M t = true) (hr : r ≤ len) (h1 : ∀ j, r ≤ j → j < len → W (f j) < W t) (h2 : ∀ j, j < r → W t ≤ W (f j)) : srtI M W (t + 1) (len + 1) (insF r len t f) := by
  refine ⟨by rw [cnt_s1 hM, h.1], fun i j hij hj => ?_, fun j hj => ?_, fun p hp hm => ?_⟩
  · rcases Nat.lt_trichotomy j r with q | q | q
    · rw [insF_lo (show i < r by omega), insF_lo q]; exact h.2.1 i j hij (by omega)
    · rw [insF_lo (show i < r by omega), insF_mid q]
      have a := h2 i (by omega)
      have b := (h.2.2.1 i (by omega)).1
      rcases Nat.eq_or_lt_of_le a with z | z
      · exact Or.inr ⟨z.symm, b⟩
      · exact Or.inl z
    · rw [insF_hi q (show j ≤ len by omega)]
      rcases Nat.lt_trichotomy i r with z | z | z
      · rw [insF_lo z]; exact h.2.1 i (j - 1) (by omega) (by omega)
      · rw [insF_mid z]; exact Or.inl (h1 (j - 1) (by omega) (by omega))
      · rw [insF_hi z (show i ≤ len by omega)]; exact h.2.1 (i - 1) (j - 1) (by omega) (by omega)
  · rcases Nat.lt_trichotomy j r with q | q | q
    · rw [insF_lo q]; have := h.2.2.1 j (by omega); exact ⟨by omega, this.2⟩
    · rw [insF_mid q]; exact ⟨by omega, hM⟩
    · rw [insF_hi q (show j ≤ len by omega)]; have := h.2.2.1 (j - 1) (by omega); exact ⟨by omega, this.2⟩
  · rcases Nat.lt_or_ge p t with q | q
    · obtain ⟨j, hj, e⟩ := h.2.2.2 p q hm
      rcases Nat.lt_or_ge j r with z | z
      · exact ⟨j, by omega, by rw [insF_lo z]; exact e⟩
      · exact ⟨j + 1, by omega, by rw [insF_hi (show r < j + 1 by omega) (show j + 1 ≤ len by omega)]; exact e⟩
    · exact ⟨r, by omega, by rw [insF_mid rfl]; omega⟩
/-- the table of the first 21 of a list -/
def tabI (M : Nat → Bool) (W : Nat → Nat) (t ct : Nat) (ra rw_ : Nat → Nat) (rv : Nat → Nat) : Prop :=
  ∃ len f, srtI M W t len f ∧ ct = (if len < 21 then len else 21) ∧ (∀ j, j < ct → ra j = rv (f j) ∧ rw_ j = W (f j)) ∧ ∀ j, rw_ j < 2 ^ 62
theorem tabI_f {M : Nat → Bool} {W rv : Nat → Nat} {t ct : Nat} {ra rw_ : Nat → Nat} (h : tabI M W t ct ra rw_ rv) (hM : M t = false) : tabI M W (t + 1) ct ra rw_ rv := by
  obtain ⟨len, f, h1, h2⟩ := h
  exact ⟨len, f, srtI_f h1 hM, h2⟩
theorem tabI_t {M : Nat → Bool} {W rv : Nat → Nat} {t ct r : Nat} {ra rw_ : Nat → Nat} (h : tabI M W t ct ra rw_ rv) (hM : M t = true) (hW : W t < 2 ^ 62) (hr : r ≤ ct) (h1 : ∀ j, r ≤ j → j < ct → rw_ j < W t) (h2 : r = 0 ∨ W t ≤ rw_ (r - 1)) :
    tabI M W (t + 1) (if ct < 21 then ct + 1 else 21) (insF r ct (rv t) ra) (insF r ct (W t) rw_) rv := by
  obtain ⟨len, f, hs, hct, htb, hb⟩ := h
  have hbd : ∀ j, insF r ct (W t) rw_ j < 2 ^ 62 := fun j => by
    rw [insF_at]; split
    · exact hb _
    · split
      · exact hW
      · split
        · exact hb _
        · exact hb _
  have hup : ∀ j, j < r → W t ≤ W (f j) := fun j hj => by
    rcases h2 with z | z
    · omega
    · rw [(htb (r - 1) (by omega)).2] at z
      have hl : r - 1 < len := by split at hct <;> omega
      exact Nat.le_trans z (srtI_sorted hs (show j ≤ r - 1 by omega) hl)
  rcases Nat.lt_or_ge r ct with q | q
  · -- inside the table
    have hdn : ∀ j, r ≤ j → j < len → W (f j) < W t := fun j h3 h4 => by
      have a := h1 r (Nat.le_refl _) q
      rw [(htb r q).2] at a
      exact Nat.lt_of_le_of_lt (srtI_sorted hs h3 h4) a
    have hrl : r ≤ len := by split at hct <;> omega
    refine ⟨len + 1, insF r len t f, srtI_t hs hM hrl hdn hup, ?_, fun j hj => ?_, hbd⟩
    · split at hct <;> split <;> (try split) <;> omega
    · have hj2 : j < ct + 1 ∧ j < 21 := by split at hj <;> omega
      have hlen : ct ≤ len := by split at hct <;> omega
      rcases Nat.lt_trichotomy j r with z | z | z
      · rw [insF_lo z, insF_lo z, insF_lo z]; exact htb j (by omega)
      · rw [insF_mid z, insF_mid z, insF_mid z]; exact ⟨rfl, rfl⟩
      · rw [insF_hi z (show j ≤ ct by omega), insF_hi z (show j ≤ ct by omega), insF_hi z (show j ≤ len by omega)]; exact htb (j - 1) (by omega)
  · have hrc : r = ct := by omega
    subst hrc
    by_cases hl : len < 21
    · -- behind all
      rw [if_pos hl] at hct
      subst hct
      refine ⟨r + 1, insF r r t f, srtI_t hs hM (Nat.le_refl _) (fun j a b => absurd a (by omega)) hup, by rw [if_pos hl]; split <;> omega, fun j hj => ?_, hbd⟩
      rw [if_pos hl] at hj
      rcases Nat.lt_or_ge j r with z | z
      · rw [insF_lo z, insF_lo z, insF_lo z]; exact htb j z
      · have zz : j = r := by omega
        rw [insF_mid zz, insF_mid zz, insF_mid zz]; exact ⟨rfl, rfl⟩
    · -- behind the table's last: nothing of it changes
      rw [if_neg hl] at hct
      subst hct
      obtain ⟨r2, hr2, hr2l, hdn2, hup2⟩ : ∃ r2, 21 ≤ r2 ∧ r2 ≤ len ∧ (∀ j, r2 ≤ j → j < len → W (f j) < W t) ∧ ∀ j, j < r2 → W t ≤ W (f j) := by
        have : ∀ k, 21 + k ≤ len → (∀ j, 21 + k ≤ j → j < len → W (f j) < W t) → ∃ r2, 21 ≤ r2 ∧ r2 ≤ len ∧ (∀ j, r2 ≤ j → j < len → W (f j) < W t) ∧ ∀ j, j < r2 → W t ≤ W (f j) := by
          intro k
          induction k with
          | zero => exact fun a b => ⟨21, by omega, by omega, b, hup⟩
          | succ k ih =>
            intro a b
            rcases Nat.lt_or_ge (W (f (21 + k))) (W t) with z | z
            · exact ih (by omega) (fun j c d => by
                rcases Nat.eq_or_lt_of_le c with y | y
                · rw [← y]; exact z
                · exact b j (by omega) d)
            · exact ⟨21 + (k + 1), by omega, a, b, fun j hj => Nat.le_trans z (srtI_sorted hs (by omega) (by omega))⟩
        exact this (len - 21) (by omega) (fun j a b => absurd a (by omega))
      refine ⟨len + 1, insF r2 len t f, srtI_t hs hM hr2l hdn2 hup2, by rw [if_neg (by omega), if_neg (by omega)], fun j hj => ?_, hbd⟩
      rw [if_neg (by omega)] at hj
      rw [insF_lo hj, insF_lo hj, insF_lo (show j < r2 by omega)]
      exact htb j hj

/-! CIRCUITS, numbers: the smallest circuit of a row of 2^n answers T, by blocks -/
def sumN (f : Nat → Nat) : Nat → Nat
  | 0 => 0
  | n + 1 => sumN f n + f n
/-- two blocks of L answers are alike -/
def sameB (T : Nat → Bool) (L a b : Nat) : Bool := allB (fun i => T (a * L + i) == T (b * L + i)) L
/-- the block c at place p wants a node that no block before it wants -/
def newB (T : Nat → Bool) (n p c : Nat) : Bool := !(sameB T (2 ^ (n - (p + 1))) (2 * c) (2 * c + 1)) && allB (fun d => !(sameB T (2 ^ (n - p)) d c)) c
def nodesB (T : Nat → Bool) (n p : Nat) : Nat := cnt (newB T n p) (2 ^ p)
def waysH (T : Nat → Bool) : Nat → Nat → Nat
  | 0, c => if T c then 1 else 0
  | h + 1, c => if sameB T (2 ^ h) (2 * c) (2 * c + 1) then waysH T h (2 * c) else waysH T h (2 * c) + waysH T h (2 * c + 1)
theorem sameB_iff {T : Nat → Bool} {L a b : Nat} : sameB T L a b = true ↔ ∀ i, i < L → T (a * L + i) = T (b * L + i) := by
  unfold sameB
  rw [allB_iff]
  exact ⟨fun h i hi => eq_of_beq (h i hi), fun h i hi => by rw [h i hi]; exact beq_self_eq_true _⟩
theorem sameB_split {T : Nat → Bool} {L a b : Nat} : sameB T (2 * L) a b = true ↔ sameB T L (2 * a) (2 * b) = true ∧ sameB T L (2 * a + 1) (2 * b + 1) = true := by
  rw [sameB_iff, sameB_iff, sameB_iff]
  have ea : ∀ x i, x * (2 * L) + i = 2 * x * L + i := fun x i => by rw [← Nat.mul_assoc, Nat.mul_comm x 2]
  have eb : ∀ x i, x * (2 * L) + (L + i) = (2 * x + 1) * L + i := fun x i => by rw [← Nat.mul_assoc, Nat.mul_comm x 2, Nat.add_mul, Nat.one_mul]; omega
  constructor
  · intro h
    refine ⟨fun i hi => ?_, fun i hi => ?_⟩
    · have := h i (by omega); rwa [ea, ea] at this
    · have := h (L + i) (by omega); rwa [eb, eb] at this
  · rintro ⟨h1, h2⟩ i hi
    rcases Nat.lt_or_ge i L with q | q
    · rw [ea, ea]; exact h1 i q
    · have := h2 (i - L) (by omega)
      rw [← eb, ← eb, show L + (i - L) = i by omega] at this
      exact this
/-- level q: tp tells alike blocks, yw their ways, pcn the nodes of each place from q on -/
def lvlI (T : Nat → Bool) (n q sz : Nat) (tp fw tw yw pcn : Nat → Nat) : Prop :=
  (∀ c d, c < 2 ^ q → d < 2 ^ q → (tp c = tp d ↔ sameB T (2 ^ (n - q)) c d = true)) ∧ (∀ c, c < 2 ^ q → tp c < sz ∧ yw (tp c) = waysH T (n - q) c) ∧
  sz + sumN (nodesB T n) q = 2 + sumN (nodesB T n) n ∧ (∀ p, q ≤ p → p < n → pcn p = nodesB T n p) ∧ (∀ a, fw a < 272) ∧ ∀ a, tw a < 272
theorem lvlI_n {T : Nat → Bool} {n : Nat} {tp fw tw yw pcn : Nat → Nat} (htp : ∀ c, c < 2 ^ n → tp c = if T c then 1 else 0) (h0 : yw 0 = 0) (h1 : yw 1 = 1) (hf : ∀ a, fw a < 272) (ht : ∀ a, tw a < 272) : lvlI T n n 2 tp fw tw yw pcn := by
  refine ⟨fun c d hc hd => ?_, fun c hc => ?_, rfl, fun p h1 h2 => absurd h1 (by omega), hf, ht⟩
  · rw [htp c hc, htp d hd, sameB_iff, Nat.sub_self]
    constructor
    · intro h i hi
      rw [show i = 0 by omega, Nat.mul_one, Nat.mul_one, Nat.add_zero, Nat.add_zero]
      revert h; cases T c <;> cases T d <;> simp
    · intro h
      have := h 0 (by decide)
      rw [Nat.mul_one, Nat.mul_one, Nat.add_zero, Nat.add_zero] at this
      rw [this]
  · rw [htp c hc, Nat.sub_self]
    show _ ∧ yw (if T c then 1 else 0) = if T c then 1 else 0
    cases T c
    · exact ⟨by decide, h0⟩
    · exact ⟨by decide, h1⟩
section LVL
variable {T : Nat → Bool} {n p sz s1 : Nat} {tp fw tw fw0 tw0 yw yw1 g pcn : Nat → Nat}
theorem lvl_half (hp : p < n) : 2 * 2 ^ (n - (p + 1)) = 2 ^ (n - p) := by
  rw [show n - p = (n - (p + 1)) + 1 by omega, Nat.pow_succ, Nat.mul_comm]
theorem lvl_pair (hp : p < n) (h : lvlI T n (p + 1) sz tp fw0 tw0 yw pcn) {c d : Nat} (hc : c < 2 ^ p) (hd : d < 2 ^ p) : (tp (2 * c) = tp (2 * d) ∧ tp (2 * c + 1) = tp (2 * d + 1)) ↔ sameB T (2 ^ (n - p)) c d = true := by
  have hpw : 2 ^ (p + 1) = 2 ^ p + 2 ^ p := by rw [Nat.pow_succ]; omega
  rw [← lvl_half hp, sameB_split, h.1 _ _ (by omega) (by omega), h.1 _ _ (by omega) (by omega)]
theorem lvl_new (hp : p < n) (h : lvlI T n (p + 1) sz tp fw0 tw0 yw pcn) {c : Nat} (hc : c < 2 ^ p) : newF tp c = newB T n p c := by
  have hpw : 2 ^ (p + 1) = 2 ^ p + 2 ^ p := by rw [Nat.pow_succ]; omega
  unfold newF newB
  congr 1
  · have := h.1 (2 * c) (2 * c + 1) (by omega) (by omega)
    cases hs : sameB T (2 ^ (n - (p + 1))) (2 * c) (2 * c + 1)
    · exact decide_eq_true (fun q => by rw [this.mp q] at hs; cases hs)
    · exact decide_eq_false (fun q => q (this.mpr hs))
  · refine allB_congr (fun d hd => ?_)
    have := lvl_pair hp h (c := d) (d := c) (by omega) hc
    cases hs : sameB T (2 ^ (n - p)) d c
    · congr 1
      cases h1 : decide (tp (2 * d) = tp (2 * c))
      · rfl
      · cases h2 : decide (tp (2 * d + 1) = tp (2 * c + 1))
        · rfl
        · rw [this.mp ⟨of_decide_eq_true h1, of_decide_eq_true h2⟩] at hs; cases hs
    · obtain ⟨h1, h2⟩ := this.mpr hs
      rw [decide_eq_true h1, decide_eq_true h2]; rfl
theorem lvl_cnt (hp : p < n) (h : lvlI T n (p + 1) sz tp fw0 tw0 yw pcn) : cnt (newF tp) (2 ^ p) = nodesB T n p := cnt_congr (fun c hc => lvl_new hp h hc)
theorem lvl_step (hp : p < n) (h : lvlI T n (p + 1) sz tp fw0 tw0 yw pcn) (hm : mrgI tp sz (2 ^ p) s1 fw tw yw yw1 g) : lvlI T n p s1 (mixN (2 ^ p) g tp) fw tw yw1 (upB pcn p (s1 - sz)) := by
  have hpw : 2 ^ (p + 1) = 2 ^ p + 2 ^ p := by rw [Nat.pow_succ]; omega
  obtain ⟨⟨m1, mf, mt⟩, m2, m3, m4, m5, m6⟩ := hm
  have hs1 : s1 = sz + nodesB T n p := by rw [m1, lvl_cnt hp h]
  have hlt : ∀ c, c < 2 ^ p → tp (2 * c) < sz ∧ tp (2 * c + 1) < sz := fun c hc => ⟨(h.2.1 _ (by omega)).1, (h.2.1 _ (by omega)).1⟩
  refine ⟨fun c d hc hd => ?_, fun c hc => ?_, ?_, fun j j1 j2 => ?_, mf, mt⟩
  · rw [mixN_lo hc, mixN_lo hd, ← lvl_pair hp h hc hd]
    obtain ⟨c1, c2⟩ := m2 c hc
    obtain ⟨d1, d2⟩ := m2 d hd
    have lc := hlt c hc
    have ld := hlt d hd
    by_cases ec : tp (2 * c) = tp (2 * c + 1)
    · by_cases ed : tp (2 * d) = tp (2 * d + 1)
      · rw [c1 ec, d1 ed]
        exact ⟨fun q => ⟨q, by omega⟩, fun q => q.1⟩
      · rw [c1 ec]
        have := d2 ed
        exact ⟨fun q => by omega, fun q => by omega⟩
    · have cc := c2 ec
      by_cases ed : tp (2 * d) = tp (2 * d + 1)
      · rw [d1 ed]
        exact ⟨fun q => by omega, fun q => by omega⟩
      · have dd := d2 ed
        constructor
        · intro q
          rw [← cc.2.2.1, ← cc.2.2.2, ← dd.2.2.1, ← dd.2.2.2, q]
          exact ⟨rfl, rfl⟩
        · intro q
          exact m3 _ _ cc.1 cc.2.1 dd.1 dd.2.1 (by rw [cc.2.2.1, dd.2.2.1]; exact q.1) (by rw [cc.2.2.2, dd.2.2.2]; exact q.2)
  · rw [mixN_lo hc]
    obtain ⟨c1, c2⟩ := m2 c hc
    have lc := hlt c hc
    have wa := (h.2.1 (2 * c) (by omega)).2
    have wb := (h.2.1 (2 * c + 1) (by omega)).2
    have hq := h.1 (2 * c) (2 * c + 1) (by omega) (by omega)
    rw [show n - p = (n - (p + 1)) + 1 by omega]
    show _ ∧ _ = if sameB T (2 ^ (n - (p + 1))) (2 * c) (2 * c + 1) then _ else _
    by_cases ec : tp (2 * c) = tp (2 * c + 1)
    · rw [c1 ec, if_pos (hq.mp ec), m6 _ lc.1]
      exact ⟨by omega, wa⟩
    · have cc := c2 ec
      rw [if_neg (fun q => ec (hq.mpr q)), m5 _ cc.1 cc.2.1, cc.2.2.1, cc.2.2.2, wa, wb]
      exact ⟨cc.2.1, rfl⟩
  · have := h.2.2.1
    simp only [sumN] at this
    omega
  · by_cases e : j = p
    · subst e
      rw [upB_same]; omega
    · rw [upB_ne e]; exact h.2.2.2.1 j (by omega) j2
end LVL
/-- as many new ones as keys, at the most -/
def keyS (nw : Nat → Bool) (key : Nat → Nat) : Nat → Nat → Bool
  | 0 => fun _ => false
  | n + 1 => if nw n then upB (keyS nw key n) (key n) true else keyS nw key n
theorem keyS_of {nw : Nat → Bool} {key : Nat → Nat} {n k : Nat} (h : keyS nw key n k = true) : ∃ c, c < n ∧ nw c = true ∧ key c = k := by
  induction n with
  | zero => exact absurd h (by simp [keyS])
  | succ n ih =>
    simp only [keyS] at h
    by_cases hn : nw n = true
    · rw [if_pos hn] at h
      by_cases e : k = key n
      · exact ⟨n, by omega, hn, e.symm⟩
      · rw [upB_ne e] at h
        obtain ⟨c, c1, c2⟩ := ih h
        exact ⟨c, by omega, c2⟩
    · rw [if_neg hn] at h
      obtain ⟨c, c1, c2⟩ := ih h
      exact ⟨c, by omega, c2⟩
theorem cnt_up {S : Nat → Bool} {k K : Nat} (hk : k < K) (h : S k = false) : cnt (upB S k true) K = cnt S K + 1 := by
  induction K with
  | zero => omega
  | succ K ih =>
    simp only [cnt]
    by_cases e : k = K
    · subst e
      rw [upB_same, h, cnt_congr (T := S) (fun a ha => upB_ne (by omega))]; rfl
    · rw [ih (by omega), upB_ne (fun q => e q.symm)]; omega
theorem cnt_keys {nw : Nat → Bool} {key : Nat → Nat} {N K : Nat} (h1 : ∀ c, c < N → nw c = true → key c < K) (h2 : ∀ c d, d < c → c < N → nw c = true → nw d = true → key d ≠ key c) : cnt nw N ≤ K := by
  have : ∀ n, n ≤ N → cnt nw n = cnt (keyS nw key n) K := by
    intro n
    induction n with
    | zero =>
      intro _
      exact (cnt_zero.mpr (fun _ _ => rfl)).symm
    | succ n ih =>
      intro hn
      simp only [keyS, cnt]
      by_cases hq : nw n = true
      · rw [if_pos hq, if_pos hq, ih (by omega)]
        refine (cnt_up (h1 n (by omega) hq) ?_).symm
        cases hz : keyS nw key n (key n)
        · rfl
        · obtain ⟨c, c1, c2, c3⟩ := keyS_of hz
          exact absurd c3 (h2 n c c1 (by omega) hq c2)
      · rw [if_neg hq, if_neg hq, ih (by omega)]; rfl
  rw [this N (Nat.le_refl _)]
  exact cnt_le _ _
theorem newB_ne {T : Nat → Bool} {n p c : Nat} (h : newB T n p c = true) : sameB T (2 ^ (n - (p + 1))) (2 * c) (2 * c + 1) = false ∧ ∀ d, d < c → sameB T (2 ^ (n - p)) d c = false := by
  unfold newB at h
  rw [Bool.and_eq_true, allB_iff] at h
  refine ⟨by simpa using h.1, fun d hd => by simpa using h.2 d hd⟩
def b01 (b : Bool) : Nat := if b then 1 else 0
theorem b01_lt (b : Bool) : b01 b < 2 := by cases b <;> decide
theorem b01_inj {a b : Bool} : b01 a = b01 b ↔ a = b := by cases a <;> cases b <;> decide
theorem nodesB_1 (T : Nat → Bool) (m : Nat) : nodesB T (m + 1) m ≤ 2 := by
  refine cnt_keys (key := fun c => b01 (T (2 * c))) (fun c _ _ => b01_lt _) (fun c d hd hc nc nd q => ?_)
  have h1 := newB_ne nc
  have h2 := newB_ne nd
  have e0 : m + 1 - (m + 1) = 0 := by omega
  have e1 : m + 1 - m = 1 := by omega
  rw [e0, e1] at h1
  rw [e0] at h2
  have q := b01_inj.mp q
  have hs := h1.2 d hd
  have n1 : T (2 * c) ≠ T (2 * c + 1) := fun z => by
    have : sameB T (2 ^ 0) (2 * c) (2 * c + 1) = true := sameB_iff.mpr (fun i hi => by rw [show i = 0 by omega, Nat.mul_one, Nat.mul_one]; exact z)
    rw [this] at h1; cases h1.1
  have n2 : T (2 * d) ≠ T (2 * d + 1) := fun z => by
    have : sameB T (2 ^ 0) (2 * d) (2 * d + 1) = true := sameB_iff.mpr (fun i hi => by rw [show i = 0 by omega, Nat.mul_one, Nat.mul_one]; exact z)
    rw [this] at h2; cases h2.1
  have : sameB T (2 ^ 1) d c = true := sameB_iff.mpr (fun i hi => by
    have hi : i < 2 := hi
    rw [show 2 ^ 1 = 2 from rfl, Nat.mul_comm d 2, Nat.mul_comm c 2]
    rcases (show i = 0 ∨ i = 1 by omega) with rfl | rfl
    · exact q
    · revert n1 n2 q; cases T (2 * c) <;> cases T (2 * d) <;> cases T (2 * c + 1) <;> cases T (2 * d + 1) <;> simp)
  rw [this] at hs; cases hs
/-- a pair of unlike numbers below 4 as one below 12 -/
def key12 (x y : Nat) : Nat := x * 3 + (if x < y then y - 1 else y)
theorem key12_lt : ∀ x, x < 4 → ∀ y, y < 4 → x ≠ y → key12 x y < 12 := by decide +kernel
theorem key12_b : ∀ x, x < 4 → ∀ y, y < 4 → ∀ u, u < 4 → ∀ v, v < 4 → (x == y || u == v || !(key12 x y == key12 u v) || (x == u && y == v)) = true := by decide +kernel
theorem key12_inj (x : Nat) (hx : x < 4) (y : Nat) (hy : y < 4) (u : Nat) (hu : u < 4) (v : Nat) (hv : v < 4) (h1 : x ≠ y) (h2 : u ≠ v) (h : key12 x y = key12 u v) : x = u ∧ y = v := by
  have := key12_b x hx y hy u hu v hv
  simp [h1, h2, h] at this
  exact this
def two2 (a b : Bool) : Nat := b01 a + 2 * b01 b
theorem two2_lt (a b : Bool) : two2 a b < 4 := by cases a <;> cases b <;> decide
theorem two2_inj {a b x y : Bool} (h : two2 a b = two2 x y) : a = x ∧ b = y := by revert h; cases a <;> cases b <;> cases x <;> cases y <;> decide
theorem nodesB_2 (T : Nat → Bool) (m : Nat) : nodesB T (m + 2) m ≤ 12 := by
  have key : ∀ c, newB T (m + 2) m c = true → two2 (T (4 * c)) (T (4 * c + 1)) ≠ two2 (T (4 * c + 2)) (T (4 * c + 3)) := by
    intro c hc q
    have h1 := (newB_ne hc).1
    obtain ⟨q1, q2⟩ := two2_inj q
    rw [show m + 2 - (m + 1) = 1 by omega] at h1
    have : sameB T (2 ^ 1) (2 * c) (2 * c + 1) = true := sameB_iff.mpr (fun i hi => by
      have hi : i < 2 := hi
      rw [show 2 * c * 2 ^ 1 + i = 4 * c + i by omega, show (2 * c + 1) * 2 ^ 1 + i = 4 * c + 2 + i by omega]
      rcases (show i = 0 ∨ i = 1 by omega) with rfl | rfl
      · exact q1
      · exact q2)
    rw [this] at h1; cases h1
  refine cnt_keys (key := fun c => key12 (two2 (T (4 * c)) (T (4 * c + 1))) (two2 (T (4 * c + 2)) (T (4 * c + 3)))) (fun c _ nc => key12_lt _ (two2_lt _ _) _ (two2_lt _ _) (key c nc)) (fun c d hd hc nc nd q => ?_)
  have hs := (newB_ne nc).2 d hd
  obtain ⟨z1, z2⟩ := key12_inj _ (two2_lt _ _) _ (two2_lt _ _) _ (two2_lt _ _) _ (two2_lt _ _) (key d nd) (key c nc) q
  obtain ⟨a0, a1⟩ := two2_inj z1
  obtain ⟨a2, a3⟩ := two2_inj z2
  rw [show m + 2 - m = 2 by omega] at hs
  have : sameB T (2 ^ 2) d c = true := sameB_iff.mpr (fun i hi => by
    have hi : i < 4 := hi
    rw [show d * 2 ^ 2 + i = 4 * d + i by omega, show c * 2 ^ 2 + i = 4 * c + i by omega]
    rcases (show i = 0 ∨ i = 1 ∨ i = 2 ∨ i = 3 by omega) with rfl | rfl | rfl | rfl
    · exact a0
    · exact a1
    · exact a2
    · exact a3)
  rw [this] at hs; cases hs
theorem sumN_le {f g : Nat → Nat} {n : Nat} (h : ∀ p, p < n → f p ≤ g p) : sumN f n ≤ sumN g n := by
  induction n with
  | zero => exact Nat.le_refl _
  | succ n ih => simp only [sumN]; have := ih (fun p hp => h p (by omega)); have := h n (by omega); omega
theorem sumN_mono (f : Nat → Nat) {a b : Nat} (h : a ≤ b) : sumN f a ≤ sumN f b := by
  induction h with
  | refl => exact Nat.le_refl _
  | step _ ih => simp only [sumN]; omega
theorem sumN_pow (n : Nat) : sumN (fun p => 2 ^ p) n + 1 = 2 ^ n := by
  induction n with
  | zero => rfl
  | succ n ih => simp only [sumN]; rw [Nat.pow_succ]; omega
theorem nodesB_p (T : Nat → Bool) (n p : Nat) : nodesB T n p ≤ 2 ^ p := cnt_le _ _
theorem nodes_all (T : Nat → Bool) {n : Nat} (hn : n ≤ 10) : sumN (nodesB T n) n ≤ 269 := by
  match n with
  | 0 => exact Nat.zero_le _
  | 1 =>
    have h : nodesB T 1 0 ≤ 2 := nodesB_1 T 0
    simp only [sumN]; omega
  | m + 2 =>
    have h1 : nodesB T (m + 2) (m + 1) ≤ 2 := nodesB_1 T (m + 1)
    have h2 := nodesB_2 T m
    have h3 : sumN (nodesB T (m + 2)) m ≤ sumN (fun p => 2 ^ p) m := sumN_le (fun p _ => nodesB_p T _ p)
    have h4 := sumN_pow m
    have h5 : 2 ^ m ≤ 256 := Nat.pow_le_pow_right (by decide) (show m ≤ 8 by omega)
    simp only [sumN]
    omega
theorem waysH_le (T : Nat → Bool) (h : Nat) : ∀ c, waysH T h c ≤ 2 ^ h := by
  induction h with
  | zero => intro c; show (if T c then 1 else 0) ≤ 1; split <;> decide
  | succ h ih =>
    intro c
    have h1 := ih (2 * c)
    have h2 := ih (2 * c + 1)
    have h3 : 2 ^ (h + 1) = 2 ^ h + 2 ^ h := by rw [Nat.pow_succ]; omega
    simp only [waysH]
    split <;> omega
/-- where the choices of values for the places lead: from the last place on -/
def layP (n : Nat) (od : Nat → Nat) (c t : Nat) : Nat := orS (fun k => if c.testBit k then 2 ^ od (n - 1 - k) else 0) t
theorem orS_congr {f g : Nat → Nat} {n : Nat} (h : ∀ c, c < n → f c = g c) : orS f n = orS g n := by
  induction n with
  | zero => rfl
  | succ n ih => simp only [orS]; rw [ih (fun c hc => h c (by omega)), h n (by omega)]
theorem layP_lo {n c t : Nat} {od : Nat → Nat} (h : c < 2 ^ t) : layP n od c (t + 1) = layP n od c t := by
  show layP n od c t ||| (if c.testBit t then 2 ^ od (n - 1 - t) else 0) = _
  rw [Nat.testBit_lt_two_pow h, if_neg (by decide), Nat.or_zero]
theorem layP_hi {n c t : Nat} {od : Nat → Nat} (h : c < 2 ^ t) : layP n od (2 ^ t + c) (t + 1) = layP n od c t ||| 2 ^ od (n - 1 - t) := by
  have e : layP n od (2 ^ t + c) t = layP n od c t := orS_congr (fun k hk => by rw [Nat.testBit_two_pow_add_gt hk])
  show layP n od (2 ^ t + c) t ||| (if (2 ^ t + c).testBit t then 2 ^ od (n - 1 - t) else 0) = _
  rw [e, Nat.testBit_two_pow_add_eq, Nat.testBit_lt_two_pow h]; rfl
theorem layP_lt {n c t : Nat} {od : Nat → Nat} (h : ∀ j, od j < 10) : layP n od c t < 1024 := orS_lt (k := 10) (fun k _ => by
  split
  · exact Nat.pow_lt_pow_right (by decide) (h _)
  · decide)
theorem upB_self {f : Nat → Nat} {i : Nat} : upB f i (f i) = f := by
  funext j; unfold upB; split
  · rename_i h; rw [h]
  · rfl
theorem upB_self' {f : Nat → Nat} {i v : Nat} (h : v = f i) : upB f i v = f := by rw [h]; exact upB_self
/-- a place that runs down to -1 -/
theorem pI_lt {k : Nat} (hk : k < 2 ^ 31) : nI k - 1 < 0 ↔ k = 0 := by
  constructor
  · intro h
    rcases Nat.eq_zero_or_pos k with q | q
    · exact q
    · rw [show nI k - 1 = nI (k - 1) from pk_sub q] at h
      exact absurd h (nI_pos (by omega))
  · rintro rfl; decide
theorem pI_pos {k : Nat} (h : 0 < k) : nI k - 1 = nI (k - 1) := pk_sub h
theorem pI_m1 {k : Nat} : nI k + Int32.ofInt (-1) = nI k - 1 := by rw [Int32.sub_eq_add_neg]; rfl

/-! COUNTFALL: parts, numbers (laid by wip/whole/tools, from the specs there) -/
/-! COUNTFALL, numbers of parts: the k-th choice of values for a part -/
def pdp (P k b : Nat) : Nat := bsum (fun j => P.testBit j && k.testBit (cnt P.testBit j)) b
/-- what stands below b of c - P, with what is borrowed from above -/
theorem mod_pow_succ {x b : Nat} : x % 2 ^ (b + 1) = x % 2 ^ b + 2 ^ b * (x / 2 ^ b % 2) := by
  rw [Nat.pow_succ, Nat.mod_mul]
theorem tb_succ_carry {k m : Nat} : (k + 1).testBit m = (k.testBit m ^^ decide (k % 2 ^ m = 2 ^ m - 1)) := by
  have hp := Nat.two_pow_pos m
  have h1 := Nat.div_add_mod k (2 ^ m)
  have h2 := Nat.mod_lt k hp
  rw [Nat.testBit_eq_decide_div_mod_eq, Nat.testBit_eq_decide_div_mod_eq]
  by_cases e : k % 2 ^ m = 2 ^ m - 1
  · have : (k + 1) / 2 ^ m = k / 2 ^ m + 1 := by
      have e2 : k + 1 = 2 ^ m * (k / 2 ^ m + 1) := by rw [Nat.mul_add, Nat.mul_one]; omega
      rw [e2, Nat.mul_div_cancel_left _ hp]
    rw [this, decide_eq_true e]
    rcases Nat.mod_two_eq_zero_or_one (k / 2 ^ m) with q | q
    · rw [show (k / 2 ^ m + 1) % 2 = 1 by omega, q]; rfl
    · rw [show (k / 2 ^ m + 1) % 2 = 0 by omega, q]; rfl
  · have : (k + 1) / 2 ^ m = k / 2 ^ m := by
      have e2 : k + 1 = 2 ^ m * (k / 2 ^ m) + (k % 2 ^ m + 1) := by omega
      have e3 : (k % 2 ^ m + 1) / 2 ^ m = 0 := Nat.div_eq_of_lt (by omega)
      rw [e2, Nat.mul_add_div hp, e3, Nat.add_zero]
    rw [this, decide_eq_false e, Bool.xor_false]
theorem pdp_lt (P k b : Nat) : pdp P k b < 2 ^ b := bsum_lt _ _
theorem mod_bit {P b : Nat} : P % 2 ^ (b + 1) = P % 2 ^ b + (if P.testBit b then 2 ^ b else 0) := by
  rw [mod_pow_succ, Nat.testBit_eq_decide_div_mod_eq]
  rcases Nat.mod_two_eq_zero_or_one (P / 2 ^ b) with q | q
  · rw [q]; simp
  · rw [q]; simp
theorem pdp_le (P k b : Nat) : pdp P k b ≤ P % 2 ^ b := by
  induction b with
  | zero => exact Nat.zero_le _
  | succ b ih =>
    rw [mod_bit]
    have hs : pdp P k (b + 1) = pdp P k b + (if (P.testBit b && k.testBit (cnt P.testBit b)) = true then 2 ^ b else 0) := rfl
    rw [hs]
    by_cases hb : P.testBit b = true
    · rw [if_pos hb]; split <;> omega
    · rw [if_neg hb, Bool.eq_false_iff.mpr hb, Bool.false_and, if_neg (by decide)]; omega
/-- all of a part is chosen just by the last choice -/
theorem pdp_full {P k b : Nat} : pdp P k b = P % 2 ^ b ↔ k % 2 ^ (cnt P.testBit b) = 2 ^ (cnt P.testBit b) - 1 := by
  induction b with
  | zero => simp [pdp, bsum, cnt, Nat.mod_one]
  | succ b ih =>
    have hle := pdp_le P k b
    have hlt := pdp_lt P k b
    have hs : pdp P k (b + 1) = pdp P k b + (if (P.testBit b && k.testBit (cnt P.testBit b)) = true then 2 ^ b else 0) := rfl
    have hc : cnt P.testBit (b + 1) = cnt P.testBit b + (if P.testBit b then 1 else 0) := rfl
    have hPl := Nat.mod_lt P (Nat.two_pow_pos b)
    rw [hs, hc, mod_bit]
    by_cases hb : P.testBit b = true
    · rw [if_pos hb, if_pos hb, hb, Bool.true_and, mod_bit]
      have hq := Nat.two_pow_pos b
      have hm := Nat.two_pow_pos (cnt P.testBit b)
      have hkm := Nat.mod_lt k hm
      have hpw : 2 ^ (cnt P.testBit b + 1) = 2 ^ (cnt P.testBit b) + 2 ^ (cnt P.testBit b) := by rw [Nat.pow_succ]; omega
      by_cases hk : k.testBit (cnt P.testBit b) = true
      · rw [if_pos hk, if_pos hk, hpw]
        constructor
        · intro h
          have := ih.mp (by omega)
          omega
        · intro h
          have := ih.mpr (by omega)
          omega
      · rw [if_neg hk, if_neg hk, hpw]
        constructor
        · intro h; omega
        · intro h; omega
    · rw [if_neg hb, if_neg hb, Bool.eq_false_iff.mpr hb, Bool.false_and, if_neg (by decide), Nat.add_zero, Nat.add_zero, Nat.add_zero]
      exact ih
/-- bits of x that a set has, below b -/
def msk (P x b : Nat) : Nat := bsum (fun j => P.testBit j && x.testBit j) b
theorem msk_step {P lo y b : Nat} (hlo : lo < 2 ^ b) : msk P (lo + 2 ^ b * y) (b + 1) = msk P lo b + (if (P.testBit b && y.testBit 0) = true then 2 ^ b else 0) := by
  have hb : ∀ j, (lo + 2 ^ b * y).testBit j = if j < b then lo.testBit j else y.testBit (j - b) := fun j => by
    rw [Nat.add_comm]; exact Nat.testBit_two_pow_mul_add y hlo j
  show bsum _ b + (if (P.testBit b && (lo + 2 ^ b * y).testBit b) = true then 2 ^ b else 0) = _
  rw [hb b, if_neg (Nat.lt_irrefl b), Nat.sub_self]
  congr 1
  exact bsum_congr (fun j hj => by rw [hb j, if_pos hj])
/-- the next choice: taking the part away borrows through all that is not of it -/
theorem pdp_step (P k b : Nat) : msk P ((pdp P k b + 2 ^ b - P % 2 ^ b) % 2 ^ b) b = pdp P (k + 1) b := by
  induction b with
  | zero => rfl
  | succ b ih =>
    have hle := pdp_le P k b
    have hlt := pdp_lt P k b
    have hq := Nat.two_pow_pos b
    have hPl := Nat.mod_lt P hq
    have hpw : 2 ^ (b + 1) = 2 ^ b + 2 ^ b := by rw [Nat.pow_succ]; omega
    have hs : pdp P k (b + 1) = pdp P k b + (if (P.testBit b && k.testBit (cnt P.testBit b)) = true then 2 ^ b else 0) := rfl
    obtain ⟨d, hd⟩ : ∃ d, d = pdp P k b + 2 ^ b - P % 2 ^ b := ⟨_, rfl⟩
    rw [← hd] at ih
    have hd2 : d ≤ 2 ^ b := by omega
    have hdd : ∃ e, pdp P k (b + 1) + 2 ^ (b + 1) - P % 2 ^ (b + 1) = d + 2 ^ b * e ∧ (P.testBit b = true → e = if k.testBit (cnt P.testBit b) then 1 else 0) := by
      rw [hs, mod_bit, hpw]
      by_cases hb : P.testBit b = true
      · rw [if_pos hb, hb, Bool.true_and]
        by_cases hk : k.testBit (cnt P.testBit b) = true
        · exact ⟨1, by rw [if_pos hk]; omega, fun _ => by rw [if_pos hk]⟩
        · exact ⟨0, by rw [if_neg hk]; omega, fun _ => by rw [if_neg hk]⟩
      · exact ⟨1, by rw [if_neg hb, Bool.eq_false_iff.mpr hb]; simp; omega, fun q => absurd q hb⟩
    obtain ⟨e, he, he2⟩ := hdd
    have hmod : (d + 2 ^ b * e) % 2 ^ (b + 1) = d % 2 ^ b + 2 ^ b * ((d / 2 ^ b + e) % 2) := by
      rw [mod_pow_succ, Nat.add_mul_mod_self_left, Nat.add_mul_div_left _ _ hq]
    rw [he, hmod, msk_step (Nat.mod_lt _ hq), ih]
    show pdp P (k + 1) b + _ = pdp P (k + 1) b + (if (P.testBit b && (k + 1).testBit (cnt P.testBit b)) = true then 2 ^ b else 0)
    congr 1
    by_cases hb : P.testBit b = true
    · rw [hb, Bool.true_and, Bool.true_and, tb_succ_carry, he2 hb]
      have hf := pdp_full (P := P) (k := k) (b := b)
      have hdiv : d / 2 ^ b = if pdp P k b = P % 2 ^ b then 1 else 0 := by
        by_cases z : pdp P k b = P % 2 ^ b
        · rw [if_pos z, show d = 2 ^ b by omega, Nat.div_self hq]
        · rw [if_neg z, Nat.div_eq_of_lt (by omega)]
      rw [hdiv]
      by_cases z : pdp P k b = P % 2 ^ b
      · rw [if_pos z, decide_eq_true (hf.mp z)]
        cases k.testBit (cnt P.testBit b) <;> rfl
      · rw [if_neg z, decide_eq_false (fun q => z (hf.mpr q))]
        cases k.testBit (cnt P.testBit b) <;> rfl
    · rw [Bool.eq_false_iff.mpr hb]; rfl
theorem pdp_java {P k : Nat} (hP : P < 1024) : (nI (pdp P k 10) - nI P) &&& nI P = nI (pdp P (k + 1) 10) := by
  have hle := pdp_le P k 10
  have hlt := pdp_lt P k 10
  rw [Nat.mod_eq_of_lt (show P < 2 ^ 10 from hP)] at hle
  have e1 : nI (pdp P k 10) - nI P = nI (pdp P k 10 + 2 ^ 32 - P) := by
    apply Int32.toBitVec_inj.1
    rw [Int32.toBitVec_sub]
    show BitVec.ofNat 32 _ - BitVec.ofNat 32 _ = BitVec.ofNat 32 _
    apply BitVec.eq_of_toNat_eq
    rw [BitVec.toNat_sub, BitVec.toNat_ofNat, BitVec.toNat_ofNat, BitVec.toNat_ofNat]
    omega
  rw [e1, nx_and, ← pdp_step, Nat.mod_eq_of_lt (show P < 2 ^ 10 from hP)]
  congr 1
  refine bsum_ext (Nat.lt_of_le_of_lt Nat.and_le_right hP) (fun j hj => ?_)
  rw [Nat.testBit_and, Bool.and_comm]
  congr 1
  have e2 : (pdp P k 10 + 2 ^ 32 - P) % 2 ^ 10 = (pdp P k 10 + 2 ^ 10 - P) % 2 ^ 10 := by omega
  rw [← e2, Nat.testBit_mod_two_pow]
  simp [hj]
/-- the choices are those within the part -/
def subB (P c b : Nat) : Bool := allB (fun j => !c.testBit j || P.testBit j) b
theorem subB_congr {P c d b : Nat} (h : ∀ j, j < b → c.testBit j = d.testBit j) : subB P c b = subB P d b := allB_congr (fun j hj => by rw [h j hj])
theorem cnt_mono1 {S : Nat → Bool} {a b : Nat} (h : a < b) (hs : S a = true) : cnt S a < cnt S b := by
  have := cnt_mono S (show a + 1 ≤ b from h)
  rw [cnt_s1 hs] at this; omega
theorem cnt_pdp (P b : Nat) : ∀ g : Nat → Bool, cnt (fun k => g (pdp P k b)) (2 ^ cnt P.testBit b) = cnt (fun c => subB P c b && g c) (2 ^ b) := by
  induction b with
  | zero => intro g; show 0 + _ = 0 + _; rfl
  | succ b ih =>
    intro g
    have hpw : 2 ^ (b + 1) = 2 ^ b + 2 ^ b := by rw [Nat.pow_succ]; omega
    have hsub : ∀ c, subB P c (b + 1) = (subB P c b && (!c.testBit b || P.testBit b)) := fun c => rfl
    have hs : ∀ k, pdp P k (b + 1) = pdp P k b + (if (P.testBit b && k.testBit (cnt P.testBit b)) = true then 2 ^ b else 0) := fun _ => rfl
    have hlow : ∀ c, c < 2 ^ b → (subB P c (b + 1) && g c) = (subB P c b && g c) := fun c hc => by
      rw [hsub, Nat.testBit_lt_two_pow hc]; simp
    rw [hpw, cnt_add (fun c => subB P c (b + 1) && g c) (2 ^ b), cnt_congr (T := fun c => subB P c b && g c) hlow]
    have hhi : ∀ c, c < 2 ^ b → subB P (2 ^ b + c) (b + 1) = (subB P c b && P.testBit b) := fun c hc => by
      rw [hsub, Nat.testBit_two_pow_add_eq, Nat.testBit_lt_two_pow hc, subB_congr (d := c) (fun j hj => Nat.testBit_two_pow_add_gt hj c)]; simp
    by_cases hb : P.testBit b = true
    · have hc : cnt P.testBit (b + 1) = cnt P.testBit b + 1 := cnt_s1 hb
      have hpm : 2 ^ (cnt P.testBit b + 1) = 2 ^ cnt P.testBit b + 2 ^ cnt P.testBit b := by rw [Nat.pow_succ]; omega
      rw [hc, hpm, cnt_add]
      congr 1
      · rw [← ih]
        refine cnt_congr (fun k hk => ?_)
        rw [hs, Nat.testBit_lt_two_pow hk, Bool.and_false, if_neg (by decide), Nat.add_zero]
      · rw [cnt_congr (S := fun c => subB P (2 ^ b + c) (b + 1) && g (2 ^ b + c)) (T := fun c => subB P c b && g (2 ^ b + c)) (fun c hc => by rw [hhi c hc, hb, Bool.and_true]), ← ih (fun c => g (2 ^ b + c))]
        refine cnt_congr (fun k hk => ?_)
        have e1 : pdp P (2 ^ cnt P.testBit b + k) b = pdp P k b := bsum_congr (fun j hj => by
          by_cases hj2 : P.testBit j = true
          · rw [Nat.testBit_two_pow_add_gt (cnt_mono1 hj hj2)]
          · rw [Bool.eq_false_iff.mpr hj2]; rfl)
        rw [hs, Nat.testBit_two_pow_add_eq, Nat.testBit_lt_two_pow hk, hb, e1, Nat.add_comm]; rfl
    · have hc : cnt P.testBit (b + 1) = cnt P.testBit b := cnt_s0 (Bool.eq_false_iff.mpr hb)
      have hz : cnt (fun j => subB P (2 ^ b + j) (b + 1) && g (2 ^ b + j)) (2 ^ b) = 0 := cnt_zero.mpr (fun c hc => by rw [hhi c hc, Bool.eq_false_iff.mpr hb, Bool.and_false]; rfl)
      rw [hz, Nat.add_zero, hc, ← ih]
      refine cnt_congr (fun k _ => ?_)
      rw [hs, Bool.eq_false_iff.mpr hb, Bool.false_and, if_neg (by decide), Nat.add_zero]
theorem subB_iff {P c b : Nat} : subB P c b = true ↔ ∀ j, j < b → c.testBit j = true → P.testBit j = true := by
  unfold subB
  rw [allB_iff]
  exact ⟨fun h j hj hc => by have := h j hj; rw [hc] at this; simpa using this, fun h j hj => by
    cases hc : c.testBit j
    · rfl
    · rw [h j hj hc]; rfl⟩
theorem cnt_ext {S T : Nat → Bool} {a b : Nat} (hab : a ≤ b) (h1 : ∀ c, c < a → S c = T c) (h2 : ∀ c, a ≤ c → c < b → T c = false) : cnt S a = cnt T b := by
  obtain ⟨d, rfl⟩ : ∃ d, b = a + d := ⟨b - a, by omega⟩
  rw [cnt_add, cnt_congr h1, cnt_zero.mpr (fun c hc => h2 (a + c) (by omega) (by omega)), Nat.add_zero]
theorem and_sub0 {c P : Nat} : nAnd c P = 0 ↔ ∀ j, c.testBit j = true → P.testBit j = true := by
  constructor
  · intro h j hj
    have := nAnd_bit c P j
    rw [h, Nat.zero_testBit, hj] at this
    simpa using this
  · intro h
    apply Nat.eq_of_testBit_eq
    intro j
    rw [nAnd_bit, Nat.zero_testBit]
    cases hc : c.testBit j
    · rfl
    · rw [h j hc]; rfl
/-- counted by choices, or over all with those outside passed over -/
theorem cnt_choices {n P : Nat} {g : Nat → Bool} (hn : n ≤ 10) (hP : P < 2 ^ n) : cnt (fun k => g (pdp P k 10)) (2 ^ cnt P.testBit 10) = cnt (fun c => decide (nAnd c P = 0) && g c) (2 ^ n) := by
  rw [cnt_pdp]
  symm
  have h10 := two_pow10 hn
  refine cnt_ext h10 (fun c hc => ?_) (fun c hc1 hc2 => ?_)
  · congr 1
    have hc10 : c < 2 ^ 10 := by omega
    have : subB P c 10 = true ↔ nAnd c P = 0 := by
      rw [subB_iff, and_sub0]
      exact ⟨fun h j hj => h j (by
        rcases Nat.lt_or_ge j 10 with q | q
        · exact q
        · rw [Nat.testBit_lt_two_pow (Nat.lt_of_lt_of_le hc10 (Nat.pow_le_pow_right (by decide) q))] at hj; cases hj) hj, fun h j _ hj => h j hj⟩
    cases hs : subB P c 10
    · exact decide_eq_false (fun q => by rw [this.mpr q] at hs; cases hs)
    · exact decide_eq_true (this.mp hs)
  · have : subB P c 10 = false := by
      cases hs : subB P c 10
      · rfl
      · exfalso
        have h := subB_iff.mp hs
        have : c < 2 ^ n := by
          apply Nat.lt_pow_two_of_testBit
          intro j hj
          cases hcj : c.testBit j
          · rfl
          · exfalso
            rcases Nat.lt_or_ge j 10 with q | q
            · have := h j q hcj
              rw [Nat.testBit_lt_two_pow (Nat.lt_of_lt_of_le hP (Nat.pow_le_pow_right (by decide) hj))] at this; cases this
            · rw [Nat.testBit_lt_two_pow (Nat.lt_of_lt_of_le hc2 (Nat.pow_le_pow_right (by decide) q))] at hcj; cases hcj
        omega
    rw [this]; rfl
theorem pdp_z (P b : Nat) : pdp P 0 b = 0 := by
  induction b with
  | zero => rfl
  | succ b ih =>
    have hs : pdp P 0 (b + 1) = pdp P 0 b + (if (P.testBit b && Nat.testBit 0 (cnt P.testBit b)) = true then 2 ^ b else 0) := rfl
    rw [hs, ih, Nat.zero_testBit, Bool.and_false]; rfl
/-- how many choices for a part fulfil some constraints, beside the evidence -/
def chcN (nc : Nat) (cs : Nat → CN) (pt nb ev : Nat) : Nat := cnt (fun k => metN cs nc nb (pdp pt k 10 ||| ev)) (2 ^ cnt pt.testBit 10)
/-- the count of a part: its constraints, the evidence of their variables -/
def cntP (nc : Nat) (cs : Nat → CN) (lv se pt : Nat) : Nat := chcN nc cs pt (touchN cs lv nc pt) (se &&& memN cs nc (touchN cs lv nc pt))
/-- what the memory of parts holds is right -/
def pmI (nc : Nat) (cs : Nat → CN) (ps pk pv pn : Nat → Nat) : Prop := ∀ v, ps v < 1024 ∧ pk v < 2 ^ nc ∧ pv v < 1024 ∧ (ps v ≠ 0 → pn v = chcN nc cs (ps v) (pk v) (pv v))
theorem metN_more {nc x a : Nat} {cs : Nat → CN} {cn : CN} (hx : x < 2 ^ nc) : metN (upB cs nc cn) (nc + 1) x a = metN cs nc x a := by
  unfold metN
  show (allB _ nc && (!x.testBit nc || _)) = _
  rw [Nat.testBit_lt_two_pow hx]
  show (allB _ nc && true) = _
  rw [Bool.and_true]
  exact allB_congr (fun c hc => by rw [upB_ne (by omega)])
theorem pmI_more {nc : Nat} {cs : Nat → CN} {cn : CN} {ps pk pv pn : Nat → Nat} (h : pmI nc cs ps pk pv pn) : pmI (nc + 1) (upB cs nc cn) ps pk pv pn := fun v => by
  obtain ⟨h1, h2, h3, h4⟩ := h v
  refine ⟨h1, by rw [Nat.pow_succ]; omega, h3, fun q => ?_⟩
  rw [h4 q]
  exact cnt_congr (fun k _ => (metN_more h2).symm)
theorem pmI_note {nc : Nat} {cs : Nat → CN} {ps pk pv pn : Nat → Nat} (h : pmI nc cs ps pk pv pn) {nm pt nb ev : Nat} (h1 : pt < 1024) (h2 : nb < 2 ^ nc) (h3 : ev < 1024) : pmI nc cs (upB ps nm pt) (upB pk nm nb) (upB pv nm ev) (upB pn nm (chcN nc cs pt nb ev)) := fun v => by
  by_cases e : v = nm
  · subst e; rw [upB_same, upB_same, upB_same, upB_same]
    exact ⟨h1, h2, h3, fun _ => rfl⟩
  · rw [upB_ne e, upB_ne e, upB_ne e, upB_ne e]; exact h v
theorem itP_ne0 {nc : Nat} {cs : Nat → CN} {lv op v r : Nat} : (itP nc cs lv op v r).testBit v = true := by
  induction r with
  | zero => rw [itP, pow_bit]; simp
  | succ r ih => simp only [itP, stpP]; rw [Nat.testBit_or, ih]; rfl
theorem tb_ne0 {x v : Nat} (h : x.testBit v = true) : x ≠ 0 := fun e => by rw [e, Nat.zero_testBit] at h; cases h
theorem lowN_lt {x v n : Nat} (hv : v < n) (h : x.testBit v = true) : lowN x n < n := by
  have hle := lowN_le x n
  rcases Nat.lt_or_ge (lowN x n) n with q | q
  · exact q
  · exfalso
    -- the least place of x is found
    have hm : ∃ m, m ≤ v ∧ x.testBit m = true ∧ ∀ j, j < m → x.testBit j = false := by
      obtain ⟨m, h1, h2⟩ := pk_least (fun j => x.testBit j = true) ⟨v, h⟩
      refine ⟨m, ?_, h1, fun j hj => Bool.eq_false_iff.mpr (h2 j hj)⟩
      rcases Nat.lt_or_ge v m with z | z
      · exact absurd h (h2 v z)
      · exact z
    obtain ⟨m, m1, m2, m3⟩ := hm
    have := lowN_is (x := x) (n := n) (r := m) (by omega) m3 (Or.inr m2)
    omega

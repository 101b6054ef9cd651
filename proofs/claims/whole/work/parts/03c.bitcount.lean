/-! HOW MANY BITS: what the JDK's two bitCounts reckon, byte by byte -/
theorem sp_bit {a : Nat} (b : Nat) (ha : a < 256) (j : Nat) : (a + 256 * b).testBit j = if j < 8 then a.testBit j else b.testBit (j - 8) := by
  rw [Nat.add_comm]
  exact Nat.testBit_two_pow_mul_add b (i := 8) ha j
theorem sp_and {a c : Nat} (b d : Nat) (ha : a < 256) (hc : c < 256) : (a + 256 * b) &&& (c + 256 * d) = (a &&& c) + 256 * (b &&& d) := by
  have hac : a &&& c < 256 := Nat.lt_of_le_of_lt Nat.and_le_left ha
  apply Nat.eq_of_testBit_eq
  intro j
  rw [Nat.testBit_and, sp_bit b ha, sp_bit d hc, sp_bit _ hac]
  by_cases h : j < 8 <;> simp [h]
theorem and_low {x m M n : Nat} (hx : x < 2 ^ n) (hm : M % 2 ^ n = m % 2 ^ n) : x &&& M = x &&& m := by
  have e : ∀ y, x &&& y = x &&& (y % 2 ^ n) := fun y => by
    apply Nat.eq_of_testBit_eq
    intro j
    rw [Nat.testBit_and, Nat.testBit_and, Nat.testBit_mod_two_pow]
    by_cases h : j < n
    · simp [h]
    · rw [Nat.testBit_lt_two_pow (Nat.lt_of_lt_of_le hx (Nat.pow_le_pow_right (by decide) (Nat.not_lt.mp h)))]; simp
  rw [e M, e m, hm]
def m55 : Nat := 6148914691236517205
def m33 : Nat := 3689348814741910323
def m0f : Nat := 1085102592571150095
def q1 (x : Nat) : Nat := x - ((x / 2) &&& m55)
def q2 (x : Nat) : Nat := (x &&& m33) + ((x / 4) &&& m33)
def q3 (x : Nat) : Nat := (x + x / 16) &&& m0f
theorem and_byte {a b m M : Nat} (ha : a < 256) (hb : b < 2 ^ 56) (hM : M = m + 256 * (M / 256)) (hm : m < 256) (hp : (M / 256) % 2 ^ 56 = M % 2 ^ 56) : (a + 256 * b) &&& M = (a &&& m) + 256 * (b &&& M) := by
  have h1 : (a + 256 * b) &&& M = (a &&& m) + 256 * (b &&& (M / 256)) := by
    conv => lhs; rw [hM]
    exact sp_and b (M / 256) ha hm
  rw [h1, and_low hb hp]
theorem q1_b : ∀ a, a < 256 → ∀ d, d < 2 → (a / 2 + 128 * d) &&& 85 = (a / 2) &&& 85 ∧ (a / 2) &&& 85 ≤ a := by decide +kernel
theorem q1_s {a b : Nat} (ha : a < 256) (hb : b < 2 ^ 56) : q1 (a + 256 * b) = (a - ((a / 2) &&& 85)) + 256 * q1 b := by
  unfold q1
  have e : (a + 256 * b) / 2 = (a / 2 + 128 * (b % 2)) + 256 * (b / 2) := by omega
  have h2 := q1_b a ha (b % 2) (by omega)
  rw [e, and_byte (m := 85) (by omega) (by omega) (by decide) (by decide) (by decide), h2.1]
  have h3 : (b / 2) &&& m55 ≤ b / 2 := Nat.and_le_left
  have := h2.2
  omega
theorem q2_b : ∀ a, a < 256 → ∀ d, d < 4 → (a / 4 + 64 * d) &&& 51 = (a / 4) &&& 51 := by decide +kernel
theorem q2_s {a b : Nat} (ha : a < 256) (hb : b < 2 ^ 56) : q2 (a + 256 * b) = ((a &&& 51) + ((a / 4) &&& 51)) + 256 * q2 b := by
  unfold q2
  have e : (a + 256 * b) / 4 = (a / 4 + 64 * (b % 4)) + 256 * (b / 4) := by omega
  have k1 := and_byte (a := a / 4 + 64 * (b % 4)) (b := b / 4) (m := 51) (M := m33) (by omega) (by omega) (by decide) (by decide) (by decide)
  have k2 := and_byte (a := a) (b := b) (m := 51) (M := m33) ha hb (by decide) (by decide) (by decide)
  rw [e, k1, k2, q2_b a ha (b % 4) (by omega)]
  omega
theorem q3_b : ∀ a, a < 69 → ∀ d, d < 5 → (a + a / 16 + 16 * d) &&& 15 = (a + a / 16) &&& 15 := by decide +kernel
theorem q3_s {a b : Nat} (ha : a < 69) (hb : b < 2 ^ 55) (hd : b % 16 < 5) : q3 (a + 256 * b) = ((a + a / 16) &&& 15) + 256 * q3 b := by
  unfold q3
  have e : (a + 256 * b) + (a + 256 * b) / 16 = (a + a / 16 + 16 * (b % 16)) + 256 * (b + b / 16) := by omega
  rw [e, and_byte (m := 15) (by omega) (by omega) (by decide) (by decide) (by decide), q3_b a ha (b % 16) hd]
def p8 (a : Nat) : Nat := cnt a.testBit 8
def g8 (a : Nat) : Nat := (a - ((a / 2) &&& 85))
def h8 (a : Nat) : Nat := (g8 a &&& 51) + ((g8 a / 4) &&& 51)
theorem p8_b : ∀ a, a < 256 → g8 a < 256 ∧ h8 a < 69 ∧ h8 a % 16 < 5 ∧ (h8 a + h8 a / 16) &&& 15 = p8 a ∧ p8 a ≤ 8 := by decide +kernel
theorem q_le (x : Nat) : q1 x ≤ x := Nat.sub_le _ _
/-- all three, byte by byte -/
theorem q_step {a b : Nat} (ha : a < 256) (hb : b < 2 ^ 56) (hq : q2 (q1 b) < 2 ^ 55 ∧ q2 (q1 b) % 16 < 5) : q3 (q2 (q1 (a + 256 * b))) = p8 a + 256 * q3 (q2 (q1 b)) ∧ q2 (q1 (a + 256 * b)) % 16 < 5 ∧ q2 (q1 (a + 256 * b)) = h8 a + 256 * q2 (q1 b) := by
  obtain ⟨e1, e2, e3, e4, e5⟩ := p8_b a ha
  have hq1 : q1 b < 2 ^ 56 := Nat.lt_of_le_of_lt (q_le b) (by omega)
  have k : q2 (q1 (a + 256 * b)) = h8 a + 256 * q2 (q1 b) := by
    rw [q1_s ha (by omega)]
    show q2 (g8 a + 256 * q1 b) = _
    rw [q2_s e1 hq1]; rfl
  refine ⟨?_, ?_, k⟩
  · rw [k, q3_s e2 hq.1 hq.2, e4]
  · rw [k]; omega
theorem q_base {a : Nat} (ha : a < 256) : q2 (q1 a) = h8 a ∧ q3 (q2 (q1 a)) = p8 a := by
  have h := q_step (b := 0) ha (by decide) (by decide)
  rw [Nat.mul_zero, Nat.add_zero] at h
  have z : q3 (q2 (q1 0)) = 0 := by decide
  have z2 : q2 (q1 0) = 0 := by decide
  rw [z] at h
  rw [z2] at h
  exact ⟨h.2.2, h.1⟩
theorem cnt_byte {a : Nat} (b n : Nat) (ha : a < 256) : cnt (a + 256 * b).testBit (8 + n) = p8 a + cnt b.testBit n := by
  rw [cnt_add]
  congr 1
  · exact cnt_congr (fun j hj => by rw [sp_bit b ha, if_pos hj])
  · refine cnt_congr (fun j _ => ?_)
    show (a + 256 * b).testBit (8 + j) = _
    rw [sp_bit b ha, if_neg (by omega), show 8 + j - 8 = j by omega]
/-- four bytes -/
theorem q_4 {x : Nat} (hx : x < 2 ^ 32) : ∃ a b c d : Nat, a ≤ 8 ∧ b ≤ 8 ∧ c ≤ 8 ∧ d ≤ 8 ∧ q3 (q2 (q1 x)) = a + 256 * (b + 256 * (c + 256 * d)) ∧ cnt x.testBit 32 = a + b + c + d ∧ (q2 (q1 x) < 2 ^ 31 ∧ q2 (q1 x) % 16 < 5) := by
  obtain ⟨x0, x1, x2, x3, e, h0, h1, h2, h3⟩ : ∃ x0 x1 x2 x3 : Nat, x = x0 + 256 * (x1 + 256 * (x2 + 256 * x3)) ∧ x0 < 256 ∧ x1 < 256 ∧ x2 < 256 ∧ x3 < 256 :=
    ⟨x % 256, x / 256 % 256, x / 65536 % 256, x / 16777216, by omega, by omega, by omega, by omega, by omega⟩
  have b0 := p8_b x0 h0
  have b1 := p8_b x1 h1
  have b2 := p8_b x2 h2
  have b3 := p8_b x3 h3
  have k3 := q_base h3
  have k2 := q_step (a := x2) (b := x3) h2 (by omega) ⟨by rw [k3.1]; omega, by rw [k3.1]; exact b3.2.2.1⟩
  have k1 := q_step (a := x1) (b := x2 + 256 * x3) h1 (by omega) ⟨by rw [k2.2.2, k3.1]; omega, k2.2.1⟩
  have k0 := q_step (a := x0) (b := x1 + 256 * (x2 + 256 * x3)) h0 (by omega) ⟨by rw [k1.2.2, k2.2.2, k3.1]; omega, k1.2.1⟩
  refine ⟨p8 x0, p8 x1, p8 x2, p8 x3, b0.2.2.2.2, b1.2.2.2.2, b2.2.2.2.2, b3.2.2.2.2, ?_, ?_, ?_, ?_⟩
  · rw [e, k0.1, k1.1, k2.1, k3.2]
  · rw [e, show 32 = 8 + 24 from rfl, cnt_byte _ 24 h0, show 24 = 8 + 16 from rfl, cnt_byte _ 16 h1, show 16 = 8 + 8 from rfl, cnt_byte _ 8 h2]
    show _ = p8 x0 + p8 x1 + p8 x2 + cnt x3.testBit 8
    omega
  · rw [e, k0.2.2, k1.2.2, k2.2.2, k3.1]; omega
  · rw [e]; exact k0.2.1
theorem q_8 {x : Nat} (hx : x < 2 ^ 64) : ∃ a b c d a' b' c' d' : Nat, (a ≤ 8 ∧ b ≤ 8 ∧ c ≤ 8 ∧ d ≤ 8) ∧ (a' ≤ 8 ∧ b' ≤ 8 ∧ c' ≤ 8 ∧ d' ≤ 8) ∧ q3 (q2 (q1 x)) = a' + 256 * (b' + 256 * (c' + 256 * (d' + 256 * (a + 256 * (b + 256 * (c + 256 * d)))))) ∧ cnt x.testBit 64 = a' + b' + c' + d' + (a + b + c + d) := by
  obtain ⟨x0, x1, x2, x3, y, e, h0, h1, h2, h3, hy⟩ : ∃ x0 x1 x2 x3 y : Nat, x = x0 + 256 * (x1 + 256 * (x2 + 256 * (x3 + 256 * y))) ∧ x0 < 256 ∧ x1 < 256 ∧ x2 < 256 ∧ x3 < 256 ∧ y < 2 ^ 32 :=
    ⟨x % 256, x / 256 % 256, x / 65536 % 256, x / 16777216 % 256, x / 4294967296, by omega, by omega, by omega, by omega, by omega, by omega⟩
  obtain ⟨a, b, c, d, ha, hb, hc, hd, k4, kc, kb⟩ := q_4 hy
  have b0 := p8_b x0 h0
  have b1 := p8_b x1 h1
  have b2 := p8_b x2 h2
  have b3 := p8_b x3 h3
  have k3 := q_step (a := x3) (b := y) h3 (by omega) ⟨by omega, kb.2⟩
  have k2 := q_step (a := x2) (b := x3 + 256 * y) h2 (by omega) ⟨by rw [k3.2.2]; omega, k3.2.1⟩
  have k1 := q_step (a := x1) (b := x2 + 256 * (x3 + 256 * y)) h1 (by omega) ⟨by rw [k2.2.2, k3.2.2]; omega, k2.2.1⟩
  have k0 := q_step (a := x0) (b := x1 + 256 * (x2 + 256 * (x3 + 256 * y))) h0 (by omega) ⟨by rw [k1.2.2, k2.2.2, k3.2.2]; omega, k1.2.1⟩
  refine ⟨a, b, c, d, p8 x0, p8 x1, p8 x2, p8 x3, ⟨ha, hb, hc, hd⟩, ⟨b0.2.2.2.2, b1.2.2.2.2, b2.2.2.2.2, b3.2.2.2.2⟩, ?_, ?_⟩
  · rw [e, k0.1, k1.1, k2.1, k3.1, k4]
  · rw [e, show 64 = 8 + 56 from rfl, cnt_byte _ 56 h0, show 56 = 8 + 48 from rfl, cnt_byte _ 48 h1, show 48 = 8 + 40 from rfl, cnt_byte _ 40 h2, show 40 = 8 + 32 from rfl, cnt_byte _ 32 h3, kc]
    omega
def f32 (x : Nat) : Nat := ((x + x / 256) + (x + x / 256) / 65536) % 64
def f64 (x : Nat) : Nat := (((x + x / 256) + (x + x / 256) / 65536) + ((x + x / 256) + (x + x / 256) / 65536) / 4294967296) % 128
def pop32 (x : Nat) : Nat := f32 (q3 (q2 (q1 x)))
def pop64 (x : Nat) : Nat := f64 (q3 (q2 (q1 x)))
theorem f32_s {a b c d : Nat} (ha : a ≤ 8) (hb : b ≤ 8) (hc : c ≤ 8) (hd : d ≤ 8) : f32 (a + 256 * (b + 256 * (c + 256 * d))) = a + b + c + d := by
  unfold f32
  have e1 : (a + 256 * (b + 256 * (c + 256 * d))) / 256 = b + 256 * (c + 256 * d) := by omega
  have e2 : (a + 256 * (b + 256 * (c + 256 * d))) + (b + 256 * (c + 256 * d)) = (a + b) + 256 * ((b + c) + 256 * ((c + d) + 256 * d)) := by omega
  rw [e1, e2]
  have e3 : ((a + b) + 256 * ((b + c) + 256 * ((c + d) + 256 * d))) / 65536 = (c + d) + 256 * d := by omega
  rw [e3]
  omega
theorem dg_d {u : Nat} (v : Nat) (h : u < 256) : (u + 256 * v) / 256 = v := by omega
theorem dg_2 {u u1 : Nat} (v : Nat) (h : u < 256) (h1 : u1 < 256) : (u + 256 * (u1 + 256 * v)) / 65536 = v := by omega
theorem dg_4 {u u1 u2 u3 : Nat} (v : Nat) (h : u < 256) (h1 : u1 < 256) (h2 : u2 < 256) (h3 : u3 < 256) : (u + 256 * (u1 + 256 * (u2 + 256 * (u3 + 256 * v)))) / 4294967296 = v := by
  rw [show 4294967296 = 65536 * 65536 from rfl, ← Nat.div_div_eq_div_mul, dg_2 _ h h1, dg_2 _ h2 h3]
theorem dg_a (u v u' v' : Nat) : (u + 256 * v) + (u' + 256 * v') = (u + u') + 256 * (v + v') := by omega
theorem dg_a1 (u v u' : Nat) : (u + 256 * v) + u' = (u + u') + 256 * v := by omega
theorem dg_m (u v : Nat) : (u + 256 * v) % 128 = u % 128 := by omega
theorem f64_s {a b c d a' b' c' d' : Nat} (h : a ≤ 8 ∧ b ≤ 8 ∧ c ≤ 8 ∧ d ≤ 8) (h' : a' ≤ 8 ∧ b' ≤ 8 ∧ c' ≤ 8 ∧ d' ≤ 8) : f64 (a' + 256 * (b' + 256 * (c' + 256 * (d' + 256 * (a + 256 * (b + 256 * (c + 256 * d))))))) = a' + b' + c' + d' + (a + b + c + d) := by
  obtain ⟨ha, hb, hc, hd⟩ := h
  obtain ⟨ha', hb', hc', hd'⟩ := h'
  unfold f64
  rw [dg_d _ (show a' < 256 by omega)]
  have e2 : (a' + 256 * (b' + 256 * (c' + 256 * (d' + 256 * (a + 256 * (b + 256 * (c + 256 * d))))))) + (b' + 256 * (c' + 256 * (d' + 256 * (a + 256 * (b + 256 * (c + 256 * d)))))) = (a' + b') + 256 * ((b' + c') + 256 * ((c' + d') + 256 * ((d' + a) + 256 * ((a + b) + 256 * ((b + c) + 256 * ((c + d) + 256 * d)))))) := by
    rw [dg_a, dg_a, dg_a, dg_a, dg_a, dg_a, dg_a1]
  rw [e2, dg_2 _ (show a' + b' < 256 by omega) (show b' + c' < 256 by omega)]
  have e4 : ((a' + b') + 256 * ((b' + c') + 256 * ((c' + d') + 256 * ((d' + a) + 256 * ((a + b) + 256 * ((b + c) + 256 * ((c + d) + 256 * d))))))) + ((c' + d') + 256 * ((d' + a) + 256 * ((a + b) + 256 * ((b + c) + 256 * ((c + d) + 256 * d))))) = (a' + b' + (c' + d')) + 256 * ((b' + c' + (d' + a)) + 256 * ((c' + d' + (a + b)) + 256 * ((d' + a + (b + c)) + 256 * ((a + b + (c + d)) + 256 * ((b + c + d) + 256 * (c + d + 256 * d)))))) := by
    rw [dg_a, dg_a, dg_a, dg_a, dg_a, dg_a1]
  rw [e4, dg_4 _ (show a' + b' + (c' + d') < 256 by omega) (show b' + c' + (d' + a) < 256 by omega) (show c' + d' + (a + b) < 256 by omega) (show d' + a + (b + c) < 256 by omega), dg_a, dg_m]
  rw [Nat.mod_eq_of_lt (by omega)]
  omega
theorem pop32_cnt {x : Nat} (hx : x < 2 ^ 32) : pop32 x = cnt x.testBit 32 := by
  obtain ⟨a, b, c, d, ha, hb, hc, hd, k, kc, -⟩ := q_4 hx
  rw [kc]; unfold pop32; rw [k, f32_s ha hb hc hd]
theorem pop64_cnt {x : Nat} (hx : x < 2 ^ 64) : pop64 x = cnt x.testBit 64 := by
  obtain ⟨a, b, c, d, a', b', c', d', h, h', k, kc⟩ := q_8 hx
  rw [kc]; unfold pop64; rw [k, f64_s h h']
theorem q1_lt {x n : Nat} (h : x < n) : q1 x < n := Nat.lt_of_le_of_lt (q_le x) h
theorem bc55 {x : Nat} (hx : x < 2 ^ 32) : x &&& 1431655765 = x &&& m55 := and_low hx (by decide)
theorem bc33 {x : Nat} (hx : x < 2 ^ 32) : x &&& 858993459 = x &&& m33 := and_low hx (by decide)
theorem bc0f {x : Nat} (hx : x < 2 ^ 32) : x &&& 252645135 = x &&& m0f := and_low hx (by decide)

/-! FLOATS: a quotient of whole numbers is no NaN -/
theorem n32_of {r : UInt32} (h : FP.Core.fIsNaN r = false) : vf_n32 r := by
  have h1 : ¬ 2139095040 < r.toNat % 2 ^ 31 := fun q => by
    rw [(FP.Core.isNaN_bits32 r).mpr q] at h; cases h
  unfold vf_n32
  rw [UInt32.le_iff_toNat_le, UInt32.toNat_and]
  show r.toNat &&& 2147483647 ≤ 2139095040
  rw [show (2147483647 : Nat) = 2 ^ 31 - 1 from rfl, Nat.and_two_pow_sub_one_eq_mod]
  omega
theorem n64_of {r : UInt64} (h : FP.Core.dIsNaN r = false) : vf_n64 r := by
  have h1 : ¬ 9218868437227405312 < r.toNat % 2 ^ 63 := fun q => by
    rw [(FP.Core.isNaN_bits r).mpr q] at h; cases h
  unfold vf_n64
  rw [UInt64.le_iff_toNat_le, UInt64.toNat_and]
  show r.toNat &&& 9223372036854775807 ≤ 9218868437227405312
  rw [show (9223372036854775807 : Nat) = 2 ^ 63 - 1 from rfl, Nat.and_two_pow_sub_one_eq_mod]
  omega
theorem q32 {a b : UInt32} (ha : FP.Core.FFin a) (hb : FP.Core.FFin b) (h0 : b.toNat % 2 ^ 31 ≠ 0) : FP.Core.fIsNaN (FP.Core.fdiv a b) = false :=
  FP.Core.fdiv_out ha.notNaN hb (fun q => h0 ((FP.Core.zero_bits232 b).mp q))
theorem jf_fdiv (a : Int32) {b : Int32} (hb : b ≠ 0) : vf_n32 (FP.fdiv (FP.i2f a) (FP.i2f b)) := n32_of (q32 (FP.Core.i2f_fin a) (FP.Core.i2f_fin b) (FP.Core.i2f_ne_zero hb))
theorem jf_fdivL (a : Int64) {b : Int32} (hb : b ≠ 0) : vf_n32 (FP.fdiv (FP.l2f a) (FP.i2f b)) := n32_of (q32 (FP.Core.l2f_fin a) (FP.Core.i2f_fin b) (FP.Core.i2f_ne_zero hb))
theorem jf_ddiv (a : Int64) {b : Int64} (hb : b ≠ 0) : vf_n64 (FP.ddiv (FP.l2d a) (FP.l2d b)) := n64_of (FP.Core.ddiv_out (FP.Core.DFin.notNaN (FP.Core.l2d_fin a)) (FP.Core.l2d_fin b) (fun q => FP.Core.l2d_ne_zero hb ((FP.Core.zero_bits2 (FP.Core.l2d b)).mp q)))
theorem jf_f2d (a : Int32) {b : Int32} (hb : b ≠ 0) : vf_n64 (FP.f2d (FP.fdiv (FP.i2f a) (FP.i2f b))) := by
  have h := q32 (FP.Core.i2f_fin a) (FP.Core.i2f_fin b) (FP.Core.i2f_ne_zero hb)
  refine n64_of ?_
  show FP.Core.dIsNaN (FP.f2d (FP.Core.fdiv (FP.Core.i2f a) (FP.Core.i2f b))) = false
  unfold FP.f2d
  rw [if_neg (by rw [h]; decide)]
  exact FP.Core.f2d_out h
theorem jf_l2f {k : Nat} (hk : k < 2 ^ 31) : FP.l2f (lN k) = FP.i2f (nI k) := by
  have h1 : (lN k).toInt = (k : Int) := by
    show (Int64.ofNat k).toInt = (k : Int)
    rw [Int64.toInt_ofNat_of_lt (by omega)]
  have h2 : (nI k).toInt = (k : Int) := nI_toInt hk
  show FP.Core.l2f (lN k) = FP.Core.i2f (nI k)
  unfold FP.Core.l2f FP.Core.i2f
  rw [h1, h2]

/-! FLOATS: a quotient of whole numbers is no NaN -/
theorem jf_fdiv (a : Int32) {b : Int32} (hb : b ≠ 0) : vf_n32 (FP.fdiv (FP.i2f a) (FP.i2f b)) := sorry
theorem jf_fdivL (a : Int64) {b : Int32} (hb : b ≠ 0) : vf_n32 (FP.fdiv (FP.l2f a) (FP.i2f b)) := sorry
theorem jf_ddiv (a : Int64) {b : Int64} (hb : b ≠ 0) : vf_n64 (FP.ddiv (FP.l2d a) (FP.l2d b)) := sorry
theorem jf_f2d (a : Int32) {b : Int32} (hb : b ≠ 0) : vf_n64 (FP.f2d (FP.fdiv (FP.i2f a) (FP.i2f b))) := sorry
theorem jf_l2f {k : Nat} (hk : k < 2 ^ 31) : FP.l2f (lN k) = FP.i2f (nI k) := sorry

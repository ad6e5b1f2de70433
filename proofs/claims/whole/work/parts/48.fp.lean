/-! no quotient here is a NaN -/
theorem ynn32 {a : UInt32} (h : FP.Core.fIsNaN a = false) : vf_n32 a := by
  sorry
theorem ynn64 {a : UInt64} (h : FP.Core.dIsNaN a = false) : vf_n64 a := by
  sorry
theorem yfd_n {a b : Int32} (h : b ≠ 0) : FP.Core.fIsNaN (FP.fdiv (FP.i2f a) (FP.i2f b)) = false := by
  sorry
theorem ydd_n {a b : Int32} (h : b ≠ 0) : FP.Core.dIsNaN (FP.ddiv (FP.i2d a) (FP.i2d b)) = false := by
  sorry
theorem yff_n {a : UInt32} (h : FP.Core.fIsNaN a = false) : FP.Core.dIsNaN (FP.f2d a) = false := by
  sorry
theorem ycmp_d {a : UInt64} (h : FP.Core.dIsNaN a = false) : FP.dcmp a a = some .eq := by
  sorry


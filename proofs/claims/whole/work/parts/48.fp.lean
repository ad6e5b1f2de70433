/-! no quotient here is a NaN -/
theorem yfl_test (a : Int32) : FP.Core.val32 (FP.i2f a) = FP.Core.round FP.Core.b32 (FP.Core.ofInt a.toInt) := FP.Core.val32_i2f a


/-! ===== a float that is a number, by its bits ===== -/
theorem fl_bits (a : UInt32) : Jvm.FP.Core.fIsNaN a = true ↔ 2139095040 < a.toNat % 2 ^ 31 := Jvm.FP.Core.isNaN_bits32 a

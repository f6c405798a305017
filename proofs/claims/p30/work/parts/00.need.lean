/-! the doubles' laws are wanted from the first part on -/
theorem n0_one : Jvm.FP.Core.val64 FP.dconst1 = .fin false 4503599627370496 (-52) := Jvm.FP.Core.val64_dconst1


/-! WORDS: constants, classes, strings -/
theorem kc_X5_7 : Cond.classLink RX5 7 RX2 ∈ wB := wB_of 32 (by decide +kernel) (by decide +kernel)
theorem kc_X2_9 : Cond.classLink RX2 9 RX4 ∈ wB := wB_of 38 (by decide +kernel) (by decide +kernel)
theorem kc_X2_17 : Cond.classLink RX2 17 RX0 ∈ wB := wB_of 40 (by decide +kernel) (by decide +kernel)
theorem kc_X2_32 : Cond.classLink RX2 32 "[I" ∈ wB := wB_of 50 (by decide +kernel) (by decide +kernel)
theorem kc_X5_27 : Cond.classLink RX5 27 RX1 ∈ wB := wB_of 168 (by decide +kernel) (by decide +kernel)
theorem kc_X1_9 : Cond.classLink RX1 9 RX2 ∈ wB := wB_of 174 (by decide +kernel) (by decide +kernel)
theorem kc_X5_34 : Cond.classLink RX5 34 RX3 ∈ wB := wB_of 187 (by decide +kernel) (by decide +kernel)

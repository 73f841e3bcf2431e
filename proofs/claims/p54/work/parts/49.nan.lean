/-! NO NAN -/
theorem zz_nan64 : ∀ a, a < 385 → ∀ b, b < 33 → 1 ≤ b → FP.ddiv (FP.i2d (nI a)) (FP.i2d (nI b)) &&& 0x7fffffffffffffff ≤ 0x7ff0000000000000 := by decide +kernel
theorem zz_nan32 : ∀ a, a < 33 → ∀ b, b < 33 → 1 ≤ b → FP.fdiv (FP.i2f (nI a)) (FP.i2f (nI b)) &&& 0x7fffffff ≤ 0x7f800000 := by decide +kernel

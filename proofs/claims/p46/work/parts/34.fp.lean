section FPO
theorem fp_ok : ∀ v, v < 97 → ∀ m, m < 97 → m ≠ 0 → FP.fdiv (FP.i2f (Int32.ofNat v)) (FP.i2f (Int32.ofNat m)) &&& 0x7fffffff ≤ 0x7f800000 := by decide +kernel
end FPO

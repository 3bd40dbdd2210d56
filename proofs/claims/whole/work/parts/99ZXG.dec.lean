/-! ===== the small codes are the decoded bytes (written by wip/whole/gen_c.py) ===== -/
theorem zdecL0 : ∀ v, v < 150 → 0 + v < zlen 388 → zchk 388 (0 + v) = true := by decide +kernel
theorem zdecL1 : ∀ v, v < 150 → 150 + v < zlen 388 → zchk 388 (150 + v) = true := by decide +kernel
theorem zdecL2 : ∀ v, v < 150 → 300 + v < zlen 388 → zchk 388 (300 + v) = true := by decide +kernel
theorem zdecL3 : ∀ v, v < 150 → 450 + v < zlen 388 → zchk 388 (450 + v) = true := by decide +kernel
theorem zdecL4 : ∀ v, v < 150 → 600 + v < zlen 388 → zchk 388 (600 + v) = true := by decide +kernel
theorem zdecL5 : ∀ v, v < 150 → 750 + v < zlen 388 → zchk 388 (750 + v) = true := by decide +kernel
theorem zdecL6 : ∀ v, v < 150 → 900 + v < zlen 388 → zchk 388 (900 + v) = true := by decide +kernel
theorem zdecL7 : ∀ v, v < 150 → 1050 + v < zlen 388 → zchk 388 (1050 + v) = true := by decide +kernel
theorem zdecL8 : ∀ v, v < 150 → 1200 + v < zlen 388 → zchk 388 (1200 + v) = true := by decide +kernel
theorem zdecL9 : ∀ v, v < 150 → 1350 + v < zlen 388 → zchk 388 (1350 + v) = true := by decide +kernel

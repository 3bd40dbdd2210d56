/-! ===== the small codes are the decoded bytes (written by wip/whole/gen_c.py) ===== -/
theorem zdecL10 : ∀ v, v < 150 → 1500 + v < zlen 388 → zchk 388 (1500 + v) = true := by decide +kernel
theorem zdecL11 : ∀ v, v < 150 → 1650 + v < zlen 388 → zchk 388 (1650 + v) = true := by decide +kernel
theorem zdecL12 : ∀ v, v < 150 → 1800 + v < zlen 388 → zchk 388 (1800 + v) = true := by decide +kernel
theorem zdecL13 : ∀ v, v < 150 → 1950 + v < zlen 388 → zchk 388 (1950 + v) = true := by decide +kernel
theorem zdecL14 : ∀ v, v < 150 → 2100 + v < zlen 388 → zchk 388 (2100 + v) = true := by decide +kernel
theorem zdecL15 : ∀ v, v < 150 → 2250 + v < zlen 388 → zchk 388 (2250 + v) = true := by decide +kernel
theorem zdecL16 : ∀ v, v < 150 → 2400 + v < zlen 388 → zchk 388 (2400 + v) = true := by decide +kernel
theorem zdecL17 : ∀ v, v < 150 → 2550 + v < zlen 388 → zchk 388 (2550 + v) = true := by decide +kernel
theorem zdecL18 : ∀ v, v < 150 → 2700 + v < zlen 388 → zchk 388 (2700 + v) = true := by decide +kernel
theorem zdecL19 : ∀ v, v < 150 → 2850 + v < zlen 388 → zchk 388 (2850 + v) = true := by decide +kernel

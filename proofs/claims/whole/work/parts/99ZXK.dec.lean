/-! ===== the small codes are the decoded bytes (written by wip/whole/gen_c.py) ===== -/
theorem zdecL16a : ∀ v, v < 50 → 2400 + v < zlen 388 → zchk 388 (2400 + v) = true := by decide +kernel
theorem zdecL16b : ∀ v, v < 50 → 2450 + v < zlen 388 → zchk 388 (2450 + v) = true := by decide +kernel
theorem zdecL16c : ∀ v, v < 50 → 2500 + v < zlen 388 → zchk 388 (2500 + v) = true := by decide +kernel
theorem zdecL16 : ∀ v, v < 150 → 2400 + v < zlen 388 → zchk 388 (2400 + v) = true := fun v hv h => by
  by_cases h0 : v < 50
  · exact zdecL16a v h0 h
  by_cases h1 : v < 100
  · have e := zdecL16b (v - 50) (by omega); rw [show 2450 + (v - 50) = 2400 + v by omega] at e; exact e h
  · have e := zdecL16c (v - 100) (by omega); rw [show 2500 + (v - 100) = 2400 + v by omega] at e; exact e h
theorem zdecL17a : ∀ v, v < 50 → 2550 + v < zlen 388 → zchk 388 (2550 + v) = true := by decide +kernel
theorem zdecL17b : ∀ v, v < 50 → 2600 + v < zlen 388 → zchk 388 (2600 + v) = true := by decide +kernel
theorem zdecL17c : ∀ v, v < 50 → 2650 + v < zlen 388 → zchk 388 (2650 + v) = true := by decide +kernel
theorem zdecL17 : ∀ v, v < 150 → 2550 + v < zlen 388 → zchk 388 (2550 + v) = true := fun v hv h => by
  by_cases h0 : v < 50
  · exact zdecL17a v h0 h
  by_cases h1 : v < 100
  · have e := zdecL17b (v - 50) (by omega); rw [show 2600 + (v - 50) = 2550 + v by omega] at e; exact e h
  · have e := zdecL17c (v - 100) (by omega); rw [show 2650 + (v - 100) = 2550 + v by omega] at e; exact e h

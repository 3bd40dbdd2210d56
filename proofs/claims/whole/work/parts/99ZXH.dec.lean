/-! ===== the small codes are the decoded bytes (written by wip/whole/gen_c.py) ===== -/
theorem zdecL10a : ∀ v, v < 50 → 1500 + v < zlen 388 → zchk 388 (1500 + v) = true := by decide +kernel
theorem zdecL10b : ∀ v, v < 50 → 1550 + v < zlen 388 → zchk 388 (1550 + v) = true := by decide +kernel
theorem zdecL10c : ∀ v, v < 50 → 1600 + v < zlen 388 → zchk 388 (1600 + v) = true := by decide +kernel
theorem zdecL10 : ∀ v, v < 150 → 1500 + v < zlen 388 → zchk 388 (1500 + v) = true := fun v hv h => by
  by_cases h0 : v < 50
  · exact zdecL10a v h0 h
  by_cases h1 : v < 100
  · have e := zdecL10b (v - 50) (by omega); rw [show 1550 + (v - 50) = 1500 + v by omega] at e; exact e h
  · have e := zdecL10c (v - 100) (by omega); rw [show 1600 + (v - 100) = 1500 + v by omega] at e; exact e h
theorem zdecL11a : ∀ v, v < 50 → 1650 + v < zlen 388 → zchk 388 (1650 + v) = true := by decide +kernel
theorem zdecL11b : ∀ v, v < 50 → 1700 + v < zlen 388 → zchk 388 (1700 + v) = true := by decide +kernel
theorem zdecL11c : ∀ v, v < 50 → 1750 + v < zlen 388 → zchk 388 (1750 + v) = true := by decide +kernel
theorem zdecL11 : ∀ v, v < 150 → 1650 + v < zlen 388 → zchk 388 (1650 + v) = true := fun v hv h => by
  by_cases h0 : v < 50
  · exact zdecL11a v h0 h
  by_cases h1 : v < 100
  · have e := zdecL11b (v - 50) (by omega); rw [show 1700 + (v - 50) = 1650 + v by omega] at e; exact e h
  · have e := zdecL11c (v - 100) (by omega); rw [show 1750 + (v - 100) = 1650 + v by omega] at e; exact e h

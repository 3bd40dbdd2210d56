/-! ===== the small codes are the decoded bytes (written by wip/whole/gen_c.py) ===== -/
theorem zdecL18a : ∀ v, v < 50 → 2700 + v < zlen 388 → zchk 388 (2700 + v) = true := by decide +kernel
theorem zdecL18b : ∀ v, v < 50 → 2750 + v < zlen 388 → zchk 388 (2750 + v) = true := by decide +kernel
theorem zdecL18c : ∀ v, v < 50 → 2800 + v < zlen 388 → zchk 388 (2800 + v) = true := by decide +kernel
theorem zdecL18 : ∀ v, v < 150 → 2700 + v < zlen 388 → zchk 388 (2700 + v) = true := fun v hv h => by
  by_cases h0 : v < 50
  · exact zdecL18a v h0 h
  by_cases h1 : v < 100
  · have e := zdecL18b (v - 50) (by omega); rw [show 2750 + (v - 50) = 2700 + v by omega] at e; exact e h
  · have e := zdecL18c (v - 100) (by omega); rw [show 2800 + (v - 100) = 2700 + v by omega] at e; exact e h
theorem zdecL19a : ∀ v, v < 50 → 2850 + v < zlen 388 → zchk 388 (2850 + v) = true := by decide +kernel
theorem zdecL19b : ∀ v, v < 50 → 2900 + v < zlen 388 → zchk 388 (2900 + v) = true := by decide +kernel
theorem zdecL19c : ∀ v, v < 50 → 2950 + v < zlen 388 → zchk 388 (2950 + v) = true := by decide +kernel
theorem zdecL19 : ∀ v, v < 150 → 2850 + v < zlen 388 → zchk 388 (2850 + v) = true := fun v hv h => by
  by_cases h0 : v < 50
  · exact zdecL19a v h0 h
  by_cases h1 : v < 100
  · have e := zdecL19b (v - 50) (by omega); rw [show 2900 + (v - 50) = 2850 + v by omega] at e; exact e h
  · have e := zdecL19c (v - 100) (by omega); rw [show 2950 + (v - 100) = 2850 + v by omega] at e; exact e h

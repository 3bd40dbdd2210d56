/-! ===== the small codes are the decoded bytes (written by wip/whole/gen_c.py) ===== -/
theorem zdecL14a : ∀ v, v < 50 → 2100 + v < zlen 388 → zchk 388 (2100 + v) = true := by decide +kernel
theorem zdecL14b : ∀ v, v < 50 → 2150 + v < zlen 388 → zchk 388 (2150 + v) = true := by decide +kernel
theorem zdecL14c : ∀ v, v < 50 → 2200 + v < zlen 388 → zchk 388 (2200 + v) = true := by decide +kernel
theorem zdecL14 : ∀ v, v < 150 → 2100 + v < zlen 388 → zchk 388 (2100 + v) = true := fun v hv h => by
  by_cases h0 : v < 50
  · exact zdecL14a v h0 h
  by_cases h1 : v < 100
  · have e := zdecL14b (v - 50) (by omega); rw [show 2150 + (v - 50) = 2100 + v by omega] at e; exact e h
  · have e := zdecL14c (v - 100) (by omega); rw [show 2200 + (v - 100) = 2100 + v by omega] at e; exact e h
theorem zdecL15a : ∀ v, v < 50 → 2250 + v < zlen 388 → zchk 388 (2250 + v) = true := by decide +kernel
theorem zdecL15b : ∀ v, v < 50 → 2300 + v < zlen 388 → zchk 388 (2300 + v) = true := by decide +kernel
theorem zdecL15c : ∀ v, v < 50 → 2350 + v < zlen 388 → zchk 388 (2350 + v) = true := by decide +kernel
theorem zdecL15 : ∀ v, v < 150 → 2250 + v < zlen 388 → zchk 388 (2250 + v) = true := fun v hv h => by
  by_cases h0 : v < 50
  · exact zdecL15a v h0 h
  by_cases h1 : v < 100
  · have e := zdecL15b (v - 50) (by omega); rw [show 2300 + (v - 50) = 2250 + v by omega] at e; exact e h
  · have e := zdecL15c (v - 100) (by omega); rw [show 2350 + (v - 100) = 2250 + v by omega] at e; exact e h

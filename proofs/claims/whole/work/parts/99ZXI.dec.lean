/-! ===== the small codes are the decoded bytes (written by wip/whole/gen_c.py) ===== -/
theorem zdecL12a : ∀ v, v < 50 → 1800 + v < zlen 388 → zchk 388 (1800 + v) = true := by decide +kernel
theorem zdecL12b : ∀ v, v < 50 → 1850 + v < zlen 388 → zchk 388 (1850 + v) = true := by decide +kernel
theorem zdecL12c : ∀ v, v < 50 → 1900 + v < zlen 388 → zchk 388 (1900 + v) = true := by decide +kernel
theorem zdecL12 : ∀ v, v < 150 → 1800 + v < zlen 388 → zchk 388 (1800 + v) = true := fun v hv h => by
  by_cases h0 : v < 50
  · exact zdecL12a v h0 h
  by_cases h1 : v < 100
  · have e := zdecL12b (v - 50) (by omega); rw [show 1850 + (v - 50) = 1800 + v by omega] at e; exact e h
  · have e := zdecL12c (v - 100) (by omega); rw [show 1900 + (v - 100) = 1800 + v by omega] at e; exact e h
theorem zdecL13a : ∀ v, v < 50 → 1950 + v < zlen 388 → zchk 388 (1950 + v) = true := by decide +kernel
theorem zdecL13b : ∀ v, v < 50 → 2000 + v < zlen 388 → zchk 388 (2000 + v) = true := by decide +kernel
theorem zdecL13c : ∀ v, v < 50 → 2050 + v < zlen 388 → zchk 388 (2050 + v) = true := by decide +kernel
theorem zdecL13 : ∀ v, v < 150 → 1950 + v < zlen 388 → zchk 388 (1950 + v) = true := fun v hv h => by
  by_cases h0 : v < 50
  · exact zdecL13a v h0 h
  by_cases h1 : v < 100
  · have e := zdecL13b (v - 50) (by omega); rw [show 2000 + (v - 50) = 1950 + v by omega] at e; exact e h
  · have e := zdecL13c (v - 100) (by omega); rw [show 2050 + (v - 100) = 1950 + v by omega] at e; exact e h

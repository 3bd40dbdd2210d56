/-! ===== the small codes are the decoded bytes (written by wip/whole/gen_c.py) ===== -/
theorem zdecP325 : ∀ k, k < 13 → ∀ pc, pc < zlen (325 + k) → zchk (325 + k) pc = true := by decide +kernel
theorem zdecP338 : ∀ k, k < 13 → ∀ pc, pc < zlen (338 + k) → zchk (338 + k) pc = true := by decide +kernel
theorem zdecP351 : ∀ k, k < 13 → ∀ pc, pc < zlen (351 + k) → zchk (351 + k) pc = true := by decide +kernel
theorem zdecP364 : ∀ k, k < 13 → ∀ pc, pc < zlen (364 + k) → zchk (364 + k) pc = true := by decide +kernel
theorem zdecP377 : ∀ k, k < 11 → ∀ pc, pc < zlen (377 + k) → zchk (377 + k) pc = true := by decide +kernel

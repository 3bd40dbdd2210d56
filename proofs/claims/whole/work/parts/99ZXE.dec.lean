/-! ===== the small codes are the decoded bytes (written by wip/whole/gen_c.py) ===== -/
theorem zdecP260 : ∀ k, k < 13 → ∀ pc, pc < zlen (260 + k) → zchk (260 + k) pc = true := by decide +kernel
theorem zdecP273 : ∀ k, k < 13 → ∀ pc, pc < zlen (273 + k) → zchk (273 + k) pc = true := by decide +kernel
theorem zdecP286 : ∀ k, k < 13 → ∀ pc, pc < zlen (286 + k) → zchk (286 + k) pc = true := by decide +kernel
theorem zdecP299 : ∀ k, k < 13 → ∀ pc, pc < zlen (299 + k) → zchk (299 + k) pc = true := by decide +kernel
theorem zdecP312 : ∀ k, k < 13 → ∀ pc, pc < zlen (312 + k) → zchk (312 + k) pc = true := by decide +kernel

/-! ===== the small codes are the decoded bytes (written by wip/whole/gen_c.py) ===== -/
theorem zdecP65 : ∀ k, k < 13 → ∀ pc, pc < zlen (65 + k) → zchk (65 + k) pc = true := by decide +kernel
theorem zdecP78 : ∀ k, k < 13 → ∀ pc, pc < zlen (78 + k) → zchk (78 + k) pc = true := by decide +kernel
theorem zdecP91 : ∀ k, k < 13 → ∀ pc, pc < zlen (91 + k) → zchk (91 + k) pc = true := by decide +kernel
theorem zdecP104 : ∀ k, k < 13 → ∀ pc, pc < zlen (104 + k) → zchk (104 + k) pc = true := by decide +kernel
theorem zdecP117 : ∀ k, k < 13 → ∀ pc, pc < zlen (117 + k) → zchk (117 + k) pc = true := by decide +kernel

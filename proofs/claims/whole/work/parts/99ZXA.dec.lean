/-! ===== the small codes are the decoded bytes (written by wip/whole/gen_c.py) ===== -/
theorem zdecP0 : ∀ k, k < 13 → ∀ pc, pc < zlen (0 + k) → zchk (0 + k) pc = true := by decide +kernel
theorem zdecP13 : ∀ k, k < 13 → ∀ pc, pc < zlen (13 + k) → zchk (13 + k) pc = true := by decide +kernel
theorem zdecP26 : ∀ k, k < 13 → ∀ pc, pc < zlen (26 + k) → zchk (26 + k) pc = true := by decide +kernel
theorem zdecP39 : ∀ k, k < 13 → ∀ pc, pc < zlen (39 + k) → zchk (39 + k) pc = true := by decide +kernel
theorem zdecP52 : ∀ k, k < 13 → ∀ pc, pc < zlen (52 + k) → zchk (52 + k) pc = true := by decide +kernel

/-! ===== the small codes are the decoded bytes (written by wip/whole/gen_c.py) ===== -/
theorem zdecP130 : ∀ k, k < 13 → ∀ pc, pc < zlen (130 + k) → zchk (130 + k) pc = true := by decide +kernel
theorem zdecP143 : ∀ k, k < 13 → ∀ pc, pc < zlen (143 + k) → zchk (143 + k) pc = true := by decide +kernel
theorem zdecP156 : ∀ k, k < 13 → ∀ pc, pc < zlen (156 + k) → zchk (156 + k) pc = true := by decide +kernel
theorem zdecP169 : ∀ k, k < 13 → ∀ pc, pc < zlen (169 + k) → zchk (169 + k) pc = true := by decide +kernel
theorem zdecP182 : ∀ k, k < 13 → ∀ pc, pc < zlen (182 + k) → zchk (182 + k) pc = true := by decide +kernel

/-! ===== the small codes are the decoded bytes (written by wip/whole/gen_c.py) ===== -/
theorem zdecP195 : ∀ k, k < 13 → ∀ pc, pc < zlen (195 + k) → zchk (195 + k) pc = true := by decide +kernel
theorem zdecP208 : ∀ k, k < 13 → ∀ pc, pc < zlen (208 + k) → zchk (208 + k) pc = true := by decide +kernel
theorem zdecP221 : ∀ k, k < 13 → ∀ pc, pc < zlen (221 + k) → zchk (221 + k) pc = true := by decide +kernel
theorem zdecP234 : ∀ k, k < 13 → ∀ pc, pc < zlen (234 + k) → zchk (234 + k) pc = true := by decide +kernel
theorem zdecP247 : ∀ k, k < 13 → ∀ pc, pc < zlen (247 + k) → zchk (247 + k) pc = true := by decide +kernel

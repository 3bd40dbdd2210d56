/-! ===== the small codes are the decoded bytes, all (written by wip/whole/gen_c.py) ===== -/
/-! the small codes are the decoded bytes -/
theorem zdecR : zlen 388 = 2941 := by decide +kernel
theorem zdecP388 (k : Nat) (hk : k < 1) (pc : Nat) (hp : pc < zlen (388 + k)) : zchk (388 + k) pc = true := by
  have hk0 : k = 0 := by omega
  subst hk0
  have hp : pc < zlen 388 := hp
  show zchk 388 pc = true
  by_cases h0 : pc < 150
  · have e := zdecL0 (pc - 0) (by omega); rw [show 0 + (pc - 0) = pc by omega] at e; exact e hp
  by_cases h1 : pc < 300
  · have e := zdecL1 (pc - 150) (by omega); rw [show 150 + (pc - 150) = pc by omega] at e; exact e hp
  by_cases h2 : pc < 450
  · have e := zdecL2 (pc - 300) (by omega); rw [show 300 + (pc - 300) = pc by omega] at e; exact e hp
  by_cases h3 : pc < 600
  · have e := zdecL3 (pc - 450) (by omega); rw [show 450 + (pc - 450) = pc by omega] at e; exact e hp
  by_cases h4 : pc < 750
  · have e := zdecL4 (pc - 600) (by omega); rw [show 600 + (pc - 600) = pc by omega] at e; exact e hp
  by_cases h5 : pc < 900
  · have e := zdecL5 (pc - 750) (by omega); rw [show 750 + (pc - 750) = pc by omega] at e; exact e hp
  by_cases h6 : pc < 1050
  · have e := zdecL6 (pc - 900) (by omega); rw [show 900 + (pc - 900) = pc by omega] at e; exact e hp
  by_cases h7 : pc < 1200
  · have e := zdecL7 (pc - 1050) (by omega); rw [show 1050 + (pc - 1050) = pc by omega] at e; exact e hp
  by_cases h8 : pc < 1350
  · have e := zdecL8 (pc - 1200) (by omega); rw [show 1200 + (pc - 1200) = pc by omega] at e; exact e hp
  by_cases h9 : pc < 1500
  · have e := zdecL9 (pc - 1350) (by omega); rw [show 1350 + (pc - 1350) = pc by omega] at e; exact e hp
  by_cases h10 : pc < 1650
  · have e := zdecL10 (pc - 1500) (by omega); rw [show 1500 + (pc - 1500) = pc by omega] at e; exact e hp
  by_cases h11 : pc < 1800
  · have e := zdecL11 (pc - 1650) (by omega); rw [show 1650 + (pc - 1650) = pc by omega] at e; exact e hp
  by_cases h12 : pc < 1950
  · have e := zdecL12 (pc - 1800) (by omega); rw [show 1800 + (pc - 1800) = pc by omega] at e; exact e hp
  by_cases h13 : pc < 2100
  · have e := zdecL13 (pc - 1950) (by omega); rw [show 1950 + (pc - 1950) = pc by omega] at e; exact e hp
  by_cases h14 : pc < 2250
  · have e := zdecL14 (pc - 2100) (by omega); rw [show 2100 + (pc - 2100) = pc by omega] at e; exact e hp
  by_cases h15 : pc < 2400
  · have e := zdecL15 (pc - 2250) (by omega); rw [show 2250 + (pc - 2250) = pc by omega] at e; exact e hp
  by_cases h16 : pc < 2550
  · have e := zdecL16 (pc - 2400) (by omega); rw [show 2400 + (pc - 2400) = pc by omega] at e; exact e hp
  by_cases h17 : pc < 2700
  · have e := zdecL17 (pc - 2550) (by omega); rw [show 2550 + (pc - 2550) = pc by omega] at e; exact e hp
  by_cases h18 : pc < 2850
  · have e := zdecL18 (pc - 2700) (by omega); rw [show 2700 + (pc - 2700) = pc by omega] at e; exact e hp
  by_cases h19 : pc < 3000
  · have e := zdecL19 (pc - 2850) (by omega); rw [show 2850 + (pc - 2850) = pc by omega] at e; exact e hp
  rw [zdecR] at hp; omega
theorem zdecA (k : Nat) (hk : k < 389) (pc : Nat) (hp : pc < zlen k) : zchk k pc = true := by
  by_cases h0 : k < 13
  · have e := zdecP0 (k - 0) (by omega) pc; rw [show 0 + (k - 0) = k by omega] at e; exact e hp
  by_cases h13 : k < 26
  · have e := zdecP13 (k - 13) (by omega) pc; rw [show 13 + (k - 13) = k by omega] at e; exact e hp
  by_cases h26 : k < 39
  · have e := zdecP26 (k - 26) (by omega) pc; rw [show 26 + (k - 26) = k by omega] at e; exact e hp
  by_cases h39 : k < 52
  · have e := zdecP39 (k - 39) (by omega) pc; rw [show 39 + (k - 39) = k by omega] at e; exact e hp
  by_cases h52 : k < 65
  · have e := zdecP52 (k - 52) (by omega) pc; rw [show 52 + (k - 52) = k by omega] at e; exact e hp
  by_cases h65 : k < 78
  · have e := zdecP65 (k - 65) (by omega) pc; rw [show 65 + (k - 65) = k by omega] at e; exact e hp
  by_cases h78 : k < 91
  · have e := zdecP78 (k - 78) (by omega) pc; rw [show 78 + (k - 78) = k by omega] at e; exact e hp
  by_cases h91 : k < 104
  · have e := zdecP91 (k - 91) (by omega) pc; rw [show 91 + (k - 91) = k by omega] at e; exact e hp
  by_cases h104 : k < 117
  · have e := zdecP104 (k - 104) (by omega) pc; rw [show 104 + (k - 104) = k by omega] at e; exact e hp
  by_cases h117 : k < 130
  · have e := zdecP117 (k - 117) (by omega) pc; rw [show 117 + (k - 117) = k by omega] at e; exact e hp
  by_cases h130 : k < 143
  · have e := zdecP130 (k - 130) (by omega) pc; rw [show 130 + (k - 130) = k by omega] at e; exact e hp
  by_cases h143 : k < 156
  · have e := zdecP143 (k - 143) (by omega) pc; rw [show 143 + (k - 143) = k by omega] at e; exact e hp
  by_cases h156 : k < 169
  · have e := zdecP156 (k - 156) (by omega) pc; rw [show 156 + (k - 156) = k by omega] at e; exact e hp
  by_cases h169 : k < 182
  · have e := zdecP169 (k - 169) (by omega) pc; rw [show 169 + (k - 169) = k by omega] at e; exact e hp
  by_cases h182 : k < 195
  · have e := zdecP182 (k - 182) (by omega) pc; rw [show 182 + (k - 182) = k by omega] at e; exact e hp
  by_cases h195 : k < 208
  · have e := zdecP195 (k - 195) (by omega) pc; rw [show 195 + (k - 195) = k by omega] at e; exact e hp
  by_cases h208 : k < 221
  · have e := zdecP208 (k - 208) (by omega) pc; rw [show 208 + (k - 208) = k by omega] at e; exact e hp
  by_cases h221 : k < 234
  · have e := zdecP221 (k - 221) (by omega) pc; rw [show 221 + (k - 221) = k by omega] at e; exact e hp
  by_cases h234 : k < 247
  · have e := zdecP234 (k - 234) (by omega) pc; rw [show 234 + (k - 234) = k by omega] at e; exact e hp
  by_cases h247 : k < 260
  · have e := zdecP247 (k - 247) (by omega) pc; rw [show 247 + (k - 247) = k by omega] at e; exact e hp
  by_cases h260 : k < 273
  · have e := zdecP260 (k - 260) (by omega) pc; rw [show 260 + (k - 260) = k by omega] at e; exact e hp
  by_cases h273 : k < 286
  · have e := zdecP273 (k - 273) (by omega) pc; rw [show 273 + (k - 273) = k by omega] at e; exact e hp
  by_cases h286 : k < 299
  · have e := zdecP286 (k - 286) (by omega) pc; rw [show 286 + (k - 286) = k by omega] at e; exact e hp
  by_cases h299 : k < 312
  · have e := zdecP299 (k - 299) (by omega) pc; rw [show 299 + (k - 299) = k by omega] at e; exact e hp
  by_cases h312 : k < 325
  · have e := zdecP312 (k - 312) (by omega) pc; rw [show 312 + (k - 312) = k by omega] at e; exact e hp
  by_cases h325 : k < 338
  · have e := zdecP325 (k - 325) (by omega) pc; rw [show 325 + (k - 325) = k by omega] at e; exact e hp
  by_cases h338 : k < 351
  · have e := zdecP338 (k - 338) (by omega) pc; rw [show 338 + (k - 338) = k by omega] at e; exact e hp
  by_cases h351 : k < 364
  · have e := zdecP351 (k - 351) (by omega) pc; rw [show 351 + (k - 351) = k by omega] at e; exact e hp
  by_cases h364 : k < 377
  · have e := zdecP364 (k - 364) (by omega) pc; rw [show 364 + (k - 364) = k by omega] at e; exact e hp
  by_cases h377 : k < 388
  · have e := zdecP377 (k - 377) (by omega) pc; rw [show 377 + (k - 377) = k by omega] at e; exact e hp
  by_cases h388 : k < 389
  · have e := zdecP388 (k - 388) (by omega) pc; rw [show 388 + (k - 388) = k by omega] at e; exact e hp
  omega
theorem zdec {k pc : Nat} {ins : ClassFile.Instr} {nx : Nat} {mk : List Bool} (hk : k < 389) (h : zcode k pc = some (ins, nx, mk)) : decode (zby k) pc = .ok (ins, nx - pc) ∧ pc < nx ∧ zil ins pc (nx - pc) = true := by
  have hp : pc < zlen k := by
    unfold zcode at h
    cases hb : Nat.blt pc (zlen k) with
    | true => exact Nat.blt_eq.mp hb
    | false => rw [hb] at h; cases h
  have hc := zdecA k hk pc hp
  unfold zchk at hc
  rw [h] at hc
  simp only [Bool.and_eq_true, decide_eq_true_eq] at hc
  exact ⟨hc.1, Nat.blt_eq.mp hc.2.1, hc.2.2⟩

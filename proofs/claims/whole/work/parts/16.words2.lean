/-! ===== more words by the tables: constants, classes, statics, arrays, throws (written by wip/whole/gen16w.py) ===== -/
def zkW1 (x : Nat) : Nat := cond (Nat.blt x 99) (cond (Nat.beq x 98) (1530) 0) (cond (Nat.beq x 99) (1531) 0)
def zkW4 (x : Nat) : Nat := cond (Nat.blt x 75) (cond (Nat.beq x 74) (1510) 0) (cond (Nat.beq x 75) (1511) 0)
def zkW7 (x : Nat) : Nat := cond (Nat.blt x 98) (cond (Nat.beq x 97) (619) 0) (cond (Nat.beq x 98) (620) 0)
def zkW11 (x : Nat) : Nat := cond (Nat.blt x 341) (cond (Nat.beq x 259) (1354) 0) (cond (Nat.blt x 419) (cond (Nat.beq x 341) (1501) 0) (cond (Nat.beq x 419) (1415) 0))
def zkW12 (x : Nat) : Nat := cond (Nat.blt x 391) (cond (Nat.blt x 352) (cond (Nat.beq x 196) (1808) 0) (cond (Nat.blt x 388) (cond (Nat.beq x 352) (2056) 0) (cond (Nat.beq x 388) (2131) 0))) (cond (Nat.blt x 461) (cond (Nat.beq x 391) (2133) 0) (cond (Nat.blt x 466) (cond (Nat.beq x 461) (2261) 0) (cond (Nat.beq x 466) (2266) 0)))
def zkW (o : Nat) : Nat → Nat := cond (Nat.blt o 7) (cond (Nat.blt o 4) (cond (Nat.beq o 1) (zkW1) fun _ => 0) (cond (Nat.beq o 4) (zkW4) fun _ => 0)) (cond (Nat.blt o 11) (cond (Nat.beq o 7) (zkW7) fun _ => 0) (cond (Nat.blt o 12) (cond (Nat.beq o 11) (zkW11) fun _ => 0) (cond (Nat.beq o 12) (zkW12) fun _ => 0)))
def zkLW1 (x : Nat) : Nat := cond (Nat.beq x 62) (1171) 0
def zkLW4 (x : Nat) : Nat := cond (Nat.blt x 60) (cond (Nat.beq x 58) (1159) 0) (cond (Nat.beq x 60) (1160) 0)
def zkLW5 (x : Nat) : Nat := cond (Nat.blt x 31) (cond (Nat.beq x 29) (758) 0) (cond (Nat.beq x 31) (759) 0)
def zkLW7 (x : Nat) : Nat := cond (Nat.blt x 33) (cond (Nat.blt x 25) (cond (Nat.beq x 19) (546) 0) (cond (Nat.blt x 27) (cond (Nat.beq x 25) (550) 0) (cond (Nat.beq x 27) (551) 0))) (cond (Nat.blt x 74) (cond (Nat.blt x 72) (cond (Nat.beq x 33) (557) 0) (cond (Nat.beq x 72) (523) 0)) (cond (Nat.blt x 99) (cond (Nat.beq x 74) (524) 0) (cond (Nat.beq x 99) (621) 0)))
def zkLW11 (x : Nat) : Nat := cond (Nat.blt x 456) (cond (Nat.blt x 257) (cond (Nat.beq x 245) (479) 0) (cond (Nat.beq x 257) (580) 0)) (cond (Nat.blt x 462) (cond (Nat.beq x 456) (1177) 0) (cond (Nat.blt x 464) (cond (Nat.beq x 462) (555) 0) (cond (Nat.beq x 464) (556) 0)))
def zkLW12 (x : Nat) : Nat := cond (Nat.blt x 293) (cond (Nat.blt x 176) (cond (Nat.blt x 168) (cond (Nat.blt x 164) (cond (Nat.beq x 162) (1772) 0) (cond (Nat.blt x 166) (cond (Nat.beq x 164) (1789) 0) (cond (Nat.beq x 166) (1790) 0))) (cond (Nat.blt x 172) (cond (Nat.blt x 170) (cond (Nat.beq x 168) (1791) 0) (cond (Nat.beq x 170) (1792) 0)) (cond (Nat.blt x 174) (cond (Nat.beq x 172) (1793) 0) (cond (Nat.beq x 174) (1794) 0)))) (cond (Nat.blt x 184) (cond (Nat.blt x 180) (cond (Nat.blt x 178) (cond (Nat.beq x 176) (1795) 0) (cond (Nat.beq x 178) (1796) 0)) (cond (Nat.blt x 182) (cond (Nat.beq x 180) (1797) 0) (cond (Nat.beq x 182) (1798) 0))) (cond (Nat.blt x 277) (cond (Nat.blt x 263) (cond (Nat.beq x 184) (1799) 0) (cond (Nat.beq x 263) (1877) 0)) (cond (Nat.blt x 291) (cond (Nat.beq x 277) (1914) 0) (cond (Nat.beq x 291) (1955) 0))))) (cond (Nat.blt x 362) (cond (Nat.blt x 324) (cond (Nat.blt x 297) (cond (Nat.blt x 295) (cond (Nat.beq x 293) (1976) 0) (cond (Nat.beq x 295) (1971) 0)) (cond (Nat.blt x 303) (cond (Nat.beq x 297) (1972) 0) (cond (Nat.beq x 303) (1977) 0))) (cond (Nat.blt x 341) (cond (Nat.blt x 326) (cond (Nat.beq x 324) (2005) 0) (cond (Nat.beq x 326) (2006) 0)) (cond (Nat.blt x 347) (cond (Nat.beq x 341) (2026) 0) (cond (Nat.beq x 347) (2035) 0)))) (cond (Nat.blt x 407) (cond (Nat.blt x 386) (cond (Nat.blt x 364) (cond (Nat.beq x 362) (2073) 0) (cond (Nat.beq x 364) (2086) 0)) (cond (Nat.blt x 389) (cond (Nat.beq x 386) (2130) 0) (cond (Nat.beq x 389) (2132) 0))) (cond (Nat.blt x 417) (cond (Nat.blt x 409) (cond (Nat.beq x 407) (2155) 0) (cond (Nat.beq x 409) (2150) 0)) (cond (Nat.blt x 485) (cond (Nat.beq x 417) (2168) 0) (cond (Nat.beq x 485) (2291) 0)))))
def zkLW (o : Nat) : Nat → Nat := cond (Nat.blt o 7) (cond (Nat.blt o 4) (cond (Nat.beq o 1) (zkLW1) fun _ => 0) (cond (Nat.blt o 5) (cond (Nat.beq o 4) (zkLW4) fun _ => 0) (cond (Nat.beq o 5) (zkLW5) fun _ => 0))) (cond (Nat.blt o 11) (cond (Nat.beq o 7) (zkLW7) fun _ => 0) (cond (Nat.blt o 12) (cond (Nat.beq o 11) (zkLW11) fun _ => 0) (cond (Nat.beq o 12) (zkLW12) fun _ => 0)))
def zclW0 (x : Nat) : Nat := cond (Nat.beq x 11) (388) 0
def zclW3 (x : Nat) : Nat := cond (Nat.beq x 9) (276) 0
def zclW6 (x : Nat) : Nat := cond (Nat.beq x 11) (299) 0
def zclW11 (x : Nat) : Nat := cond (Nat.blt x 55) (cond (Nat.blt x 32) (cond (Nat.blt x 16) (cond (Nat.beq x 7) (150) 0) (cond (Nat.blt x 25) (cond (Nat.beq x 16) (166) 0) (cond (Nat.beq x 25) (212) 0))) (cond (Nat.blt x 41) (cond (Nat.beq x 32) (270) 0) (cond (Nat.blt x 48) (cond (Nat.beq x 41) (293) 0) (cond (Nat.beq x 48) (330) 0)))) (cond (Nat.blt x 84) (cond (Nat.blt x 64) (cond (Nat.beq x 55) (356) 0) (cond (Nat.blt x 71) (cond (Nat.beq x 64) (369) 0) (cond (Nat.beq x 71) (382) 0))) (cond (Nat.blt x 110) (cond (Nat.blt x 99) (cond (Nat.beq x 84) (402) 0) (cond (Nat.beq x 99) (789) 0)) (cond (Nat.blt x 389) (cond (Nat.beq x 110) (868) 0) (cond (Nat.beq x 389) (1216) 0))))
def zclW16 (x : Nat) : Nat := cond (Nat.blt x 19) (cond (Nat.blt x 13) (cond (Nat.beq x 8) (142) 0) (cond (Nat.beq x 13) (784) 0)) (cond (Nat.blt x 34) (cond (Nat.beq x 19) (863) 0) (cond (Nat.blt x 142) (cond (Nat.beq x 34) (1207) 0) (cond (Nat.beq x 142) (1567) 0)))
def zclW (o : Nat) : Nat → Nat := cond (Nat.blt o 6) (cond (Nat.blt o 3) (cond (Nat.beq o 0) (zclW0) fun _ => 0) (cond (Nat.beq o 3) (zclW3) fun _ => 0)) (cond (Nat.blt o 11) (cond (Nat.beq o 6) (zclW6) fun _ => 0) (cond (Nat.blt o 16) (cond (Nat.beq o 11) (zclW11) fun _ => 0) (cond (Nat.beq o 16) (zclW16) fun _ => 0)))
def zflW3 (x : Nat) : Nat := cond (Nat.blt x 73) (cond (Nat.blt x 67) (cond (Nat.beq x 59) (937) 0) (cond (Nat.beq x 67) (970) 0)) (cond (Nat.blt x 93) (cond (Nat.beq x 73) (990) 0) (cond (Nat.blt x 103) (cond (Nat.beq x 93) (958) 0) (cond (Nat.beq x 103) (964) 0)))
def zflW6 (x : Nat) : Nat := cond (Nat.blt x 93) (cond (Nat.blt x 87) (cond (Nat.blt x 75) (cond (Nat.beq x 34) (301) 0) (cond (Nat.beq x 75) (1082) 0)) (cond (Nat.blt x 90) (cond (Nat.beq x 87) (1070) 0) (cond (Nat.beq x 90) (1072) 0))) (cond (Nat.blt x 99) (cond (Nat.blt x 96) (cond (Nat.beq x 93) (1074) 0) (cond (Nat.beq x 96) (1076) 0)) (cond (Nat.blt x 102) (cond (Nat.beq x 99) (1078) 0) (cond (Nat.blt x 118) (cond (Nat.beq x 102) (1080) 0) (cond (Nat.beq x 118) (1059) 0))))
def zflW9 (x : Nat) : Nat := cond (Nat.blt x 77) (cond (Nat.beq x 9) (172) 0) (cond (Nat.beq x 77) (952) 0)
def zflW10 (x : Nat) : Nat := cond (Nat.blt x 84) (cond (Nat.blt x 80) (cond (Nat.beq x 9) (924) 0) (cond (Nat.beq x 80) (2313) 0)) (cond (Nat.blt x 88) (cond (Nat.beq x 84) (2316) 0) (cond (Nat.blt x 91) (cond (Nat.beq x 88) (2317) 0) (cond (Nat.beq x 91) (922) 0)))
def zflW11 (x : Nat) : Nat := cond (Nat.beq x 432) (1121) 0
def zflW13 (x : Nat) : Nat := cond (Nat.beq x 7) (2318) 0
def zflW (o : Nat) : Nat → Nat := cond (Nat.blt o 10) (cond (Nat.blt o 6) (cond (Nat.beq o 3) (zflW3) fun _ => 0) (cond (Nat.blt o 9) (cond (Nat.beq o 6) (zflW6) fun _ => 0) (cond (Nat.beq o 9) (zflW9) fun _ => 0))) (cond (Nat.blt o 11) (cond (Nat.beq o 10) (zflW10) fun _ => 0) (cond (Nat.blt o 13) (cond (Nat.beq o 11) (zflW11) fun _ => 0) (cond (Nat.beq o 13) (zflW13) fun _ => 0)))
def zinW (c : Nat) : Nat := cond (Nat.blt c 6) (cond (Nat.blt c 3) (cond (Nat.blt c 1) (cond (Nat.beq c 0) (383) 0) (cond (Nat.blt c 2) (cond (Nat.beq c 1) (370) 0) (cond (Nat.beq c 2) (213) 0))) (cond (Nat.blt c 4) (cond (Nat.beq c 3) (271) 0) (cond (Nat.blt c 5) (cond (Nat.beq c 4) (331) 0) (cond (Nat.beq c 5) (403) 0)))) (cond (Nat.blt c 9) (cond (Nat.blt c 7) (cond (Nat.beq c 6) (294) 0) (cond (Nat.blt c 8) (cond (Nat.beq c 7) (357) 0) (cond (Nat.beq c 8) (151) 0))) (cond (Nat.blt c 10) (cond (Nat.beq c 9) (167) 0) (cond (Nat.blt c 11) (cond (Nat.beq c 10) (143) 0) (cond (Nat.beq c 11) (1568) 0))))
def zitW (c : Nat) : Nat := cond (Nat.blt c 6) (cond (Nat.blt c 3) (cond (Nat.blt c 1) (cond (Nat.beq c 0) (130) 0) (cond (Nat.blt c 2) (cond (Nat.beq c 1) (129) 0) (cond (Nat.beq c 2) (123) 0))) (cond (Nat.blt c 4) (cond (Nat.beq c 3) (125) 0) (cond (Nat.blt c 5) (cond (Nat.beq c 4) (127) 0) (cond (Nat.beq c 5) (131) 0)))) (cond (Nat.blt c 9) (cond (Nat.blt c 7) (cond (Nat.beq c 6) (126) 0) (cond (Nat.blt c 8) (cond (Nat.beq c 7) (128) 0) (cond (Nat.beq c 8) (119) 0))) (cond (Nat.blt c 10) (cond (Nat.beq c 9) (120) 0) (cond (Nat.blt c 11) (cond (Nat.beq c 10) (118) 0) (cond (Nat.beq c 11) (132) 0))))
theorem zkc_lt {o i : Nat} {e : Int} (h : zkc o i = some e) : i < 600 := by
  unfold zkc at h
  cases hb : Nat.blt i 600 with
  | true => exact Nat.blt_eq.mp hb
  | false => rw [hb] at h; cases h
theorem zkl_lt {o i : Nat} {e : Int} (h : zkl o i = some e) : i < 600 := by
  unfold zkl at h
  cases hb : Nat.blt i 600 with
  | true => exact Nat.blt_eq.mp hb
  | false => rw [hb] at h; cases h
theorem zcls_lt {o i : Nat} {e : Nat} (h : zcls o i = some e) : i < 600 := by
  unfold zcls at h
  cases hb : Nat.blt i 600 with
  | true => exact Nat.blt_eq.mp hb
  | false => rw [hb] at h; cases h
theorem zthr_lt {o i : Nat} {e : Nat} (h : zthr o i = some e) : i < 600 := by
  unfold zthr at h
  cases hb : Nat.blt i 600 with
  | true => exact Nat.blt_eq.mp hb
  | false => rw [hb] at h; cases h
theorem zacl_lt {o i : Nat} {e : Nat} (h : zacl o i = some e) : i < 600 := by
  unfold zacl at h
  cases hb : Nat.blt i 600 with
  | true => exact Nat.blt_eq.mp hb
  | false => rw [hb] at h; cases h
theorem zstt_lt {o i : Nat} {e : Nat} (h : zstt o i = some e) : i < 600 := by
  unfold zstt at h
  cases hb : Nat.blt i 600 with
  | true => exact Nat.blt_eq.mp hb
  | false => rw [hb] at h; cases h
theorem zfldE_lt {o i : Nat} {e : Nat} (h : zfldE o i = some e) : i < 600 := by
  unfold zfldE at h
  cases hb : Nat.blt i 600 with
  | true => exact Nat.blt_eq.mp hb
  | false => rw [hb] at h; cases h
def zkcchk (o i : Nat) : Bool := match zkc o i with
  | none => true
  | some e => decide (lw_tbl[zkW o i]? = some (Cond.constant (zcn o) i (Int32.ofInt e))) && (decide (-2147483648 ≤ e) && decide (e < 2147483648))
theorem zkcchk_all : ∀ o, o < 17 → ∀ i, i < 600 → zkcchk o i = true := by decide +kernel
theorem zkc_ok {o i : Nat} {e : Int} (ho : o < 17) (h : zkc o i = some e) : zr32 e ∧ Cond.constant (zcn o) i (Int32.ofInt e) ∈ zW0 := by
  have hc := zkcchk_all o ho i (zkc_lt h)
  unfold zkcchk at hc
  rw [h] at hc
  simp only [Bool.and_eq_true, decide_eq_true_eq] at hc
  exact ⟨hc.2, zin _ hc.1 rfl⟩
def zklchk (o i : Nat) : Bool := match zkl o i with
  | none => true
  | some e => decide (lw_tbl[zkLW o i]? = some (Cond.constantLong (zcn o) i (Int64.ofInt e))) && (decide (-9223372036854775808 ≤ e) && decide (e < 9223372036854775808))
theorem zklchk_all : ∀ o, o < 17 → ∀ i, i < 600 → zklchk o i = true := by decide +kernel
theorem zkl_ok {o i : Nat} {e : Int} (ho : o < 17) (h : zkl o i = some e) : zr64 e ∧ Cond.constantLong (zcn o) i (Int64.ofInt e) ∈ zW0 := by
  have hc := zklchk_all o ho i (zkl_lt h)
  unfold zklchk at hc
  rw [h] at hc
  simp only [Bool.and_eq_true, decide_eq_true_eq] at hc
  exact ⟨hc.2, zin _ hc.1 rfl⟩
def zclschk (o i : Nat) : Bool := match zcls o i with
  | none => true
  | some e => Nat.blt e 12 && (decide (lw_tbl[zclW o i]? = some (Cond.classLink (zcn o) i (zRX e))) && (decide (lw_tbl[zinW e]? = some (Cond.instantiable (zRX e) (zN e))) && decide (lw_tbl[zitW e]? = some (Cond.initialized (zRX e)))))
theorem zclschk_all : ∀ o, o < 17 → ∀ i, i < 600 → zclschk o i = true := by decide +kernel
theorem zcls_ok {o i e : Nat} (ho : o < 17) (h : zcls o i = some e) : e < 12 ∧ Cond.classLink (zcn o) i (zRX e) ∈ zW0 ∧ Cond.instantiable (zRX e) (zN e) ∈ zW0 ∧ Cond.initialized (zRX e) ∈ zW0 := by
  have hc := zclschk_all o ho i (zcls_lt h)
  unfold zclschk at hc
  rw [h] at hc
  simp only [Bool.and_eq_true, decide_eq_true_eq] at hc
  exact ⟨Nat.blt_eq.mp hc.1, zin _ hc.2.1 rfl, zin _ hc.2.2.1 rfl, zin _ hc.2.2.2 rfl⟩
def zaclchk (o i : Nat) : Bool := match zacl o i with
  | none => true
  | some e => (Nat.beq e 5 && (decide (lw_tbl[zclW o i]? = some (Cond.classLink (zcn o) i "CirclePacker$Word")))) || (Nat.beq e 6 && (decide (lw_tbl[zclW o i]? = some (Cond.classLink (zcn o) i "CirclePacker$Packing"))))
theorem zaclchk_all : ∀ o, o < 17 → ∀ i, i < 600 → zaclchk o i = true := by decide +kernel
theorem zacl_ok {o i e : Nat} (ho : o < 17) (h : zacl o i = some e) : (e = 5 ∧ Cond.classLink (zcn o) i "CirclePacker$Word" ∈ zW0) ∨ (e = 6 ∧ Cond.classLink (zcn o) i "CirclePacker$Packing" ∈ zW0) := by
  have hc := zaclchk_all o ho i (zacl_lt h)
  unfold zaclchk at hc
  rw [h] at hc
  simp only [Bool.or_eq_true, Bool.and_eq_true, decide_eq_true_eq] at hc
  rcases hc with ⟨h1, h2⟩ | ⟨h1, h2⟩
  · exact Or.inl ⟨Nat.eq_of_beq_eq_true h1, zin _ h2 rfl⟩
  · exact Or.inr ⟨Nat.eq_of_beq_eq_true h1, zin _ h2 rfl⟩
set_option maxRecDepth 100000 in
theorem zar_int : Cond.arrayClass .int ∈ zW0 := zin 268 rfl rfl
set_option maxRecDepth 100000 in
theorem zar_long : Cond.arrayClass .long ∈ zW0 := zin 267 rfl rfl
set_option maxRecDepth 100000 in
theorem zar_byte : Cond.arrayClass .byte ∈ zW0 := zin 165 rfl rfl
set_option maxRecDepth 100000 in
theorem zar_boolean : Cond.arrayClass .boolean ∈ zW0 := zin 269 rfl rfl
def zsn (p : Nat) : String × String × String := cond (Nat.beq p 2000) ("CirclePacker$Word", "ALL", "[LCirclePacker$Word;") (cond (Nat.beq p 2001) ("CirclePacker$1", "$SwitchMap$CirclePacker$Word", "[I") ("CirclePacker$Word", zwn (p - 1000), "LCirclePacker$Word;"))
def zsttchk (o i : Nat) : Bool := match zstt o i with
  | none => true
  | some e => (Nat.beq e 2000 || (Nat.beq e 2001 || (Nat.ble 1000 e && Nat.blt e 1015))) && decide (lw_tbl[zflW o i]? = some (Cond.fieldLink (zcn o) i (zsn e).1 (zsn e).2.1 (zsn e).2.2))
theorem zsttchk_all : ∀ o, o < 17 → ∀ i, i < 600 → zsttchk o i = true := by decide +kernel
theorem zstt_ok {o i e : Nat} (ho : o < 17) (h : zstt o i = some e) : (e = 2000 ∨ e = 2001 ∨ (1000 ≤ e ∧ e < 1015)) ∧ Cond.fieldLink (zcn o) i (zsn e).1 (zsn e).2.1 (zsn e).2.2 ∈ zW0 := by
  have hc := zsttchk_all o ho i (zstt_lt h)
  unfold zsttchk at hc
  rw [h] at hc
  simp only [Bool.or_eq_true, Bool.and_eq_true, decide_eq_true_eq] at hc
  refine ⟨?_, zin _ hc.2 rfl⟩
  rcases hc.1 with q | q | ⟨q, r⟩
  · exact Or.inl (Nat.eq_of_beq_eq_true q)
  · exact Or.inr (Or.inl (Nat.eq_of_beq_eq_true q))
  · exact Or.inr (Or.inr ⟨Nat.ble_eq.mp q, Nat.blt_eq.mp r⟩)
def zfN (o i : Nat) : Bool := Nat.beq o 9 && (Nat.beq i 71 || Nat.beq i 74)
def zfNW (i : Nat) : Nat := cond (Nat.beq i 71) 2197 2198
def zfldEchk (o i : Nat) : Bool := match zfldE o i with
  | none => true
  | some e => Nat.blt e 4 && cond (zfN o i) (decide (tables_1[zfNW i]? = some (Cond.fieldLinkNest (zcn o) i (zwfo e) (zwfn e) (zwfd e) "CirclePacker"))) (decide (lw_tbl[zflW o i]? = some (Cond.fieldLink (zcn o) i (zwfo e) (zwfn e) (zwfd e))))
theorem zfldEchk_all : ∀ o, o < 17 → ∀ i, i < 600 → zfldEchk o i = true := by decide +kernel
theorem zfldE_ok {o i e : Nat} (ho : o < 17) (h : zfldE o i = some e) : e < 4 ∧ ((zfN o i = false ∧ Cond.fieldLink (zcn o) i (zwfo e) (zwfn e) (zwfd e) ∈ zW0) ∨ (Cond.fieldLinkNest (zcn o) i (zwfo e) (zwfn e) (zwfd e) "CirclePacker" ∈ znestW)) := by
  have hc := zfldEchk_all o ho i (zfldE_lt h)
  unfold zfldEchk at hc
  rw [h] at hc
  simp only [Bool.and_eq_true] at hc
  refine ⟨Nat.blt_eq.mp hc.1, ?_⟩
  have h2 := hc.2
  cases hb : zfN o i with
  | false =>
    rw [hb] at h2
    exact Or.inl ⟨rfl, zin _ (of_decide_eq_true h2) rfl⟩
  | true =>
    rw [hb] at h2
    exact Or.inr (List.mem_filter.mpr ⟨List.mem_of_getElem? (of_decide_eq_true h2), rfl⟩)
theorem zwf_ok : ∀ f, f < 4 → ∀ i, i < 15 → zvok 0 (cond (Nat.beq f 1) 1 0, zwf f i) := by
  have h : ∀ f, f < 4 → ∀ i, i < 15 → cond (Nat.beq f 1) (decide (-9223372036854775808 ≤ zwf f i) && decide (zwf f i < 9223372036854775808)) (decide (-2147483648 ≤ zwf f i) && decide (zwf f i < 2147483648)) = true := by decide +kernel
  intro f hf i hi
  have h1 := h f hf i hi
  cases hb : Nat.beq f 1 with
  | false =>
    rw [hb] at h1
    simp only [cond_false, Bool.and_eq_true, decide_eq_true_eq] at h1
    exact zok0 h1
  | true =>
    rw [hb] at h1
    simp only [cond_true, Bool.and_eq_true, decide_eq_true_eq] at h1
    exact zok1 h1
theorem zcix_ok : ∀ o, o < 17 → ∀ c, zcix o = some c → zRX c = zcn o := by
  have h : ∀ o, o < 17 → zcase (zcix o) (fun c => decide (zRX c = zcn o)) true = true := by decide +kernel
  intro o ho c hc
  have h1 := h o ho
  rw [hc] at h1
  exact of_decide_eq_true h1
abbrev zup : List String := ["java/lang/RuntimeException", "java/lang/Exception"]
def ztiW (e : Nat) : Nat := cond (Nat.beq e 0) 136 (cond (Nat.beq e 1) 137 141)
def zthrchk (o i : Nat) : Bool := match zthr o i with
  | none => true
  | some e => Nat.blt e 3 && (decide (lw_tbl[zclW o i]? = some (Cond.classLink (zcn o) i (zEX e))) && decide (lw_tbl[ztiW e]? = some (Cond.initialized (zEX e))))
theorem zthrchk_all : ∀ o, o < 17 → ∀ i, i < 600 → zthrchk o i = true := by decide +kernel
theorem zthr_ok {o i e : Nat} (ho : o < 17) (h : zthr o i = some e) : e < 3 ∧ Cond.classLink (zcn o) i (zEX e) ∈ zW0 ∧ Cond.initialized (zEX e) ∈ zW0 := by
  have hc := zthrchk_all o ho i (zthr_lt h)
  unfold zthrchk at hc
  rw [h] at hc
  simp only [Bool.and_eq_true, decide_eq_true_eq] at hc
  exact ⟨Nat.blt_eq.mp hc.1, zin _ hc.2.1 rfl, zin _ hc.2.2 rfl⟩
theorem zat_all : ∀ e, e < 3 → ((vx_atS "CirclePacker" (ztic e) (zEX e) zup).all fun w => decide (w ∈ lw_tbl) && (w.onTables && w.keepsFace)) = true := by decide +kernel
theorem zat_in {e : Nat} (he : e < 3) {w : Cond} (hw : w ∈ vx_atS "CirclePacker" (ztic e) (zEX e) zup) : w ∈ zoddW := by
  have h := List.all_eq_true.mp (zat_all e he) w hw
  simp only [Bool.and_eq_true, decide_eq_true_eq] at h
  exact List.mem_filter.mpr ⟨h.1, by rw [h.2.1, h.2.2]; rfl⟩
def zstW (i : Nat) : Nat := cond (Nat.blt i 342) (cond (Nat.blt i 240) (cond (Nat.blt i 119) (cond (Nat.blt i 112) (cond (Nat.beq i 101) (713) 0) (cond (Nat.beq i 112) (760) 0)) (cond (Nat.blt i 140) (cond (Nat.beq i 119) (905) 0) (cond (Nat.blt i 179) (cond (Nat.beq i 140) (983) 0) (cond (Nat.beq i 179) (1086) 0)))) (cond (Nat.blt i 277) (cond (Nat.blt i 260) (cond (Nat.beq i 240) (1229) 0) (cond (Nat.blt i 269) (cond (Nat.beq i 260) (1238) 0) (cond (Nat.beq i 269) (1246) 0))) (cond (Nat.blt i 328) (cond (Nat.beq i 277) (1261) 0) (cond (Nat.blt i 336) (cond (Nat.beq i 328) (1299) 0) (cond (Nat.beq i 336) (1376) 0))))) (cond (Nat.blt i 409) (cond (Nat.blt i 357) (cond (Nat.blt i 347) (cond (Nat.beq i 342) (1385) 0) (cond (Nat.blt i 355) (cond (Nat.beq i 347) (1395) 0) (cond (Nat.beq i 355) (1407) 0))) (cond (Nat.blt i 369) (cond (Nat.beq i 357) (1408) 0) (cond (Nat.blt i 391) (cond (Nat.beq i 369) (1425) 0) (cond (Nat.beq i 391) (1437) 0)))) (cond (Nat.blt i 415) (cond (Nat.blt i 411) (cond (Nat.beq i 409) (1449) 0) (cond (Nat.blt i 413) (cond (Nat.beq i 411) (1108) 0) (cond (Nat.beq i 413) (1148) 0))) (cond (Nat.blt i 417) (cond (Nat.beq i 415) (1152) 0) (cond (Nat.blt i 420) (cond (Nat.beq i 417) (1272) 0) (cond (Nat.beq i 420) (1343) 0)))))
def zstT (i : Nat) : String := cond (Nat.blt i 342) (cond (Nat.blt i 240) (cond (Nat.blt i 119) (cond (Nat.blt i 112) (cond (Nat.beq i 101) ("the buffer would be too long") "") (cond (Nat.beq i 112) ("no such length") "")) (cond (Nat.blt i 140) (cond (Nat.beq i 119) ("the net has an error") "") (cond (Nat.blt i 179) (cond (Nat.beq i 140) ("the script has an error") "") (cond (Nat.beq i 179) ("nothing to count") "")))) (cond (Nat.blt i 277) (cond (Nat.blt i 260) (cond (Nat.beq i 240) ("a fixed circle has no defect") "") (cond (Nat.blt i 269) (cond (Nat.beq i 260) ("no such radius") "") (cond (Nat.beq i 269) ("the circle is fixed or has no face") ""))) (cond (Nat.blt i 328) (cond (Nat.beq i 277) ("no such number of sweeps") "") (cond (Nat.blt i 336) (cond (Nat.beq i 328) ("no such bound") "") (cond (Nat.beq i 336) ("a circle of the face has no place") ""))))) (cond (Nat.blt i 409) (cond (Nat.blt i 357) (cond (Nat.blt i 347) (cond (Nat.beq i 342) ("too great a shift") "") (cond (Nat.blt i 355) (cond (Nat.beq i 347) ("a place would be too far off") "") (cond (Nat.beq i 355) ("no such side of the box") ""))) (cond (Nat.blt i 369) (cond (Nat.beq i 357) ("no circle has a place") "") (cond (Nat.blt i 391) (cond (Nat.beq i 369) ("no such coordinate, or no neighbors") "") (cond (Nat.beq i 391) ("no such byte") "")))) (cond (Nat.blt i 415) (cond (Nat.blt i 411) (cond (Nat.beq i 409) ("nothing was saved") "") (cond (Nat.blt i 413) (cond (Nat.beq i 411) ("no such circle") "") (cond (Nat.beq i 413) ("no such face") ""))) (cond (Nat.blt i 417) (cond (Nat.beq i 415) ("no such corner") "") (cond (Nat.blt i 420) (cond (Nat.beq i 417) ("no such slack") "") (cond (Nat.beq i 420) ("the circle has no place") "")))))
theorem zstx_all : ∀ i, i < 600 → (!zstx i || decide (tables_1[zstW i]? = some (Cond.stringRef "CirclePacker" i (zstT i)))) = true := by decide +kernel
theorem zstx_lt {i : Nat} (h : zstx i = true) : i < 600 := by
  unfold zstx at h
  rw [List.any_eq_true] at h
  obtain ⟨j, hj, hb⟩ := h
  have hall : ∀ j ∈ [101, 112, 119, 140, 179, 240, 260, 269, 277, 328, 336, 342, 347, 355, 357, 369, 391, 409, 411, 413, 415, 417, 420], j < 600 := by decide
  rw [Nat.eq_of_beq_eq_true hb]
  exact hall j hj
theorem zstx_ok {i : Nat} (h : zstx i = true) : Cond.stringRef "CirclePacker" i (zstT i) ∈ tables_1 := by
  have q := zstx_all i (zstx_lt h)
  rw [h] at q
  exact List.mem_of_getElem? (of_decide_eq_true q)
theorem zexT_ok : ∀ k, k < 389 → (!List.isEmpty (zex k) || List.isEmpty (zexT k)) = true := by decide +kernel

/-! ===== the words of fields and calls by the tables (written by wip/whole/gen_all.py) ===== -/
theorem zcl_ok (c : Nat) (h : c < 12) : vwCl[c]? = some (zRX c, zTX c, zN c) := by
  match c, h with
  | 0, _ => rfl
  | 1, _ => rfl
  | 2, _ => rfl
  | 3, _ => rfl
  | 4, _ => rfl
  | 5, _ => rfl
  | 6, _ => rfl
  | 7, _ => rfl
  | 8, _ => rfl
  | 9, _ => rfl
  | 10, _ => rfl
  | 11, _ => rfl
  | n + 12, h => omega
theorem zty_ok (c : Nat) (h : c < 12) : ∀ k, k < zN c → parseFieldDescriptor (zTX c k).2.2.1 = some (zty c k) := by
  match c, h with
  | 0, _ => exact tyX1_ok
  | 1, _ => exact tyX2_ok
  | 2, _ => exact tyX3_ok
  | 3, _ => exact tyX4_ok
  | 4, _ => exact tyX5_ok
  | 5, _ => exact tyX6_ok
  | 6, _ => exact tyX7_ok
  | 7, _ => exact tyX8_ok
  | 8, _ => exact tyX9_ok
  | 9, _ => exact tyX10_ok
  | 10, _ => exact tyX12_ok
  | 11, _ => exact tyX13_ok
  | n + 12, h => omega
theorem znm_ok (c : Nat) (h : c < 12) : ∀ a, a < zN c → ∀ b, b < zN c → a ≠ b → (zTX c a).2.1 ≠ (zTX c b).2.1 := by
  match c, h with
  | 0, _ => exact nmX1
  | 1, _ => exact nmX2
  | 2, _ => exact nmX3
  | 3, _ => exact nmX4
  | 4, _ => exact nmX5
  | 5, _ => exact nmX6
  | 6, _ => exact nmX7
  | 7, _ => exact nmX8
  | 8, _ => exact nmX9
  | 9, _ => exact nmX10
  | 10, _ => exact nmX12
  | 11, _ => exact nmX13
  | n + 12, h => omega
theorem zinc_ok (c : Nat) (h : c < 12) : ∀ w ∈ u_ws (zRX c) (zTX c) (zN c), w ∈ zW0 := by
  have key : ∀ w ∈ u_ws (zRX c) (zTX c) (zN c), w ∈ lw_tbl := by
    match c, h with
    | 0, _ => exact z_inX1
    | 1, _ => exact z_inX2
    | 2, _ => exact z_inX3
    | 3, _ => exact z_inX4
    | 4, _ => exact z_inX5
    | 5, _ => exact z_inX6
    | 6, _ => exact z_inX7
    | 7, _ => exact z_inX8
    | 8, _ => exact z_inX9
    | 9, _ => exact z_inX10
    | 10, _ => exact z_inX12
    | 11, _ => exact z_inX13
    | n + 12, h => omega
  intro w hw
  refine List.mem_filter.mpr ⟨key w hw, ?_⟩
  obtain ⟨k, -, rfl⟩ := List.mem_map.mp hw
  unfold u_lay
  split <;> rfl
def ztyc (g : Nat) (ty : FieldType) : Bool := cond (Nat.beq g 0) (decide (ty = .int)) (cond (Nat.beq g 1) (decide (ty = .long)) (cond (Nat.beq g 4) (decide (ty = .boolean)) (match ty with | .object _ => true | .array _ => true | _ => false)))
theorem zty_ft : ∀ c, c < 12 → ∀ j, j < zN c → ztyc (zft c j) (zty c j) = true := by decide +kernel
theorem zfin_ft : ∀ c, c < 12 → ∀ j, j < zN c → (zTX c j).2.2.2 = Nat.beq (zft c j) 2 ∧ (zTX c j).1 = zRX c := by decide +kernel
def zfW0 (x : Nat) : Nat := cond (Nat.blt x 18) (cond (Nat.beq x 13) (391) 0) (cond (Nat.blt x 30) (cond (Nat.beq x 18) (392) 0) (cond (Nat.beq x 30) (393) 0))
def zfW1 (x : Nat) : Nat := cond (Nat.blt x 46) (cond (Nat.blt x 15) (cond (Nat.beq x 9) (375) 0) (cond (Nat.beq x 15) (376) 0)) (cond (Nat.blt x 78) (cond (Nat.beq x 46) (231) 0) (cond (Nat.beq x 78) (229) 0))
def zfW2 (x : Nat) : Nat := cond (Nat.blt x 29) (cond (Nat.blt x 19) (cond (Nat.blt x 15) (cond (Nat.beq x 9) (234) 0) (cond (Nat.beq x 15) (236) 0)) (cond (Nat.blt x 23) (cond (Nat.beq x 19) (237) 0) (cond (Nat.blt x 26) (cond (Nat.beq x 23) (238) 0) (cond (Nat.beq x 26) (239) 0)))) (cond (Nat.blt x 38) (cond (Nat.blt x 32) (cond (Nat.beq x 29) (240) 0) (cond (Nat.blt x 35) (cond (Nat.beq x 32) (241) 0) (cond (Nat.beq x 35) (242) 0))) (cond (Nat.blt x 45) (cond (Nat.beq x 38) (243) 0) (cond (Nat.blt x 48) (cond (Nat.beq x 45) (225) 0) (cond (Nat.beq x 48) (230) 0))))
def zfW3 (x : Nat) : Nat := cond (Nat.blt x 55) (cond (Nat.blt x 25) (cond (Nat.blt x 18) (cond (Nat.beq x 12) (279) 0) (cond (Nat.beq x 18) (278) 0)) (cond (Nat.blt x 29) (cond (Nat.beq x 25) (281) 0) (cond (Nat.blt x 38) (cond (Nat.beq x 29) (283) 0) (cond (Nat.beq x 38) (176) 0)))) (cond (Nat.blt x 96) (cond (Nat.blt x 79) (cond (Nat.beq x 55) (181) 0) (cond (Nat.blt x 89) (cond (Nat.beq x 79) (226) 0) (cond (Nat.beq x 89) (183) 0))) (cond (Nat.blt x 110) (cond (Nat.beq x 96) (186) 0) (cond (Nat.blt x 128) (cond (Nat.beq x 110) (232) 0) (cond (Nat.beq x 128) (235) 0))))
def zfW4 (x : Nat) : Nat := cond (Nat.blt x 21) (cond (Nat.blt x 15) (cond (Nat.beq x 9) (336) 0) (cond (Nat.blt x 18) (cond (Nat.beq x 15) (337) 0) (cond (Nat.beq x 18) (338) 0))) (cond (Nat.blt x 25) (cond (Nat.beq x 21) (339) 0) (cond (Nat.blt x 43) (cond (Nat.beq x 25) (340) 0) (cond (Nat.beq x 43) (341) 0)))
def zfW5 (x : Nat) : Nat := cond (Nat.blt x 15) (cond (Nat.beq x 9) (408) 0) (cond (Nat.beq x 15) (409) 0)
def zfW6 (x : Nat) : Nat := cond (Nat.blt x 38) (cond (Nat.blt x 24) (cond (Nat.blt x 17) (cond (Nat.beq x 13) (303) 0) (cond (Nat.blt x 21) (cond (Nat.beq x 17) (304) 0) (cond (Nat.beq x 21) (305) 0))) (cond (Nat.blt x 27) (cond (Nat.beq x 24) (306) 0) (cond (Nat.blt x 30) (cond (Nat.beq x 27) (307) 0) (cond (Nat.beq x 30) (302) 0)))) (cond (Nat.blt x 53) (cond (Nat.blt x 42) (cond (Nat.beq x 38) (308) 0) (cond (Nat.blt x 45) (cond (Nat.beq x 42) (309) 0) (cond (Nat.beq x 45) (310) 0))) (cond (Nat.blt x 108) (cond (Nat.blt x 64) (cond (Nat.beq x 53) (175) 0) (cond (Nat.beq x 64) (182) 0)) (cond (Nat.blt x 124) (cond (Nat.beq x 108) (187) 0) (cond (Nat.beq x 124) (185) 0))))
def zfW7 (x : Nat) : Nat := cond (Nat.blt x 15) (cond (Nat.beq x 9) (362) 0) (cond (Nat.blt x 80) (cond (Nat.beq x 15) (363) 0) (cond (Nat.beq x 80) (227) 0))
def zfW8 (x : Nat) : Nat := cond (Nat.blt x 15) (cond (Nat.beq x 9) (156) 0) (cond (Nat.beq x 15) (158) 0)
def zfW9 (x : Nat) : Nat := cond (Nat.blt x 41) (cond (Nat.blt x 24) (cond (Nat.blt x 20) (cond (Nat.beq x 15) (180) 0) (cond (Nat.beq x 20) (191) 0)) (cond (Nat.blt x 28) (cond (Nat.beq x 24) (174) 0) (cond (Nat.blt x 31) (cond (Nat.beq x 28) (189) 0) (cond (Nat.beq x 31) (179) 0)))) (cond (Nat.blt x 68) (cond (Nat.blt x 49) (cond (Nat.beq x 41) (178) 0) (cond (Nat.beq x 49) (177) 0)) (cond (Nat.blt x 80) (cond (Nat.beq x 68) (188) 0) (cond (Nat.blt x 90) (cond (Nat.beq x 80) (184) 0) (cond (Nat.beq x 90) (159) 0))))
def zfW11 (x : Nat) : Nat := cond (Nat.blt x 91) (cond (Nat.blt x 60) (cond (Nat.blt x 37) (cond (Nat.blt x 21) (cond (Nat.beq x 10) (416) 0) (cond (Nat.blt x 28) (cond (Nat.beq x 21) (417) 0) (cond (Nat.beq x 28) (418) 0))) (cond (Nat.blt x 44) (cond (Nat.beq x 37) (419) 0) (cond (Nat.blt x 51) (cond (Nat.beq x 44) (420) 0) (cond (Nat.beq x 51) (421) 0)))) (cond (Nat.blt x 78) (cond (Nat.blt x 67) (cond (Nat.beq x 60) (422) 0) (cond (Nat.blt x 74) (cond (Nat.beq x 67) (423) 0) (cond (Nat.beq x 74) (424) 0))) (cond (Nat.blt x 81) (cond (Nat.beq x 78) (425) 0) (cond (Nat.blt x 87) (cond (Nat.beq x 81) (426) 0) (cond (Nat.beq x 87) (427) 0))))) (cond (Nat.blt x 163) (cond (Nat.blt x 134) (cond (Nat.blt x 95) (cond (Nat.beq x 91) (428) 0) (cond (Nat.blt x 121) (cond (Nat.beq x 95) (157) 0) (cond (Nat.beq x 121) (280) 0))) (cond (Nat.blt x 157) (cond (Nat.beq x 134) (282) 0) (cond (Nat.blt x 160) (cond (Nat.beq x 157) (190) 0) (cond (Nat.beq x 160) (192) 0)))) (cond (Nat.blt x 375) (cond (Nat.blt x 166) (cond (Nat.beq x 163) (228) 0) (cond (Nat.blt x 302) (cond (Nat.beq x 166) (233) 0) (cond (Nat.beq x 302) (342) 0))) (cond (Nat.blt x 397) (cond (Nat.beq x 375) (410) 0) (cond (Nat.blt x 405) (cond (Nat.beq x 397) (394) 0) (cond (Nat.beq x 405) (429) 0)))))
def zfW12 (x : Nat) : Nat := cond (Nat.blt x 81) (cond (Nat.blt x 45) (cond (Nat.blt x 26) (cond (Nat.blt x 17) (cond (Nat.blt x 13) (cond (Nat.beq x 7) (1578) 0) (cond (Nat.beq x 13) (1586) 0)) (cond (Nat.blt x 20) (cond (Nat.beq x 17) (1588) 0) (cond (Nat.blt x 23) (cond (Nat.beq x 20) (1590) 0) (cond (Nat.beq x 23) (1591) 0)))) (cond (Nat.blt x 35) (cond (Nat.blt x 29) (cond (Nat.beq x 26) (1592) 0) (cond (Nat.blt x 32) (cond (Nat.beq x 29) (1593) 0) (cond (Nat.beq x 32) (1594) 0))) (cond (Nat.blt x 38) (cond (Nat.beq x 35) (1595) 0) (cond (Nat.blt x 42) (cond (Nat.beq x 38) (1596) 0) (cond (Nat.beq x 42) (1597) 0))))) (cond (Nat.blt x 63) (cond (Nat.blt x 54) (cond (Nat.blt x 48) (cond (Nat.beq x 45) (1598) 0) (cond (Nat.blt x 51) (cond (Nat.beq x 48) (1599) 0) (cond (Nat.beq x 51) (1600) 0))) (cond (Nat.blt x 57) (cond (Nat.beq x 54) (1605) 0) (cond (Nat.blt x 60) (cond (Nat.beq x 57) (1606) 0) (cond (Nat.beq x 60) (1607) 0)))) (cond (Nat.blt x 72) (cond (Nat.blt x 66) (cond (Nat.beq x 63) (1611) 0) (cond (Nat.blt x 69) (cond (Nat.beq x 66) (1612) 0) (cond (Nat.beq x 69) (1613) 0))) (cond (Nat.blt x 75) (cond (Nat.beq x 72) (1614) 0) (cond (Nat.blt x 78) (cond (Nat.beq x 75) (1615) 0) (cond (Nat.beq x 78) (1619) 0)))))) (cond (Nat.blt x 214) (cond (Nat.blt x 119) (cond (Nat.blt x 94) (cond (Nat.blt x 87) (cond (Nat.beq x 81) (1620) 0) (cond (Nat.beq x 87) (1577) 0)) (cond (Nat.blt x 109) (cond (Nat.beq x 94) (1579) 0) (cond (Nat.blt x 112) (cond (Nat.beq x 109) (1581) 0) (cond (Nat.beq x 112) (1580) 0)))) (cond (Nat.blt x 129) (cond (Nat.blt x 122) (cond (Nat.beq x 119) (1582) 0) (cond (Nat.blt x 126) (cond (Nat.beq x 122) (1589) 0) (cond (Nat.beq x 126) (1584) 0))) (cond (Nat.blt x 139) (cond (Nat.beq x 129) (1583) 0) (cond (Nat.blt x 159) (cond (Nat.beq x 139) (1585) 0) (cond (Nat.beq x 159) (1587) 0))))) (cond (Nat.blt x 446) (cond (Nat.blt x 260) (cond (Nat.blt x 218) (cond (Nat.beq x 214) (1602) 0) (cond (Nat.blt x 244) (cond (Nat.beq x 218) (1603) 0) (cond (Nat.beq x 244) (1604) 0))) (cond (Nat.blt x 431) (cond (Nat.beq x 260) (1608) 0) (cond (Nat.blt x 434) (cond (Nat.beq x 431) (1609) 0) (cond (Nat.beq x 434) (1610) 0)))) (cond (Nat.blt x 482) (cond (Nat.blt x 452) (cond (Nat.beq x 446) (1616) 0) (cond (Nat.blt x 455) (cond (Nat.beq x 452) (1618) 0) (cond (Nat.beq x 455) (1617) 0))) (cond (Nat.blt x 497) (cond (Nat.beq x 482) (1621) 0) (cond (Nat.blt x 500) (cond (Nat.beq x 497) (1622) 0) (cond (Nat.beq x 500) (1601) 0))))))
def zfWT (o : Nat) : Nat → Nat := cond (Nat.blt o 6) (cond (Nat.blt o 3) (cond (Nat.blt o 1) (cond (Nat.beq o 0) (zfW0) fun _ => 0) (cond (Nat.blt o 2) (cond (Nat.beq o 1) (zfW1) fun _ => 0) (cond (Nat.beq o 2) (zfW2) fun _ => 0))) (cond (Nat.blt o 4) (cond (Nat.beq o 3) (zfW3) fun _ => 0) (cond (Nat.blt o 5) (cond (Nat.beq o 4) (zfW4) fun _ => 0) (cond (Nat.beq o 5) (zfW5) fun _ => 0)))) (cond (Nat.blt o 9) (cond (Nat.blt o 7) (cond (Nat.beq o 6) (zfW6) fun _ => 0) (cond (Nat.blt o 8) (cond (Nat.beq o 7) (zfW7) fun _ => 0) (cond (Nat.beq o 8) (zfW8) fun _ => 0))) (cond (Nat.blt o 11) (cond (Nat.beq o 9) (zfW9) fun _ => 0) (cond (Nat.blt o 12) (cond (Nat.beq o 11) (zfW11) fun _ => 0) (cond (Nat.beq o 12) (zfW12) fun _ => 0))))
def zfchk (o i : Nat) : Bool := match zfld o i with
  | none => true
  | some e => Nat.blt e.1 12 && (Nat.blt e.2.1 (zN e.1) && (Nat.beq (zft e.1 e.2.1) e.2.2 && decide (lw_tbl[zfWT o i]? = some (Cond.fieldLink (zcn o) i (zRX e.1) (zTX e.1 e.2.1).2.1 (zTX e.1 e.2.1).2.2.1))))
theorem zfchk_all : ∀ o, o < 17 → ∀ i, i < 600 → zfchk o i = true := by decide +kernel
theorem zfld_lt {o i : Nat} {e : Nat × Nat × Nat} (h : zfld o i = some e) : i < 600 := by
  unfold zfld at h
  cases hb : Nat.blt i 600 with
  | true => exact Nat.blt_eq.mp hb
  | false => rw [hb] at h; cases h
theorem zfld_ok {o i : Nat} {e : Nat × Nat × Nat} (ho : o < 17) (h : zfld o i = some e) : e.1 < 12 ∧ e.2.1 < zN e.1 ∧ zft e.1 e.2.1 = e.2.2 ∧ Cond.fieldLink (zcn o) i (zRX e.1) (zTX e.1 e.2.1).2.1 (zTX e.1 e.2.1).2.2.1 ∈ zW0 := by
  have hc := zfchk_all o ho i (zfld_lt h)
  unfold zfchk at hc
  rw [h] at hc
  simp only [Bool.and_eq_true, decide_eq_true_eq] at hc
  exact ⟨Nat.blt_eq.mp hc.1, Nat.blt_eq.mp hc.2.1, Nat.eq_of_beq_eq_true hc.2.2.1, zin _ hc.2.2.2 rfl⟩
theorem zown_lt : ∀ k, k < 389 → zown k < 17 := by decide +kernel
def zlchk (o i : Nat) : Bool := match zmth o i with
  | none => true
  | some e => cond (Nat.beq e.2 6 || (Nat.beq e.2 7 || (Nat.beq e.2 8 || Nat.blt 19 e.2))) true (Nat.blt e.1 388 && (zLL.any (fun q => Nat.beq q.1 o && (Nat.beq q.2.1 i && (Nat.beq q.2.2.1 e.1 && Nat.beq q.2.2.2 e.2))) && (Nat.beq (zkd e.1) (e.2 % 5) && ((Nat.beq e.2 0 || (Nat.beq e.2 1 || (Nat.beq e.2 2 || (Nat.beq e.2 5 || (Nat.beq e.2 11 || Nat.beq e.2 12))))) && cond (Nat.beq (zown e.1) 14) false true))))
theorem zlchk_all : ∀ o, o < 17 → ∀ i, i < 600 → zlchk o i = true := by decide +kernel
theorem zmth_lt {o i : Nat} {e : Nat × Nat} (h : zmth o i = some e) : i < 600 := by
  unfold zmth at h
  cases hb : Nat.blt i 600 with
  | true => exact Nat.blt_eq.mp hb
  | false => rw [hb] at h; cases h
theorem zbeqF {a b : Nat} (h : a ≠ b) : Nat.beq a b = false := by
  cases hb : Nat.beq a b with
  | false => rfl
  | true => exact absurd (Nat.eq_of_beq_eq_true hb) h
theorem zmth_ok {o i : Nat} {e : Nat × Nat} (ho : o < 17) (h : zmth o i = some e) (h6 : e.2 ≠ 6) (h7 : e.2 ≠ 7) (h8 : e.2 ≠ 8) (h9 : Nat.blt 19 e.2 = false) : e.1 < 388 ∧ zmlw o i e.1 e.2 ∈ lw_tbl ∧ zkd e.1 = e.2 % 5 ∧ (e.2 = 0 ∨ e.2 = 1 ∨ e.2 = 2 ∨ e.2 = 5 ∨ e.2 = 11 ∨ e.2 = 12) ∧ zown e.1 ≠ 14 := by
  have hc := zlchk_all o ho i (zmth_lt h)
  unfold zlchk at hc
  rw [h] at hc
  simp only [zbeqF h6, zbeqF h7, zbeqF h8, h9, Bool.or_false, cond_false, Bool.and_eq_true, List.any_eq_true] at hc
  obtain ⟨h1, ⟨q, hq, g1, g2, g3, g4⟩, h3, h4, h5⟩ := hc
  have r1 := Nat.eq_of_beq_eq_true g1
  have r2 := Nat.eq_of_beq_eq_true g2
  have r3 := Nat.eq_of_beq_eq_true g3
  have r4 := Nat.eq_of_beq_eq_true g4
  have hl := zLR q hq
  unfold zlf at hl
  rw [r1, r2, r3, r4] at hl
  refine ⟨Nat.blt_eq.mp h1, hl, Nat.eq_of_beq_eq_true h3, ?_, fun h14 => ?_⟩
  · simp only [Bool.or_eq_true, Nat.beq_eq] at h4
    omega
  · rw [h14] at h5
    cases h5

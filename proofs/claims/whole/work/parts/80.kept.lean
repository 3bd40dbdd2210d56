/-! ===== what reading a net leaves as it was (written by wip/whole/gen_c.py) ===== -/
/-- no part of what the model reads into -/
def zOff (p k : Nat) : Prop := ¬ ((p = 95 ∨ p = 96) ∧ k = 1) ∧ ¬ ((p = 97 ∨ p = 98 ∨ p = 101 ∨ p = 103 ∨ p = 104 ∨ p = 105) ∧ 12 ≤ k ∧ k < 24) ∧ ¬ (p = 99 ∧ 60 ≤ k ∧ k < 120) ∧ ¬ (p = 100 ∧ 144 ≤ k ∧ k < 288) ∧ ¬ (p = 93 ∧ (k = 2 ∨ k = 3 ∨ k = 4 ∨ k = 5 ∨ k = 6 ∨ k = 7 ∨ k = 8 ∨ k = 9 ∨ k = 12 ∨ k = 25 ∨ k = 26 ∨ k = 27))
theorem zof {w : zW} {p k q j : Nat} {x : Int} (h : ¬ (p = q ∧ k = j)) : zupd w q j x p k = w p k := by
  unfold zupd
  by_cases e : p = q
  · rw [if_pos e, if_neg fun z => h ⟨e, z⟩]
  · rw [if_neg e]
theorem zof1 {w : zW} {p k j : Nat} {x : Int} (o : zOff p k) (h : j = 4 ∨ j = 5 ∨ j = 6 ∨ j = 7 ∨ j = 8 ∨ j = 9 ∨ j = 12 ∨ j = 25 ∨ j = 26 ∨ j = 27 ∨ j = 2 ∨ j = 3) : zupd w 93 j x p k = w p k := zof fun q => o.2.2.2.2 ⟨q.1, by omega⟩
theorem zmgo_off {w : zW} {p k : Nat} (o : zOff p k) : zmgo w p k = w p k := by
  unfold zmgo zmgt zmgf
  rw [zof1 o (by omega), zof1 o (by omega), zof1 o (by omega), zof1 o (by omega), zof1 o (by omega)]
theorem zwr_off {w : zW} {x : Int} {p k : Nat} (o : zOff p k) : zwr w x p k = w p k := by
  unfold zwr
  rw [zof1 o (by omega), zof1 o (by omega)]
theorem zms_off {w : zW} {c : Int} {p k : Nat} (o : zOff p k) : zms w c p k = w p k := by
  rw [zms_e]
  split
  · split
    · exact zmgo_off o
    · exact zwr_off o
  · rfl
theorem zmnu_off {w : zW} {lo hi : Int} {p k : Nat} (o : zOff p k) : zmnu w lo hi p k = w p k := by
  rw [zmnu_e]
  split
  · split
    · split
      · exact zwr_off o
      · exact zmgo_off o
    · exact zwr_off o
  · rfl
theorem zgg_off {w : zW} {p k : Nat} (o : zOff p k) : zgg w p k = w p k := by
  rw [zgg_e]; split
  · exact zmgo_off o
  · rfl
theorem zchw_off {w : zW} {p k : Nat} (o : zOff p k) : zchw w p k = w p k := by
  rw [zchw_e]
  split
  · split
    · exact zwr_off o
    · split
      · exact zwr_off o
      · rfl
  · rfl
theorem zw3_off {w : zW} {c : Prop} {p k : Nat} (o : zOff p k) : zw3 w c p k = w p k := by
  by_cases g : w 93 8 = 0 ∧ c
  · rw [zw3_y g.1 g.2]; exact zwr_off o
  · rw [zw3_n g]
theorem zF0_off {w : zW} {p k : Nat} (o : zOff p k) : zF_0 w p k = w p k := by
  rw [zF_0_e]; split
  · exact zwr_off o
  · rfl
theorem zF4_off {w : zW} {p k : Nat} (o : zOff p k) : zF_4 w p k = w p k := by
  have e1 : zF_1 w p k = w p k := (zgg_off o).trans (zF0_off o)
  have e2 : zF_2 w p k = w p k := (zgg_off o).trans ((zchw_off o).trans e1)
  have e3 : zF_3 w p k = w p k := (zgg_off o).trans ((zw3_off o).trans ((zchw_off o).trans e2))
  exact (zw3_off o).trans ((zchw_off o).trans e3)
/-- a face is written only where it belongs -/
theorem zF4_rg {w : zW} (hc : 0 ≤ w 95 1 ∧ w 95 1 ≤ 12) (h6 : 0 ≤ w 96 1 ∧ w 96 1 ≤ 20) (g : zF_4 w 93 8 = 0) : w 96 1 < 20 ∧ (0 ≤ zch (zF_1 w) ∧ zch (zF_1 w) < 12) ∧ (0 ≤ zch (zF_2 w) ∧ zch (zF_2 w) < 12) ∧ 0 ≤ zch (zF_3 w) ∧ zch (zF_3 w) < 12 := by
  have a1 : 0 ≤ zch (zF_1 w) ∧ zch (zF_1 w) ≤ w 95 1 := zch_rg (w := zF_1 w) hc.1
  have a2 : 0 ≤ zch (zF_2 w) ∧ zch (zF_2 w) ≤ w 95 1 := zch_rg (w := zF_2 w) hc.1
  have a3 : 0 ≤ zch (zF_3 w) ∧ zch (zF_3 w) ≤ w 95 1 := zch_rg (w := zF_3 w) hc.1
  have q4 := zw3_8 (show zw3 (zchw (zF_3 w)) _ 93 8 = 0 from g)
  have c3 := zchw_8 q4.1
  have n3 : zch (zF_3 w) ≠ w 95 1 := c3.2.2
  have z3 := c3.1
  unfold zF_3 at z3
  rw [zgg_8] at z3
  have c2 := zchw_8 (zw3_8 z3).1
  have n2 : zch (zF_2 w) ≠ w 95 1 := c2.2.2
  have z2 := c2.1
  unfold zF_2 at z2
  rw [zgg_8] at z2
  have c1 := zchw_8 z2
  have n1 : zch (zF_1 w) ≠ w 95 1 := c1.2.2
  have z1 := c1.1
  unfold zF_1 at z1
  rw [zgg_8, zF_0_e] at z1
  have q0 : w 96 1 ≠ 20 := fun q0 => by
    rw [if_pos q0] at z1
    exact zwr_8 (by decide) z1
  exact ⟨by omega, by omega, by omega, by omega, by omega⟩
theorem zmF_off {w : zW} (hc : 0 ≤ w 95 1 ∧ w 95 1 ≤ 12) (h6 : 0 ≤ w 96 1 ∧ w 96 1 ≤ 20) {p k : Nat} (o : zOff p k) : zmF w p k = w p k := by
  by_cases g : zF_4 w 93 8 = 0
  · obtain ⟨r0, r1, r2, r3⟩ := zF4_rg hc h6 g
    rw [show zmF w = _ from if_pos g]
    unfold zmAf
    have o1 := o.1
    have o3 := o.2.2.1
    have o4 := o.2.2.2.1
    rw [zof (by omega), zof (by omega), zof (by omega), zof (by omega), zof (by omega), zof (by omega), zof (by omega), zmgo_off o]
    exact zF4_off o
  · rw [show zmF w = _ from if_neg g]
    exact zF4_off o
theorem zmC_off {w : zW} (hc : 0 ≤ w 95 1 ∧ w 95 1 ≤ 12) {p k : Nat} (o : zOff p k) : zmC w p k = w p k := by
  have o1 := o.1
  have o2 := o.2.1
  unfold zmC
  by_cases q0 : w 95 1 = 12
  · rw [if_pos q0]
    by_cases q1 : w 93 6 = 4
    · rw [if_pos q1]
      skip
      repeat (first | rw [zmgo_off o] | rw [zmnu_off o] | rw [zof1 o (by omega)] | rw [zof (show ¬ (p = 95 ∧ k = 1) by omega)] | rw [zof (show ¬ (p = 98 ∧ k = (12 + w 95 1).toNat) by omega)] | rw [zof (show ¬ (p = 97 ∧ k = (12 + w 95 1).toNat) by omega)] | rw [zof (show ¬ (p = 101 ∧ k = (12 + w 95 1).toNat) by omega)])
    · rw [if_neg q1]
      skip
      repeat (first | rw [zmgo_off o] | rw [zmnu_off o] | rw [zof1 o (by omega)] | rw [zof (show ¬ (p = 95 ∧ k = 1) by omega)] | rw [zof (show ¬ (p = 98 ∧ k = (12 + w 95 1).toNat) by omega)] | rw [zof (show ¬ (p = 97 ∧ k = (12 + w 95 1).toNat) by omega)] | rw [zof (show ¬ (p = 101 ∧ k = (12 + w 95 1).toNat) by omega)])
  · rw [if_neg q0]
    by_cases q2 : zmNi (((zmgo w) 93 6)) (((zmgo w) 93 12)) = 0
    · rw [if_pos q2]
      skip
      repeat (first | rw [zmgo_off o] | rw [zmnu_off o] | rw [zof1 o (by omega)] | rw [zof (show ¬ (p = 95 ∧ k = 1) by omega)] | rw [zof (show ¬ (p = 98 ∧ k = (12 + w 95 1).toNat) by omega)] | rw [zof (show ¬ (p = 97 ∧ k = (12 + w 95 1).toNat) by omega)] | rw [zof (show ¬ (p = 101 ∧ k = (12 + w 95 1).toNat) by omega)])
    · rw [if_neg q2]
      by_cases q3 : znd (w 101) ((w 95 1)) (((zmgo w) 93 12)) 12 < w 95 1
      · rw [if_pos q3]
        by_cases q4 : (zmgo w) 93 6 = 4
        · rw [if_pos q4]
          skip
          repeat (first | rw [zmgo_off o] | rw [zmnu_off o] | rw [zof1 o (by omega)] | rw [zof (show ¬ (p = 95 ∧ k = 1) by omega)] | rw [zof (show ¬ (p = 98 ∧ k = (12 + w 95 1).toNat) by omega)] | rw [zof (show ¬ (p = 97 ∧ k = (12 + w 95 1).toNat) by omega)] | rw [zof (show ¬ (p = 101 ∧ k = (12 + w 95 1).toNat) by omega)])
        · rw [if_neg q4]
          skip
          repeat (first | rw [zmgo_off o] | rw [zmnu_off o] | rw [zof1 o (by omega)] | rw [zof (show ¬ (p = 95 ∧ k = 1) by omega)] | rw [zof (show ¬ (p = 98 ∧ k = (12 + w 95 1).toNat) by omega)] | rw [zof (show ¬ (p = 97 ∧ k = (12 + w 95 1).toNat) by omega)] | rw [zof (show ¬ (p = 101 ∧ k = (12 + w 95 1).toNat) by omega)])
      · rw [if_neg q3]
        by_cases q5 : (zmgo (zupd (zupd (zupd (zmgo w) 101 (12 + w 95 1).toNat ((zmgo w) 93 12)) 97 (12 + w 95 1).toNat 360) 98 (12 + w 95 1).toNat 0)) 93 6 = 1
        · rw [if_pos q5]
          by_cases q6 : (zmgo (zupd (zupd (zupd (zmgo w) 101 (12 + w 95 1).toNat ((zmgo w) 93 12)) 97 (12 + w 95 1).toNat 360) 98 (12 + w 95 1).toNat 0)) 93 12 = 605169331
          · rw [if_pos q6]
            skip
            repeat (first | rw [zmgo_off o] | rw [zmnu_off o] | rw [zof1 o (by omega)] | rw [zof (show ¬ (p = 95 ∧ k = 1) by omega)] | rw [zof (show ¬ (p = 98 ∧ k = (12 + w 95 1).toNat) by omega)] | rw [zof (show ¬ (p = 97 ∧ k = (12 + w 95 1).toNat) by omega)] | rw [zof (show ¬ (p = 101 ∧ k = (12 + w 95 1).toNat) by omega)])
          · rw [if_neg q6]
            by_cases q7 : (zmgo (zupd (zupd (zupd (zmgo w) 101 (12 + w 95 1).toNat ((zmgo w) 93 12)) 97 (12 + w 95 1).toNat 360) 98 (12 + w 95 1).toNat 0)) 93 12 = 1514885
            · rw [if_pos q7]
              skip
              repeat (first | rw [zmgo_off o] | rw [zmnu_off o] | rw [zof1 o (by omega)] | rw [zof (show ¬ (p = 95 ∧ k = 1) by omega)] | rw [zof (show ¬ (p = 98 ∧ k = (12 + w 95 1).toNat) by omega)] | rw [zof (show ¬ (p = 97 ∧ k = (12 + w 95 1).toNat) by omega)] | rw [zof (show ¬ (p = 101 ∧ k = (12 + w 95 1).toNat) by omega)])
            · rw [if_neg q7]
              skip
              repeat (first | rw [zmgo_off o] | rw [zmnu_off o] | rw [zof1 o (by omega)] | rw [zof (show ¬ (p = 95 ∧ k = 1) by omega)] | rw [zof (show ¬ (p = 98 ∧ k = (12 + w 95 1).toNat) by omega)] | rw [zof (show ¬ (p = 97 ∧ k = (12 + w 95 1).toNat) by omega)] | rw [zof (show ¬ (p = 101 ∧ k = (12 + w 95 1).toNat) by omega)])
        · rw [if_neg q5]
          skip
          repeat (first | rw [zmgo_off o] | rw [zmnu_off o] | rw [zof1 o (by omega)] | rw [zof (show ¬ (p = 95 ∧ k = 1) by omega)] | rw [zof (show ¬ (p = 98 ∧ k = (12 + w 95 1).toNat) by omega)] | rw [zof (show ¬ (p = 97 ∧ k = (12 + w 95 1).toNat) by omega)] | rw [zof (show ¬ (p = 101 ∧ k = (12 + w 95 1).toNat) by omega)])
theorem zmT_off {w : zW} (hc : 0 ≤ w 95 1 ∧ w 95 1 ≤ 12) (h6 : 0 ≤ w 96 1 ∧ w 96 1 ≤ 20) {p k : Nat} (o : zOff p k) : zmT w p k = w p k := by
  unfold zmT
  by_cases q0 : w 93 6 = 1
  · rw [if_pos q0]
    by_cases q1 : w 93 12 = 110693765
    · rw [if_pos q1]
      rw [zms_off o]; exact zmC_off hc o
    · rw [if_neg q1]
      by_cases q2 : w 93 12 = 197733
      · rw [if_pos q2]
        rw [zms_off o]; exact zmF_off hc h6 o
      · rw [if_neg q2]
        by_cases q3 : w 93 12 = 20022661
        · rw [if_pos q3]
          by_cases q4 : w 93 25 = 0
          · rw [if_pos q4]
            rw [zms_off o]
            repeat (first | rw [zmgo_off o] | rw [zmnu_off o] | rw [zof1 o (by omega)])
          · rw [if_neg q4]
            by_cases q5 : w 93 6 = 4
            · rw [if_pos q5]
              rw [zms_off o]
              repeat (first | rw [zmgo_off o] | rw [zmnu_off o] | rw [zof1 o (by omega)])
            · rw [if_neg q5]
              rw [zms_off o]
              repeat (first | rw [zmgo_off o] | rw [zmnu_off o] | rw [zof1 o (by omega)])
        · rw [if_neg q3]
          rw [zms_off o]
          repeat (first | rw [zmgo_off o] | rw [zmnu_off o] | rw [zof1 o (by omega)])
  · rw [if_neg q0]
    rw [zms_off o]
    repeat (first | rw [zmgo_off o] | rw [zmnu_off o] | rw [zof1 o (by omega)])
theorem zmN_off {w : zW} (hc : 0 ≤ w 95 1 ∧ w 95 1 ≤ 12) (h6 : 0 ≤ w 96 1 ∧ w 96 1 ≤ 20) {p k : Nat} (o : zOff p k) : zmN' w p k = w p k := by
  unfold zmN'
  rw [zof1 o (by omega)]
  exact zmT_off hc h6 o
theorem zML_off {p k : Nat} (o : zOff p k) : ∀ (m : Nat) (w : zW), zMe m w → zML m w p k = w p k := by
  intro m
  induction m with
  | zero => intro w _; rfl
  | succ m ih =>
    intro w h
    have e : zML (m + 1) w = if w 93 8 = 0 ∧ w 93 6 ≠ 0 then zML m (zmN' w) else w := rfl
    rw [e]
    by_cases g : w 93 8 = 0 ∧ w 93 6 ≠ 0
    · rw [if_pos g]
      obtain ⟨⟨⟨_, p2, p3⟩, _⟩, p5⟩ := h g
      rw [ih _ p5]
      exact zmN_off p2 p3 o
    · rw [if_neg g]
theorem zmo0_off {w : zW} (h0 : w 95 0 = 0 → ∀ k : Nat, k < 144 → w 100 k = -1) {p k : Nat} (o : zOff p k) (o2 : ¬ (p = 102 ∧ k = 1)) : zmo0 w p k = w p k := by
  have o1 := o.1
  have o4 := o.2.2.2.1
  unfold zmo0 zclm
  by_cases e : p = 100
  · rw [e]
    show zclf _ 144 _ k = w 100 k
    unfold zclf
    rw [if_neg (by omega)]
    by_cases g : w 95 0 = 0
    · rw [if_pos (show zupd (zupd (zupd (zmgo (zupd (zupd (zupd (zupd (zupd w 93 3 (w 93 2)) 93 2 0) 93 4 0) 93 8 0) 93 9 (-1))) 93 25 0) 93 26 1000) 93 27 0 95 0 = 0 from g)]
      by_cases g2 : (k : Int) < 144
      · rw [if_pos g2]; exact (h0 g k (by omega)).symm
      · rw [if_neg g2]; rfl
    · rw [if_neg (show ¬ zupd (zupd (zupd (zmgo (zupd (zupd (zupd (zupd (zupd w 93 3 (w 93 2)) 93 2 0) 93 4 0) 93 8 0) 93 9 (-1))) 93 25 0) 93 26 1000) 93 27 0 95 0 = 0 from g), if_neg (by omega)]; rfl
  · rw [zfill_no e, zof (by omega), zof (by omega), zof (by omega), zof1 o (by omega), zof1 o (by omega), zof1 o (by omega), zmgo_off o, zof1 o (by omega), zof1 o (by omega), zof1 o (by omega), zof1 o (by omega), zof1 o (by omega)]
theorem zRL_ne {p : Nat} (h : p ≠ 3 ∧ ¬ (13 ≤ p ∧ p ≤ 19)) : ∀ (m : Nat) (w : zW), (zRL m w).2 p = w p := by
  intro m
  induction m with
  | zero => intro w; rfl
  | succ m ih =>
    intro w
    have e : zRL (m + 1) w = if w 3 1 = -1 then (1, w) else if (zrN w).1 = 0 then (0, (zrN w).2) else zRL m (zrN' w) := rfl
    have en : (zrN w).2 p = w p := zrN_ne w (by omega) (by omega) (by omega) (by omega) (by omega) (by omega) (by omega) (by omega)
    rw [e]
    split
    · rfl
    · split
      · exact en
      · rw [ih]
        unfold zrN'
        rw [zune (by omega)]
        exact en
theorem zcl0_ne {w : zW} {p : Nat} (h : p ≠ 3 ∧ ¬ (13 ≤ p ∧ p ≤ 19)) : zcl0 w p = w p := by
  unfold zcl0 zsf
  rw [zad_ne (by omega), zune (by omega), zune (by omega), zune (by omega), zune (by omega), zune (by omega), zfill_no (by omega), zune (by omega), zune (by omega), zune (by omega)]

/-! ===== what reading leaves of the invariant (written by wip/whole/gen_c.py) ===== -/
def zO2 (p k : Nat) : Prop := p = 93 ∧ k = 2
theorem zof2 {w : zW} {p k j : Nat} {x : Int} (o : zO2 p k) (h : j = 4 ∨ j = 5 ∨ j = 6 ∨ j = 7 ∨ j = 8 ∨ j = 9 ∨ j = 12 ∨ j = 25 ∨ j = 26 ∨ j = 27 ∨ j = 3) : zupd w 93 j x p k = w p k := zof fun q => by have := o.2; omega
theorem zmgo_o2 {w : zW} {p k : Nat} (o : zO2 p k) : zmgo w p k = w p k := by
  unfold zmgo zmgt zmgf
  rw [zof2 o (by omega), zof2 o (by omega), zof2 o (by omega), zof2 o (by omega), zof2 o (by omega)]
theorem zwr_o2 {w : zW} {x : Int} {p k : Nat} (o : zO2 p k) : zwr w x p k = w p k := by
  unfold zwr
  rw [zof2 o (by omega), zof2 o (by omega)]
theorem zms_o2 {w : zW} {c : Int} {p k : Nat} (o : zO2 p k) : zms w c p k = w p k := by
  rw [zms_e]
  split
  · split
    · exact zmgo_o2 o
    · exact zwr_o2 o
  · rfl
theorem zmnu_o2 {w : zW} {lo hi : Int} {p k : Nat} (o : zO2 p k) : zmnu w lo hi p k = w p k := by
  rw [zmnu_e]
  split
  · split
    · split
      · exact zwr_o2 o
      · exact zmgo_o2 o
    · exact zwr_o2 o
  · rfl
theorem zgg_o2 {w : zW} {p k : Nat} (o : zO2 p k) : zgg w p k = w p k := by
  rw [zgg_e]; split
  · exact zmgo_o2 o
  · rfl
theorem zchw_o2 {w : zW} {p k : Nat} (o : zO2 p k) : zchw w p k = w p k := by
  rw [zchw_e]
  split
  · split
    · exact zwr_o2 o
    · split
      · exact zwr_o2 o
      · rfl
  · rfl
theorem zw3_o2 {w : zW} {c : Prop} {p k : Nat} (o : zO2 p k) : zw3 w c p k = w p k := by
  by_cases g : w 93 8 = 0 ∧ c
  · rw [zw3_y g.1 g.2]; exact zwr_o2 o
  · rw [zw3_n g]
theorem zF0_o2 {w : zW} {p k : Nat} (o : zO2 p k) : zF_0 w p k = w p k := by
  rw [zF_0_e]; split
  · exact zwr_o2 o
  · rfl
theorem zF4_o2 {w : zW} {p k : Nat} (o : zO2 p k) : zF_4 w p k = w p k := by
  have e1 : zF_1 w p k = w p k := (zgg_o2 o).trans (zF0_o2 o)
  have e2 : zF_2 w p k = w p k := (zgg_o2 o).trans ((zchw_o2 o).trans e1)
  have e3 : zF_3 w p k = w p k := (zgg_o2 o).trans ((zw3_o2 o).trans ((zchw_o2 o).trans e2))
  exact (zw3_o2 o).trans ((zchw_o2 o).trans e3)
theorem zmF_o2 {w : zW} (hc : 0 ≤ w 95 1 ∧ w 95 1 ≤ 12) (h6 : 0 ≤ w 96 1 ∧ w 96 1 ≤ 20) {p k : Nat} (o : zO2 p k) : zmF w p k = w p k := by
  by_cases g : zF_4 w 93 8 = 0
  · obtain ⟨r0, r1, r2, r3⟩ := zF4_rg hc h6 g
    rw [show zmF w = _ from if_pos g]
    unfold zmAf
    have o1 : p = 93 ∧ k = 2 := o
    rw [zof (by omega), zof (by omega), zof (by omega), zof (by omega), zof (by omega), zof (by omega), zof (by omega), zmgo_o2 o]
    exact zF4_o2 o
  · rw [show zmF w = _ from if_neg g]
    exact zF4_o2 o
theorem zmC_o2 {w : zW} (hc : 0 ≤ w 95 1 ∧ w 95 1 ≤ 12) {p k : Nat} (o : zO2 p k) : zmC w p k = w p k := by
  have o1 : p = 93 ∧ k = 2 := o
  unfold zmC
  by_cases q0 : w 95 1 = 12
  · rw [if_pos q0]
    by_cases q1 : w 93 6 = 4
    · rw [if_pos q1]
      skip
      repeat (first | rw [zmgo_o2 o] | rw [zmnu_o2 o] | rw [zof2 o (by omega)] | rw [zof (show ¬ (p = 95 ∧ k = 1) by omega)] | rw [zof (show ¬ (p = 98 ∧ k = (12 + w 95 1).toNat) by omega)] | rw [zof (show ¬ (p = 97 ∧ k = (12 + w 95 1).toNat) by omega)] | rw [zof (show ¬ (p = 101 ∧ k = (12 + w 95 1).toNat) by omega)])
    · rw [if_neg q1]
      skip
      repeat (first | rw [zmgo_o2 o] | rw [zmnu_o2 o] | rw [zof2 o (by omega)] | rw [zof (show ¬ (p = 95 ∧ k = 1) by omega)] | rw [zof (show ¬ (p = 98 ∧ k = (12 + w 95 1).toNat) by omega)] | rw [zof (show ¬ (p = 97 ∧ k = (12 + w 95 1).toNat) by omega)] | rw [zof (show ¬ (p = 101 ∧ k = (12 + w 95 1).toNat) by omega)])
  · rw [if_neg q0]
    by_cases q2 : zmNi (((zmgo w) 93 6)) (((zmgo w) 93 12)) = 0
    · rw [if_pos q2]
      skip
      repeat (first | rw [zmgo_o2 o] | rw [zmnu_o2 o] | rw [zof2 o (by omega)] | rw [zof (show ¬ (p = 95 ∧ k = 1) by omega)] | rw [zof (show ¬ (p = 98 ∧ k = (12 + w 95 1).toNat) by omega)] | rw [zof (show ¬ (p = 97 ∧ k = (12 + w 95 1).toNat) by omega)] | rw [zof (show ¬ (p = 101 ∧ k = (12 + w 95 1).toNat) by omega)])
    · rw [if_neg q2]
      by_cases q3 : znd (w 101) ((w 95 1)) (((zmgo w) 93 12)) 12 < w 95 1
      · rw [if_pos q3]
        by_cases q4 : (zmgo w) 93 6 = 4
        · rw [if_pos q4]
          skip
          repeat (first | rw [zmgo_o2 o] | rw [zmnu_o2 o] | rw [zof2 o (by omega)] | rw [zof (show ¬ (p = 95 ∧ k = 1) by omega)] | rw [zof (show ¬ (p = 98 ∧ k = (12 + w 95 1).toNat) by omega)] | rw [zof (show ¬ (p = 97 ∧ k = (12 + w 95 1).toNat) by omega)] | rw [zof (show ¬ (p = 101 ∧ k = (12 + w 95 1).toNat) by omega)])
        · rw [if_neg q4]
          skip
          repeat (first | rw [zmgo_o2 o] | rw [zmnu_o2 o] | rw [zof2 o (by omega)] | rw [zof (show ¬ (p = 95 ∧ k = 1) by omega)] | rw [zof (show ¬ (p = 98 ∧ k = (12 + w 95 1).toNat) by omega)] | rw [zof (show ¬ (p = 97 ∧ k = (12 + w 95 1).toNat) by omega)] | rw [zof (show ¬ (p = 101 ∧ k = (12 + w 95 1).toNat) by omega)])
      · rw [if_neg q3]
        by_cases q5 : (zmgo (zupd (zupd (zupd (zmgo w) 101 (12 + w 95 1).toNat ((zmgo w) 93 12)) 97 (12 + w 95 1).toNat 360) 98 (12 + w 95 1).toNat 0)) 93 6 = 1
        · rw [if_pos q5]
          by_cases q6 : (zmgo (zupd (zupd (zupd (zmgo w) 101 (12 + w 95 1).toNat ((zmgo w) 93 12)) 97 (12 + w 95 1).toNat 360) 98 (12 + w 95 1).toNat 0)) 93 12 = 605169331
          · rw [if_pos q6]
            skip
            repeat (first | rw [zmgo_o2 o] | rw [zmnu_o2 o] | rw [zof2 o (by omega)] | rw [zof (show ¬ (p = 95 ∧ k = 1) by omega)] | rw [zof (show ¬ (p = 98 ∧ k = (12 + w 95 1).toNat) by omega)] | rw [zof (show ¬ (p = 97 ∧ k = (12 + w 95 1).toNat) by omega)] | rw [zof (show ¬ (p = 101 ∧ k = (12 + w 95 1).toNat) by omega)])
          · rw [if_neg q6]
            by_cases q7 : (zmgo (zupd (zupd (zupd (zmgo w) 101 (12 + w 95 1).toNat ((zmgo w) 93 12)) 97 (12 + w 95 1).toNat 360) 98 (12 + w 95 1).toNat 0)) 93 12 = 1514885
            · rw [if_pos q7]
              skip
              repeat (first | rw [zmgo_o2 o] | rw [zmnu_o2 o] | rw [zof2 o (by omega)] | rw [zof (show ¬ (p = 95 ∧ k = 1) by omega)] | rw [zof (show ¬ (p = 98 ∧ k = (12 + w 95 1).toNat) by omega)] | rw [zof (show ¬ (p = 97 ∧ k = (12 + w 95 1).toNat) by omega)] | rw [zof (show ¬ (p = 101 ∧ k = (12 + w 95 1).toNat) by omega)])
            · rw [if_neg q7]
              skip
              repeat (first | rw [zmgo_o2 o] | rw [zmnu_o2 o] | rw [zof2 o (by omega)] | rw [zof (show ¬ (p = 95 ∧ k = 1) by omega)] | rw [zof (show ¬ (p = 98 ∧ k = (12 + w 95 1).toNat) by omega)] | rw [zof (show ¬ (p = 97 ∧ k = (12 + w 95 1).toNat) by omega)] | rw [zof (show ¬ (p = 101 ∧ k = (12 + w 95 1).toNat) by omega)])
        · rw [if_neg q5]
          skip
          repeat (first | rw [zmgo_o2 o] | rw [zmnu_o2 o] | rw [zof2 o (by omega)] | rw [zof (show ¬ (p = 95 ∧ k = 1) by omega)] | rw [zof (show ¬ (p = 98 ∧ k = (12 + w 95 1).toNat) by omega)] | rw [zof (show ¬ (p = 97 ∧ k = (12 + w 95 1).toNat) by omega)] | rw [zof (show ¬ (p = 101 ∧ k = (12 + w 95 1).toNat) by omega)])
theorem zmT_o2 {w : zW} (hc : 0 ≤ w 95 1 ∧ w 95 1 ≤ 12) (h6 : 0 ≤ w 96 1 ∧ w 96 1 ≤ 20) {p k : Nat} (o : zO2 p k) : zmT w p k = w p k := by
  unfold zmT
  by_cases q0 : w 93 6 = 1
  · rw [if_pos q0]
    by_cases q1 : w 93 12 = 110693765
    · rw [if_pos q1]
      rw [zms_o2 o]; exact zmC_o2 hc o
    · rw [if_neg q1]
      by_cases q2 : w 93 12 = 197733
      · rw [if_pos q2]
        rw [zms_o2 o]; exact zmF_o2 hc h6 o
      · rw [if_neg q2]
        by_cases q3 : w 93 12 = 20022661
        · rw [if_pos q3]
          by_cases q4 : w 93 25 = 0
          · rw [if_pos q4]
            rw [zms_o2 o]
            repeat (first | rw [zmgo_o2 o] | rw [zmnu_o2 o] | rw [zof2 o (by omega)])
          · rw [if_neg q4]
            by_cases q5 : w 93 6 = 4
            · rw [if_pos q5]
              rw [zms_o2 o]
              repeat (first | rw [zmgo_o2 o] | rw [zmnu_o2 o] | rw [zof2 o (by omega)])
            · rw [if_neg q5]
              rw [zms_o2 o]
              repeat (first | rw [zmgo_o2 o] | rw [zmnu_o2 o] | rw [zof2 o (by omega)])
        · rw [if_neg q3]
          rw [zms_o2 o]
          repeat (first | rw [zmgo_o2 o] | rw [zmnu_o2 o] | rw [zof2 o (by omega)])
  · rw [if_neg q0]
    rw [zms_o2 o]
    repeat (first | rw [zmgo_o2 o] | rw [zmnu_o2 o] | rw [zof2 o (by omega)])
theorem zmN_o2 {w : zW} (hc : 0 ≤ w 95 1 ∧ w 95 1 ≤ 12) (h6 : 0 ≤ w 96 1 ∧ w 96 1 ≤ 20) {p k : Nat} (o : zO2 p k) : zmN' w p k = w p k := by
  unfold zmN'
  rw [zof2 o (by omega)]
  exact zmT_o2 hc h6 o
theorem zML_o2 {p k : Nat} (o : zO2 p k) : ∀ (m : Nat) (w : zW), zMe m w → zML m w p k = w p k := by
  intro m
  induction m with
  | zero => intro w _; rfl
  | succ m ih =>
    intro w h
    have e : zML (m + 1) w = if w 93 8 = 0 ∧ w 93 6 ≠ 0 then zML m (zmN' w) else w := rfl
    rw [e]
    by_cases g : w 93 8 = 0 ∧ w 93 6 ≠ 0
    · rw [if_pos g]
      obtain ⟨⟨⟨_, p2, p3⟩, _⟩, p5⟩ := h g
      rw [ih _ p5]
      exact zmN_o2 p2 p3 o
    · rw [if_neg g]
/-- rows transported from one area to another -/
theorem zrw_tq {T T' : Int → Int → Int} (h : zTeq T T') {n c : Int} (hT : zTab T n) (hc : 0 ≤ c ∧ c < 12) (r : zRw1 T n c) : (∀ i : Int, 0 ≤ i → i ≤ zNb T n c → 0 < zNb T n c → zrw T n c i = zrw T' n c i) := by
  intro i i0 i1 i2
  have f0 := r.2.1 0 (by omega) i2
  have q := zTq_rw h hT hc (by exact ⟨f0.1, f0.2.1⟩) i.toNat fun j j0 j1 => by
    have := (r.2.1 j (by omega) (by omega)).1
    omega
  rw [show ((i.toNat : Nat) : Int) = i by omega] at q
  exact q
theorem zRw1_tq {T T' : Int → Int → Int} (h : zTeq T T') {n c : Int} (hT : zTab T n) (hc : 0 ≤ c ∧ c < 12) (r : zRw1 T n c) : zRw1 T' n c := by
  have hn := hT.2.1
  have nb := zTq_nb h hn hc
  have rw_ := zrw_tq h hT hc r
  obtain ⟨r1, r2, r3, r4, r5⟩ := r
  refine ⟨by rw [← nb]; exact r1, fun i i0 i1 => ?_, fun p => ?_, fun i j i0 ij j1 => ?_, fun a a0 a1 z => ?_⟩
  · rw [← nb] at i1
    have q := r2 i i0 i1
    rw [← rw_ i i0 (by omega) (by omega)]
    exact ⟨q.1, q.2.1, fun z => q.2.2 ((zTq_zap h hc ⟨q.1, by omega⟩).mpr z)⟩
  · rw [← nb] at p ⊢
    rw [← rw_ _ (by omega) (Int.le_refl _) p, r3 p, zTq_kd h hn hc, zTq_fs h hn hc]
  · rw [← nb] at j1
    rw [← rw_ i i0 (by omega) (by omega), ← rw_ j (by omega) (by omega) (by omega)]
    exact r4 i j i0 ij j1
  · obtain ⟨i, i0, i1, e⟩ := r5 a a0 a1 fun y => z ((zTq_zap h hc ⟨a0, by omega⟩).mp y)
    exact ⟨i, i0, by rw [← nb]; exact i1, by rw [← rw_ i i0 (by omega) (by omega)]; exact e⟩
theorem zNet_tr {q o q' o' : Nat} {w v : zW} (h : zNet q o w ∧ zRow q o w) (e0 : v q' 0 = w q 0) (e1 : v q' 1 = w q 1)
    (c1 : ∀ k : Nat, k < 12 → v (q' + 1) k = w (q + 1) k) (c2 : ∀ k : Nat, k < 12 → v (q' + 2) k = w (q + 2) k) (c4 : ∀ k : Nat, k < 60 → v (q' + 4) k = w (q + 4) k) (c5 : ∀ k : Nat, k < 144 → v (q' + 5) k = w (q + 5) k) (c6 : ∀ k : Nat, k < 144 → v (q' + 6) k = w (q + 6) k) (c7 : ∀ k : Nat, k < 12 → v (q' + 7) k = w (q + 7) k) (c8 : ∀ k : Nat, k < 12 → v (q' + 8) k = w (q + 8) k)
    (m5 : v 95 o' = w 95 o) (m6 : v 96 o' = w 96 o) (m7 : ∀ c : Int, 0 ≤ c → c < 12 → v 97 (12 * (o' : Int) + c).toNat = w 97 (12 * (o : Int) + c).toNat) (m1 : ∀ c : Int, 0 ≤ c → c < 12 → v 101 (12 * (o' : Int) + c).toNat = w 101 (12 * (o : Int) + c).toNat)
    (m9 : ∀ k : Int, 0 ≤ k → k < 60 → v 99 (60 * (o' : Int) + k).toNat = w 99 (60 * (o : Int) + k).toNat) (m0 : ∀ k : Int, 0 ≤ k → k < 144 → v 100 (144 * (o' : Int) + k).toNat = w 100 (144 * (o : Int) + k).toNat) : zNet q' o' v ∧ zRow q' o' v := by
  have hT := h.1.tab
  obtain ⟨⟨⟨a1, a2, a3, a4, a5, a6⟩, hd, hk, hf, hs⟩, hr⟩ := h
  have co : ∀ k : Int, 0 ≤ k → k < 60 → zco v o' k = zco w o k := fun k k0 k1 => m9 k k0 k1
  have fw : ∀ a b : Int, 0 ≤ a → a < 12 → 0 ≤ b → b < 12 → zfw v o' a b = zfw w o a b := fun a b a0 a1 b0 b1 => by
    have := m0 (12 * a + b) (by omega) (by omega)
    unfold zfw
    rw [Int.add_assoc, this, Int.add_assoc]
  have T : zTeq (zfw w o) (zfw v o') := fun x y x0 x1 y0 y1 => (fw x y x0 x1 y0 y1).symm
  refine ⟨⟨⟨by rw [e0, m5]; exact a1, by rw [e1, m6]; exact a2, by rw [m5]; exact a3, by rw [m5]; exact a4, by rw [m6]; exact a5, by rw [m6]; exact a6⟩, fun c c0 c1' => ?_, fun k k0 k1 => ?_, fun f i f0 f1 i0 i1 => ?_, fun a b a0 a1 b0 b1 => ?_⟩, fun c c0 c1' => ?_⟩
  · rw [m5] at c1'
    rw [c1 _ (by omega), c2 _ (by omega), m7 c c0 (by omega), m1 c c0 (by omega)]
    exact hd c c0 c1'
  · rw [m6] at k1
    rw [co k k0 (by omega), c4 _ (by omega), m5]
    exact hk k k0 k1
  · rw [m6] at f1
    have q := hf f i f0 f1 i0 i1
    have k1 := hk (3 * f + i) (by omega) (by omega)
    have k2 := hk (3 * f + (i + 1) % 3) (by omega) (by omega)
    rw [co (3 * f + i) (by omega) (by omega), co (3 * f + (i + 1) % 3) (by omega) (by omega), co (3 * f + (i + 2) % 3) (by omega) (by omega), fw _ _ k1.2.1 (by omega) k2.2.1 (by omega), c5 _ (by omega)]
    exact q
  · rw [c5 _ (by omega), fw a b a0 a1 b0 b1]
    rcases hs a b a0 a1 b0 b1 with q | ⟨f, i, f0, f1, i0, i1, x, y⟩
    · exact Or.inl q
    · exact Or.inr ⟨f, i, f0, by rw [m6]; exact f1, i0, i1, by rw [co _ (by omega) (by omega)]; exact x, by rw [co _ (by omega) (by omega)]; exact y⟩
  · rw [m5] at c1'
    have hc : 0 ≤ c ∧ c < 12 := ⟨c0, by omega⟩
    obtain ⟨⟨r1, r2, r3⟩, r4⟩ := hr c c0 c1'
    have nb := zTq_nb T a4 hc
    have kd := zTq_kd T a4 hc
    have rw_ := zrw_tq T hT hc r4
    have rg := r4.1
    rw [m5]
    refine ⟨⟨by rw [c7 _ (by omega), r1, nb], by rw [c8 _ (by omega), r2, kd], fun i i0 i1 => ?_⟩, zRw1_tq T hT hc r4⟩
    rw [← nb] at i1
    rw [c6 _ (by omega), r3 i i0 i1]
    exact rw_ i i0 (by omega) (by omega)
/-- the model's part that reading leaves -/
def zKp (v w : zW) : Prop := (∀ k, k = 24 ∨ k = 31 ∨ k = 44 ∨ k = 45 → v 93 k = w 93 k) ∧ (∀ p k, (p = 95 ∨ p = 96 ∨ p = 102) → k ≠ 1 → v p k = w p k) ∧ (∀ p k, (p = 97 ∨ p = 98 ∨ p = 101 ∨ p = 103 ∨ p = 104 ∨ p = 105) → (k < 12 ∨ 24 ≤ k) → v p k = w p k) ∧ (∀ k, (k < 60 ∨ 120 ≤ k) → v 99 k = w 99 k) ∧ (∀ k, (k < 144 ∨ 288 ≤ k) → v 100 k = w 100 k) ∧ v 108 = w 108 ∧ v 115 = w 115
theorem zKp.net {v w : zW} (h : zKp v w) {q o : Nat} (ho : o = 0 ∨ o = 2) (e : ∀ p, q ≤ p → p < q + 9 → v p = w p) (g : zNet q o w ∧ zRow q o w) : zNet q o v ∧ zRow q o v := by
  obtain ⟨k1, k2, k3, k4, k5, k6, k7⟩ := h
  exact zNet_tr g (by rw [e q (by omega) (by omega)]) (by rw [e q (by omega) (by omega)]) (fun k _ => by rw [e _ (by omega) (by omega)]) (fun k _ => by rw [e _ (by omega) (by omega)]) (fun k _ => by rw [e _ (by omega) (by omega)]) (fun k _ => by rw [e _ (by omega) (by omega)]) (fun k _ => by rw [e _ (by omega) (by omega)]) (fun k _ => by rw [e _ (by omega) (by omega)]) (fun k _ => by rw [e _ (by omega) (by omega)])
    (k2 95 o (by decide) (by omega)) (k2 96 o (by decide) (by omega)) (fun c c0 c1 => k3 97 _ (by decide) (by omega)) (fun c c0 c1 => k3 101 _ (by decide) (by omega)) (fun k k0 k1 => k4 _ (by omega)) (fun k k0 k1 => k5 _ (by omega))
theorem zKp.sj {v w : zW} (h : zKp v w) (e : ∀ p, 75 ≤ p → p < 90 → v p = w p) (e0 : v 0 = w 0) (g : zSJ w) : zSJ v := by
  obtain ⟨g1, g2⟩ := g
  have e24 := h.1 24 (by decide)
  unfold zSJ
  rw [e0, e24]
  refine ⟨g1, fun x => ?_⟩
  obtain ⟨s1, s2, s3⟩ := g2 x
  have n := h.net (q := 75) (o := 2) (Or.inr rfl) (fun p p0 p1 => e p p0 (by omega)) ⟨s1, s2⟩
  refine ⟨n.1, n.2, zPQ.cg s3 s1.1.2.2.2.1 (h.2.1 95 2 (by decide) (by decide)) (fun k _ => by rw [e 85 (by decide) (by decide)]) (fun k _ => by rw [e 86 (by decide) (by decide)]) (fun k _ => by rw [e 87 (by decide) (by decide)]) (fun k _ => by rw [e 88 (by decide) (by decide)]) (fun k _ => by rw [e 89 (by decide) (by decide)]) (by rw [e 84 (by decide) (by decide)])
    (fun k _ => h.2.2.1 98 _ (by decide) (by omega)) (fun k _ => h.2.2.1 103 _ (by decide) (by omega)) (fun k _ => h.2.2.1 104 _ (by decide) (by omega)) (fun k _ => h.2.2.1 105 _ (by decide) (by omega)) (h.2.1 102 2 (by decide) (by decide))⟩
theorem zKp.rj {v w : zW} (h : zKp v w) (e90 : v 90 = w 90) (e91 : v 91 = w 91) (g : zRJ w) : zRJ v := zRJ_fr e90 e91 h.2.2.2.2.2.2 (h.1 44 (by decide)) (h.1 45 (by decide)) g
theorem zKp.hj {v w : zW} (h : zKp v w) (hn : w 95 0 ≤ 12) (e : ∀ p, 37 ≤ p → p < 75 → v p = w p) (g : zHJ w) : zHJ v := by
  obtain ⟨g1, g2⟩ := g
  unfold zHJ
  rw [e 37 (by decide) (by decide), h.1 31 (by decide)]
  exact ⟨g1, fun i i0 i1 => zPH_old hn (h.2.1 95 0 (by decide) (by decide)) (fun q q0 q1 => e q (by omega) (by omega)) (fun k _ => by rw [h.2.2.2.2.2.1]) (g2 i i0 i1)⟩
theorem zKp.pj {v w : zW} (h : zKp v w) (hn : w 95 0 ≤ 12) (e : ∀ p, 29 ≤ p → p < 35 → v p = w p) (g : zPJ w) : zPJ v :=
  zPQ.cg g hn (h.2.1 95 0 (by decide) (by decide)) (fun k _ => by rw [e 30 (by decide) (by decide)]) (fun k _ => by rw [e 31 (by decide) (by decide)]) (fun k _ => by rw [e 32 (by decide) (by decide)]) (fun k _ => by rw [e 33 (by decide) (by decide)]) (fun k _ => by rw [e 34 (by decide) (by decide)]) (by rw [e 29 (by decide) (by decide)])
    (fun k hk => h.2.2.1 98 k (by decide) (Or.inl hk)) (fun k hk => h.2.2.1 103 k (by decide) (Or.inl hk)) (fun k hk => h.2.2.1 104 k (by decide) (Or.inl hk)) (fun k hk => h.2.2.1 105 k (by decide) (Or.inl hk)) (h.2.1 102 0 (by decide) (by decide))
theorem zTt_0 {v : zW} (h1 : v 1 1 = 0) (h2 : v 93 2 = 0) : zTt v v := ⟨by rw [h1, h2], by omega, fun i i0 i1 => by omega⟩
/-- a text was read that has an error -/
theorem zJv_bad {w V : zW} (J : zJv w) (hc : ∀ p, p < 93 → p ≠ 1 → p ≠ 3 → ¬ (13 ≤ p ∧ p ≤ 28) → V p = w p) (hm : zKp V w) (t1 : V 1 1 = 0) (t2 : V 93 2 = 0) (e1 : V 3 7 = V 93 10) (e2 : V 3 8 = V 93 11) : zJv V := by
  have hn := J.1.n
  obtain ⟨j1, j2, j3, j4, j5, j6, j7⟩ := J
  exact ⟨hm.net (Or.inl rfl) (fun p p0 p1 => hc p (by omega) (by omega) (by omega) (by omega)) j1, hm.pj (by omega) (fun p p0 p1 => hc p (by omega) (by omega) (by omega) (by omega)) j2, zTt_0 t1 t2, ⟨e1, e2⟩, hm.hj (by omega) (fun p p0 p1 => hc p (by omega) (by omega) (by omega) (by omega)) j5,
    hm.sj (fun p p0 p1 => hc p (by omega) (by omega) (by omega) (by omega)) (hc 0 (by decide) (by decide) (by decide) (by decide)) j6, hm.rj (hc 90 (by decide) (by decide) (by decide) (by decide)) (hc 91 (by decide) (by decide) (by decide) (by decide)) j7⟩
/-- where no circle is, no side is -/
theorem zJv.h0 {w : zW} (J : zJv w) : w 95 0 = 0 → ∀ k : Nat, k < 144 → w 100 k = -1 := by
  intro e k hk
  have t := J.1.1.tab
  have q := t.2.2 ((k / 12 : Nat) : Int) ((k % 12 : Nat) : Int) (by omega) (by omega) (by omega) (by omega)
  rw [e] at q
  have z : zF0 w ((k / 12 : Nat) : Int) ((k % 12 : Nat) : Int) = -1 := by
    rcases q with q | q
    · exact q
    · omega
  have z : zfw w 0 ((k / 12 : Nat) : Int) ((k % 12 : Nat) : Int) = -1 := z
  rw [zfw0, show (12 * ((k / 12 : Nat) : Int) + ((k % 12 : Nat) : Int)).toNat = k by omega] at z
  exact z
theorem zNt_h0 {w : zW} (h : zNt w) : w 95 0 = 0 → ∀ k : Nat, k < 144 → w 100 k = -1 := by
  intro e k hk
  have t := h.1.tab
  have q := t.2.2 ((k / 12 : Nat) : Int) ((k % 12 : Nat) : Int) (by omega) (by omega) (by omega) (by omega)
  rw [e] at q
  have z : zfw w 0 ((k / 12 : Nat) : Int) ((k % 12 : Nat) : Int) = -1 := by
    rcases q with q | q
    · exact q
    · omega
  rw [zfw0, show (12 * ((k / 12 : Nat) : Int) + ((k % 12 : Nat) : Int)).toNat = k by omega] at z
  exact z
/-- what the model's reading of a net leaves -/
theorem zML_kp {W : zW} (h0 : W 95 0 = 0 → ∀ k : Nat, k < 144 → W 100 k = -1) (me : zMe 800 (zmo0 W)) : (∀ p k, zOff p k → ¬ (p = 102 ∧ k = 1) → zML 800 (zmo0 W) p k = W p k) ∧ zML 800 (zmo0 W) 93 2 = 0 :=
  ⟨fun p k o o2 => (zML_off o 800 _ me).trans (zmo0_off h0 o o2), (zML_o2 ⟨rfl, rfl⟩ 800 _ me).trans rfl⟩

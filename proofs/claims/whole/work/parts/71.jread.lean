/-! ===== class and model read the same statements: all (written by wip/whole/gen_c.py) ===== -/
theorem zJS {a b : zW} (h : zSy a b) (d : zDr a b) (g : b 93 8 = 0) (k : a 3 1 ≠ -1) (hs : b 93 25 = 0) : zOut (zrS a) (zupd (zmnu (zupd (zmgo b) 93 25 1) (1 : Int) (100000 : Int)) 93 26 ((zmgo b) 93 7)) := by
  obtain ⟨d0, d1, d2, d3⟩ := d
  have s1 := h.ad k
  have sW : zSy (zupd (zad (zupd a 13 3 1)) 14 2 ((zad (zupd a 13 3 1)) 3 6)) (zupd (zmgo b) 93 25 1) := (s1.ta rfl rfl rfl rfl rfl rfl rfl rfl).tb rfl rfl rfl rfl rfl rfl rfl
  unfold zrS
  rw [if_pos (by omega)]
  rcases sW.pn (g : zupd (zmgo b) 93 25 1 93 8 = 0) 1 100000 with q | q
  · have dn : zDn (zpn (zupd (zad (zupd a 13 3 1)) 14 2 ((zad (zupd a 13 3 1)) 3 6)) 1 100000).2 (zupd (zmnu (zupd (zmgo b) 93 25 1) (1 : Int) (100000 : Int)) 93 26 ((zmgo b) 93 7)) := d0
    have e26 : (zpn (zupd (zad (zupd a 13 3 1)) 14 2 ((zad (zupd a 13 3 1)) 3 6)) 1 100000).2 14 2 = (zupd (zmnu (zupd (zmgo b) 93 25 1) (1 : Int) (100000 : Int)) 93 26 ((zmgo b) 93 7)) 93 26 := q.2.2.2.1
    have v1 : 1 ≤ (zupd (zmnu (zupd (zmgo b) 93 25 1) (1 : Int) (100000 : Int)) 93 26 ((zmgo b) 93 7)) 93 26 := q.2.2.2.2.1
    have v2 : (zupd (zmnu (zupd (zmgo b) 93 25 1) (1 : Int) (100000 : Int)) 93 26 ((zmgo b) 93 7)) 93 26 ≤ 100000 := q.2.2.2.2.2
    have e25 : (zupd (zmnu (zupd (zmgo b) 93 25 1) (1 : Int) (100000 : Int)) 93 26 ((zmgo b) 93 7)) 93 25 = 1 := zmnu_k (w := zupd (zmgo b) 93 25 1) (by omega)
    have e27 : (zupd (zmnu (zupd (zmgo b) 93 25 1) (1 : Int) (100000 : Int)) 93 26 ((zmgo b) 93 7)) 93 27 = b 93 27 := zmnu_k (w := zupd (zmgo b) 93 25 1) (by omega)
    have e13 : (zpn (zupd (zad (zupd a 13 3 1)) 14 2 ((zad (zupd a 13 3 1)) 3 6)) 1 100000).2 13 3 = 1 := rfl
    have e132 : (zpn (zupd (zad (zupd a 13 3 1)) 14 2 ((zad (zupd a 13 3 1)) 3 6)) 1 100000).2 13 2 = a 13 2 := rfl
    exact Or.inl ⟨q.1, q.2.1, q.2.2.1.tb rfl rfl rfl rfl rfl rfl rfl, dn, ⟨e26, v1, v2⟩, ⟨by rw [e13, e25], Or.inr e25⟩, by rw [e132, e27]; exact d3⟩
  · exact Or.inr ⟨q.1, q.2⟩
theorem zOut.ms {r : Int × zW} {b : zW} (h : zOut r b) : zOut (if r.1 = 0 then (0, r.2) else zps r.2 59) (zms b 59) := by
  rcases h with ⟨h1, h2, h3, h4⟩ | ⟨h1, h2⟩
  · rw [if_neg (by rw [h1]; decide)]
    rcases h3.ps h2 (Or.inl rfl) with q | q
    · rw [q.2.2.1, q.2.2.2.1]
      exact Or.inl ⟨rfl, h2, q.2.2.2.2, h4.go⟩
    · exact Or.inr q
  · have := h2.1
    rw [if_pos h1, zms_e, if_neg (by omega)]
    exact Or.inr ⟨rfl, h2⟩
/-- a statement and the sign behind it -/
noncomputable def zrN (a : zW) : Int × zW := if (zrT a).1 = 0 then (0, (zrT a).2) else zps (zrT a).2 59
theorem zJT {a b : zW} (h : zSy a b) (d : zDr a b) (g : b 93 8 = 0) (k : a 3 1 ≠ -1) : ∃ v : zW, zOut (zrT a) v ∧ zmT b = zms v 59 := by
  have w := h.wd
  have w1 := w.1
  have w4 := w.2.2.2.1
  have w5 := w.2.2.2.2.1
  unfold zrT zmT
  by_cases c1 : a 3 4 = 1002
  · have m := w1.mp c1
    rw [if_pos c1, if_pos m.1, if_pos m.2]
    exact ⟨_, zJC h d g k m.1, rfl⟩
  · rw [if_neg c1]
    by_cases c2 : a 3 4 = 1005
    · have m := w4.mp c2
      rw [if_pos c2, if_pos m.1, if_neg (fun q => c1 (w1.mpr ⟨m.1, q⟩)), if_pos m.2]
      exact ⟨_, zJF h d g k m.1, rfl⟩
    · rw [if_neg c2]
      by_cases c3 : a 3 4 = 1006
      · have m := w5.mp c3
        rw [if_pos c3, if_pos m.1, if_neg (fun q => c1 (w1.mpr ⟨m.1, q⟩)), if_neg (fun q => c2 (w4.mpr ⟨m.1, q⟩)), if_pos m.2]
        by_cases c4 : b 93 25 = 0
        · rw [if_pos c4]
          exact ⟨_, zJS h d g k c4, rfl⟩
        · rw [if_neg c4, if_neg (show ¬ b 93 6 = 4 by omega)]
          refine ⟨_, ?_, rfl⟩
          unfold zrS
          rw [if_neg (by have := d.2.2.1.1; omega), zmnu_e, if_neg (show ¬ zupd (zupd (zupd b 93 8 3) 93 9 (b 93 5)) 93 25 1 93 8 = 0 by show ¬ (3 : Int) = 0; decide)]
          have e := zEr_k h (k := 3) (by decide)
          exact Or.inr ⟨rfl, e⟩
      · rw [if_neg c3]
        have e := zEr_k h (k := 1) (by decide)
        by_cases t6 : b 93 6 = 1
        · rw [if_pos t6, if_neg (fun q => c1 (w1.mpr ⟨t6, q⟩)), if_neg (fun q => c2 (w4.mpr ⟨t6, q⟩)), if_neg (fun q => c3 (w5.mpr ⟨t6, q⟩))]
          exact ⟨_, Or.inr ⟨rfl, e⟩, rfl⟩
        · rw [if_neg t6]
          exact ⟨_, Or.inr ⟨rfl, e⟩, rfl⟩
theorem zad_mo (a : zW) : a 3 3 ≤ zad a 3 2 ∧ zad a 3 2 ≤ zad a 3 3 := by
  have h1 := zrn_rg (P := fun j => zbl (zTy (a 2) (a 1 1) j)) (a 1 1 - a 3 3).toNat (a 3 3)
  refine ⟨h1.1, ?_⟩
  show zad a 3 2 ≤ zbe (zTy (a 2) (a 1 1)) (a 1 1) (zad a 3 2) (zTy (a 2) (a 1 1) (zad a 3 2))
  generalize zad a 3 2 = s
  have h2 := zrn_rg (P := fun j => zlt (zTy (a 2) (a 1 1) j)) (a 1 1 - s).toNat s
  have h3 := zrn_rg (P := fun j => zdg (zTy (a 2) (a 1 1) j)) (a 1 1 - s).toNat s
  unfold zbe zle zde
  split
  · omega
  · split <;> omega
theorem zad_m3 (a : zW) : a 3 3 ≤ zad a 3 3 := by have := zad_mo a; omega
theorem zpn_m3 (a : zW) (lo hi : Int) : a 3 3 ≤ (zpn a lo hi).2 3 3 := by
  by_cases k : a 3 1 = 2
  · by_cases r : a 3 6 < lo ∨ hi < a 3 6
    · rw [zpn_r k r]; exact Int.le_refl _
    · rw [zpn_y k r]; exact zad_m3 a
  · rw [zpn_n k]; exact Int.le_refl _
theorem zrC_mo (w : zW) : w 3 3 ≤ (zrC w).2 3 3 := by
  have m1 := zad_m3 w
  have m2 := Int.le_trans m1 (zad_m3 (zad w))
  have m3 := Int.le_trans m2 (zad_m3 (zad (zad w)))
  have m4 := Int.le_trans m3 (zad_m3 (zad (zad (zad w))))
  have n1 := Int.le_trans m3 (zpn_m3 (zad (zad (zad w))) 1 100000)
  have n2 := Int.le_trans m3 (zpn_m3 (zad (zad (zad w))) 1 1800)
  unfold zrC
  by_cases q0 : w 14 0 < 12
  · rw [if_pos q0]
    by_cases q1 : (zad w) 3 4 = 1001
    · rw [if_pos q1]
      by_cases q2 : zFi (fun c => w 15 c.toNat = ((zad w) 3 5)) ((w 14 0)).toNat 0 = (-1)
      · rw [if_pos q2]
        by_cases q3 : (zad (zad w)) 3 4 = 1003
        · rw [if_pos q3]
          by_cases q4 : (zpn (zad (zad (zad w))) 1 100000).1 = 0
          · rw [if_pos q4]
            exact n1
          · rw [if_neg q4]
            exact n1
        · rw [if_neg q3]
          by_cases q5 : (zad (zad w)) 3 4 = 1004
          · rw [if_pos q5]
            by_cases q6 : (zpn (zad (zad (zad w))) 1 1800).1 = 0
            · rw [if_pos q6]
              exact n2
            · rw [if_neg q6]
              exact n2
          · rw [if_neg q5]
            exact m2
      · rw [if_neg q2]
        exact m1
    · rw [if_neg q1]
      exact m1
  · rw [if_neg q0]
    exact Int.le_refl _
theorem zrF_mo (w : zW) : w 3 3 ≤ (zrF w).2 3 3 := by
  have m1 := zad_m3 w
  have m2 := Int.le_trans m1 (zad_m3 (zad w))
  have m3 := Int.le_trans m2 (zad_m3 (zad (zad w)))
  have m4 := Int.le_trans m3 (zad_m3 (zad (zad (zad w))))
  have n1 := Int.le_trans m3 (zpn_m3 (zad (zad (zad w))) 1 100000)
  have n2 := Int.le_trans m3 (zpn_m3 (zad (zad (zad w))) 1 1800)
  unfold zrF
  by_cases q0 : w 14 1 < 20
  · rw [if_pos q0]
    by_cases q1 : (zad w) 3 4 = 1001
    · rw [if_pos q1]
      by_cases q2 : zFi (fun c => w 15 c.toNat = ((zad w) 3 5)) ((w 14 0)).toNat 0 = (-1)
      · rw [if_pos q2]
        exact m1
      · rw [if_neg q2]
        by_cases q3 : (zad (zad w)) 3 4 = 1001
        · rw [if_pos q3]
          by_cases q4 : zFi (fun c => w 15 c.toNat = ((zad (zad w)) 3 5)) ((w 14 0)).toNat 0 = (-1)
          · rw [if_pos q4]
            exact m2
          · rw [if_neg q4]
            by_cases q5 : zFi (fun c => w 15 c.toNat = ((zad (zad w)) 3 5)) ((w 14 0)).toNat 0 = zFi (fun c => w 15 c.toNat = ((zad w) 3 5)) ((w 14 0)).toNat 0
            · rw [if_pos q5]
              exact m2
            · rw [if_neg q5]
              by_cases q6 : w 19 (12 * (zFi (fun c => w 15 c.toNat = ((zad w) 3 5)) ((w 14 0)).toNat 0) + (zFi (fun c => w 15 c.toNat = ((zad (zad w)) 3 5)) ((w 14 0)).toNat 0)).toNat = (-1)
              · rw [if_pos q6]
                by_cases q7 : (zad (zad (zad w))) 3 4 = 1001
                · rw [if_pos q7]
                  by_cases q8 : zFi (fun c => w 15 c.toNat = ((zad (zad (zad w))) 3 5)) ((w 14 0)).toNat 0 = (-1)
                  · rw [if_pos q8]
                    exact m3
                  · rw [if_neg q8]
                    by_cases q9 : zFi (fun c => w 15 c.toNat = ((zad (zad (zad w))) 3 5)) ((w 14 0)).toNat 0 = zFi (fun c => w 15 c.toNat = ((zad w) 3 5)) ((w 14 0)).toNat 0
                    · rw [if_pos q9]
                      exact m3
                    · rw [if_neg q9]
                      by_cases q10 : zFi (fun c => w 15 c.toNat = ((zad (zad (zad w))) 3 5)) ((w 14 0)).toNat 0 = zFi (fun c => w 15 c.toNat = ((zad (zad w)) 3 5)) ((w 14 0)).toNat 0
                      · rw [if_pos q10]
                        exact m3
                      · rw [if_neg q10]
                        by_cases q11 : w 19 (12 * (zFi (fun c => w 15 c.toNat = ((zad (zad w)) 3 5)) ((w 14 0)).toNat 0) + (zFi (fun c => w 15 c.toNat = ((zad (zad (zad w))) 3 5)) ((w 14 0)).toNat 0)).toNat = (-1)
                        · rw [if_pos q11]
                          by_cases q12 : w 19 (12 * (zFi (fun c => w 15 c.toNat = ((zad (zad (zad w))) 3 5)) ((w 14 0)).toNat 0) + (zFi (fun c => w 15 c.toNat = ((zad w) 3 5)) ((w 14 0)).toNat 0)).toNat = (-1)
                          · rw [if_pos q12]
                            exact m4
                          · rw [if_neg q12]
                            exact m3
                        · rw [if_neg q11]
                          exact m3
                · rw [if_neg q7]
                  exact m3
              · rw [if_neg q6]
                exact m2
        · rw [if_neg q3]
          exact m2
    · rw [if_neg q1]
      exact m1
  · rw [if_neg q0]
    exact Int.le_refl _
theorem zrS_mo (w : zW) : w 3 3 ≤ (zrS w).2 3 3 := by
  have m1 := zad_m3 w
  have n1 := Int.le_trans m1 (zpn_m3 (zupd (zad (zupd w 13 3 1)) 14 2 ((zad (zupd w 13 3 1)) 3 6)) 1 100000)
  unfold zrS
  by_cases q0 : w 13 3 = 0
  · rw [if_pos q0]
    first | exact Int.le_refl _ | exact n1
  · rw [if_neg q0]
    first | exact Int.le_refl _ | exact n1
theorem zrT_mo (w : zW) : w 3 3 ≤ (zrT w).2 3 3 := by
  unfold zrT
  by_cases q0 : w 3 4 = 1002
  · rw [if_pos q0]
    exact zrC_mo w
  · rw [if_neg q0]
    by_cases q1 : w 3 4 = 1005
    · rw [if_pos q1]
      exact zrF_mo w
    · rw [if_neg q1]
      by_cases q2 : w 3 4 = 1006
      · rw [if_pos q2]
        exact zrS_mo w
      · rw [if_neg q2]
        exact Int.le_refl _
theorem zrC_ne (w : zW) {p : Nat} (h3 : p ≠ 3) (h13 : p ≠ 13) (h14 : p ≠ 14) (h15 : p ≠ 15) (h16 : p ≠ 16) (h17 : p ≠ 17) (h18 : p ≠ 18) (h19 : p ≠ 19) : (zrC w).2 p = w p := by
  unfold zrC
  by_cases q0 : w 14 0 < 12
  · rw [if_pos q0]
    by_cases q1 : (zad w) 3 4 = 1001
    · rw [if_pos q1]
      by_cases q2 : zFi (fun c => w 15 c.toNat = ((zad w) 3 5)) ((w 14 0)).toNat 0 = (-1)
      · rw [if_pos q2]
        by_cases q3 : (zad (zad w)) 3 4 = 1003
        · rw [if_pos q3]
          by_cases q4 : (zpn (zad (zad (zad w))) 1 100000).1 = 0
          · rw [if_pos q4]
            simp only [zac, zafc, zads, zune h3, zune h13, zune h14, zune h15, zune h16, zune h17, zune h18, zune h19, zad_ne h3, zpn_ne h3]
          · rw [if_neg q4]
            simp only [zac, zafc, zads, zune h3, zune h13, zune h14, zune h15, zune h16, zune h17, zune h18, zune h19, zad_ne h3, zpn_ne h3]
        · rw [if_neg q3]
          by_cases q5 : (zad (zad w)) 3 4 = 1004
          · rw [if_pos q5]
            by_cases q6 : (zpn (zad (zad (zad w))) 1 1800).1 = 0
            · rw [if_pos q6]
              simp only [zac, zafc, zads, zune h3, zune h13, zune h14, zune h15, zune h16, zune h17, zune h18, zune h19, zad_ne h3, zpn_ne h3]
            · rw [if_neg q6]
              simp only [zac, zafc, zads, zune h3, zune h13, zune h14, zune h15, zune h16, zune h17, zune h18, zune h19, zad_ne h3, zpn_ne h3]
          · rw [if_neg q5]
            simp only [zac, zafc, zads, zune h3, zune h13, zune h14, zune h15, zune h16, zune h17, zune h18, zune h19, zad_ne h3, zpn_ne h3]
      · rw [if_neg q2]
        simp only [zac, zafc, zads, zune h3, zune h13, zune h14, zune h15, zune h16, zune h17, zune h18, zune h19, zad_ne h3, zpn_ne h3]
    · rw [if_neg q1]
      simp only [zac, zafc, zads, zune h3, zune h13, zune h14, zune h15, zune h16, zune h17, zune h18, zune h19, zad_ne h3, zpn_ne h3]
  · rw [if_neg q0]
    simp only [zac, zafc, zads, zune h3, zune h13, zune h14, zune h15, zune h16, zune h17, zune h18, zune h19, zad_ne h3, zpn_ne h3]
theorem zrF_ne (w : zW) {p : Nat} (h3 : p ≠ 3) (h13 : p ≠ 13) (h14 : p ≠ 14) (h15 : p ≠ 15) (h16 : p ≠ 16) (h17 : p ≠ 17) (h18 : p ≠ 18) (h19 : p ≠ 19) : (zrF w).2 p = w p := by
  unfold zrF
  by_cases q0 : w 14 1 < 20
  · rw [if_pos q0]
    by_cases q1 : (zad w) 3 4 = 1001
    · rw [if_pos q1]
      by_cases q2 : zFi (fun c => w 15 c.toNat = ((zad w) 3 5)) ((w 14 0)).toNat 0 = (-1)
      · rw [if_pos q2]
        simp only [zac, zafc, zads, zune h3, zune h13, zune h14, zune h15, zune h16, zune h17, zune h18, zune h19, zad_ne h3, zpn_ne h3]
      · rw [if_neg q2]
        by_cases q3 : (zad (zad w)) 3 4 = 1001
        · rw [if_pos q3]
          by_cases q4 : zFi (fun c => w 15 c.toNat = ((zad (zad w)) 3 5)) ((w 14 0)).toNat 0 = (-1)
          · rw [if_pos q4]
            simp only [zac, zafc, zads, zune h3, zune h13, zune h14, zune h15, zune h16, zune h17, zune h18, zune h19, zad_ne h3, zpn_ne h3]
          · rw [if_neg q4]
            by_cases q5 : zFi (fun c => w 15 c.toNat = ((zad (zad w)) 3 5)) ((w 14 0)).toNat 0 = zFi (fun c => w 15 c.toNat = ((zad w) 3 5)) ((w 14 0)).toNat 0
            · rw [if_pos q5]
              simp only [zac, zafc, zads, zune h3, zune h13, zune h14, zune h15, zune h16, zune h17, zune h18, zune h19, zad_ne h3, zpn_ne h3]
            · rw [if_neg q5]
              by_cases q6 : w 19 (12 * (zFi (fun c => w 15 c.toNat = ((zad w) 3 5)) ((w 14 0)).toNat 0) + (zFi (fun c => w 15 c.toNat = ((zad (zad w)) 3 5)) ((w 14 0)).toNat 0)).toNat = (-1)
              · rw [if_pos q6]
                by_cases q7 : (zad (zad (zad w))) 3 4 = 1001
                · rw [if_pos q7]
                  by_cases q8 : zFi (fun c => w 15 c.toNat = ((zad (zad (zad w))) 3 5)) ((w 14 0)).toNat 0 = (-1)
                  · rw [if_pos q8]
                    simp only [zac, zafc, zads, zune h3, zune h13, zune h14, zune h15, zune h16, zune h17, zune h18, zune h19, zad_ne h3, zpn_ne h3]
                  · rw [if_neg q8]
                    by_cases q9 : zFi (fun c => w 15 c.toNat = ((zad (zad (zad w))) 3 5)) ((w 14 0)).toNat 0 = zFi (fun c => w 15 c.toNat = ((zad w) 3 5)) ((w 14 0)).toNat 0
                    · rw [if_pos q9]
                      simp only [zac, zafc, zads, zune h3, zune h13, zune h14, zune h15, zune h16, zune h17, zune h18, zune h19, zad_ne h3, zpn_ne h3]
                    · rw [if_neg q9]
                      by_cases q10 : zFi (fun c => w 15 c.toNat = ((zad (zad (zad w))) 3 5)) ((w 14 0)).toNat 0 = zFi (fun c => w 15 c.toNat = ((zad (zad w)) 3 5)) ((w 14 0)).toNat 0
                      · rw [if_pos q10]
                        simp only [zac, zafc, zads, zune h3, zune h13, zune h14, zune h15, zune h16, zune h17, zune h18, zune h19, zad_ne h3, zpn_ne h3]
                      · rw [if_neg q10]
                        by_cases q11 : w 19 (12 * (zFi (fun c => w 15 c.toNat = ((zad (zad w)) 3 5)) ((w 14 0)).toNat 0) + (zFi (fun c => w 15 c.toNat = ((zad (zad (zad w))) 3 5)) ((w 14 0)).toNat 0)).toNat = (-1)
                        · rw [if_pos q11]
                          by_cases q12 : w 19 (12 * (zFi (fun c => w 15 c.toNat = ((zad (zad (zad w))) 3 5)) ((w 14 0)).toNat 0) + (zFi (fun c => w 15 c.toNat = ((zad w) 3 5)) ((w 14 0)).toNat 0)).toNat = (-1)
                          · rw [if_pos q12]
                            simp only [zac, zafc, zads, zune h3, zune h13, zune h14, zune h15, zune h16, zune h17, zune h18, zune h19, zad_ne h3, zpn_ne h3]
                          · rw [if_neg q12]
                            simp only [zac, zafc, zads, zune h3, zune h13, zune h14, zune h15, zune h16, zune h17, zune h18, zune h19, zad_ne h3, zpn_ne h3]
                        · rw [if_neg q11]
                          simp only [zac, zafc, zads, zune h3, zune h13, zune h14, zune h15, zune h16, zune h17, zune h18, zune h19, zad_ne h3, zpn_ne h3]
                · rw [if_neg q7]
                  simp only [zac, zafc, zads, zune h3, zune h13, zune h14, zune h15, zune h16, zune h17, zune h18, zune h19, zad_ne h3, zpn_ne h3]
              · rw [if_neg q6]
                simp only [zac, zafc, zads, zune h3, zune h13, zune h14, zune h15, zune h16, zune h17, zune h18, zune h19, zad_ne h3, zpn_ne h3]
        · rw [if_neg q3]
          simp only [zac, zafc, zads, zune h3, zune h13, zune h14, zune h15, zune h16, zune h17, zune h18, zune h19, zad_ne h3, zpn_ne h3]
    · rw [if_neg q1]
      simp only [zac, zafc, zads, zune h3, zune h13, zune h14, zune h15, zune h16, zune h17, zune h18, zune h19, zad_ne h3, zpn_ne h3]
  · rw [if_neg q0]
    simp only [zac, zafc, zads, zune h3, zune h13, zune h14, zune h15, zune h16, zune h17, zune h18, zune h19, zad_ne h3, zpn_ne h3]
theorem zrS_ne (w : zW) {p : Nat} (h3 : p ≠ 3) (h13 : p ≠ 13) (h14 : p ≠ 14) (h15 : p ≠ 15) (h16 : p ≠ 16) (h17 : p ≠ 17) (h18 : p ≠ 18) (h19 : p ≠ 19) : (zrS w).2 p = w p := by
  unfold zrS
  by_cases q0 : w 13 3 = 0
  · rw [if_pos q0]
    simp only [zac, zafc, zads, zune h3, zune h13, zune h14, zune h15, zune h16, zune h17, zune h18, zune h19, zad_ne h3, zpn_ne h3]
  · rw [if_neg q0]
    simp only [zac, zafc, zads, zune h3, zune h13, zune h14, zune h15, zune h16, zune h17, zune h18, zune h19, zad_ne h3, zpn_ne h3]
theorem zrT_ne (w : zW) {p : Nat} (h3 : p ≠ 3) (h13 : p ≠ 13) (h14 : p ≠ 14) (h15 : p ≠ 15) (h16 : p ≠ 16) (h17 : p ≠ 17) (h18 : p ≠ 18) (h19 : p ≠ 19) : (zrT w).2 p = w p := by
  unfold zrT
  by_cases q0 : w 3 4 = 1002
  · rw [if_pos q0]
    exact zrC_ne w h3 h13 h14 h15 h16 h17 h18 h19
  · rw [if_neg q0]
    by_cases q1 : w 3 4 = 1005
    · rw [if_pos q1]
      exact zrF_ne w h3 h13 h14 h15 h16 h17 h18 h19
    · rw [if_neg q1]
      by_cases q2 : w 3 4 = 1006
      · rw [if_pos q2]
        exact zrS_ne w h3 h13 h14 h15 h16 h17 h18 h19
      · rw [if_neg q2]
        simp only [zac, zafc, zads, zune h3, zune h13, zune h14, zune h15, zune h16, zune h17, zune h18, zune h19, zad_ne h3, zpn_ne h3]
theorem zrN_ne (w : zW) {p : Nat} (h3 : p ≠ 3) (h13 : p ≠ 13) (h14 : p ≠ 14) (h15 : p ≠ 15) (h16 : p ≠ 16) (h17 : p ≠ 17) (h18 : p ≠ 18) (h19 : p ≠ 19) : (zrN w).2 p = w p := by
  unfold zrN
  split
  · exact zrT_ne w h3 h13 h14 h15 h16 h17 h18 h19
  · rw [zps_ne h3]; exact zrT_ne w h3 h13 h14 h15 h16 h17 h18 h19
theorem zrN_01 (w : zW) : (zrN w).1 = 0 ∨ (zrN w).1 = 1 := by
  unfold zrN
  split
  · exact Or.inl rfl
  · exact zps_01 _ _
theorem zrN_y {w : zW} (h : (zrN w).1 ≠ 0) : (zrT w).1 ≠ 0 ∧ (zrN w).2 = zad (zrT w).2 ∧ w 3 3 ≤ (zrN w).2 3 2 := by
  by_cases g : (zrT w).1 = 0
  · unfold zrN at h
    rw [if_pos g] at h
    exact (h rfl).elim
  · have e : zrN w = zps (zrT w).2 59 := if_neg g
    rw [e] at h
    by_cases k : (zrT w).2 3 1 = 59
    · have e2 : (zrN w).2 = zad (zrT w).2 := by rw [e, zps_y k]
      refine ⟨g, e2, ?_⟩
      rw [e2]
      exact Int.le_trans (zrT_mo w) (zad_mo _).1
    · rw [zps_n k] at h
      exact (h rfl).elim
theorem zmgo_27 (w : zW) : zmgo w 93 27 = w 93 27 := rfl
theorem zgg_27 (w : zW) : zgg w 93 27 = w 93 27 := by rw [zgg_e]; split <;> rfl
theorem zchw_27 (w : zW) : zchw w 93 27 = w 93 27 := by
  rw [zchw_e]
  repeat' split
  all_goals rfl
theorem zw3_27 (w : zW) (c : Prop) : zw3 w c 93 27 = w 93 27 := by
  by_cases g : w 93 8 = 0 ∧ c
  · rw [zw3_y g.1 g.2]; rfl
  · rw [zw3_n g]
theorem zms_27 (w : zW) (c : Int) : zms w c 93 27 = w 93 27 := by
  rw [zms_e]
  repeat' split
  all_goals rfl
theorem zF0_27 (w : zW) : zF_0 w 93 27 = w 93 27 := by rw [zF_0_e]; split <;> rfl
theorem zmF_27 (w : zW) : zmF w 93 27 = w 93 27 := by
  have e1 : zF_1 w 93 27 = w 93 27 := (zgg_27 _).trans (zF0_27 w)
  have e2 : zF_2 w 93 27 = w 93 27 := (zgg_27 _).trans ((zchw_27 _).trans e1)
  have e3 : zF_3 w 93 27 = w 93 27 := (zgg_27 _).trans ((zw3_27 _ _).trans ((zchw_27 _).trans e2))
  have e4 : zF_4 w 93 27 = w 93 27 := (zw3_27 _ _).trans ((zchw_27 _).trans e3)
  by_cases g : zF_4 w 93 8 = 0
  · rw [show zmF w = _ from if_pos g]; exact e4
  · rw [show zmF w = _ from if_neg g]; exact e4
theorem zmC_27 (w : zW) : zmC w 93 27 = w 93 27 := by
  unfold zmC
  by_cases q0 : w 95 1 = 12
  · rw [if_pos q0]
    by_cases q1 : w 93 6 = 4
    · rw [if_pos q1]
      first | rfl | exact zmnu_k (by omega)
    · rw [if_neg q1]
      first | rfl | exact zmnu_k (by omega)
  · rw [if_neg q0]
    by_cases q2 : zmNi (((zmgo w) 93 6)) (((zmgo w) 93 12)) = 0
    · rw [if_pos q2]
      first | rfl | exact zmnu_k (by omega)
    · rw [if_neg q2]
      by_cases q3 : znd (w 101) ((w 95 1)) (((zmgo w) 93 12)) 12 < w 95 1
      · rw [if_pos q3]
        by_cases q4 : (zmgo w) 93 6 = 4
        · rw [if_pos q4]
          first | rfl | exact zmnu_k (by omega)
        · rw [if_neg q4]
          first | rfl | exact zmnu_k (by omega)
      · rw [if_neg q3]
        by_cases q5 : (zmgo (zupd (zupd (zupd (zmgo w) 101 (12 + w 95 1).toNat ((zmgo w) 93 12)) 97 (12 + w 95 1).toNat 360) 98 (12 + w 95 1).toNat 0)) 93 6 = 1
        · rw [if_pos q5]
          by_cases q6 : (zmgo (zupd (zupd (zupd (zmgo w) 101 (12 + w 95 1).toNat ((zmgo w) 93 12)) 97 (12 + w 95 1).toNat 360) 98 (12 + w 95 1).toNat 0)) 93 12 = 605169331
          · rw [if_pos q6]
            first | rfl | exact zmnu_k (by omega)
          · rw [if_neg q6]
            by_cases q7 : (zmgo (zupd (zupd (zupd (zmgo w) 101 (12 + w 95 1).toNat ((zmgo w) 93 12)) 97 (12 + w 95 1).toNat 360) 98 (12 + w 95 1).toNat 0)) 93 12 = 1514885
            · rw [if_pos q7]
              first | rfl | exact zmnu_k (by omega)
            · rw [if_neg q7]
              first | rfl | exact zmnu_k (by omega)
        · rw [if_neg q5]
          first | rfl | exact zmnu_k (by omega)
theorem zmT_27 (w : zW) : zmT w 93 27 = w 93 27 := by
  unfold zmT
  by_cases q0 : w 93 6 = 1
  · rw [if_pos q0]
    by_cases q1 : w 93 12 = 110693765
    · rw [if_pos q1]
      exact (zms_27 _ _).trans (zmC_27 w)
    · rw [if_neg q1]
      by_cases q2 : w 93 12 = 197733
      · rw [if_pos q2]
        exact (zms_27 _ _).trans (zmF_27 w)
      · rw [if_neg q2]
        by_cases q3 : w 93 12 = 20022661
        · rw [if_pos q3]
          by_cases q4 : w 93 25 = 0
          · rw [if_pos q4]
            refine (zms_27 _ _).trans ?_
            rw [zupd_j _ 93 _ (show (27 : Nat) ≠ 26 by decide), zmnu_k (Or.inr (Or.inr rfl))]
            rfl
          · rw [if_neg q4]
            by_cases q5 : w 93 6 = 4
            · rw [if_pos q5]
              refine (zms_27 _ _).trans ?_
              rw [zupd_j _ 93 _ (show (27 : Nat) ≠ 26 by decide), zmnu_k (Or.inr (Or.inr rfl))]
              rfl
            · rw [if_neg q5]
              refine (zms_27 _ _).trans ?_
              rw [zupd_j _ 93 _ (show (27 : Nat) ≠ 26 by decide), zmnu_k (Or.inr (Or.inr rfl))]
              rfl
        · rw [if_neg q3]
          exact zms_27 _ _
  · rw [if_neg q0]
    exact zms_27 _ _

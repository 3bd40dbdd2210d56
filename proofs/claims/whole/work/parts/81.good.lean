/-! ===== while all is good the error stays unset; tables that agree (written by wip/whole/gen_c.py) ===== -/
theorem zpn_ok {w : zW} {lo hi : Int} (h : (zpn w lo hi).1 ≠ 0) : (zpn w lo hi).2 = zad w := by
  by_cases k : w 3 1 = 2
  · by_cases r : w 3 6 < lo ∨ hi < w 3 6
    · rw [zpn_r k r] at h; exact (h rfl).elim
    · rw [zpn_y k r]
  · rw [zpn_n k] at h; exact (h rfl).elim
theorem zrC_ok {w : zW} (h : (zrC w).1 ≠ 0) : (zrC w).2 3 7 = w 3 7 ∧ (zrC w).2 3 8 = w 3 8 := by
  unfold zrC at h ⊢
  by_cases q0 : w 14 0 < 12
  · rw [if_pos q0] at h ⊢
    by_cases q1 : (zad w) 3 4 = 1001
    · rw [if_pos q1] at h ⊢
      by_cases q2 : zFi (fun c => w 15 c.toNat = ((zad w) 3 5)) ((w 14 0)).toNat 0 = (-1)
      · rw [if_pos q2] at h ⊢
        by_cases q3 : (zad (zad w)) 3 4 = 1003
        · rw [if_pos q3] at h ⊢
          by_cases q4 : (zpn (zad (zad (zad w))) 1 100000).1 = 0
          · rw [if_pos q4] at h ⊢
            exact (h rfl).elim
          · rw [if_neg q4] at h ⊢
            have e := zpn_ok q4
            constructor
            · show (zpn _ _ _).2 3 7 = w 3 7
              rw [e]; rfl
            · show (zpn _ _ _).2 3 8 = w 3 8
              rw [e]; rfl
        · rw [if_neg q3] at h ⊢
          by_cases q5 : (zad (zad w)) 3 4 = 1004
          · rw [if_pos q5] at h ⊢
            by_cases q6 : (zpn (zad (zad (zad w))) 1 1800).1 = 0
            · rw [if_pos q6] at h ⊢
              exact (h rfl).elim
            · rw [if_neg q6] at h ⊢
              have e := zpn_ok q6
              constructor
              · show (zpn _ _ _).2 3 7 = w 3 7
                rw [e]; rfl
              · show (zpn _ _ _).2 3 8 = w 3 8
                rw [e]; rfl
          · rw [if_neg q5] at h ⊢
            exact ⟨rfl, rfl⟩
      · rw [if_neg q2] at h ⊢
        exact (h rfl).elim
    · rw [if_neg q1] at h ⊢
      exact (h rfl).elim
  · rw [if_neg q0] at h ⊢
    exact (h rfl).elim
theorem zrF_ok {w : zW} (h : (zrF w).1 ≠ 0) : (zrF w).2 3 7 = w 3 7 ∧ (zrF w).2 3 8 = w 3 8 := by
  unfold zrF at h ⊢
  by_cases q0 : w 14 1 < 20
  · rw [if_pos q0] at h ⊢
    by_cases q1 : (zad w) 3 4 = 1001
    · rw [if_pos q1] at h ⊢
      by_cases q2 : zFi (fun c => w 15 c.toNat = ((zad w) 3 5)) ((w 14 0)).toNat 0 = (-1)
      · rw [if_pos q2] at h ⊢
        exact (h rfl).elim
      · rw [if_neg q2] at h ⊢
        by_cases q3 : (zad (zad w)) 3 4 = 1001
        · rw [if_pos q3] at h ⊢
          by_cases q4 : zFi (fun c => w 15 c.toNat = ((zad (zad w)) 3 5)) ((w 14 0)).toNat 0 = (-1)
          · rw [if_pos q4] at h ⊢
            exact (h rfl).elim
          · rw [if_neg q4] at h ⊢
            by_cases q5 : zFi (fun c => w 15 c.toNat = ((zad (zad w)) 3 5)) ((w 14 0)).toNat 0 = zFi (fun c => w 15 c.toNat = ((zad w) 3 5)) ((w 14 0)).toNat 0
            · rw [if_pos q5] at h ⊢
              exact (h rfl).elim
            · rw [if_neg q5] at h ⊢
              by_cases q6 : w 19 (12 * (zFi (fun c => w 15 c.toNat = ((zad w) 3 5)) ((w 14 0)).toNat 0) + (zFi (fun c => w 15 c.toNat = ((zad (zad w)) 3 5)) ((w 14 0)).toNat 0)).toNat = (-1)
              · rw [if_pos q6] at h ⊢
                by_cases q7 : (zad (zad (zad w))) 3 4 = 1001
                · rw [if_pos q7] at h ⊢
                  by_cases q8 : zFi (fun c => w 15 c.toNat = ((zad (zad (zad w))) 3 5)) ((w 14 0)).toNat 0 = (-1)
                  · rw [if_pos q8] at h ⊢
                    exact (h rfl).elim
                  · rw [if_neg q8] at h ⊢
                    by_cases q9 : zFi (fun c => w 15 c.toNat = ((zad (zad (zad w))) 3 5)) ((w 14 0)).toNat 0 = zFi (fun c => w 15 c.toNat = ((zad w) 3 5)) ((w 14 0)).toNat 0
                    · rw [if_pos q9] at h ⊢
                      exact (h rfl).elim
                    · rw [if_neg q9] at h ⊢
                      by_cases q10 : zFi (fun c => w 15 c.toNat = ((zad (zad (zad w))) 3 5)) ((w 14 0)).toNat 0 = zFi (fun c => w 15 c.toNat = ((zad (zad w)) 3 5)) ((w 14 0)).toNat 0
                      · rw [if_pos q10] at h ⊢
                        exact (h rfl).elim
                      · rw [if_neg q10] at h ⊢
                        by_cases q11 : w 19 (12 * (zFi (fun c => w 15 c.toNat = ((zad (zad w)) 3 5)) ((w 14 0)).toNat 0) + (zFi (fun c => w 15 c.toNat = ((zad (zad (zad w))) 3 5)) ((w 14 0)).toNat 0)).toNat = (-1)
                        · rw [if_pos q11] at h ⊢
                          by_cases q12 : w 19 (12 * (zFi (fun c => w 15 c.toNat = ((zad (zad (zad w))) 3 5)) ((w 14 0)).toNat 0) + (zFi (fun c => w 15 c.toNat = ((zad w) 3 5)) ((w 14 0)).toNat 0)).toNat = (-1)
                          · rw [if_pos q12] at h ⊢
                            exact ⟨rfl, rfl⟩
                          · rw [if_neg q12] at h ⊢
                            exact (h rfl).elim
                        · rw [if_neg q11] at h ⊢
                          exact (h rfl).elim
                · rw [if_neg q7] at h ⊢
                  exact (h rfl).elim
              · rw [if_neg q6] at h ⊢
                exact (h rfl).elim
        · rw [if_neg q3] at h ⊢
          exact (h rfl).elim
    · rw [if_neg q1] at h ⊢
      exact (h rfl).elim
  · rw [if_neg q0] at h ⊢
    exact (h rfl).elim
theorem zrS_ok {w : zW} (h : (zrS w).1 ≠ 0) : (zrS w).2 3 7 = w 3 7 ∧ (zrS w).2 3 8 = w 3 8 := by
  unfold zrS at h ⊢
  by_cases q0 : w 13 3 = 0
  · rw [if_pos q0] at h ⊢
    have e := zpn_ok h
    rw [e]; exact ⟨rfl, rfl⟩
  · rw [if_neg q0] at h ⊢
    exact (h rfl).elim
theorem zrT_ok {w : zW} (h : (zrT w).1 ≠ 0) : (zrT w).2 3 7 = w 3 7 ∧ (zrT w).2 3 8 = w 3 8 := by
  unfold zrT at h ⊢
  by_cases q0 : w 3 4 = 1002
  · rw [if_pos q0] at h ⊢
    exact zrC_ok h
  · rw [if_neg q0] at h ⊢
    by_cases q1 : w 3 4 = 1005
    · rw [if_pos q1] at h ⊢
      exact zrF_ok h
    · rw [if_neg q1] at h ⊢
      by_cases q2 : w 3 4 = 1006
      · rw [if_pos q2] at h ⊢
        exact zrS_ok h
      · rw [if_neg q2] at h ⊢
        exact (h rfl).elim
theorem zrN_ok {w : zW} (h : (zrN w).1 ≠ 0) : (zrN w).2 3 7 = w 3 7 ∧ (zrN w).2 3 8 = w 3 8 := by
  obtain ⟨y1, y2, _⟩ := zrN_y h
  rw [y2]
  exact zrT_ok y1
theorem zRL_ok : ∀ (m : Nat) (w : zW), (zRL m w).1 ≠ 0 → (zRL m w).2 3 7 = w 3 7 ∧ (zRL m w).2 3 8 = w 3 8 := by
  intro m
  induction m with
  | zero => intro w _; exact ⟨rfl, rfl⟩
  | succ m ih =>
    intro w h
    have e : zRL (m + 1) w = if w 3 1 = -1 then (1, w) else if (zrN w).1 = 0 then (0, (zrN w).2) else zRL m (zrN' w) := rfl
    rw [e] at h ⊢
    by_cases g : w 3 1 = -1
    · rw [if_pos g]; exact ⟨rfl, rfl⟩
    · rw [if_neg g] at h ⊢
      by_cases g1 : (zrN w).1 = 0
      · rw [if_pos g1] at h; exact (h rfl).elim
      · rw [if_neg g1] at h ⊢
        have a := ih _ h
        have b := zrN_ok g1
        exact ⟨a.1.trans b.1, a.2.trans b.2⟩
/-- good after, so good before, and the place of an error as it was -/
def zK9 (w v : zW) : Prop := v 93 8 = 0 → w 93 8 = 0 ∧ v 93 9 = w 93 9
theorem zK9.tr {a b c : zW} (h : zK9 a b) (g : zK9 b c) : zK9 a c := fun q => by
  have x := g q
  have y := h x.1
  exact ⟨y.1, x.2.trans y.2⟩
theorem zK9_r (a : zW) : zK9 a a := fun q => ⟨q, rfl⟩
theorem zK9_go (a : zW) : zK9 a (zmgo a) := fun q => ⟨q, rfl⟩
theorem zK9_wr {a : zW} {k : Int} (hk : k ≠ 0) : zK9 a (zwr a k) := fun q => (zwr_8 hk q).elim
theorem zK9_gg (a : zW) : zK9 a (zgg a) := by
  rw [zgg_e]; split
  · exact zK9_go a
  · exact zK9_r a
theorem zK9_ch (a : zW) : zK9 a (zchw a) := by
  rw [zchw_e]; split
  · split
    · exact zK9_wr (by decide)
    · split
      · exact zK9_wr (by decide)
      · exact zK9_r a
  · exact zK9_r a
theorem zK9_w3 (a : zW) (c : Prop) : zK9 a (zw3 a c) := by
  by_cases g : a 93 8 = 0 ∧ c
  · rw [zw3_y g.1 g.2]; exact zK9_wr (by decide)
  · rw [zw3_n g]; exact zK9_r a
theorem zK9_ms (a : zW) (c : Int) : zK9 a (zms a c) := by
  rw [zms_e]; split
  · split
    · exact zK9_go a
    · exact zK9_wr (by decide)
  · exact zK9_r a
theorem zK9_nu (a : zW) (lo hi : Int) : zK9 a (zmnu a lo hi) := by
  rw [zmnu_e]; split
  · split
    · split
      · exact zK9_wr (by decide)
      · exact zK9_go a
    · exact zK9_wr (by decide)
  · exact zK9_r a
theorem zK9_F0 (a : zW) : zK9 a (zF_0 a) := by
  rw [zF_0_e]; split
  · exact zK9_wr (by decide)
  · exact zK9_r a
theorem zK9_F (a : zW) : zK9 a (zmF a) := by
  have k4 : zK9 a (zF_4 a) := ((((((((zK9_F0 a).tr (zK9_gg _)).tr (zK9_ch _)).tr (zK9_gg _)).tr (zK9_ch _)).tr (zK9_w3 _ _)).tr (zK9_gg _)).tr (zK9_ch _)).tr (zK9_w3 _ _)
  by_cases g : zF_4 a 93 8 = 0
  · rw [show zmF a = _ from if_pos g]
    exact fun q => k4 q
  · rw [show zmF a = _ from if_neg g]
    exact k4
theorem zK9_C (w : zW) : zK9 w (zmC w) := by
  unfold zmC
  by_cases q0 : w 95 1 = 12
  · rw [if_pos q0]
    by_cases q1 : w 93 6 = 4
    · rw [if_pos q1]
      exact fun q => absurd (show (1 : Int) = 0 from q) (by decide)
    · rw [if_neg q1]
      exact fun q => absurd (show (5 : Int) = 0 from q) (by decide)
  · rw [if_neg q0]
    by_cases q2 : zmNi (((zmgo w) 93 6)) (((zmgo w) 93 12)) = 0
    · rw [if_pos q2]
      exact fun q => absurd (show (1 : Int) = 0 from q) (by decide)
    · rw [if_neg q2]
      by_cases q3 : znd (w 101) ((w 95 1)) (((zmgo w) 93 12)) 12 < w 95 1
      · rw [if_pos q3]
        by_cases q4 : (zmgo w) 93 6 = 4
        · rw [if_pos q4]
          exact fun q => absurd (show (1 : Int) = 0 from q) (by decide)
        · rw [if_neg q4]
          exact fun q => absurd (show (3 : Int) = 0 from q) (by decide)
      · rw [if_neg q3]
        by_cases q5 : (zmgo (zupd (zupd (zupd (zmgo w) 101 (12 + w 95 1).toNat ((zmgo w) 93 12)) 97 (12 + w 95 1).toNat 360) 98 (12 + w 95 1).toNat 0)) 93 6 = 1
        · rw [if_pos q5]
          by_cases q6 : (zmgo (zupd (zupd (zupd (zmgo w) 101 (12 + w 95 1).toNat ((zmgo w) 93 12)) 97 (12 + w 95 1).toNat 360) 98 (12 + w 95 1).toNat 0)) 93 12 = 605169331
          · rw [if_pos q6]
            exact fun q => zK9_nu (zmgo (zmgo (zupd (zupd (zupd (zmgo w) 101 (12 + w 95 1).toNat ((zmgo w) 93 12)) 97 (12 + w 95 1).toNat 360) 98 (12 + w 95 1).toNat 0))) 1 100000 q
          · rw [if_neg q6]
            by_cases q7 : (zmgo (zupd (zupd (zupd (zmgo w) 101 (12 + w 95 1).toNat ((zmgo w) 93 12)) 97 (12 + w 95 1).toNat 360) 98 (12 + w 95 1).toNat 0)) 93 12 = 1514885
            · rw [if_pos q7]
              exact fun q => zK9_nu (zmgo (zmgo (zupd (zupd (zupd (zmgo w) 101 (12 + w 95 1).toNat ((zmgo w) 93 12)) 97 (12 + w 95 1).toNat 360) 98 (12 + w 95 1).toNat 0))) 1 1800 q
            · rw [if_neg q7]
              exact fun q => ⟨q, rfl⟩
        · rw [if_neg q5]
          exact fun q => ⟨q, rfl⟩
theorem zK9_T (w : zW) : zK9 w (zmT w) := by
  unfold zmT
  by_cases q0 : w 93 6 = 1
  · rw [if_pos q0]
    by_cases q1 : w 93 12 = 110693765
    · rw [if_pos q1]
      exact (zK9_C w).tr (zK9_ms _ _)
    · rw [if_neg q1]
      by_cases q2 : w 93 12 = 197733
      · rw [if_pos q2]
        exact (zK9_F w).tr (zK9_ms _ _)
      · rw [if_neg q2]
        by_cases q3 : w 93 12 = 20022661
        · rw [if_pos q3]
          by_cases q4 : w 93 25 = 0
          · rw [if_pos q4]
            refine zK9.tr (b := (zupd (zmnu (zupd (zmgo w) 93 25 1) (1 : Int) (100000 : Int)) 93 26 ((zmgo w) 93 7))) ?_ (zK9_ms _ _)
            exact fun q => zK9_nu (zupd (zmgo w) 93 25 1) 1 100000 q
          · rw [if_neg q4]
            by_cases q5 : w 93 6 = 4
            · rw [if_pos q5]
              refine zK9.tr (b := (zupd (zmnu (zupd (zupd (zupd w 93 8 1) 93 9 (w 93 5)) 93 25 1) (1 : Int) (100000 : Int)) 93 26 (w 93 7))) ?_ (zK9_ms _ _)
              exact fun q => absurd (show (1 : Int) = 0 from (zK9_nu (zupd (zupd (zupd w 93 8 1) 93 9 (w 93 5)) 93 25 1) 1 100000 q).1) (by decide)
            · rw [if_neg q5]
              refine zK9.tr (b := (zupd (zmnu (zupd (zupd (zupd w 93 8 3) 93 9 (w 93 5)) 93 25 1) (1 : Int) (100000 : Int)) 93 26 (w 93 7))) ?_ (zK9_ms _ _)
              exact fun q => absurd (show (3 : Int) = 0 from (zK9_nu (zupd (zupd (zupd w 93 8 3) 93 9 (w 93 5)) 93 25 1) 1 100000 q).1) (by decide)
        · rw [if_neg q3]
          refine zK9.tr (b := (zupd (zupd w 93 8 1) 93 9 (w 93 5))) ?_ (zK9_ms _ _)
          exact fun q => absurd (show (1 : Int) = 0 from q) (by decide)
  · rw [if_neg q0]
    refine zK9.tr (b := (zupd (zupd w 93 8 1) 93 9 (w 93 5))) ?_ (zK9_ms _ _)
    exact fun q => absurd (show (1 : Int) = 0 from q) (by decide)
theorem zK9_L : ∀ (m : Nat) (w : zW), zK9 w (zML m w) := by
  intro m
  induction m with
  | zero => intro w; exact zK9_r w
  | succ m ih =>
    intro w
    have e : zML (m + 1) w = if w 93 8 = 0 ∧ w 93 6 ≠ 0 then zML m (zmN' w) else w := rfl
    rw [e]
    split
    · have k : zK9 w (zmN' w) := fun q => zK9_T w q
      exact k.tr (ih _)
    · exact zK9_r w

/-! ===== class and model read the same statements: circles (written by wip/whole/gen_c.py) ===== -/
def zEr (a b : zW) : Prop := 0 < b 93 8 ∧ a 3 7 = b 93 8 ∧ a 3 8 = b 93 9
def zOut (r : Int × zW) (b : zW) : Prop := (r.1 = 1 ∧ b 93 8 = 0 ∧ zSy r.2 b ∧ zDr r.2 b) ∨ (r.1 = 0 ∧ zEr r.2 b)
theorem zSy.ta {a a' b : zW} (h : zSy a b) (e1 : a' 1 1 = a 1 1) (e2 : a' 2 = a 2) (k1 : a' 3 1 = a 3 1) (k2 : a' 3 2 = a 3 2) (k3 : a' 3 3 = a 3 3) (k4 : a' 3 4 = a 3 4) (k5 : a' 3 5 = a 3 5) (k6 : a' 3 6 = a 3 6) : zSy a' b := by
  unfold zSy zPT at h ⊢
  rw [e1, e2, k1, k2, k3, k4, k5, k6]
  exact h
theorem zSy.tb {a b b' : zW} (h : zSy a b) (e1 : b' 94 = b 94) (k3 : b' 93 3 = b 93 3) (k4 : b' 93 4 = b 93 4) (k5 : b' 93 5 = b 93 5) (k6 : b' 93 6 = b 93 6) (k7 : b' 93 7 = b 93 7) (k12 : b' 93 12 = b 93 12) : zSy a b' := by
  unfold zSy at h ⊢
  rw [e1, k3, k4, k5, k6, k7, k12]
  exact h
theorem zEr_k {a b : zW} (h : zSy a b) {k : Int} (hk : 0 < k) : zEr (zupd (zupd a 3 7 k) 3 8 (a 3 2)) (zupd (zupd b 93 8 k) 93 9 (b 93 5)) := ⟨hk, rfl, h.2.1⟩
theorem zEr_fl {a b : zW} (h : zSy a b) {k : Int} (hk : 0 < k) (g : b 93 6 = 4 → k = 1) : zEr (zfl a k) (zwr b k) := by
  have e : (if b 93 6 = 4 then 1 else k) = k := by
    by_cases q : b 93 6 = 4
    · rw [if_pos q, g q]
    · rw [if_neg q]
  unfold zwr
  rw [e]
  exact zEr_k h hk
theorem zSy.pn {a b : zW} (h : zSy a b) (g : b 93 8 = 0) (lo hi : Int) : ((zpn a lo hi).1 = 1 ∧ zmnu b lo hi 93 8 = 0 ∧ zSy (zpn a lo hi).2 (zmnu b lo hi) ∧ a 3 6 = b 93 7 ∧ lo ≤ b 93 7 ∧ b 93 7 ≤ hi) ∨ ((zpn a lo hi).1 = 0 ∧ zEr (zpn a lo hi).2 (zmnu b lo hi)) := by
  by_cases k : a 3 1 = 2
  · have k2 := h.kd.2.1.mp k
    have ev := h.kd.2.2.1 k
    by_cases r : a 3 6 < lo ∨ hi < a 3 6
    · right
      rw [zpn_r k r, zmnu_e, if_pos g, if_pos k2, if_pos (by rw [← ev]; exact r)]
      exact ⟨rfl, zEr_fl h (by decide) fun q => by omega⟩
    · left
      rw [zpn_y k r, zmnu_e, if_pos g, if_pos k2, if_neg (by rw [← ev]; exact r)]
      exact ⟨rfl, g, h.ad (by omega), ev, by omega, by omega⟩
  · right
    rw [zpn_n k, zmnu_e, if_pos g, if_neg fun q => k (h.kd.2.1.mpr q)]
    exact ⟨rfl, zEr_fl h (by decide) fun _ => rfl⟩
theorem zSy.ps {a b : zW} (h : zSy a b) (g : b 93 8 = 0) {x : Int} (hx : zsg x) : ((zps a x).1 = 1 ∧ zms b x 93 8 = 0 ∧ zps a x = (1, zad a) ∧ zms b x = zmgo b ∧ zSy (zad a) (zmgo b)) ∨ ((zps a x).1 = 0 ∧ zEr (zps a x).2 (zms b x)) := by
  have x1 := (zsg_l hx).2.2.1
  by_cases k : a 3 1 = x
  · have k2 := (h.kd.2.2.2 x hx).mp k
    left
    rw [zps_y k, zms_e, if_pos g, if_pos k2]
    exact ⟨rfl, g, rfl, rfl, h.ad (by omega)⟩
  · right
    rw [zps_n k, zms_e, if_pos g, if_neg fun q => k ((h.kd.2.2.2 x hx).mpr q)]
    exact ⟨rfl, zEr_fl h (by decide) fun _ => rfl⟩
theorem zmnu_k {w : zW} {lo hi : Int} {j : Nat} (h : j = 25 ∨ j = 26 ∨ j = 27) : zmnu w lo hi 93 j = w 93 j := by
  rw [zmnu_e]
  rcases h with h | h | h <;> (subst h; repeat' split) <;> rfl
theorem zSy.wn {a b : zW} (h : zSy a b) : a 3 4 = 1001 ↔ zmNi (b 93 6) (b 93 12) ≠ 0 := h.wd.2.2.2.2.2.2.2.2.2.2.2.2.1
theorem zSy.wm {a b : zW} (h : zSy a b) (g : a 3 4 = 1001) : b 93 6 = 1 ∧ a 3 1 = 1 ∧ znm (a 3 5) (b 93 12) := h.wd.2.2.2.2.2.2.2.2.2.2.2.2.2 g
theorem zJC {a b : zW} (h : zSy a b) (d : zDr a b) (g : b 93 8 = 0) (k : a 3 1 ≠ -1) (w6 : b 93 6 = 1) : zOut (zrC a) (zmC b) := by
  obtain ⟨d0, d1, d2, d3⟩ := d
  have hn := d0.1
  have s1 := h.ad k
  unfold zrC zmC
  by_cases c1 : a 14 0 < 12
  · rw [if_pos c1, if_neg (show ¬ b 95 1 = 12 by omega)]
    by_cases c2 : zad a 3 4 = 1001
    · rw [if_pos c2, if_neg (s1.wn.mp c2)]
      have nw := s1.wm c2
      have ef : zFi (fun c => a 15 c.toNat = ((zad a) 3 5)) ((a 14 0)).toNat 0 = zFi (fun c => b 101 (12 + c).toNat = (zmgo b) 93 12) (b 95 1).toNat 0 := d0.nm nw.2.2
      have rg := zFi_rg (p := fun c => b 101 (12 + c).toNat = (zmgo b) 93 12) (b 95 1).toNat 0 (by omega)
      by_cases c3 : zFi (fun c => a 15 c.toNat = ((zad a) 3 5)) ((a 14 0)).toNat 0 = -1
      · have m3 : ¬ znd (b 101) (b 95 1) ((zmgo b) 93 12) 12 < b 95 1 := by
          unfold znd
          rw [← ef, if_pos c3]; omega
        rw [if_pos c3, if_neg m3]
        have s2 : zSy (zad (zad a)) (zmgo (zupd (zupd (zupd (zmgo b) 101 (12 + b 95 1).toNat ((zmgo b) 93 12)) 97 (12 + b 95 1).toNat 360) 98 (12 + b 95 1).toNat 0)) := (s1.ad (by rw [nw.2.1]; decide)).tb rfl rfl rfl rfl rfl rfl rfl
        have w2 := s2.wd
        have x0 : znm (zad a 3 5) ((zmgo b) 93 12) := nw.2.2
        by_cases c4 : zad (zad a) 3 4 = 1003
        · have m := w2.2.1.mp c4
          rw [if_pos c4, if_pos m.1, if_pos m.2]
          have s3 := s2.ad (by have := s2.2.2.1.wd (by omega); omega)
          rcases s3.pn (g : zmgo (zmgo (zupd (zupd (zupd (zmgo b) 101 (12 + b 95 1).toNat ((zmgo b) 93 12)) 97 (12 + b 95 1).toNat 360) 98 (12 + b 95 1).toNat 0)) 93 8 = 0) 1 100000 with q | q
          · rw [if_neg (by rw [q.1]; decide)]
            left
            refine ⟨rfl, q.2.1, (q.2.2.1.ta rfl rfl rfl rfl rfl rfl rfl rfl).tb rfl rfl rfl rfl rfl rfl rfl, zDn_c (dg := 0) (r := (zad (zad (zad a))) 3 6) d0 (by omega) x0 (by decide) (Or.inl ⟨rfl, by omega, by omega⟩) rfl rfl rfl rfl (fun i => rfl) (fun i => rfl) (fun i => rfl) (fun i => rfl) (fun i => ?_) (fun i => ?_) rfl rfl rfl rfl, ?_, ?_, ?_⟩
            · show (if i = (12 + b 95 1).toNat then 0 else if i = (12 + b 95 1).toNat then 360 else b 97 i) = if i = (12 + b 95 1).toNat then 0 else b 97 i
              split <;> rfl
            · show (if i = (12 + b 95 1).toNat then (zmgo (zmgo (zupd (zupd (zupd (zmgo b) 101 (12 + b 95 1).toNat ((zmgo b) 93 12)) 97 (12 + b 95 1).toNat 360) 98 (12 + b 95 1).toNat 0))) 93 7 else if i = (12 + b 95 1).toNat then 0 else b 98 i) = if i = (12 + b 95 1).toNat then (zad (zad (zad a))) 3 6 else b 98 i
              rw [q.2.2.2.1]
              split <;> rfl
            · show a 14 2 = zmnu (zmgo (zmgo (zupd (zupd (zupd (zmgo b) 101 (12 + b 95 1).toNat ((zmgo b) 93 12)) 97 (12 + b 95 1).toNat 360) 98 (12 + b 95 1).toNat 0))) 1 100000 93 26 ∧ 1 ≤ zmnu (zmgo (zmgo (zupd (zupd (zupd (zmgo b) 101 (12 + b 95 1).toNat ((zmgo b) 93 12)) 97 (12 + b 95 1).toNat 360) 98 (12 + b 95 1).toNat 0))) 1 100000 93 26 ∧ zmnu (zmgo (zmgo (zupd (zupd (zupd (zmgo b) 101 (12 + b 95 1).toNat ((zmgo b) 93 12)) 97 (12 + b 95 1).toNat 360) 98 (12 + b 95 1).toNat 0))) 1 100000 93 26 ≤ 100000
              rw [zmnu_k (by omega)]
              exact d1
            · show a 13 3 = zmnu (zmgo (zmgo (zupd (zupd (zupd (zmgo b) 101 (12 + b 95 1).toNat ((zmgo b) 93 12)) 97 (12 + b 95 1).toNat 360) 98 (12 + b 95 1).toNat 0))) 1 100000 93 25 ∧ (zmnu (zmgo (zmgo (zupd (zupd (zupd (zmgo b) 101 (12 + b 95 1).toNat ((zmgo b) 93 12)) 97 (12 + b 95 1).toNat 360) 98 (12 + b 95 1).toNat 0))) 1 100000 93 25 = 0 ∨ zmnu (zmgo (zmgo (zupd (zupd (zupd (zmgo b) 101 (12 + b 95 1).toNat ((zmgo b) 93 12)) 97 (12 + b 95 1).toNat 360) 98 (12 + b 95 1).toNat 0))) 1 100000 93 25 = 1)
              rw [zmnu_k (by omega)]
              exact d2
            · show a 13 2 = zmnu (zmgo (zmgo (zupd (zupd (zupd (zmgo b) 101 (12 + b 95 1).toNat ((zmgo b) 93 12)) 97 (12 + b 95 1).toNat 360) 98 (12 + b 95 1).toNat 0))) 1 100000 93 27
              rw [zmnu_k (by omega)]
              exact d3
          · rw [if_pos q.1]
            exact Or.inr ⟨rfl, q.2⟩
        · rw [if_neg c4]
          by_cases c5 : zad (zad a) 3 4 = 1004
          · have m := w2.2.2.1.mp c5
            rw [if_pos c5, if_pos m.1, if_neg (fun q => c4 (w2.2.1.mpr ⟨m.1, q⟩)), if_pos m.2]
            have s3 := s2.ad (by have := s2.2.2.1.wd (by omega); omega)
            rcases s3.pn (g : zmgo (zmgo (zupd (zupd (zupd (zmgo b) 101 (12 + b 95 1).toNat ((zmgo b) 93 12)) 97 (12 + b 95 1).toNat 360) 98 (12 + b 95 1).toNat 0)) 93 8 = 0) 1 1800 with q | q
            · rw [if_neg (by rw [q.1]; decide)]
              left
              refine ⟨rfl, q.2.1, (q.2.2.1.ta rfl rfl rfl rfl rfl rfl rfl rfl).tb rfl rfl rfl rfl rfl rfl rfl, zDn_c (dg := (zad (zad (zad a))) 3 6) (r := 0) d0 (by omega) x0 (by omega) (Or.inr ⟨by omega, rfl⟩) rfl rfl rfl rfl (fun i => rfl) (fun i => rfl) (fun i => rfl) (fun i => rfl) (fun i => ?_) (fun i => rfl) rfl rfl rfl rfl, ?_, ?_, ?_⟩
              · show (if i = (12 + b 95 1).toNat then (zmgo (zmgo (zupd (zupd (zupd (zmgo b) 101 (12 + b 95 1).toNat ((zmgo b) 93 12)) 97 (12 + b 95 1).toNat 360) 98 (12 + b 95 1).toNat 0))) 93 7 else if i = (12 + b 95 1).toNat then 360 else b 97 i) = if i = (12 + b 95 1).toNat then (zad (zad (zad a))) 3 6 else b 97 i
                rw [q.2.2.2.1]
                split <;> rfl
              · show a 14 2 = zmnu (zmgo (zmgo (zupd (zupd (zupd (zmgo b) 101 (12 + b 95 1).toNat ((zmgo b) 93 12)) 97 (12 + b 95 1).toNat 360) 98 (12 + b 95 1).toNat 0))) 1 1800 93 26 ∧ 1 ≤ zmnu (zmgo (zmgo (zupd (zupd (zupd (zmgo b) 101 (12 + b 95 1).toNat ((zmgo b) 93 12)) 97 (12 + b 95 1).toNat 360) 98 (12 + b 95 1).toNat 0))) 1 1800 93 26 ∧ zmnu (zmgo (zmgo (zupd (zupd (zupd (zmgo b) 101 (12 + b 95 1).toNat ((zmgo b) 93 12)) 97 (12 + b 95 1).toNat 360) 98 (12 + b 95 1).toNat 0))) 1 1800 93 26 ≤ 100000
                rw [zmnu_k (by omega)]
                exact d1
              · show a 13 3 = zmnu (zmgo (zmgo (zupd (zupd (zupd (zmgo b) 101 (12 + b 95 1).toNat ((zmgo b) 93 12)) 97 (12 + b 95 1).toNat 360) 98 (12 + b 95 1).toNat 0))) 1 1800 93 25 ∧ (zmnu (zmgo (zmgo (zupd (zupd (zupd (zmgo b) 101 (12 + b 95 1).toNat ((zmgo b) 93 12)) 97 (12 + b 95 1).toNat 360) 98 (12 + b 95 1).toNat 0))) 1 1800 93 25 = 0 ∨ zmnu (zmgo (zmgo (zupd (zupd (zupd (zmgo b) 101 (12 + b 95 1).toNat ((zmgo b) 93 12)) 97 (12 + b 95 1).toNat 360) 98 (12 + b 95 1).toNat 0))) 1 1800 93 25 = 1)
                rw [zmnu_k (by omega)]
                exact d2
              · show a 13 2 = zmnu (zmgo (zmgo (zupd (zupd (zupd (zmgo b) 101 (12 + b 95 1).toNat ((zmgo b) 93 12)) 97 (12 + b 95 1).toNat 360) 98 (12 + b 95 1).toNat 0))) 1 1800 93 27
                rw [zmnu_k (by omega)]
                exact d3
            · rw [if_pos q.1]
              exact Or.inr ⟨rfl, q.2⟩
          · rw [if_neg c5]
            have fin : zOut (1, zac (zad (zad a)) ((zad a) 3 5) (360 : Int) (0 : Int)) (zupd (zmgo (zupd (zupd (zupd (zmgo b) 101 (12 + b 95 1).toNat ((zmgo b) 93 12)) 97 (12 + b 95 1).toNat 360) 98 (12 + b 95 1).toNat 0)) 95 1 (b 95 1 + 1)) := by
              left
              exact ⟨rfl, g, (s2.ta rfl rfl rfl rfl rfl rfl rfl rfl).tb rfl rfl rfl rfl rfl rfl rfl, zDn_c (dg := 360) (r := 0) d0 (by omega) x0 (by decide) (Or.inr ⟨by decide, rfl⟩) rfl rfl rfl rfl (fun i => rfl) (fun i => rfl) (fun i => rfl) (fun i => rfl) (fun i => rfl) (fun i => rfl) rfl rfl rfl rfl, d1, d2, d3⟩
            by_cases t6 : (zmgo (zupd (zupd (zupd (zmgo b) 101 (12 + b 95 1).toNat ((zmgo b) 93 12)) 97 (12 + b 95 1).toNat 360) 98 (12 + b 95 1).toNat 0)) 93 6 = 1
            · rw [if_pos t6, if_neg (fun q => c4 (w2.2.1.mpr ⟨t6, q⟩)), if_neg (fun q => c5 (w2.2.2.1.mpr ⟨t6, q⟩))]
              exact fin
            · rw [if_neg t6]
              exact fin
      · have m3 : znd (b 101) (b 95 1) ((zmgo b) 93 12) 12 < b 95 1 := by
          unfold znd
          rw [← ef, if_neg c3]; omega
        rw [if_neg c3, if_pos m3, if_neg (show ¬ (zmgo b) 93 6 = 4 by rw [nw.1]; decide)]
        exact Or.inr ⟨rfl, zEr_k s1 (by decide)⟩
    · rw [if_neg c2, if_pos (Classical.byContradiction fun q => c2 (s1.wn.mpr q))]
      exact Or.inr ⟨rfl, zEr_k s1 (by decide)⟩
  · rw [if_neg c1, if_pos (show b 95 1 = 12 by omega), if_neg (show ¬ b 93 6 = 4 by rw [w6]; decide)]
    exact Or.inr ⟨rfl, zEr_k h (by decide)⟩

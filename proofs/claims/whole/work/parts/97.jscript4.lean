/-! ===== class and model read the same parts of a script: circles, all parts (written by wip/whole/gen_c.py) ===== -/
theorem zJ1007 {a b : zW} (h : zSy a b) (g : b 93 8 = 0) (q : zSq a b) (k : a 3 1 ≠ -1) (v : a 3 4 = 1007) : zOr (a 3 2) (zkR (zkN a)) (zmkk (zmK1 b) 0) := by
  have s1 : zSy (zad (zkN a)) (zmK1 b) := ((h.ta (a' := zkN a) rfl rfl rfl rfl rfl rfl rfl rfl).tb (b' := zupd b 93 40 (b 93 40 + 1)) rfl rfl rfl rfl rfl rfl rfl).ad k
  have l := h.lt k
  have m : a 3 3 ≤ zad (zkN a) 3 2 := (zad_mo (zkN a)).1
  have m9 : zad (zkN a) 3 2 ≤ zad (zkN a) 3 3 := (zad_mo (zkN a)).2
  have g1 : zmK1 b 93 8 = 0 := g
  have q1 := q.1
  rw [zkR_1007 (w := zkN a) v]
  by_cases c2 : zad (zkN a) 3 4 = 1001
  · rw [if_pos c2]
    have nm := s1.wm c2
    have ni : zmNi (zmK1 b 93 6) (zmK1 b 93 12) ≠ 0 := s1.wn.mp c2
    have ef : zFi (fun c => (zkN a) 5 c.toNat = ((zad (zkN a)) 3 5)) (((zkN a) 4 0)).toNat 0 = zFi (fun c => (zmK1 b) 101 c.toNat = (zmK1 b) 93 12) ((zmK1 b) 95 0).toNat 0 := q.nm nm.2.2
    have hn := q.2.1.2.1
    have rg := zFi_rg (p := fun c => (zmK1 b) 101 c.toNat = (zmK1 b) 93 12) ((zmK1 b) 95 0).toNat 0 (by show 0 ≤ (0 : Int) ; decide)
    have e95 : zmK1 b 95 0 = b 95 0 := rfl
    rw [ef]
    by_cases c3 : zFi (fun c => (zmK1 b) 101 c.toNat = (zmK1 b) 93 12) ((zmK1 b) 95 0).toNat 0 = -1
    · have z0 : zcq0 (zmK1 b) = zmK1 b 95 0 := if_pos c3
      rw [if_pos c3, show zmkk (zmK1 b) 0 = zwr (zmK1 b) 4 from (show zmkk (zmK1 b) 0 = zma (zcb (zmK1 b)) 0 (zcq0 (zmK1 b)) 0 from rfl).trans (by rw [zcb_4 g1 ni z0, zma_n (zwr_z _ (by decide))])]
      exact Or.inr ⟨rfl, zEr_fl s1 (by decide) fun qq => by have := nm.1; omega⟩
    · have z0 : zcq0 (zmK1 b) = zFi (fun c => (zmK1 b) 101 c.toNat = (zmK1 b) 93 12) ((zmK1 b) 95 0).toNat 0 := if_neg c3
      have zn : zcq0 (zmK1 b) ≠ zmK1 b 95 0 := by rw [z0]; omega
      have s2 : zSy (zad (zad (zkN a))) (zmgo (zmK1 b)) := s1.ad (by rw [nm.2.1]; decide)
      have g2 : zmgo (zmK1 b) 93 8 = 0 := g
      have m2 := zad_mo (zad (zkN a))
      have m3 : zad (zad (zkN a)) 3 2 ≤ zad (zad (zkN a)) 3 3 := m2.2
      rw [if_neg c3]

      rw [show zmkk (zmK1 b) 0 = zma (zcb (zmK1 b)) 0 (zcq0 (zmK1 b)) 0 from rfl, zcb_y g1 ni zn, z0]
      have j39 : zmgo (zmK1 b) 93 39 = b 93 39 := (zmgo_j (by decide)).trans (zmgo_j (by decide))
      have j40 : zmgo (zmK1 b) 93 40 = b 93 40 + 1 := (zmgo_j (by decide)).trans (zmgo_j (by decide))
      have j41 : zmgo (zmK1 b) 93 41 = b 93 41 := (zmgo_j (by decide)).trans (zmgo_j (by decide))
      obtain ⟨z1, z2, z3, z4⟩ := zma_h (X := zmgo (zmK1 b)) (b := b) (c := 0) (y := zFi (fun c => (zmK1 b) 101 c.toNat = (zmK1 b) 93 12) ((zmK1 b) 95 0).toNat 0) (z := 0) g2 j39 rfl rfl rfl
      have k7 : zma (zmgo (zmK1 b)) 0 (zFi (fun c => (zmK1 b) 101 c.toNat = (zmK1 b) 93 12) ((zmK1 b) 95 0).toNat 0) 0 93 40 = b 93 40 + 1 := (zma_j (by decide)).trans j40
      have k8 : zma (zmgo (zmK1 b)) 0 (zFi (fun c => (zmK1 b) 101 c.toNat = (zmK1 b) 93 12) ((zmK1 b) 95 0).toNat 0) 0 93 41 = b 93 41 := (zma_j (by decide)).trans j41
      refine Or.inl ⟨rfl, (zma_j (by decide)).trans g2, (s2.ta rfl rfl rfl rfl rfl rfl rfl rfl).ma, ?_, ?_⟩
      · refine zSq_p (x := 0) (c := zFi (fun c => (zmK1 b) 101 c.toNat = (zmK1 b) 93 12) ((zmK1 b) 95 0).toNat 0) (n := zad (zad (zkN a)) 3 6) (y := zFi (fun c => (zmK1 b) 101 c.toNat = (zmK1 b) 93 12) ((zmK1 b) 95 0).toNat 0) (z := 0) q (fun i => rfl) (fun i => rfl) (fun i => rfl) z1 z2 z3 rfl z4 ?_ ?_ rfl rfl rfl rfl rfl rfl (Or.inl ⟨rfl, rfl, by omega, by omega⟩)
        · show a 23 7 + 1 = zma (zmgo (zmK1 b)) 0 (zFi (fun c => (zmK1 b) 101 c.toNat = (zmK1 b) 93 12) ((zmK1 b) 95 0).toNat 0) 0 93 40
          omega
        · show a 23 8 = zma (zmgo (zmK1 b)) 0 (zFi (fun c => (zmK1 b) 101 c.toNat = (zmK1 b) 93 12) ((zmK1 b) 95 0).toNat 0) 0 93 41
          omega
      · show a 3 2 + 1 ≤ zad (zad (zkN a)) 3 2
        omega
  · rw [if_neg c2]
    have ni : zmNi (zmK1 b 93 6) (zmK1 b 93 12) = 0 := by
      by_cases n : zmNi (zmK1 b 93 6) (zmK1 b 93 12) = 0
      · exact n
      · exact (c2 (s1.wn.mpr n)).elim
    rw [show zmkk (zmK1 b) 0 = zwr (zmK1 b) 1 from (show zmkk (zmK1 b) 0 = zma (zcb (zmK1 b)) 0 (zcq0 (zmK1 b)) 0 from rfl).trans (by rw [zcb_1 g1 ni, zma_n (zwr_z _ (by decide))])]
    exact Or.inr ⟨rfl, zEr_fl s1 (by decide) fun _ => rfl⟩
theorem zJ1009 {a b : zW} (h : zSy a b) (g : b 93 8 = 0) (q : zSq a b) (k : a 3 1 ≠ -1) (v : a 3 4 = 1009) : zOr (a 3 2) (zkR (zkN a)) (zmkk (zmK1 b) 2) := by
  have s1 : zSy (zad (zkN a)) (zmK1 b) := ((h.ta (a' := zkN a) rfl rfl rfl rfl rfl rfl rfl rfl).tb (b' := zupd b 93 40 (b 93 40 + 1)) rfl rfl rfl rfl rfl rfl rfl).ad k
  have l := h.lt k
  have m : a 3 3 ≤ zad (zkN a) 3 2 := (zad_mo (zkN a)).1
  have m9 : zad (zkN a) 3 2 ≤ zad (zkN a) 3 3 := (zad_mo (zkN a)).2
  have g1 : zmK1 b 93 8 = 0 := g
  have q1 := q.1
  rw [zkR_1009 (w := zkN a) v]
  by_cases c2 : zad (zkN a) 3 4 = 1001
  · rw [if_pos c2]
    have nm := s1.wm c2
    have ni : zmNi (zmK1 b 93 6) (zmK1 b 93 12) ≠ 0 := s1.wn.mp c2
    have ef : zFi (fun c => (zkN a) 5 c.toNat = ((zad (zkN a)) 3 5)) (((zkN a) 4 0)).toNat 0 = zFi (fun c => (zmK1 b) 101 c.toNat = (zmK1 b) 93 12) ((zmK1 b) 95 0).toNat 0 := q.nm nm.2.2
    have hn := q.2.1.2.1
    have rg := zFi_rg (p := fun c => (zmK1 b) 101 c.toNat = (zmK1 b) 93 12) ((zmK1 b) 95 0).toNat 0 (by show 0 ≤ (0 : Int) ; decide)
    have e95 : zmK1 b 95 0 = b 95 0 := rfl
    rw [ef]
    by_cases c3 : zFi (fun c => (zmK1 b) 101 c.toNat = (zmK1 b) 93 12) ((zmK1 b) 95 0).toNat 0 = -1
    · have z0 : zcq0 (zmK1 b) = zmK1 b 95 0 := if_pos c3
      rw [if_pos c3, show zmkk (zmK1 b) 2 = zwr (zmK1 b) 4 from (show zmkk (zmK1 b) 2 = zma (zmnu (zcb (zmK1 b)) 1 1000000) 2 (zcq0 (zmK1 b)) (zcb (zmK1 b) 93 7) from rfl).trans (by rw [zcb_4 g1 ni z0, zmnu_n (zwr_z _ (by decide)), zma_n (zwr_z _ (by decide))])]
      exact Or.inr ⟨rfl, zEr_fl s1 (by decide) fun qq => by have := nm.1; omega⟩
    · have z0 : zcq0 (zmK1 b) = zFi (fun c => (zmK1 b) 101 c.toNat = (zmK1 b) 93 12) ((zmK1 b) 95 0).toNat 0 := if_neg c3
      have zn : zcq0 (zmK1 b) ≠ zmK1 b 95 0 := by rw [z0]; omega
      have s2 : zSy (zad (zad (zkN a))) (zmgo (zmK1 b)) := s1.ad (by rw [nm.2.1]; decide)
      have g2 : zmgo (zmK1 b) 93 8 = 0 := g
      have m2 := zad_mo (zad (zkN a))
      have m3 : zad (zad (zkN a)) 3 2 ≤ zad (zad (zkN a)) 3 3 := m2.2
      rw [if_neg c3]

      rw [show zmkk (zmK1 b) 2 = zma (zmnu (zcb (zmK1 b)) 1 1000000) 2 (zcq0 (zmK1 b)) (zcb (zmK1 b) 93 7) from rfl, zcb_y g1 ni zn, z0]
      rcases s2.pn g2 1 1000000 with ⟨p1, p2, p3, p4, p5, p6⟩ | ⟨p1, p2⟩
      · rw [if_neg (by rw [p1]; decide)]
        have j39 : zmnu (zmgo (zmK1 b)) 1 1000000 93 39 = b 93 39 := (zmnu_j (by decide)).trans ((zmgo_j (by decide)).trans (zmgo_j (by decide)))
        have j40 : zmnu (zmgo (zmK1 b)) 1 1000000 93 40 = b 93 40 + 1 := (zmnu_j (by decide)).trans ((zmgo_j (by decide)).trans (zmgo_j (by decide)))
        have j41 : zmnu (zmgo (zmK1 b)) 1 1000000 93 41 = b 93 41 := (zmnu_j (by decide)).trans ((zmgo_j (by decide)).trans (zmgo_j (by decide)))
        obtain ⟨z1, z2, z3, z4⟩ := zma_h (X := zmnu (zmgo (zmK1 b)) 1 1000000) (b := b) (c := 2) (y := zFi (fun c => (zmK1 b) 101 c.toNat = (zmK1 b) 93 12) ((zmK1 b) 95 0).toNat 0) (z := zmgo (zmK1 b) 93 7) p2 j39 rfl rfl rfl
        have k7 : zma (zmnu (zmgo (zmK1 b)) 1 1000000) 2 (zFi (fun c => (zmK1 b) 101 c.toNat = (zmK1 b) 93 12) ((zmK1 b) 95 0).toNat 0) (zmgo (zmK1 b) 93 7) 93 40 = b 93 40 + 1 := (zma_j (by decide)).trans j40
        have k8 : zma (zmnu (zmgo (zmK1 b)) 1 1000000) 2 (zFi (fun c => (zmK1 b) 101 c.toNat = (zmK1 b) 93 12) ((zmK1 b) 95 0).toNat 0) (zmgo (zmK1 b) 93 7) 93 41 = b 93 41 := (zma_j (by decide)).trans j41
        have kk : zad (zad (zkN a)) 3 1 = 2 := by
          by_cases kk : zad (zad (zkN a)) 3 1 = 2
          · exact kk
          · rw [zpn_n kk] at p1; exact absurd (show (0 : Int) = 1 from p1) (by decide)
        refine Or.inl ⟨rfl, (zma_j (by decide)).trans p2, (p3.ta rfl rfl rfl rfl rfl rfl rfl rfl).ma, ?_, ?_⟩
        · refine zSq_p (x := 2) (c := zFi (fun c => (zmK1 b) 101 c.toNat = (zmK1 b) 93 12) ((zmK1 b) 95 0).toNat 0) (n := zad (zad (zkN a)) 3 6) (y := zFi (fun c => (zmK1 b) 101 c.toNat = (zmK1 b) 93 12) ((zmK1 b) 95 0).toNat 0) (z := zmgo (zmK1 b) 93 7) q (fun i => rfl) (fun i => rfl) (fun i => rfl) z1 z2 z3 rfl z4 ?_ ?_ rfl rfl rfl rfl rfl rfl (Or.inr (Or.inl ⟨rfl, rfl, ⟨by omega, by omega⟩, p4, p5, p6⟩))
          · show a 23 7 + 1 = zma (zmnu (zmgo (zmK1 b)) 1 1000000) 2 (zFi (fun c => (zmK1 b) 101 c.toNat = (zmK1 b) 93 12) ((zmK1 b) 95 0).toNat 0) (zmgo (zmK1 b) 93 7) 93 40
            omega
          · show a 23 8 = zma (zmnu (zmgo (zmK1 b)) 1 1000000) 2 (zFi (fun c => (zmK1 b) 101 c.toNat = (zmK1 b) 93 12) ((zmK1 b) 95 0).toNat 0) (zmgo (zmK1 b) 93 7) 93 41
            omega
        · have : (zpn (zad (zad (zkN a))) 1 1000000).2 3 2 = zad (zad (zad (zkN a))) 3 2 := by rw [zpn_y kk (by omega)]
          have m4 := zad_mo (zad (zad (zkN a)))
          show a 3 2 + 1 ≤ (zpn (zad (zad (zkN a))) 1 1000000).2 3 2
          omega
      · rw [if_pos p1]
        have g3 : zmnu (zmgo (zmK1 b)) 1 1000000 93 8 ≠ 0 := by have := p2.1; omega
        rw [zma_n g3]
        exact Or.inr ⟨rfl, p2⟩
  · rw [if_neg c2]
    have ni : zmNi (zmK1 b 93 6) (zmK1 b 93 12) = 0 := by
      by_cases n : zmNi (zmK1 b 93 6) (zmK1 b 93 12) = 0
      · exact n
      · exact (c2 (s1.wn.mpr n)).elim
    rw [show zmkk (zmK1 b) 2 = zwr (zmK1 b) 1 from (show zmkk (zmK1 b) 2 = zma (zmnu (zcb (zmK1 b)) 1 1000000) 2 (zcq0 (zmK1 b)) (zcb (zmK1 b) 93 7) from rfl).trans (by rw [zcb_1 g1 ni, zmnu_n (zwr_z _ (by decide)), zma_n (zwr_z _ (by decide))])]
    exact Or.inr ⟨rfl, zEr_fl s1 (by decide) fun _ => rfl⟩
theorem zJR' {a b : zW} (h : zSy a b) (g : b 93 8 = 0) (q : zSq a b) (k : a 3 1 ≠ -1) (v : 1007 ≤ a 3 4 ∧ a 3 4 < 1013) : zOr (a 3 2) (zkR (zkN a)) (zmkk (zmK1 b) (a 3 4 - 1007)) := by
  by_cases v0 : a 3 4 = 1007
  · rw [v0]; exact zJ1007 h g q k v0
  by_cases v1 : a 3 4 = 1008
  · rw [v1]; exact zJ1008 h g q k v1
  by_cases v2 : a 3 4 = 1009
  · rw [v2]; exact zJ1009 h g q k v2
  by_cases v3 : a 3 4 = 1010
  · rw [v3]; exact zJ1010 h g q k v3
  by_cases v4 : a 3 4 = 1011
  · rw [v4]; exact zJ1011 h g q k v4
  have v5 : a 3 4 = 1012 := by omega
  rw [v5]; exact zJ1012 h g q k v5
theorem zJB {a b : zW} (h : zSy a b) (g : b 93 8 = 0) (q : zSq a b) (k : a 3 1 ≠ -1) (v : 1007 ≤ a 3 4 ∧ a 3 4 < 1013) : zOq (a 3 2) (zkB a) (zms (zmkk (zmK1 b) (a 3 4 - 1007)) 59) := by
  unfold zkB
  rcases zJR' h g q k v with ⟨p1, p2, p3, p4, p5⟩ | ⟨p1, p2⟩
  · rw [if_neg (by rw [p1]; decide)]
    exact zOq_ps p3 p2 (by decide) p5 rfl (fun j _ => rfl) (zSq_ps p4)
  · rw [if_pos p1]
    have g2 : zmkk (zmK1 b) (a 3 4 - 1007) 93 8 ≠ 0 := by have := p2.1; omega
    rw [zms_e, if_neg g2]
    exact Or.inr ⟨rfl, p2⟩
noncomputable def zmV (b : zW) : zW := if zmK b 93 41 = b 93 41 then zms (zmK b) 59 else zmK b
theorem zms_n {w : zW} {c : Int} (g : w 93 8 ≠ 0) : zms w c = w := by rw [zms_e, if_neg g]
theorem zmV_w {b : zW} {e : Int} (h : zmE b = e) (e0 : 0 < e) : zmV b = zwr b e := by
  have ek : zmK b = zwr b e := by unfold zmK; rw [h, if_neg (by omega)]
  unfold zmV
  rw [ek, zms_n (zwr_z b e0)]
  split <;> rfl
/-- a part of a script that is not the end of a repeat -/
theorem zJO {a b : zW} (h : zSy a b) (g : b 93 8 = 0) (q : zSq a b) (sk : zSK a) (k : a 3 1 ≠ -1) : zOq (a 3 2) (zkO a) (zmV b) := by
  have cd := h.cd g
  have s := sk
  unfold zSK at s
  have q1 := q.1
  unfold zkO
  by_cases c1 : zcmd (a 3 4)
  · obtain ⟨d1, d2⟩ := cd.1 c1
    have c1' : 1007 ≤ a 3 4 ∧ a 3 4 ≤ 1013 := c1
    rw [if_pos c1]
    by_cases c3 : a 3 4 = 1013 ∧ 2 ≤ a 23 8
    · rw [if_pos c3]
      have E : zmE b = 3 := by unfold zmE; rw [if_neg (by omega), if_pos ⟨by omega, by omega⟩]
      rw [zmV_w E (by decide)]
      exact Or.inr ⟨rfl, zEr_fl h (by decide) fun qq => by omega⟩
    · rw [if_neg c3]
      by_cases c5 : 30 ≤ a 23 7
      · rw [if_pos c5]
        have E : zmE b = 5 := by unfold zmE; rw [if_neg (by omega), if_neg (by omega), if_pos (by omega)]
        rw [zmV_w E (by decide)]
        exact Or.inr ⟨rfl, zEr_fl h (by decide) fun qq => by omega⟩
      · rw [if_neg c5]
        have E : zmE b = 0 := by unfold zmE; rw [if_neg (by omega), if_neg (by omega), if_neg (by omega)]
        have ek : zmK b = zmkk (zmK1 b) (zcd b) := by unfold zmK; rw [E, if_pos rfl]
        have n3 := (zmkk_n (w := zmK1 b) (c := zcd b)).2.2
        have a3 : zmK1 b 93 41 = b 93 41 := zmgo_j (by decide)
        by_cases c6 : a 3 4 = 1013
        · rw [if_pos c6]
          have z6 : zcd b = 6 := by omega
          have ev : zmV b = zmO (zma (zmnu (zmK1 b) 1 10) 6 (zmK1 b 93 7) 0) := by
            unfold zmV
            rw [if_neg (by rw [ek, n3, a3, if_pos z6]; omega), ek, z6]
            rfl
          rw [ev]
          exact zJo h g q sk k (by omega)
        · rw [if_neg c6]
          have ev : zmV b = zms (zmkk (zmK1 b) (a 3 4 - 1007)) 59 := by
            unfold zmV
            rw [if_pos (by rw [ek, n3, a3, if_neg (by omega)]; omega), ek, d1]
          rw [ev]
          exact zJB h g q k (by omega)
  · rw [if_neg c1]
    have E : zmE b = 1 := by unfold zmE; rw [if_pos (cd.2 c1)]
    rw [zmV_w E (by decide)]
    exact Or.inr ⟨rfl, zEr_fl h (by decide) fun _ => rfl⟩

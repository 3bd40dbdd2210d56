/-! ===== class and model read the same parts of a script: commands (written by wip/whole/gen_c.py) ===== -/
theorem zkR_1008 {w : zW} (h : w 3 4 = 1008) : zkR w = if (zpn (zad w) 1 6).1 = 0 then (0, (zpn (zad w) 1 6).2) else (1, zae (zpn (zad w) 1 6).2 1008 (-1) (zad w 3 6)) := by
  unfold zkR
  rw [h, if_neg (show ¬ (1008 : Int) = 1007 by decide), if_neg (show ¬ (1008 : Int) = 1009 by decide), if_neg (show ¬ ((if zwf 2 ((1008 : Int) - 1000 : Int).toNat ≤ zwf 3 ((1008 : Int) - 1000 : Int).toNat then 1 else 0) : Int) = 0 by decide)]
  rfl
theorem zkR_1010 {w : zW} (h : w 3 4 = 1010) : zkR w = if (zpn (zad w) 0 999999).1 = 0 then (0, (zpn (zad w) 0 999999).2) else (1, zae (zpn (zad w) 0 999999).2 1010 (-1) (zad w 3 6)) := by
  unfold zkR
  rw [h, if_neg (show ¬ (1010 : Int) = 1007 by decide), if_neg (show ¬ (1010 : Int) = 1009 by decide), if_neg (show ¬ ((if zwf 2 ((1010 : Int) - 1000 : Int).toNat ≤ zwf 3 ((1010 : Int) - 1000 : Int).toNat then 1 else 0) : Int) = 0 by decide)]
  rfl
theorem zkR_1012 {w : zW} (h : w 3 4 = 1012) : zkR w = if (zpn (zad w) 0 999999).1 = 0 then (0, (zpn (zad w) 0 999999).2) else (1, zae (zpn (zad w) 0 999999).2 1012 (-1) (zad w 3 6)) := by
  unfold zkR
  rw [h, if_neg (show ¬ (1012 : Int) = 1007 by decide), if_neg (show ¬ (1012 : Int) = 1009 by decide), if_neg (show ¬ ((if zwf 2 ((1012 : Int) - 1000 : Int).toNat ≤ zwf 3 ((1012 : Int) - 1000 : Int).toNat then 1 else 0) : Int) = 0 by decide)]
  rfl
theorem zkR_1011 {w : zW} (h : w 3 4 = 1011) : zkR w = (1, zae (zad w) 1011 (-1) (zad w 3 6)) := by
  unfold zkR
  rw [h, if_neg (show ¬ (1011 : Int) = 1007 by decide), if_neg (show ¬ (1011 : Int) = 1009 by decide), if_pos (show ((if zwf 2 ((1011 : Int) - 1000 : Int).toNat ≤ zwf 3 ((1011 : Int) - 1000 : Int).toNat then 1 else 0) : Int) = 0 by decide)]
theorem zkR_1007 {w : zW} (h : w 3 4 = 1007) : zkR w = if zad w 3 4 = 1001 then (if zFi (fun c => w 5 c.toNat = ((zad w) 3 5)) ((w 4 0)).toNat 0 = -1 then (0, zfl (zad w) 4) else (1, zae (zad (zad w)) 1007 (zFi (fun c => w 5 c.toNat = ((zad w) 3 5)) ((w 4 0)).toNat 0) (zad (zad w) 3 6))) else (0, zfl (zad w) 1) := by
  unfold zkR
  rw [h, if_pos rfl, if_pos (show ((if zwf 2 ((1007 : Int) - 1000 : Int).toNat ≤ zwf 3 ((1007 : Int) - 1000 : Int).toNat then 1 else 0) : Int) = 0 by decide)]
  rfl
theorem zkR_1009 {w : zW} (h : w 3 4 = 1009) : zkR w = if zad w 3 4 = 1001 then (if zFi (fun c => w 5 c.toNat = ((zad w) 3 5)) ((w 4 0)).toNat 0 = -1 then (0, zfl (zad w) 4) else if (zpn (zad (zad w)) 1 1000000).1 = 0 then (0, (zpn (zad (zad w)) 1 1000000).2) else (1, zae (zpn (zad (zad w)) 1 1000000).2 1009 (zFi (fun c => w 5 c.toNat = ((zad w) 3 5)) ((w 4 0)).toNat 0) (zad (zad w) 3 6))) else (0, zfl (zad w) 1) := by
  unfold zkR
  rw [h, if_neg (show ¬ (1009 : Int) = 1007 by decide), if_pos rfl, if_neg (show ¬ ((if zwf 2 ((1009 : Int) - 1000 : Int).toNat ≤ zwf 3 ((1009 : Int) - 1000 : Int).toNat then 1 else 0) : Int) = 0 by decide)]
  rfl
def zOr (s : Int) (r : Int × zW) (v : zW) : Prop := (r.1 = 1 ∧ v 93 8 = 0 ∧ zSy r.2 v ∧ zSq r.2 v ∧ s + 1 ≤ r.2 3 2) ∨ (r.1 = 0 ∧ zEr r.2 v)
theorem zSq_ps {X Y : zW} {c : Int} (h : zSq X Y) : zSq (zps X c).2 (zms Y c) := by
  unfold zSq
  rw [zms_j (j := 39) (by decide), zms_j (j := 40) (by decide), zms_j (j := 41) (by decide)]
  exact h
theorem zcb_1 {w : zW} (g : w 93 8 = 0) (n : zmNi (w 93 6) (w 93 12) = 0) : zcb w = zwr w 1 := by
  unfold zcb
  have e : zcq1 w = zwr w 1 := by rw [zcq1_e, if_pos ⟨g, n⟩]
  rw [e, zcq4_e, if_neg fun q => zwr_z w (by decide) q.1, zgg_n (zwr_z w (by decide))]
theorem zcb_4 {w : zW} (g : w 93 8 = 0) (n : zmNi (w 93 6) (w 93 12) ≠ 0) (m : zcq0 w = w 95 0) : zcb w = zwr w 4 := by
  unfold zcb
  have e : zcq1 w = w := by rw [zcq1_e, if_neg fun q => n q.2]
  rw [e, zcq4_e, if_pos ⟨g, m⟩, zgg_n (zwr_z w (by decide))]
theorem zcb_y {w : zW} (g : w 93 8 = 0) (n : zmNi (w 93 6) (w 93 12) ≠ 0) (m : zcq0 w ≠ w 95 0) : zcb w = zmgo w := by
  unfold zcb
  have e : zcq1 w = w := by rw [zcq1_e, if_neg fun q => n q.2]
  rw [e, zcq4_e, if_neg fun q => m q.2, zgg_e, if_pos g]
theorem zmnu_n {w : zW} {lo hi : Int} (g : w 93 8 ≠ 0) : zmnu w lo hi = w := by rw [zmnu_e, if_neg g]
/-- both look a circle up alike -/
theorem zSq.nm {a b : zW} (q : zSq a b) {x y : Int} (n : znm x y) : zFi (fun c => a 5 c.toNat = x) (a 4 0).toNat 0 = zFi (fun c => b 101 c.toNat = y) (b 95 0).toNat 0 := by
  rw [q.2.1.1]
  refine zFi_congr _ 0 fun c c0 c1 => ?_
  have := q.2.1.2.1
  exact znm_iff (q.2.1.2.2 c c0 (by omega)) n
theorem zJ1008 {a b : zW} (h : zSy a b) (g : b 93 8 = 0) (q : zSq a b) (k : a 3 1 ≠ -1) (v : a 3 4 = 1008) : zOr (a 3 2) (zkR (zkN a)) (zmkk (zmK1 b) 1) := by
  have s1 : zSy (zad (zkN a)) (zmK1 b) := ((h.ta (a' := zkN a) rfl rfl rfl rfl rfl rfl rfl rfl).tb (b' := zupd b 93 40 (b 93 40 + 1)) rfl rfl rfl rfl rfl rfl rfl).ad k
  have l := h.lt k
  have m : a 3 3 ≤ zad (zkN a) 3 2 := (zad_mo (zkN a)).1
  have m9 : zad (zkN a) 3 2 ≤ zad (zkN a) 3 3 := (zad_mo (zkN a)).2
  have g1 : zmK1 b 93 8 = 0 := g
  have q1 := q.1
  rw [zkR_1008 (w := zkN a) v, show zmkk (zmK1 b) 1 = zma (zmnu (zmK1 b) 1 6) 1 (zmK1 b 93 7) 0 from rfl]
  rcases s1.pn g1 1 6 with ⟨p1, p2, p3, p4, p5, p6⟩ | ⟨p1, p2⟩
  · rw [if_neg (by rw [p1]; decide)]
    have j39 : zmnu (zmK1 b) 1 6 93 39 = b 93 39 := (zmnu_j (by decide)).trans (zmgo_j (by decide))
    have j40 : zmnu (zmK1 b) 1 6 93 40 = b 93 40 + 1 := (zmnu_j (by decide)).trans (zmgo_j (by decide))
    have j41 : zmnu (zmK1 b) 1 6 93 41 = b 93 41 := (zmnu_j (by decide)).trans (zmgo_j (by decide))
    obtain ⟨z1, z2, z3, z4⟩ := zma_h (X := zmnu (zmK1 b) 1 6) (b := b) (c := 1) (y := zmK1 b 93 7) (z := 0) p2 j39 rfl rfl rfl
    have k7 : zma (zmnu (zmK1 b) 1 6) 1 (zmK1 b 93 7) 0 93 40 = b 93 40 + 1 := (zma_j (by decide)).trans j40
    have k8 : zma (zmnu (zmK1 b) 1 6) 1 (zmK1 b 93 7) 0 93 41 = b 93 41 := (zma_j (by decide)).trans j41
    have kk : zad (zkN a) 3 1 = 2 := by
      by_cases kk : zad (zkN a) 3 1 = 2
      · exact kk
      · rw [zpn_n kk] at p1; exact absurd (show (0 : Int) = 1 from p1) (by decide)
    refine Or.inl ⟨rfl, (zma_j (by decide)).trans p2, (p3.ta rfl rfl rfl rfl rfl rfl rfl rfl).ma, ?_, ?_⟩
    · refine zSq_p (x := 1) (c := -1) (n := zad (zkN a) 3 6) (y := zmK1 b 93 7) (z := 0) q (fun i => rfl) (fun i => rfl) (fun i => rfl) z1 z2 z3 rfl z4 ?_ ?_ rfl rfl rfl rfl rfl rfl (Or.inr (Or.inr (Or.inl ⟨rfl, p4, p5, p6⟩)))
      · show a 23 7 + 1 = zma (zmnu (zmK1 b) 1 6) 1 (zmK1 b 93 7) 0 93 40
        omega
      · show a 23 8 = zma (zmnu (zmK1 b) 1 6) 1 (zmK1 b 93 7) 0 93 41
        omega
    · have : (zpn (zad (zkN a)) 1 6).2 3 2 = zad (zad (zkN a)) 3 2 := by rw [zpn_y kk (by omega)]
      have m2 := zad_mo (zad (zkN a))
      show a 3 2 + 1 ≤ (zpn (zad (zkN a)) 1 6).2 3 2
      omega
  · rw [if_pos p1]
    have g2 : zmnu (zmK1 b) 1 6 93 8 ≠ 0 := by have := p2.1; omega
    rw [zma_n g2]
    exact Or.inr ⟨rfl, p2⟩
theorem zJ1010 {a b : zW} (h : zSy a b) (g : b 93 8 = 0) (q : zSq a b) (k : a 3 1 ≠ -1) (v : a 3 4 = 1010) : zOr (a 3 2) (zkR (zkN a)) (zmkk (zmK1 b) 3) := by
  have s1 : zSy (zad (zkN a)) (zmK1 b) := ((h.ta (a' := zkN a) rfl rfl rfl rfl rfl rfl rfl rfl).tb (b' := zupd b 93 40 (b 93 40 + 1)) rfl rfl rfl rfl rfl rfl rfl).ad k
  have l := h.lt k
  have m : a 3 3 ≤ zad (zkN a) 3 2 := (zad_mo (zkN a)).1
  have m9 : zad (zkN a) 3 2 ≤ zad (zkN a) 3 3 := (zad_mo (zkN a)).2
  have g1 : zmK1 b 93 8 = 0 := g
  have q1 := q.1
  rw [zkR_1010 (w := zkN a) v, show zmkk (zmK1 b) 3 = zma (zmnu (zmK1 b) 0 999999) 3 (zmK1 b 93 7) 0 from rfl]
  rcases s1.pn g1 0 999999 with ⟨p1, p2, p3, p4, p5, p6⟩ | ⟨p1, p2⟩
  · rw [if_neg (by rw [p1]; decide)]
    have j39 : zmnu (zmK1 b) 0 999999 93 39 = b 93 39 := (zmnu_j (by decide)).trans (zmgo_j (by decide))
    have j40 : zmnu (zmK1 b) 0 999999 93 40 = b 93 40 + 1 := (zmnu_j (by decide)).trans (zmgo_j (by decide))
    have j41 : zmnu (zmK1 b) 0 999999 93 41 = b 93 41 := (zmnu_j (by decide)).trans (zmgo_j (by decide))
    obtain ⟨z1, z2, z3, z4⟩ := zma_h (X := zmnu (zmK1 b) 0 999999) (b := b) (c := 3) (y := zmK1 b 93 7) (z := 0) p2 j39 rfl rfl rfl
    have k7 : zma (zmnu (zmK1 b) 0 999999) 3 (zmK1 b 93 7) 0 93 40 = b 93 40 + 1 := (zma_j (by decide)).trans j40
    have k8 : zma (zmnu (zmK1 b) 0 999999) 3 (zmK1 b 93 7) 0 93 41 = b 93 41 := (zma_j (by decide)).trans j41
    have kk : zad (zkN a) 3 1 = 2 := by
      by_cases kk : zad (zkN a) 3 1 = 2
      · exact kk
      · rw [zpn_n kk] at p1; exact absurd (show (0 : Int) = 1 from p1) (by decide)
    refine Or.inl ⟨rfl, (zma_j (by decide)).trans p2, (p3.ta rfl rfl rfl rfl rfl rfl rfl rfl).ma, ?_, ?_⟩
    · refine zSq_p (x := 3) (c := -1) (n := zad (zkN a) 3 6) (y := zmK1 b 93 7) (z := 0) q (fun i => rfl) (fun i => rfl) (fun i => rfl) z1 z2 z3 rfl z4 ?_ ?_ rfl rfl rfl rfl rfl rfl (Or.inr (Or.inr (Or.inr (Or.inl ⟨Or.inl rfl, p4, p5, p6⟩))))
      · show a 23 7 + 1 = zma (zmnu (zmK1 b) 0 999999) 3 (zmK1 b 93 7) 0 93 40
        omega
      · show a 23 8 = zma (zmnu (zmK1 b) 0 999999) 3 (zmK1 b 93 7) 0 93 41
        omega
    · have : (zpn (zad (zkN a)) 0 999999).2 3 2 = zad (zad (zkN a)) 3 2 := by rw [zpn_y kk (by omega)]
      have m2 := zad_mo (zad (zkN a))
      show a 3 2 + 1 ≤ (zpn (zad (zkN a)) 0 999999).2 3 2
      omega
  · rw [if_pos p1]
    have g2 : zmnu (zmK1 b) 0 999999 93 8 ≠ 0 := by have := p2.1; omega
    rw [zma_n g2]
    exact Or.inr ⟨rfl, p2⟩
theorem zJ1012 {a b : zW} (h : zSy a b) (g : b 93 8 = 0) (q : zSq a b) (k : a 3 1 ≠ -1) (v : a 3 4 = 1012) : zOr (a 3 2) (zkR (zkN a)) (zmkk (zmK1 b) 5) := by
  have s1 : zSy (zad (zkN a)) (zmK1 b) := ((h.ta (a' := zkN a) rfl rfl rfl rfl rfl rfl rfl rfl).tb (b' := zupd b 93 40 (b 93 40 + 1)) rfl rfl rfl rfl rfl rfl rfl).ad k
  have l := h.lt k
  have m : a 3 3 ≤ zad (zkN a) 3 2 := (zad_mo (zkN a)).1
  have m9 : zad (zkN a) 3 2 ≤ zad (zkN a) 3 3 := (zad_mo (zkN a)).2
  have g1 : zmK1 b 93 8 = 0 := g
  have q1 := q.1
  rw [zkR_1012 (w := zkN a) v, show zmkk (zmK1 b) 5 = zma (zmnu (zmK1 b) 0 999999) 5 (zmK1 b 93 7) 0 from rfl]
  rcases s1.pn g1 0 999999 with ⟨p1, p2, p3, p4, p5, p6⟩ | ⟨p1, p2⟩
  · rw [if_neg (by rw [p1]; decide)]
    have j39 : zmnu (zmK1 b) 0 999999 93 39 = b 93 39 := (zmnu_j (by decide)).trans (zmgo_j (by decide))
    have j40 : zmnu (zmK1 b) 0 999999 93 40 = b 93 40 + 1 := (zmnu_j (by decide)).trans (zmgo_j (by decide))
    have j41 : zmnu (zmK1 b) 0 999999 93 41 = b 93 41 := (zmnu_j (by decide)).trans (zmgo_j (by decide))
    obtain ⟨z1, z2, z3, z4⟩ := zma_h (X := zmnu (zmK1 b) 0 999999) (b := b) (c := 5) (y := zmK1 b 93 7) (z := 0) p2 j39 rfl rfl rfl
    have k7 : zma (zmnu (zmK1 b) 0 999999) 5 (zmK1 b 93 7) 0 93 40 = b 93 40 + 1 := (zma_j (by decide)).trans j40
    have k8 : zma (zmnu (zmK1 b) 0 999999) 5 (zmK1 b 93 7) 0 93 41 = b 93 41 := (zma_j (by decide)).trans j41
    have kk : zad (zkN a) 3 1 = 2 := by
      by_cases kk : zad (zkN a) 3 1 = 2
      · exact kk
      · rw [zpn_n kk] at p1; exact absurd (show (0 : Int) = 1 from p1) (by decide)
    refine Or.inl ⟨rfl, (zma_j (by decide)).trans p2, (p3.ta rfl rfl rfl rfl rfl rfl rfl rfl).ma, ?_, ?_⟩
    · refine zSq_p (x := 5) (c := -1) (n := zad (zkN a) 3 6) (y := zmK1 b 93 7) (z := 0) q (fun i => rfl) (fun i => rfl) (fun i => rfl) z1 z2 z3 rfl z4 ?_ ?_ rfl rfl rfl rfl rfl rfl (Or.inr (Or.inr (Or.inr (Or.inl ⟨Or.inr rfl, p4, p5, p6⟩))))
      · show a 23 7 + 1 = zma (zmnu (zmK1 b) 0 999999) 5 (zmK1 b 93 7) 0 93 40
        omega
      · show a 23 8 = zma (zmnu (zmK1 b) 0 999999) 5 (zmK1 b 93 7) 0 93 41
        omega
    · have : (zpn (zad (zkN a)) 0 999999).2 3 2 = zad (zad (zkN a)) 3 2 := by rw [zpn_y kk (by omega)]
      have m2 := zad_mo (zad (zkN a))
      show a 3 2 + 1 ≤ (zpn (zad (zkN a)) 0 999999).2 3 2
      omega
  · rw [if_pos p1]
    have g2 : zmnu (zmK1 b) 0 999999 93 8 ≠ 0 := by have := p2.1; omega
    rw [zma_n g2]
    exact Or.inr ⟨rfl, p2⟩
theorem zJ1011 {a b : zW} (h : zSy a b) (g : b 93 8 = 0) (q : zSq a b) (k : a 3 1 ≠ -1) (v : a 3 4 = 1011) : zOr (a 3 2) (zkR (zkN a)) (zmkk (zmK1 b) 4) := by
  have s1 : zSy (zad (zkN a)) (zmK1 b) := ((h.ta (a' := zkN a) rfl rfl rfl rfl rfl rfl rfl rfl).tb (b' := zupd b 93 40 (b 93 40 + 1)) rfl rfl rfl rfl rfl rfl rfl).ad k
  have l := h.lt k
  have m : a 3 3 ≤ zad (zkN a) 3 2 := (zad_mo (zkN a)).1
  have m9 : zad (zkN a) 3 2 ≤ zad (zkN a) 3 3 := (zad_mo (zkN a)).2
  have g1 : zmK1 b 93 8 = 0 := g
  have q1 := q.1
  rw [zkR_1011 (w := zkN a) v, show zmkk (zmK1 b) 4 = zma (zmK1 b) 4 0 0 from rfl]
  have j39 : zmK1 b 93 39 = b 93 39 := zmgo_j (by decide)
  have j40 : zmK1 b 93 40 = b 93 40 + 1 := zmgo_j (by decide)
  have j41 : zmK1 b 93 41 = b 93 41 := zmgo_j (by decide)
  obtain ⟨z1, z2, z3, z4⟩ := zma_h (X := zmK1 b) (b := b) (c := 4) (y := 0) (z := 0) g1 j39 rfl rfl rfl
  have k7 : zma (zmK1 b) 4 0 0 93 40 = b 93 40 + 1 := (zma_j (by decide)).trans j40
  have k8 : zma (zmK1 b) 4 0 0 93 41 = b 93 41 := (zma_j (by decide)).trans j41
  refine Or.inl ⟨rfl, (zma_j (by decide)).trans g1, (s1.ta rfl rfl rfl rfl rfl rfl rfl rfl).ma, ?_, ?_⟩
  · refine zSq_p (x := 4) (c := -1) (n := zad (zkN a) 3 6) (y := 0) (z := 0) q (fun i => rfl) (fun i => rfl) (fun i => rfl) z1 z2 z3 rfl z4 ?_ ?_ rfl rfl rfl rfl rfl rfl (Or.inr (Or.inr (Or.inr (Or.inr rfl))))
    · show a 23 7 + 1 = zma (zmK1 b) 4 0 0 93 40
      omega
    · show a 23 8 = zma (zmK1 b) 4 0 0 93 41
      omega
  · show a 3 2 + 1 ≤ zad (zkN a) 3 2
    omega

/-! ===== class and model read the same parts of a script: repeats (written by wip/whole/gen_c.py) ===== -/
def zOq (s : Int) (r : Int × zW) (v : zW) : Prop := (r.1 = 1 ∧ v 93 8 = 0 ∧ zSy r.2 v ∧ zSq r.2 v ∧ s + 2 ≤ r.2 3 2 ∧ r.2 3 2 ≤ r.2 1 1) ∨ (r.1 = 0 ∧ zEr r.2 v)
theorem zSy.lt {a b : zW} (h : zSy a b) (k : a 3 1 ≠ -1) : a 3 2 < a 3 3 := by
  rcases h.2.2.2.2 with q | q
  · exact (k q.1).elim
  · exact q.2.2.1
theorem zOq_ps {X Y v : zW} {c s0 : Int} (s : zSy X Y) (g : Y 93 8 = 0) (hx : zsg c) (b0 : s0 + 1 ≤ X 3 2) (h94 : v 94 = zms Y c 94) (hv : ∀ j, j < 13 → v 93 j = zms Y c 93 j) (q : zSq (zps X c).2 v) : zOq s0 (zps X c) v := by
  rcases s.ps g hx with ⟨p1, p2, p3, p4, p5⟩ | ⟨p1, p2⟩
  · left
    have k : X 3 1 = c := by
      by_cases k : X 3 1 = c
      · exact k
      · rw [zps_n k] at p1; exact absurd (show (0 : Int) = 1 from p1) (by decide)
    have k2 : X 3 1 ≠ -1 := by rw [k]; exact (zsg_l hx).2.2.1
    refine ⟨p1, by rw [hv 8 (by decide)]; exact p2, ?_, q, ?_⟩
    · rw [p3]
      refine p5.tb ?_ ?_ ?_ ?_ ?_ ?_ ?_
      · rw [h94, p4]
      · rw [hv 3 (by decide), p4]
      · rw [hv 4 (by decide), p4]
      · rw [hv 5 (by decide), p4]
      · rw [hv 6 (by decide), p4]
      · rw [hv 7 (by decide), p4]
      · rw [hv 12 (by decide), p4]
    · rw [p3]
      have l := s.lt k2
      have m := zad_mo X
      have hl := s.2.2.1.pre k2
      have ss := zst_rg (zTy (X 2) (X 1 1)) (p := X 3 3) (n := X 1 1) (by omega)
      have e : zad X 3 2 = zst (zTy (X 2) (X 1 1)) (X 1 1) (X 3 3) := rfl
      show s0 + 2 ≤ zad X 3 2 ∧ zad X 3 2 ≤ X 1 1
      omega
  · right
    refine ⟨p1, ?_⟩
    unfold zEr
    rw [hv 8 (by decide), hv 9 (by decide)]
    exact p2
theorem zma_h {X b : zW} {c y z : Int} (g : X 93 8 = 0) (e39 : X 93 39 = b 93 39) (e109 : X 109 = b 109) (e110 : X 110 = b 110) (e111 : X 111 = b 111) : (∀ i, zma X c y z 109 i = if i = (b 93 39).toNat then c else b 109 i) ∧ (∀ i, zma X c y z 110 i = if i = (b 93 39).toNat then y else b 110 i) ∧ (∀ i, zma X c y z 111 i = if i = (b 93 39).toNat then z else b 111 i) ∧ zma X c y z 93 39 = b 93 39 + 1 := by
  rw [zma_y g, ← e39, ← e109, ← e110, ← e111]
  exact ⟨fun i => rfl, fun i => rfl, fun i => rfl, rfl⟩
theorem zSy.ma {a b : zW} (h : zSy a b) {c y z : Int} : zSy a (zma b c y z) := by
  by_cases g : b 93 8 = 0
  · rw [zma_y g]; exact h.tb rfl rfl rfl rfl rfl rfl rfl
  · rw [zma_n g]; exact h
/-- a repeat begins -/
theorem zJo {a b : zW} (h : zSy a b) (g : b 93 8 = 0) (q : zSq a b) (sk : zSK a) (k : a 3 1 ≠ -1) (o : a 23 8 < 2) : zOq (a 3 2) (zoR (zkN a)) (zmO (zma (zmnu (zmK1 b) 1 10) 6 (zmK1 b 93 7) 0)) := by
  have s1 : zSy (zoV (zkN a)) (zmK1 b) := ((h.ta (a' := zupd (zupd (zkN a) 28 ((zkN a) 23 8).toNat ((zkN a) 23 6)) 23 8 ((zkN a) 23 8 + 1)) rfl rfl rfl rfl rfl rfl rfl rfl).tb (b' := zupd b 93 40 (b 93 40 + 1)) rfl rfl rfl rfl rfl rfl rfl).ad k
  have l := h.lt k
  have m := zad_mo (zupd (zupd (zkN a) 28 ((zkN a) 23 8).toNat ((zkN a) 23 6)) 23 8 ((zkN a) 23 8 + 1))
  have m0 : a 3 3 ≤ zoV (zkN a) 3 2 := m.1
  have g1 : zmK1 b 93 8 = 0 := g
  unfold zoR
  rcases s1.pn g1 1 10 with ⟨p1, p2, p3, p4, p5, p6⟩ | ⟨p1, p2⟩
  · rw [if_neg (by rw [p1]; decide)]
    have j39 : zmnu (zmK1 b) 1 10 93 39 = b 93 39 := (zmnu_j (by decide)).trans (zmgo_j (by decide))
    have j40 : zmnu (zmK1 b) 1 10 93 40 = b 93 40 + 1 := (zmnu_j (by decide)).trans (zmgo_j (by decide))
    have j41 : zmnu (zmK1 b) 1 10 93 41 = b 93 41 := (zmnu_j (by decide)).trans (zmgo_j (by decide))
    obtain ⟨z1, z2, z3, z4⟩ := zma_h (X := zmnu (zmK1 b) 1 10) (b := b) (c := 6) (y := zmK1 b 93 7) (z := 0) p2 j39 rfl rfl rfl
    have s3 : zSy (zae (zpn (zoV (zkN a)) 1 10).2 1013 (-1) (zoV (zkN a) 3 6)) (zma (zmnu (zmK1 b) 1 10) 6 (zmK1 b 93 7) 0) := (p3.ta rfl rfl rfl rfl rfl rfl rfl rfl).ma
    have g3 : zma (zmnu (zmK1 b) 1 10) 6 (zmK1 b 93 7) 0 93 8 = 0 := (zma_j (by decide)).trans p2
    have k8 : zms (zma (zmnu (zmK1 b) 1 10) 6 (zmK1 b 93 7) 0) 40 93 41 = b 93 41 := (zms_j (by decide)).trans ((zma_j (by decide)).trans j41)
    have k7 : zms (zma (zmnu (zmK1 b) 1 10) 6 (zmK1 b 93 7) 0) 40 93 40 = b 93 40 + 1 := (zms_j (by decide)).trans ((zma_j (by decide)).trans j40)
    have k6 : zms (zma (zmnu (zmK1 b) 1 10) 6 (zmK1 b 93 7) 0) 40 93 39 = b 93 39 + 1 := (zms_j (by decide)).trans z4
    have kk : zoV (zkN a) 3 1 = 2 := by
      by_cases kk : zoV (zkN a) 3 1 = 2
      · exact kk
      · rw [zpn_n kk] at p1; exact absurd (show (0 : Int) = 1 from p1) (by decide)
    have b0 : a 3 2 + 1 ≤ zae (zpn (zoV (zkN a)) 1 10).2 1013 (-1) (zoV (zkN a) 3 6) 3 2 := by
      have : (zpn (zoV (zkN a)) 1 10).2 3 2 = zad (zoV (zkN a)) 3 2 := by rw [zpn_y kk (by omega)]
      have m2 := zad_mo (zoV (zkN a))
      have m9 : zoV (zkN a) 3 2 ≤ zoV (zkN a) 3 3 := m.2
      show a 3 2 + 1 ≤ (zpn (zoV (zkN a)) 1 10).2 3 2
      omega
    have q1 := q.1
    unfold zSK at sk
    refine zOq_ps s3 g3 (by decide) b0 rfl (fun j hj => ?_) ?_
    · show (if j = 41 then _ else zms (zma (zmnu (zmK1 b) 1 10) 6 (zmK1 b 93 7) 0) 40 93 j) = _
      rw [if_neg (by omega)]
    · refine zSq_o (x := 6) (c := -1) (n := zoV (zkN a) 3 6) (y := zmK1 b 93 7) (z := 0) q (fun i => rfl) (fun i => rfl) (fun i => rfl) z1 z2 z3 rfl k6 ?_ ?_ rfl rfl rfl rfl rfl ⟨sk.1.2.1, o⟩ (fun i => rfl) rfl ⟨p4, p5, p6⟩
      · show a 23 7 + 1 = zms (zma (zmnu (zmK1 b) 1 10) 6 (zmK1 b 93 7) 0) 40 93 40
        omega
      · show a 23 8 + 1 = zms (zma (zmnu (zmK1 b) 1 10) 6 (zmK1 b 93 7) 0) 40 93 41 + 1
        omega
  · rw [if_pos p1]
    have g2 : zmnu (zmK1 b) 1 10 93 8 ≠ 0 := by have := p2.1; omega
    right
    refine ⟨rfl, ?_⟩
    unfold zmO
    rw [zma_n g2, zms_e, if_neg g2]
    exact p2
/-- a repeat ends -/
theorem zJe {a b : zW} (h : zSy a b) (g : b 93 8 = 0) (q : zSq a b) (k : a 3 1 ≠ -1) (o : 1 ≤ a 23 8) : zOq (a 3 2) (zcR a) (zcS b) := by
  have g1 : zupd b 93 41 (b 93 41 - 1) 93 8 = 0 := g
  have s1 : zSy (zcV a) (zmgo (zma (zupd b 93 41 (b 93 41 - 1)) 7 0 0)) := ((h.ta (a' := zae (zupd a 23 8 (a 23 8 - 1)) 1014 (-1) (a 28 (a 23 8 - 1).toNat)) rfl rfl rfl rfl rfl rfl rfl rfl).tb (b' := zupd b 93 41 (b 93 41 - 1)) rfl rfl rfl rfl rfl rfl rfl).ma.ad k
  have l := h.lt k
  have m := zad_mo (zae (zupd a 23 8 (a 23 8 - 1)) 1014 (-1) (a 28 (a 23 8 - 1).toNat))
  have b0 : a 3 3 ≤ zcV a 3 2 := m.1
  have g3 : zmgo (zma (zupd b 93 41 (b 93 41 - 1)) 7 0 0) 93 8 = 0 := (zma_j (w := zupd b 93 41 (b 93 41 - 1)) (c := 7) (a := 0) (b := 0) (j := 8) (by decide)).trans g1
  obtain ⟨z1, z2, z3, z4⟩ := zma_h (X := zupd b 93 41 (b 93 41 - 1)) (b := b) (c := 7) (y := 0) (z := 0) g1 rfl rfl rfl rfl
  have q1 := q.1
  refine zOq_ps s1 g3 (by decide) (by omega) rfl (fun j _ => rfl) ?_
  refine zSq_e (x := 7) (c := -1) (n := a 28 (a 23 8 - 1).toNat) (y := 0) (z := 0) q (fun i => rfl) (fun i => rfl) (fun i => rfl) z1 z2 z3 rfl (zcS_39 g) ?_ ?_ rfl rfl rfl rfl rfl o rfl rfl rfl
  · show a 23 7 = zcS b 93 40
    rw [zcS_j (by decide) (by decide) (by decide)]; exact q1.2.1
  · show a 23 8 - 1 = zcS b 93 41
    rw [zcS_41]; omega

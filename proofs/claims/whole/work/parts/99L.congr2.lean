/-! ===== the layout of the class and of the model (written by wip/whole/gen_c.py) ===== -/
/-- the same layout: the class's packing of a, the model's of b -/
def zQl (a b : zW) : Prop := zQr a b ∧ (a 29 5 = b 102 0 ∧ 0 ≤ b 102 0) ∧ (∀ c : Int, 0 ≤ c → c < 12 → a 33 c.toNat = zml b c) ∧ (∀ i : Int, 0 ≤ i → i < b 102 0 → a 34 i.toNat = b 103 i.toNat) ∧ ∀ c : Int, 0 ≤ c → c < 12 → zml b c = 1 → a 31 c.toNat = b 104 c.toNat ∧ a 32 c.toNat = b 105 c.toNat
theorem zQr_fr {a b a' b' : zW} (ea : ∀ p, p < 29 ∨ p = 30 ∨ 35 ≤ p → a' p = a p) (eb : ∀ p, p < 102 ∨ 105 < p → b' p = b p) (h : zQr a b) : zQr a' b' := by
  obtain ⟨h1, h2, h3⟩ := h
  refine ⟨zNt_lay ea h1, fun p hp => ?_, fun c c0 c1 => ?_⟩
  · rw [ea p (by omega), eb p (by omega)]; exact h2 p hp
  · rw [ea 95 (by decide)] at c1
    rw [ea 30 (by decide), eb 98 (by decide)]
    exact h3 c c0 c1
theorem zml_put {b : zW} {c x y : Int} (h0 : 0 ≤ b 102 0) (e : Int) : zml (zputm b c x y) e = if c = e then 1 else zml b e := by
  have e1 : zputm b c x y 102 0 = b 102 0 + 1 := rfl
  unfold zml
  rw [e1, show (b 102 0 + 1).toNat = (b 102 0).toNat + 1 by omega, zmk_succ]
  have e2 : zputm b c x y 103 (b 102 0).toNat = c := by
    show (if (b 102 0).toNat = (b 102 0).toNat then c else b 103 (b 102 0).toNat) = c
    exact if_pos rfl
  rw [e2]
  have e3 : zmk (zputm b c x y) (b 102 0).toNat e = zmk b (b 102 0).toNat e := by
    unfold zmk
    have q : zFi (fun k => zputm b c x y 103 k.toNat = e) (b 102 0).toNat 0 = zFi (fun k => b 103 k.toNat = e) (b 102 0).toNat 0 := by
      refine zFi_congr _ 0 fun j j0 j1 => ?_
      have : zputm b c x y 103 j.toNat = b 103 j.toNat := by
        show (if j.toNat = (b 102 0).toNat then c else b 103 j.toNat) = b 103 j.toNat
        exact if_neg (by omega)
      rw [this]
    rw [q]
  rw [e3]
theorem zQl.put {a b : zW} (h : zQl a b) {c x y : Int} (c0 : 0 ≤ c) : zQl (zput a c x y) (zputm b c x y) := by
  obtain ⟨h1, ⟨h2, h2'⟩, h3, h4, h5⟩ := h
  have e1 : zputm b c x y 102 0 = b 102 0 + 1 := rfl
  refine ⟨zQr_fr (fun p hp => zput_ne hp) (fun p hp => zputm_ne hp) h1, ⟨?_, by omega⟩, fun e e0 e2 => ?_, fun i i0 i1 => ?_, fun e e0 e2 e3 => ?_⟩
  · show a 29 5 + 1 = b 102 0 + 1
    rw [h2]
  · rw [zml_put h2', zput_33]
    by_cases g : c = e
    · rw [if_pos (by rw [g]), if_pos g]
    · rw [if_neg (by omega), if_neg g]; exact h3 e e0 e2
  · rw [e1] at i1
    show (if i.toNat = (a 29 5).toNat then c else a 34 i.toNat) = if i.toNat = (b 102 0).toNat then c else b 103 i.toNat
    rw [h2]
    by_cases g : i.toNat = (b 102 0).toNat
    · rw [if_pos g, if_pos g]
    · rw [if_neg g, if_neg g]; exact h4 i i0 (by omega)
  · rw [zml_put h2'] at e3
    show (if e.toNat = c.toNat then zbd x else a 31 e.toNat) = (if e.toNat = c.toNat then zbd x else b 104 e.toNat) ∧ (if e.toNat = c.toNat then zbd y else a 32 e.toNat) = if e.toNat = c.toNat then zbd y else b 105 e.toNat
    by_cases g : e.toNat = c.toNat
    · rw [if_pos g, if_pos g, if_pos g, if_pos g]; exact ⟨rfl, rfl⟩
    · rw [if_neg (show ¬ c = e by omega)] at e3
      rw [if_neg g, if_neg g, if_neg g, if_neg g]
      exact h5 e e0 e2 e3
theorem zQl.pb {a b : zW} (h : zQl a b) {t p q : Int} (t0 : 0 ≤ t ∧ t < a 95 0) (p0 : 0 ≤ p ∧ p < a 95 0) (q0 : 0 ≤ q ∧ q < a 95 0) (mp : zml b p = 1) (mq : zml b q = 1) : zQl (zpb a t p q) (zpbm b t p q) := by
  have hn := h.1.1.n
  have rp := h.1.2.2 p p0.1 p0.2
  have rq := h.1.2.2 q q0.1 q0.2
  have rt := h.1.2.2 t t0.1 t0.2
  have lp := h.2.2.2.2 p p0.1 (by omega) mp
  have lq := h.2.2.2.2 q q0.1 (by omega) mq
  have eA : zAl (a 30) p q t = zAl (b 98) p q t := by unfold zAl; rw [rp, rq, rt]
  have eS : zAs (a 30) p q t = zAs (b 98) p q t := by unfold zAs; rw [eA, rp, rt]
  have eX : zNx (a 31) (a 32) (a 30) p q t = zNx (b 104) (b 105) (b 98) p q t := by unfold zNx; rw [eA, eS, rp, rq, lp.1, lp.2, lq.1, lq.2]
  have eY : zNy (a 31) (a 32) (a 30) p q t = zNy (b 104) (b 105) (b 98) p q t := by unfold zNy; rw [eA, eS, rp, rq, lp.1, lp.2, lq.1, lq.2]
  unfold zpb zpbm
  rw [eX, eY]
  exact h.put t0.1
/-- one more circle by a face whose other two are placed -/
theorem zQl.p3 {a b : zW} (h : zQl a b) {f : Int} (f0 : 0 ≤ f) (f1 : f < a 96 0) : (zct a f = 2 ↔ zln b f ≠ -1) ∧ (zct a f = 2 → zQl (zp3 a f) (zpb3 b f (zln b f))) := by
  have hN := h.1.1
  have hn := hN.n
  obtain ⟨k0, k1, k2⟩ := hN.cor3 f0 f1
  have e99 := h.1.2.1 99 (by decide)
  have m0 := h.2.2.1 _ k0.1 (by omega)
  have m1 := h.2.2.1 _ k1.1 (by omega)
  have m2 := h.2.2.1 _ k2.1 (by omega)
  have z0 := zml_01 b (a 99 (3 * f).toNat)
  have z1 := zml_01 b (a 99 (3 * f + 1).toNat)
  have z2 := zml_01 b (a 99 (3 * f + 2).toNat)
  have E0 : zpb3 b f 0 = zpbm b (a 99 (3 * f).toNat) (a 99 (3 * f + 1).toNat) (a 99 (3 * f + 2).toNat) := by unfold zpb3; rw [e99, show 3 * f + 0 = 3 * f by omega]; rfl
  have E1 : zpb3 b f 1 = zpbm b (a 99 (3 * f + 1).toNat) (a 99 (3 * f + 2).toNat) (a 99 (3 * f).toNat) := by unfold zpb3; rw [e99, show 3 * f + (1 + 2) % 3 = 3 * f by omega]; rfl
  have E2 : zpb3 b f 2 = zpbm b (a 99 (3 * f + 2).toNat) (a 99 (3 * f).toNat) (a 99 (3 * f + 1).toNat) := by unfold zpb3; rw [e99, show 3 * f + (2 + 1) % 3 = 3 * f by omega]; rfl
  unfold zct zln zp3
  rw [e99, m0, m1, m2]
  rcases z0 with z0 | z0 <;> rcases z1 with z1 | z1 <;> rcases z2 with z2 | z2 <;> rw [z0, z1, z2]
  · exact ⟨by decide, fun x => absurd x (by decide)⟩
  · exact ⟨by decide, fun x => absurd x (by decide)⟩
  · exact ⟨by decide, fun x => absurd x (by decide)⟩
  · refine ⟨by decide, fun _ => ?_⟩
    show zQl (zpb a _ _ _) (zpb3 b f 0)
    rw [E0]
    exact h.pb k0 k1 k2 z1 z2
  · exact ⟨by decide, fun x => absurd x (by decide)⟩
  · refine ⟨by decide, fun _ => ?_⟩
    show zQl (zpb a _ _ _) (zpb3 b f 1)
    rw [E1]
    exact h.pb k1 k2 k0 z2 z0
  · refine ⟨by decide, fun _ => ?_⟩
    show zQl (zpb a _ _ _) (zpb3 b f 2)
    rw [E2]
    exact h.pb k2 k0 k1 z0 z1
  · exact ⟨by decide, fun x => absurd x (by decide)⟩

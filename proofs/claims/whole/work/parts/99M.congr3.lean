/-! ===== the layout of the class and of the model: whole (written by wip/whole/gen_c.py) ===== -/
def zQd (b : zW) : Prop := ∀ i j : Int, 0 ≤ i → i < j → j < b 102 0 → b 103 i.toNat ≠ b 103 j.toNat
theorem zQd.put {b : zW} (h : zQd b) (h0 : 0 ≤ b 102 0) {c x y : Int} (z : zml b c = 0) : zQd (zputm b c x y) := by
  intro i j i0 i1 j1
  have j1 : j < b 102 0 + 1 := j1
  show (if i.toNat = (b 102 0).toNat then c else b 103 i.toNat) ≠ if j.toNat = (b 102 0).toNat then c else b 103 j.toNat
  rw [if_neg (by omega)]
  by_cases g : j.toNat = (b 102 0).toNat
  · rw [if_pos g]
    intro x
    have := zml_or (w := b) i0 (by omega)
    rw [x, z] at this
    exact absurd this (by decide)
  · rw [if_neg g]
    exact h i j i0 i1 (by omega)
theorem zQd.p3 {b : zW} (h : zQd b) (h0 : 0 ≤ b 102 0) {f : Int} (c : zln b f ≠ -1) : zQd (zpb3 b f (zln b f)) := by
  have z0 := zml_01 b (b 99 (3 * f).toNat)
  have z1 := zml_01 b (b 99 (3 * f + 1).toNat)
  have z2 := zml_01 b (b 99 (3 * f + 2).toNat)
  unfold zln at c ⊢
  rcases z0 with z0 | z0 <;> rcases z1 with z1 | z1 <;> rcases z2 with z2 | z2 <;> rw [z0, z1, z2] at c ⊢
  · exact absurd rfl c
  · exact absurd rfl c
  · exact absurd rfl c
  · show zQd (zpb3 b f 0)
    unfold zpb3 zpbm
    rw [show 3 * f + 0 = 3 * f by omega]
    exact h.put h0 z0
  · exact absurd rfl c
  · show zQd (zpb3 b f 1)
    exact h.put h0 z1
  · show zQd (zpb3 b f 2)
    exact h.put h0 z2
  · exact absurd rfl c
theorem zLl_q : ∀ (m : Nat) {a b : zW}, zQl a b → zQd b → zQl (zLl m a) (zLlm m b) ∧ zQd (zLlm m b) := by
  intro m
  induction m with
  | zero => exact fun h d => ⟨h, d⟩
  | succ m ih =>
    intro a b h d
    have hn := h.1.1.n
    have e96 := h.1.2.1 96 (by decide)
    have eF : zf2 a = zFi (fun f => zln b f ≠ -1) (b 96 0).toNat 0 := by
      unfold zf2
      rw [e96]
      exact zFi_congr _ 0 fun j j0 j1 => (h.p3 j0 (by omega)).1
    have ea : zLl (m + 1) a = if zf2 a = -1 then a else zLl m (zp3 a (zf2 a)) := rfl
    have eb : zLlm (m + 1) b = if zFi (fun f => zln b f ≠ -1) (b 96 0).toNat 0 = -1 then b else zLlm m (zpb3 b (zFi (fun f => zln b f ≠ -1) (b 96 0).toNat 0) (zln b (zFi (fun f => zln b f ≠ -1) (b 96 0).toNat 0))) := rfl
    rw [ea, eb, ← eF]
    by_cases g : zf2 a = -1
    · rw [if_pos g, if_pos g]; exact ⟨h, d⟩
    · rw [if_neg g, if_neg g]
      rcases zFi_spec (p := fun f => zct a f = 2) (a 96 0).toNat 0 (by omega) with ⟨x, _⟩ | ⟨g1, g2, g3, _⟩
      · exact (g x).elim
      · have g1 : 0 ≤ zf2 a := g1
        have g2 : zf2 a < 0 + ((a 96 0).toNat : Int) := g2
        have g3 : zct a (zf2 a) = 2 := g3
        have r := h.p3 g1 (by omega)
        exact ih (r.2 g3) (d.p3 h.2.1.2 (r.1.mp g3))
theorem zQl.la {a b : zW} (h : zQl a b) {f : Int} (f0 : 0 ≤ f) (f1 : f < a 96 0) : zQl (zLa a f) (zLam b f) ∧ zQd (zLam b f) := by
  have hN := h.1.1
  have hn := hN.n
  obtain ⟨d1, d2, d3⟩ := hN.tri f0 f1
  obtain ⟨k0, k1, k2⟩ := hN.cor3 f0 f1
  have e99 := h.1.2.1 99 (by decide)
  have zz : ∀ e, zml (zupd b 102 0 0) e = 0 := fun e => zmk_0 _ e
  have Q0 : zQl (zclr a) (zupd b 102 0 0) := by
    refine ⟨zQr_fr (fun p hp => zclr_ne (by omega) (by omega)) (fun p hp => zune (by omega)) h.1, ⟨rfl, Int.le_refl 0⟩, fun c c0 c1 => ?_, fun i i0 i1 => ?_, fun c c0 c1 x => ?_⟩
    · rw [zz, zclr_33 a _ (by omega)]
    · exact absurd (show i < 0 from i1) (by omega)
    · rw [zz] at x; exact absurd x (by decide)
  have D0 : zQd (zupd b 102 0 0) := fun i j i0 i1 j1 => absurd (show j < 0 from j1) (by omega)
  have ra := h.1.2.2 _ k0.1 k0.2
  have rb := h.1.2.2 _ k1.1 k1.2
  have Q1 := Q0.put (c := a 99 (3 * f).toNat) (x := 0) (y := 0) k0.1
  have D1 : zQd (zputm (zupd b 102 0 0) (a 99 (3 * f).toNat) 0 0) := D0.put (Int.le_refl 0) (zz _)
  have m1 : ∀ e, zml (zputm (zupd b 102 0 0) (a 99 (3 * f).toNat) 0 0) e = if a 99 (3 * f).toNat = e then 1 else 0 := fun e => by rw [zml_put (Int.le_refl 0), zz]
  have Q2 := Q1.put (c := a 99 (3 * f + 1).toNat) (x := a 30 (a 99 (3 * f).toNat).toNat + a 30 (a 99 (3 * f + 1).toNat).toNat) (y := 0) k1.1
  have D2 : zQd (zputm (zputm (zupd b 102 0 0) (a 99 (3 * f).toNat) 0 0) (a 99 (3 * f + 1).toNat) (a 30 (a 99 (3 * f).toNat).toNat + a 30 (a 99 (3 * f + 1).toNat).toNat) 0) := D1.put Q1.2.1.2 (by rw [m1, if_neg d1])
  have m2 : ∀ e, zml (zputm (zputm (zupd b 102 0 0) (a 99 (3 * f).toNat) 0 0) (a 99 (3 * f + 1).toNat) (a 30 (a 99 (3 * f).toNat).toNat + a 30 (a 99 (3 * f + 1).toNat).toNat) 0) e = if a 99 (3 * f + 1).toNat = e then 1 else if a 99 (3 * f).toNat = e then 1 else 0 := fun e => by rw [zml_put Q1.2.1.2, m1]
  have eb : zLam b f = zLlm 12 (zpb3 (zputm (zputm (zupd b 102 0 0) (a 99 (3 * f).toNat) 0 0) (a 99 (3 * f + 1).toNat) (a 30 (a 99 (3 * f).toNat).toNat + a 30 (a 99 (3 * f + 1).toNat).toNat) 0) f 2) := by
    unfold zLam
    rw [e99, ← ra, ← rb]
  have ln : zln (zputm (zputm (zupd b 102 0 0) (a 99 (3 * f).toNat) 0 0) (a 99 (3 * f + 1).toNat) (a 30 (a 99 (3 * f).toNat).toNat + a 30 (a 99 (3 * f + 1).toNat).toNat) 0) f = 2 := by
    have x99 : zputm (zputm (zupd b 102 0 0) (a 99 (3 * f).toNat) 0 0) (a 99 (3 * f + 1).toNat) (a 30 (a 99 (3 * f).toNat).toNat + a 30 (a 99 (3 * f + 1).toNat).toNat) 0 99 = a 99 := by
      rw [zputm_ne (by decide), zputm_ne (by decide), zune (by decide), e99]
    unfold zln
    have v0 : zml (zputm (zputm (zupd b 102 0 0) (a 99 (3 * f).toNat) 0 0) (a 99 (3 * f + 1).toNat) (a 30 (a 99 (3 * f).toNat).toNat + a 30 (a 99 (3 * f + 1).toNat).toNat) 0) (a 99 (3 * f).toNat) = 1 := by rw [m2, if_neg (show ¬ a 99 (3 * f + 1).toNat = a 99 (3 * f).toNat from fun x => d1 x.symm)]; exact if_pos rfl
    have v1 : zml (zputm (zputm (zupd b 102 0 0) (a 99 (3 * f).toNat) 0 0) (a 99 (3 * f + 1).toNat) (a 30 (a 99 (3 * f).toNat).toNat + a 30 (a 99 (3 * f + 1).toNat).toNat) 0) (a 99 (3 * f + 1).toNat) = 1 := by rw [m2]; exact if_pos rfl
    have v2 : zml (zputm (zputm (zupd b 102 0 0) (a 99 (3 * f).toNat) 0 0) (a 99 (3 * f + 1).toNat) (a 30 (a 99 (3 * f).toNat).toNat + a 30 (a 99 (3 * f + 1).toNat).toNat) 0) (a 99 (3 * f + 2).toNat) = 0 := by rw [m2, if_neg d2]; exact if_neg fun x => d3 x.symm
    rw [x99, v0, v1, v2]
    rfl
  have a96 : zput (zput (zclr a) (a 99 (3 * f).toNat) 0 0) (a 99 (3 * f + 1).toNat) (a 30 (a 99 (3 * f).toNat).toNat + a 30 (a 99 (3 * f + 1).toNat).toNat) 0 96 = a 96 := by
    rw [zput_ne (by decide), zput_ne (by decide), zclr_ne (by decide) (by decide)]
  have r := Q2.p3 f0 (by rw [a96]; exact f1)
  rw [ln] at r
  have D3 := D2.p3 Q2.2.1.2 (f := f) (by rw [ln]; decide)
  rw [ln] at D3
  rw [eb]
  exact zLl_q 12 (r.2 (r.1.mpr (by decide))) D3

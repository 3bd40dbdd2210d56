/-! ===== words for the pairs (written by wip/whole/gen_c.py) ===== -/
theorem zJv.z0 {w : zW} (J : zJv w) {c : Int} (c0 : 0 ≤ c) (c1 : c < 12) (h : ((if w 33 c.toNat = 0 then 0 else 1) : Int) = 0) : zml w c = 0 := by
  rw [← J.jp c0 c1]
  exact zfr0 h
theorem zJv.z1 {w : zW} (J : zJv w) {c : Int} (c0 : 0 ≤ c) (c1 : c < 12) (h : ¬ ((if w 33 c.toNat = 0 then 0 else 1) : Int) = 0) : ¬ zml w c = 0 := by
  rw [← J.jp c0 c1]
  exact zfr1 h
theorem zJv.zp {w : zW} (J : zJv w) {c : Int} (c0 : 0 ≤ c) (c1 : c < 12) (h : ¬ ((if w 33 c.toNat = 0 then 0 else 1) : Int) = 0) : zPp w c := by
  have m := J.z1 c0 c1 h
  have z := zml_01 w c
  exact ⟨⟨c0, c1⟩, (J.pl c0 c1).mpr (by omega)⟩
theorem zJv.to {w : zW} (J : zJv w) {a b : Int} (a0 : 0 ≤ a) (a1 : a < 12) (b0 : 0 ≤ b) (b1 : b < 12) (h : w 33 a.toNat ≠ 0 ∧ w 33 b.toNat ≠ 0) (t : Int) : (if t = 0 then zTo (w 31) (w 30) a b else zTo (w 32) (w 30) a b) = if t = 0 then zTo (w 104) (w 98) a b else zTo (w 105) (w 98) a b := by
  have za := zml_01 w a
  have zb := zml_01 w b
  have ja := J.jp a0 a1
  have jb := J.jp b0 b1
  have h1 := h.1
  have h2 := h.2
  have ma : zml w a = 1 := by omega
  have mb : zml w b = 1 := by omega
  have x := J.jx a0 a1 ma
  have y := J.jx b0 b1 mb
  unfold zTo
  rw [x.1, x.2, y.1, y.2, J.jr a0 (J.jn a0 a1 ma), J.jr b0 (J.jn b0 b1 mb)]
/-- the loosest pair's gap -/
theorem zJv.au {w : zW} (J : zJv w) : ((zLp (zCn (zF0 w) (fun c => w 33 c.toNat)) (fun a b => zab (zGp (w 31) (w 32) (w 30) a b)) (w 95 0)).2 = -1 → (zLp (zCn (zF0 w) (fun c => w 33 c.toNat)) (fun a b => zab (zGp (w 31) (w 32) (w 30) a b)) (w 95 0)).1 = -1) ∧
    (¬ (zLp (zCn (zF0 w) (fun c => w 33 c.toNat)) (fun a b => zab (zGp (w 31) (w 32) (w 30) a b)) (w 95 0)).2 = -1 → (zPp w (z32 (Int.tdiv ((zLp (zCn (zF0 w) (fun c => w 33 c.toNat)) (fun a b => zab (zGp (w 31) (w 32) (w 30) a b)) (w 95 0)).2) 12)) ∧ zPp w (z32 (Int.tmod ((zLp (zCn (zF0 w) (fun c => w 33 c.toNat)) (fun a b => zab (zGp (w 31) (w 32) (w 30) a b)) (w 95 0)).2) 12))) ∧
      z32 (max (zGp (w 31) (w 32) (w 30) (z32 (Int.tdiv ((zLp (zCn (zF0 w) (fun c => w 33 c.toNat)) (fun a b => zab (zGp (w 31) (w 32) (w 30) a b)) (w 95 0)).2) 12)) (z32 (Int.tmod ((zLp (zCn (zF0 w) (fun c => w 33 c.toNat)) (fun a b => zab (zGp (w 31) (w 32) (w 30) a b)) (w 95 0)).2) 12))) (-(zGp (w 31) (w 32) (w 30) (z32 (Int.tdiv ((zLp (zCn (zF0 w) (fun c => w 33 c.toNat)) (fun a b => zab (zGp (w 31) (w 32) (w 30) a b)) (w 95 0)).2) 12)) (z32 (Int.tmod ((zLp (zCn (zF0 w) (fun c => w 33 c.toNat)) (fun a b => zab (zGp (w 31) (w 32) (w 30) a b)) (w 95 0)).2) 12))))) = (zLp (zCn (zF0 w) (fun c => w 33 c.toNat)) (fun a b => zab (zGp (w 31) (w 32) (w 30) a b)) (w 95 0)).1) := by
  have hn := J.1.n
  obtain ⟨r30, pC, r98, pM, hH⟩ := J.i
  rcases zLp_sp (zCn (zF0 w) (fun c => w 33 c.toNat)) (fun a b => zab (zGp (w 31) (w 32) (w 30) a b)) (n := w 95 0) (by omega) with e | ⟨a, b, a0, ab, b1, cc, e⟩
  · rw [e]
    exact ⟨fun _ => rfl, fun q => (q rfl).elim⟩
  · rw [e]
    have g : w 33 a.toNat = 1 ∧ w 33 b.toNat = 1 ∧ ¬ zap (zF0 w) a b := by
      refine Classical.byContradiction fun q => ?_
      unfold zCn at cc
      rw [if_neg q] at cc
      exact absurd cc (by decide)
    have e1 : z32 (Int.tdiv (12 * a + b) 12) = a := by
      rw [Int.tdiv_eq_ediv_of_nonneg (by omega), show (12 * a + b) / 12 = a by omega]
      exact z32_id ⟨by omega, by omega⟩
    have e2 : z32 (Int.tmod (12 * a + b) 12) = b := by
      rw [Int.tmod_eq_emod_of_nonneg (by omega), show (12 * a + b) % 12 = b by omega]
      exact z32_id ⟨by omega, by omega⟩
    refine ⟨fun q => absurd (show 12 * a + b = -1 from q) (by omega), fun _ => ?_⟩
    show (zPp w (z32 (Int.tdiv (12 * a + b) 12)) ∧ zPp w (z32 (Int.tmod (12 * a + b) 12))) ∧ z32 (max (zGp (w 31) (w 32) (w 30) (z32 (Int.tdiv (12 * a + b) 12)) (z32 (Int.tmod (12 * a + b) 12))) (-(zGp (w 31) (w 32) (w 30) (z32 (Int.tdiv (12 * a + b) 12)) (z32 (Int.tmod (12 * a + b) 12))))) = zab (zGp (w 31) (w 32) (w 30) a b)
    rw [e1, e2]
    have d := pC.1.2 a b a0 (by omega) (by omega) (by omega) g.1 g.2.1
    have rg := (zGp_rg (X := w 31) (Y := w 32) (R := w 30) (a := a) (b := b) d.1 d.2 (r30 a a0 (by omega)) (r30 b (by omega) b1)).2.2.2
    refine ⟨⟨⟨⟨a0, by omega⟩, g.1⟩, ⟨⟨by omega, by omega⟩, g.2.1⟩⟩, ?_⟩
    unfold zab
    exact z32_id ⟨by omega, by omega⟩

/-! ===== the law: the invariant holds at the start (written by wip/whole/gen_c.py) ===== -/
theorem zw1_0 (w : zW) : ((zw1 w 4 0 = 0 ∧ zw1 w 4 1 = 0 ∧ zw1 w 95 0 = 0 ∧ zw1 w 96 0 = 0) ∧ (zw1 w 29 5 = 0 ∧ zw1 w 102 0 = 0) ∧ (zw1 w 1 1 = 0 ∧ zw1 w 93 2 = 0) ∧ (zw1 w 3 7 = zw1 w 93 10 ∧ zw1 w 3 8 = zw1 w 93 11)) ∧ ((zw1 w 37 1 = 0 ∧ zw1 w 37 2 = 0 ∧ zw1 w 93 31 = 0) ∧ (zw1 w 0 13 = 0 ∧ zw1 w 93 24 = 0) ∧ (zw1 w 90 1 = 0 ∧ zw1 w 93 44 = 0 ∧ zw1 w 93 45 = 0)) :=
  ⟨⟨⟨rfl, rfl, rfl, rfl⟩, ⟨rfl, rfl⟩, ⟨rfl, rfl⟩, rfl, rfl⟩, ⟨rfl, rfl, rfl⟩, ⟨rfl, rfl⟩, rfl, rfl, rfl⟩
theorem zw1_33 (w : zW) (k : Nat) : zw1 w 33 k = 0 := rfl
set_option maxRecDepth 100000 in
theorem zw1_9 (w : zW) (k : Nat) (h : k < 144) : zw1 w 9 k = -1 :=
  (show (if (k : Int) < 144 then (-1 : Int) else 0) = -1 from if_pos (by omega))
set_option maxRecDepth 100000 in
theorem zw1_100 (w : zW) (k : Nat) (h : k < 144) : zw1 w 100 k = -1 :=
  (show (if 144 ≤ k ∧ (k : Int) < 144 + 144 then (-1 : Int) else if (k : Int) < 144 then -1 else 0) = -1 by rw [if_neg (by omega), if_pos (by omega)])
theorem zw1_f (w : zW) : zw1 w 2002 = w 2002 ∧ zw1 w 2003 = w 2003 := ⟨rfl, rfl⟩
theorem zw1_J (w : zW) : zJv (zw1 w) := by
  obtain ⟨⟨⟨a1, a2, a3, a4⟩, ⟨b1, b2⟩, ⟨c1, c2⟩, d1, d2⟩, ⟨e1, e2, e3⟩, ⟨f1, f2⟩, g1, g2, g3⟩ := zw1_0 w
  have x9 := zw1_9 w
  have x100 := zw1_100 w
  have x33 := zw1_33 w
  generalize zw1 w = W at *
  refine ⟨⟨⟨⟨by omega, by omega, by omega, by omega, by omega, by omega⟩, fun c c0 c1' => by omega, fun k k0 k1 => by omega, fun f i h0 h1 i0 i1 => by omega, fun a b h0 h1 h2 h3 => Or.inl ⟨x9 _ (by omega), ?_⟩⟩, fun c h0 h1 => by omega⟩, ?_, zTt_0 c1 c2, ⟨d1, d2⟩, zHJ_0 (by omega) (by omega) e3, ⟨⟨by omega, Or.inl f2⟩, fun q => by omega⟩, ⟨⟨by omega, by omega, by omega⟩, ⟨fun _ => g2, Or.inl g3⟩, fun i h0 h1 => by omega⟩⟩
  · show W 100 _ = -1
    exact x100 _ (by omega)
  · unfold zPJ
    rw [b2]
    refine ⟨fun c h0 h1 => by omega, ⟨b1, by decide, by decide⟩, fun i i0 i1 => absurd i1 (by omega), fun i j i0 ij j1 => absurd j1 (by omega), fun c h0 h1 => ?_, fun c h0 h1 q => ?_, fun c h0 h1 q => ?_, fun a b h0 h1 h2 h3 q => ?_⟩
    · rw [x33]; rfl
    · rw [x33] at q; exact absurd q (by decide)
    · have q : W 33 c.toNat = 1 := q
      rw [x33] at q; exact absurd q (by decide)
    · have q : W 33 a.toNat = 1 := q
      rw [x33] at q; exact absurd q (by decide)
/-- the law, in the small machine -/
theorem zlaw {K : zK} (hK : ∀ v, K (0, some (0, 1)) v 238) {w : zW} (h : 0 ≤ w 2003 0 ∧ w 2003 0 ≤ 3072) (hS : ∀ j, zr32 (w 2002 j)) : zwp 388 0 [(2, 2002), (9, 0), (9, 0), (9, 0), (9, 0), (9, 0), (9, 0), (9, 0)] [] w 0 600000 K := by
  have f := zw1_f w
  exact zstart (zloop hK 600 0 (zw1 w) 599383 (zw1_J w) (by decide) (by rw [f.2]; exact h) (by rw [f.2]; omega) (by rw [f.1]; exact hS) (by decide))

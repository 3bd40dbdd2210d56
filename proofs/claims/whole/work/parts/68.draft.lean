/-! ===== class and model draw the same net: circles, faces (written by wip/whole/gen_c.py) ===== -/
def zcr1 (b : zW) (k : Int) : Int := b 99 (60 + k).toNat
def zg1 (b : zW) (x y : Int) : Int := b 100 (144 + 12 * x + y).toNat
/-- the class's draft (a) and the model's area of what is read (b) -/
def zDn (a b : zW) : Prop :=
  (a 14 0 = b 95 1 ∧ a 14 1 = b 96 1 ∧ 0 ≤ b 95 1 ∧ b 95 1 ≤ 12 ∧ 0 ≤ b 96 1 ∧ b 96 1 ≤ 20) ∧
  (∀ c, 0 ≤ c → c < b 95 1 → znm (a 15 c.toNat) (b 101 (12 + c).toNat) ∧ a 16 c.toNat = b 97 (12 + c).toNat ∧ a 17 c.toNat = b 98 (12 + c).toNat ∧ (0 ≤ b 97 (12 + c).toNat ∧ b 97 (12 + c).toNat ≤ 1800) ∧ ((b 97 (12 + c).toNat = 0 ∧ 1 ≤ b 98 (12 + c).toNat ∧ b 98 (12 + c).toNat ≤ 100000) ∨ (1 ≤ b 97 (12 + c).toNat ∧ b 98 (12 + c).toNat = 0))) ∧
  (∀ k, 0 ≤ k → k < 3 * b 96 1 → a 18 k.toNat = zcr1 b k ∧ 0 ≤ zcr1 b k ∧ zcr1 b k < b 95 1) ∧
  (∀ f i, 0 ≤ f → f < b 96 1 → 0 ≤ i → i < 3 → a 19 (12 * zcr1 b (3 * f + i) + zcr1 b (3 * f + (i + 1) % 3)).toNat = f ∧ zg1 b (zcr1 b (3 * f + i)) (zcr1 b (3 * f + (i + 1) % 3)) = zcr1 b (3 * f + (i + 2) % 3) ∧ zcr1 b (3 * f + i) ≠ zcr1 b (3 * f + (i + 1) % 3)) ∧
  (∀ x y, 0 ≤ x → x < 12 → 0 ≤ y → y < 12 → (a 19 (12 * x + y).toNat = -1 ∧ zg1 b x y = -1) ∨ ∃ f i, 0 ≤ f ∧ f < b 96 1 ∧ 0 ≤ i ∧ i < 3 ∧ x = zcr1 b (3 * f + i) ∧ y = zcr1 b (3 * f + (i + 1) % 3))
def zDr (a b : zW) : Prop := zDn a b ∧ (a 14 2 = b 93 26 ∧ 1 ≤ b 93 26 ∧ b 93 26 ≤ 100000) ∧ (a 13 3 = b 93 25 ∧ (b 93 25 = 0 ∨ b 93 25 = 1)) ∧ a 13 2 = b 93 27
theorem zDn_c {a b a' b' : zW} {x y dg r : Int} (d : zDn a b) (hn : b 95 1 < 12) (n : znm x y) (hd : 0 ≤ dg ∧ dg ≤ 1800) (hr : (dg = 0 ∧ 1 ≤ r ∧ r ≤ 100000) ∨ (1 ≤ dg ∧ r = 0))
    (ea : a' 14 0 = a 14 0 + 1) (eb : b' 95 1 = b 95 1 + 1) (ea1 : a' 14 1 = a 14 1) (eb1 : b' 96 1 = b 96 1)
    (a15 : ∀ i, a' 15 i = if i = (a 14 0).toNat then x else a 15 i) (a16 : ∀ i, a' 16 i = if i = (a 14 0).toNat then dg else a 16 i) (a17 : ∀ i, a' 17 i = if i = (a 14 0).toNat then r else a 17 i)
    (b101 : ∀ i, b' 101 i = if i = (12 + b 95 1).toNat then y else b 101 i) (b97 : ∀ i, b' 97 i = if i = (12 + b 95 1).toNat then dg else b 97 i) (b98 : ∀ i, b' 98 i = if i = (12 + b 95 1).toNat then r else b 98 i)
    (a18 : a' 18 = a 18) (a19 : a' 19 = a 19) (b99 : b' 99 = b 99) (b100 : b' 100 = b 100) : zDn a' b' := by
  obtain ⟨⟨h1, h2, h3, h4, h5, h6⟩, hc, hk, hf, hs⟩ := d
  have ec : zcr1 b' = zcr1 b := by unfold zcr1; rw [b99]
  have eg : zg1 b' = zg1 b := by unfold zg1; rw [b100]
  refine ⟨⟨by omega, by omega, by omega, by omega, by omega, by omega⟩, fun c c0 c1 => ?_, fun k k0 k1 => ?_, fun f i f0 f1 i0 i1 => ?_, fun u v u0 u1 v0 v1 => ?_⟩
  · rw [a15, a16, a17, b101, b97, b98]
    by_cases g : c = b 95 1
    · have e1 : c.toNat = (a 14 0).toNat := by omega
      have e2 : (12 + c).toNat = (12 + b 95 1).toNat := by omega
      rw [if_pos e1, if_pos e1, if_pos e1, if_pos e2, if_pos e2, if_pos e2]
      exact ⟨n, rfl, rfl, hd, hr⟩
    · have e1 : ¬ c.toNat = (a 14 0).toNat := by omega
      have e2 : ¬ (12 + c).toNat = (12 + b 95 1).toNat := by omega
      rw [if_neg e1, if_neg e1, if_neg e1, if_neg e2, if_neg e2, if_neg e2]
      exact hc c c0 (by omega)
  · rw [ec, a18, eb]
    have := hk k k0 (by omega)
    exact ⟨this.1, this.2.1, by omega⟩
  · rw [ec, eg, a19]
    exact hf f i f0 (by omega) i0 i1
  · rw [ec, eg, a19, eb1]
    exact hs u v u0 u1 v0 v1
theorem zDn_f {a b a' b' : zW} {x y z : Int} (d : zDn a b) (hn : b 96 1 < 20) (hx : 0 ≤ x ∧ x < b 95 1) (hy : 0 ≤ y ∧ y < b 95 1) (hz : 0 ≤ z ∧ z < b 95 1) (xy : x ≠ y) (yz : y ≠ z) (zx : z ≠ x)
    (s1 : a 19 (12 * x + y).toNat = -1) (s2 : a 19 (12 * y + z).toNat = -1) (s3 : a 19 (12 * z + x).toNat = -1)
    (ea : a' 14 1 = a 14 1 + 1) (eb : b' 96 1 = b 96 1 + 1) (ea1 : a' 14 0 = a 14 0) (eb1 : b' 95 1 = b 95 1)
    (a15 : a' 15 = a 15) (a16 : a' 16 = a 16) (a17 : a' 17 = a 17) (b101 : b' 101 = b 101) (b97 : b' 97 = b 97) (b98 : b' 98 = b 98)
    (a18 : ∀ k, 0 ≤ k → k < 60 → a' 18 k.toNat = if k = 3 * b 96 1 then x else if k = 3 * b 96 1 + 1 then y else if k = 3 * b 96 1 + 2 then z else a 18 k.toNat)
    (b99 : ∀ k, 0 ≤ k → k < 60 → zcr1 b' k = if k = 3 * b 96 1 then x else if k = 3 * b 96 1 + 1 then y else if k = 3 * b 96 1 + 2 then z else zcr1 b k)
    (a19 : ∀ u v, 0 ≤ u → u < 12 → 0 ≤ v → v < 12 → a' 19 (12 * u + v).toNat = if u = x ∧ v = y then b 96 1 else if u = y ∧ v = z then b 96 1 else if u = z ∧ v = x then b 96 1 else a 19 (12 * u + v).toNat)
    (b100 : ∀ u v, 0 ≤ u → u < 12 → 0 ≤ v → v < 12 → zg1 b' u v = if u = x ∧ v = y then z else if u = y ∧ v = z then x else if u = z ∧ v = x then y else zg1 b u v) : zDn a' b' := by
  obtain ⟨⟨h1, h2, h3, h4, h5, h6⟩, hc, hk, hf, hs⟩ := d
  have c0 : zcr1 b' (3 * b 96 1) = x := by rw [b99 _ (by omega) (by omega), if_pos rfl]
  have c1 : zcr1 b' (3 * b 96 1 + 1) = y := by rw [b99 _ (by omega) (by omega), if_neg (by omega), if_pos rfl]
  have c2 : zcr1 b' (3 * b 96 1 + 2) = z := by rw [b99 _ (by omega) (by omega), if_neg (by omega), if_neg (by omega), if_pos rfl]
  have co : ∀ k, 0 ≤ k → k < 3 * b 96 1 → zcr1 b' k = zcr1 b k := fun k k0 k1 => by
    rw [b99 _ (by omega) (by omega), if_neg (by omega), if_neg (by omega), if_neg (by omega)]
  have sxy : a' 19 (12 * x + y).toNat = b 96 1 := by rw [a19 x y (by omega) (by omega) (by omega) (by omega), if_pos ⟨rfl, rfl⟩]
  have syz : a' 19 (12 * y + z).toNat = b 96 1 := by rw [a19 y z (by omega) (by omega) (by omega) (by omega), if_neg (by omega), if_pos ⟨rfl, rfl⟩]
  have szx : a' 19 (12 * z + x).toNat = b 96 1 := by rw [a19 z x (by omega) (by omega) (by omega) (by omega), if_neg (by omega), if_neg (by omega), if_pos ⟨rfl, rfl⟩]
  have gxy : zg1 b' x y = z := by rw [b100 x y (by omega) (by omega) (by omega) (by omega), if_pos ⟨rfl, rfl⟩]
  have gyz : zg1 b' y z = x := by rw [b100 y z (by omega) (by omega) (by omega) (by omega), if_neg (by omega), if_pos ⟨rfl, rfl⟩]
  have gzx : zg1 b' z x = y := by rw [b100 z x (by omega) (by omega) (by omega) (by omega), if_neg (by omega), if_neg (by omega), if_pos ⟨rfl, rfl⟩]
  refine ⟨⟨by omega, by omega, by omega, by omega, by omega, by omega⟩, fun c q0 q1 => ?_, fun k k0 k1 => ?_, fun f i f0 f1 i0 i1 => ?_, fun u v u0 u1 v0 v1 => ?_⟩
  · rw [a15, a16, a17, b101, b97, b98]
    exact hc c q0 (by omega)
  · rw [a18 k k0 (by omega), b99 k k0 (by omega), eb1]
    by_cases g0 : k = 3 * b 96 1
    · rw [if_pos g0, if_pos g0]; exact ⟨rfl, hx⟩
    · rw [if_neg g0, if_neg g0]
      by_cases g1 : k = 3 * b 96 1 + 1
      · rw [if_pos g1, if_pos g1]; exact ⟨rfl, hy⟩
      · rw [if_neg g1, if_neg g1]
        by_cases g2 : k = 3 * b 96 1 + 2
        · rw [if_pos g2, if_pos g2]; exact ⟨rfl, hz⟩
        · rw [if_neg g2, if_neg g2]
          exact hk k k0 (by omega)
  · by_cases g : f = b 96 1
    · rw [g]
      have i3 : i = 0 ∨ i = 1 ∨ i = 2 := by omega
      rcases i3 with e | e | e
      · rw [e, show 3 * b 96 1 + 0 = 3 * b 96 1 by omega, show ((0 : Int) + 1) % 3 = 1 by decide, show ((0 : Int) + 2) % 3 = 2 by decide, c0, c1, c2]
        exact ⟨sxy, gxy, xy⟩
      · rw [e, show ((1 : Int) + 1) % 3 = 2 by decide, show ((1 : Int) + 2) % 3 = 0 by decide, show 3 * b 96 1 + 0 = 3 * b 96 1 by omega, c0, c1, c2]
        exact ⟨syz, gyz, yz⟩
      · rw [e, show ((2 : Int) + 1) % 3 = 0 by decide, show ((2 : Int) + 2) % 3 = 1 by decide, show 3 * b 96 1 + 0 = 3 * b 96 1 by omega, c0, c1, c2]
        exact ⟨szx, gzx, zx⟩
    · have q := hf f i f0 (by omega) i0 i1
      rw [co (3 * f + i) (by omega) (by omega), co (3 * f + (i + 1) % 3) (by omega) (by omega), co (3 * f + (i + 2) % 3) (by omega) (by omega)]
      have k1 := hk (3 * f + i) (by omega) (by omega)
      have k2 := hk (3 * f + (i + 1) % 3) (by omega) (by omega)
      rw [a19 _ _ k1.2.1 (by omega) k2.2.1 (by omega), b100 _ _ k1.2.1 (by omega) k2.2.1 (by omega)]
      have n1 : ¬ (zcr1 b (3 * f + i) = x ∧ zcr1 b (3 * f + (i + 1) % 3) = y) := fun e => by rw [e.1, e.2, s1] at q; omega
      have n2 : ¬ (zcr1 b (3 * f + i) = y ∧ zcr1 b (3 * f + (i + 1) % 3) = z) := fun e => by rw [e.1, e.2, s2] at q; omega
      have n3 : ¬ (zcr1 b (3 * f + i) = z ∧ zcr1 b (3 * f + (i + 1) % 3) = x) := fun e => by rw [e.1, e.2, s3] at q; omega
      rw [if_neg n1, if_neg n2, if_neg n3, if_neg n1, if_neg n2, if_neg n3]
      exact q
  · rw [eb]
    by_cases m1 : u = x ∧ v = y
    · exact Or.inr ⟨b 96 1, 0, h5, by omega, by omega, by omega, by rw [show 3 * b 96 1 + 0 = 3 * b 96 1 by omega, c0]; exact m1.1, by rw [show ((0 : Int) + 1) % 3 = 1 by decide, c1]; exact m1.2⟩
    · by_cases m2 : u = y ∧ v = z
      · exact Or.inr ⟨b 96 1, 1, h5, by omega, by omega, by omega, by rw [c1]; exact m2.1, by rw [show ((1 : Int) + 1) % 3 = 2 by decide, c2]; exact m2.2⟩
      · by_cases m3 : u = z ∧ v = x
        · exact Or.inr ⟨b 96 1, 2, h5, by omega, by omega, by omega, by rw [c2]; exact m3.1, by rw [show ((2 : Int) + 1) % 3 = 0 by decide, show 3 * b 96 1 + 0 = 3 * b 96 1 by omega, c0]; exact m3.2⟩
        · rcases hs u v u0 u1 v0 v1 with q | ⟨f, i, f0, f1, i0, i1, e1, e2⟩
          · left
            rw [a19 u v u0 u1 v0 v1, b100 u v u0 u1 v0 v1, if_neg m1, if_neg m2, if_neg m3, if_neg m1, if_neg m2, if_neg m3]
            exact q
          · right
            refine ⟨f, i, f0, by omega, i0, i1, ?_, ?_⟩
            · rw [co (3 * f + i) (by omega) (by omega)]; exact e1
            · rw [co (3 * f + (i + 1) % 3) (by omega) (by omega)]; exact e2
/-- a circle's name is found at the same place -/
theorem zDn.nm {a b : zW} (d : zDn a b) {x y : Int} (h : znm x y) : zFi (fun c => a 15 c.toNat = x) (a 14 0).toNat 0 = zFi (fun c => b 101 (12 + c).toNat = y) (b 95 1).toNat 0 := by
  rw [d.1.1]
  refine zFi_congr _ 0 fun c c0 c1 => ?_
  exact znm_iff (d.2.1 c c0 (by omega)).1 h
theorem zDn.side {a b : zW} (d : zDn a b) {x y : Int} (x0 : 0 ≤ x) (x1 : x < 12) (y0 : 0 ≤ y) (y1 : y < 12) : a 19 (12 * x + y).toNat = -1 ↔ zg1 b x y = -1 := by
  obtain ⟨⟨_, _, h3, h4, h5, h6⟩, _, hk, hf, hs⟩ := d
  rcases hs x y x0 x1 y0 y1 with ⟨q1, q2⟩ | ⟨f, i, f0, f1, i0, i1, e1, e2⟩
  · rw [q1, q2]
  · obtain ⟨g1, g2, g3⟩ := hf f i f0 f1 i0 i1
    have k2 := hk (3 * f + (i + 2) % 3) (by omega) (by omega)
    rw [e1, e2, g1, g2]
    omega

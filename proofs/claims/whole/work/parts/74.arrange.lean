/-! ===== the class arranges the rows (written by wip/whole/gen_c.py) ===== -/
def zTV (f : Int) (B : Nat → Int) (k : Int) : Int := if f < 0 then -1 else B (3 * f + k % 3).toNat
def zTC1 (f : Int) (B : Nat → Int) (x y : Int) : Int := if zTV f B 0 = x ∨ zTV f B 0 = y then (if zTV f B 1 = x ∨ zTV f B 1 = y then (if zTV f B 2 = x ∨ zTV f B 2 = y then -1 else zTV f B 2) else zTV f B 1) else zTV f B 0
/-- who follows y around x, by the draft's faces -/
def zTC (w : zW) (x y : Int) : Int := zTC1 (w 19 (12 * x + y).toNat) (w 18) x y
def zCT (w : zW) : Prop := (0 ≤ w 14 0 ∧ w 14 0 ≤ 12) ∧ (0 ≤ w 14 1 ∧ w 14 1 ≤ 20) ∧ (∀ x y, 0 ≤ x → x < 12 → 0 ≤ y → y < 12 → -1 ≤ w 19 (12 * x + y).toNat ∧ w 19 (12 * x + y).toNat < w 14 1 ∧ (w 19 (12 * x + y).toNat = -1 ↔ zTC w x y = -1)) ∧ zTab (zTC w) (w 14 0)
theorem zTC_fr {w v : zW} (e18 : v 18 = w 18) (e19 : v 19 = w 19) : zTC v = zTC w := by
  funext x y; unfold zTC; rw [e18, e19]
theorem zCT_fr {w v : zW} (e14 : v 14 = w 14) (e18 : v 18 = w 18) (e19 : v 19 = w 19) (h : zCT w) : zCT v := by
  unfold zCT at h ⊢
  rw [zTC_fr e18 e19, e14, e19]; exact h
theorem zNbr_T {w : zW} (h : zCT w) {x y : Int} (hx : 0 ≤ x ∧ x < 12) (hy : 0 ≤ y ∧ y < 12) : zNbr w 19 x y = if zap (zTC w) x y then 0 else 1 := by
  have a := (h.2.2.1 x y hx.1 hx.2 hy.1 hy.2).2.2
  have b := (h.2.2.1 y x hy.1 hy.2 hx.1 hx.2).2.2
  unfold zNbr zap
  by_cases g : w 19 (12 * x + y).toNat = -1 ∧ w 19 (12 * y + x).toNat = -1
  · rw [if_pos g, if_pos ⟨a.mp g.1, b.mp g.2⟩]
  · rw [if_neg g, if_neg fun q => g ⟨a.mpr q.1, b.mpr q.2⟩]
/-! $Net.cornerOf -/
set_option maxRecDepth 100000 in
theorem zk33q_14 (f k : Int) (w : zW) (K : zK) (h : ((-1 ≤ f ∧ f < w 14 1) ∧ (w 14 1 ≤ 20) ∧ 0 ≤ k ∧ k < 1000) ∧ (K (0, some (0, zTV f (w 18) k)) (w) 238)) : zcall 33 [(2, 14), (0, f), (0, k)] w 238 K := by
  obtain ⟨hg, h⟩ := h
  refine (show (if f < 0 then K (0, some (0, (-1))) w 238 else if f < w 14 1 then if f < 20 then if k < 0 then K (0, some (0, (-1))) w 238 else zif False (0 ≤ z32 ((z32 (f * 3)) + (z32 (Int.tmod k 3))) ∧ z32 ((z32 (f * 3)) + (z32 (Int.tmod k 3))) < 60) (K (0, some (0, w 18 (z32 ((z32 (f * 3)) + (z32 (Int.tmod k 3)))).toNat)) w 238) else K (0, some (0, (-1))) w 238 else K (0, some (0, (-1))) w 238) → _ from fun h => show zwp 33 0 [(2, 14), (0, f), (0, k)] [] w 238 0 K from zgo_imp zT12_ok (cut := fun pc => Nat.beq pc 18 || Nat.beq pc 31) 400 (show if f < 0 then K (0, some (0, (-1))) w 238 else if f < w 14 1 then if f < 20 then zwp 33 18 [(2, 14), (0, f), (0, k)] [] w 238 0 K else K (0, some (0, (-1))) w 238 else K (0, some (0, (-1))) w 238 from zmI (fun h => h) (fun h => zmI (fun h => zmI (fun h => (fun h => show zwp 33 18 [(2, 14), (0, f), (0, k)] [] w 238 0 K from zgo_imp zT12_ok (cut := fun pc => Nat.beq pc 18 || Nat.beq pc 31) 400 (show if k < 0 then K (0, some (0, (-1))) w 238 else zwp 33 31 [(2, 14), (0, f), (0, k)] [(0, z32 (f * 3)), (2, 18)] w 238 0 K from zmI (fun h => h) (fun h => (fun h => show zwp 33 31 [(2, 14), (0, f), (0, k)] [(0, z32 (f * 3)), (2, 18)] w 238 0 K from zgo_imp zT12_ok (cut := fun pc => Nat.beq pc 18 || Nat.beq pc 31) 400 (show zif False (0 ≤ z32 ((z32 (f * 3)) + (z32 (Int.tmod k 3))) ∧ z32 ((z32 (f * 3)) + (z32 (Int.tmod k 3))) < 60) (K (0, some (0, w 18 (z32 ((z32 (f * 3)) + (z32 (Int.tmod k 3)))).toNat)) w 238) from h)) h) h)) h) (fun h => h) h) (fun h => h) h) h)) ?_
  by_cases g : f < 0
  · rw [show zTV f (w 18) k = -1 from if_pos g] at h
    exact ziT g h
  · rw [show zTV f (w 18) k = w 18 (3 * f + k % 3).toNat from if_neg g] at h
    rw [z32_id (x := f * 3) ⟨by omega, by omega⟩, Int.tmod_eq_emod_of_nonneg (by omega), z32_id (x := k % 3) ⟨by omega, by omega⟩, z32_id (x := f * 3 + k % 3) ⟨by omega, by omega⟩, show f * 3 + k % 3 = 3 * f + k % 3 by omega]
    exact ziF g (ziT (by omega) (ziT (by omega) (ziF (by omega) (zifI (by omega) h))))
noncomputable def zb33q (l0 : List zV) (w : zW) (K : zK) : Prop := cond (zpe (zar l0 0) 14) (zA l0 1 fun f => zA l0 2 fun k => ((-1 ≤ f ∧ f < w 14 1) ∧ (w 14 1 ≤ 20) ∧ 0 ≤ k ∧ k < 1000) ∧ (K (0, some (0, zTV f (w 18) k)) (w) 238)) (False)
noncomputable def zT198 : zSum := zsm1 33 [2, 0, 0] zb33q zT12
theorem zT198_ok : zSok zT198 := zsm1_ok zT12_ok fun l0 w K h => by
  unfold zb33q at h
  cases q0 : zpe (zar l0 0) 14 with
  | true =>
    rw [q0, cond_true] at h
    have e : zar l0 0 = 14 := zpe_e q0
    show zcall 33 [(2, zar l0 0), (0, zar l0 1), (0, zar l0 2)] w 238 K
    rw [e]
    exact zk33q_14 (zar l0 1) (zar l0 2) w K (zA_e (zA_e h))
  | false =>
  rw [q0, cond_false] at h
  exact h.elim
/-! $Net.follower -/
set_option maxRecDepth 100000 in
theorem zk43_14 (x y : Int) (w : zW) (K : zK) (h : (zCT w ∧ (0 ≤ x ∧ x < 12) ∧ 0 ≤ y ∧ y < 12) ∧ (K (0, some (0, zTC w x y)) (w) 238)) : zcall 43 [(2, 14), (0, x), (0, y), (9, 0), (9, 0), (9, 0)] w 238 K := by
  obtain ⟨hg, h⟩ := h
  refine (show (zif False ((0 ≤ x ∧ x < 12) ∧ (0 ≤ y ∧ y < 12)) (((-1 ≤ (w 19 (12 * x + y).toNat) ∧ (w 19 (12 * x + y).toNat) < w 14 1) ∧ (w 14 1 ≤ 20) ∧ 0 ≤ (0 : Int) ∧ (0 : Int) < 1000) ∧ (if zTV (w 19 (12 * x + y).toNat) (w 18) (0 : Int) = x then ((-1 ≤ (w 19 (12 * x + y).toNat) ∧ (w 19 (12 * x + y).toNat) < w 14 1) ∧ (w 14 1 ≤ 20) ∧ 0 ≤ (1 : Int) ∧ (1 : Int) < 1000) ∧ (if zTV (w 19 (12 * x + y).toNat) (w 18) (1 : Int) = x then ((-1 ≤ (w 19 (12 * x + y).toNat) ∧ (w 19 (12 * x + y).toNat) < w 14 1) ∧ (w 14 1 ≤ 20) ∧ 0 ≤ (2 : Int) ∧ (2 : Int) < 1000) ∧ (if zTV (w 19 (12 * x + y).toNat) (w 18) (2 : Int) = x then K (0, some (0, (-1))) w 238 else if zTV (w 19 (12 * x + y).toNat) (w 18) (2 : Int) = y then K (0, some (0, (-1))) w 238 else K (0, some (0, zTV (w 19 (12 * x + y).toNat) (w 18) (2 : Int))) w 238) else if zTV (w 19 (12 * x + y).toNat) (w 18) (1 : Int) = y then ((-1 ≤ (w 19 (12 * x + y).toNat) ∧ (w 19 (12 * x + y).toNat) < w 14 1) ∧ (w 14 1 ≤ 20) ∧ 0 ≤ (2 : Int) ∧ (2 : Int) < 1000) ∧ (if zTV (w 19 (12 * x + y).toNat) (w 18) (2 : Int) = x then K (0, some (0, (-1))) w 238 else if zTV (w 19 (12 * x + y).toNat) (w 18) (2 : Int) = y then K (0, some (0, (-1))) w 238 else K (0, some (0, zTV (w 19 (12 * x + y).toNat) (w 18) (2 : Int))) w 238) else K (0, some (0, zTV (w 19 (12 * x + y).toNat) (w 18) (1 : Int))) w 238) else if zTV (w 19 (12 * x + y).toNat) (w 18) (0 : Int) = y then ((-1 ≤ (w 19 (12 * x + y).toNat) ∧ (w 19 (12 * x + y).toNat) < w 14 1) ∧ (w 14 1 ≤ 20) ∧ 0 ≤ (1 : Int) ∧ (1 : Int) < 1000) ∧ (if zTV (w 19 (12 * x + y).toNat) (w 18) (1 : Int) = x then ((-1 ≤ (w 19 (12 * x + y).toNat) ∧ (w 19 (12 * x + y).toNat) < w 14 1) ∧ (w 14 1 ≤ 20) ∧ 0 ≤ (2 : Int) ∧ (2 : Int) < 1000) ∧ (if zTV (w 19 (12 * x + y).toNat) (w 18) (2 : Int) = x then K (0, some (0, (-1))) w 238 else if zTV (w 19 (12 * x + y).toNat) (w 18) (2 : Int) = y then K (0, some (0, (-1))) w 238 else K (0, some (0, zTV (w 19 (12 * x + y).toNat) (w 18) (2 : Int))) w 238) else if zTV (w 19 (12 * x + y).toNat) (w 18) (1 : Int) = y then ((-1 ≤ (w 19 (12 * x + y).toNat) ∧ (w 19 (12 * x + y).toNat) < w 14 1) ∧ (w 14 1 ≤ 20) ∧ 0 ≤ (2 : Int) ∧ (2 : Int) < 1000) ∧ (if zTV (w 19 (12 * x + y).toNat) (w 18) (2 : Int) = x then K (0, some (0, (-1))) w 238 else if zTV (w 19 (12 * x + y).toNat) (w 18) (2 : Int) = y then K (0, some (0, (-1))) w 238 else K (0, some (0, zTV (w 19 (12 * x + y).toNat) (w 18) (2 : Int))) w 238) else K (0, some (0, zTV (w 19 (12 * x + y).toNat) (w 18) (1 : Int))) w 238) else K (0, some (0, zTV (w 19 (12 * x + y).toNat) (w 18) (0 : Int))) w 238))) → _ from fun h => show zwp 43 0 [(2, 14), (0, x), (0, y), (9, 0), (9, 0), (9, 0)] [] w 238 0 K from zgo_imp zT198_ok (cut := fun pc => Nat.beq pc 6 || Nat.beq pc 20 || Nat.beq pc 23 || Nat.beq pc 40) 400 (show zif False ((0 ≤ x ∧ x < 12) ∧ (0 ≤ y ∧ y < 12)) (zwp 43 6 [(2, 14), (0, x), (0, y), (9, 0), (9, 0), (9, 0)] [(0, w 19 (12 * x + y).toNat)] w 238 0 K) from zmZ (fun h => (fun h => show zwp 43 6 [(2, 14), (0, x), (0, y), (9, 0), (9, 0), (9, 0)] [(0, w 19 (12 * x + y).toNat)] w 238 0 K from zgo_imp zT198_ok (cut := fun pc => Nat.beq pc 6 || Nat.beq pc 20 || Nat.beq pc 23 || Nat.beq pc 40) 400 (show zwp 43 20 [(2, 14), (0, x), (0, y), (0, w 19 (12 * x + y).toNat), (0, 0), (9, 0)] [(0, 0), (0, w 19 (12 * x + y).toNat), (2, 14)] w 238 0 K from (fun h => show zwp 43 20 [(2, 14), (0, x), (0, y), (0, w 19 (12 * x + y).toNat), (0, 0), (9, 0)] [(0, 0), (0, w 19 (12 * x + y).toNat), (2, 14)] w 238 0 K from zgo_imp zT198_ok (cut := fun pc => Nat.beq pc 6 || Nat.beq pc 20 || Nat.beq pc 23 || Nat.beq pc 40) 400 (show ((-1 ≤ (w 19 (12 * x + y).toNat) ∧ (w 19 (12 * x + y).toNat) < w 14 1) ∧ (w 14 1 ≤ 20) ∧ 0 ≤ (0 : Int) ∧ (0 : Int) < 1000) ∧ (zwp 43 23 [(2, 14), (0, x), (0, y), (0, w 19 (12 * x + y).toNat), (0, 0), (9, 0)] [(0, zTV (w 19 (12 * x + y).toNat) (w 18) (0 : Int))] w 238 0 K) from zmA (fun h => (fun h => show zwp 43 23 [(2, 14), (0, x), (0, y), (0, w 19 (12 * x + y).toNat), (0, 0), (9, 0)] [(0, zTV (w 19 (12 * x + y).toNat) (w 18) (0 : Int))] w 238 0 K from zgo_imp zT198_ok (cut := fun pc => Nat.beq pc 6 || Nat.beq pc 20 || Nat.beq pc 23 || Nat.beq pc 40) 400 (show if zTV (w 19 (12 * x + y).toNat) (w 18) (0 : Int) = x then zwp 43 40 [(2, 14), (0, x), (0, y), (0, w 19 (12 * x + y).toNat), (0, 0), (0, zTV (w 19 (12 * x + y).toNat) (w 18) (0 : Int))] [] w 238 0 K else if zTV (w 19 (12 * x + y).toNat) (w 18) (0 : Int) = y then zwp 43 40 [(2, 14), (0, x), (0, y), (0, w 19 (12 * x + y).toNat), (0, 0), (0, zTV (w 19 (12 * x + y).toNat) (w 18) (0 : Int))] [] w 238 0 K else K (0, some (0, zTV (w 19 (12 * x + y).toNat) (w 18) (0 : Int))) w 238 from zmI (fun h => (fun h => show zwp 43 40 [(2, 14), (0, x), (0, y), (0, w 19 (12 * x + y).toNat), (0, 0), (0, zTV (w 19 (12 * x + y).toNat) (w 18) (0 : Int))] [] w 238 0 K from zgo_imp zT198_ok (cut := fun pc => Nat.beq pc 6 || Nat.beq pc 20 || Nat.beq pc 23 || Nat.beq pc 40) 400 (show zwp 43 20 [(2, 14), (0, x), (0, y), (0, w 19 (12 * x + y).toNat), (0, 1), (9, 0)] [(0, 1), (0, w 19 (12 * x + y).toNat), (2, 14)] w 238 0 K from (fun h => show zwp 43 20 [(2, 14), (0, x), (0, y), (0, w 19 (12 * x + y).toNat), (0, 1), (9, 0)] [(0, 1), (0, w 19 (12 * x + y).toNat), (2, 14)] w 238 0 K from zgo_imp zT198_ok (cut := fun pc => Nat.beq pc 6 || Nat.beq pc 20 || Nat.beq pc 23 || Nat.beq pc 40) 400 (show ((-1 ≤ (w 19 (12 * x + y).toNat) ∧ (w 19 (12 * x + y).toNat) < w 14 1) ∧ (w 14 1 ≤ 20) ∧ 0 ≤ (1 : Int) ∧ (1 : Int) < 1000) ∧ (zwp 43 23 [(2, 14), (0, x), (0, y), (0, w 19 (12 * x + y).toNat), (0, 1), (9, 0)] [(0, zTV (w 19 (12 * x + y).toNat) (w 18) (1 : Int))] w 238 0 K) from zmA (fun h => (fun h => show zwp 43 23 [(2, 14), (0, x), (0, y), (0, w 19 (12 * x + y).toNat), (0, 1), (9, 0)] [(0, zTV (w 19 (12 * x + y).toNat) (w 18) (1 : Int))] w 238 0 K from zgo_imp zT198_ok (cut := fun pc => Nat.beq pc 6 || Nat.beq pc 20 || Nat.beq pc 23 || Nat.beq pc 40) 400 (show if zTV (w 19 (12 * x + y).toNat) (w 18) (1 : Int) = x then zwp 43 40 [(2, 14), (0, x), (0, y), (0, w 19 (12 * x + y).toNat), (0, 1), (0, zTV (w 19 (12 * x + y).toNat) (w 18) (1 : Int))] [] w 238 0 K else if zTV (w 19 (12 * x + y).toNat) (w 18) (1 : Int) = y then zwp 43 40 [(2, 14), (0, x), (0, y), (0, w 19 (12 * x + y).toNat), (0, 1), (0, zTV (w 19 (12 * x + y).toNat) (w 18) (1 : Int))] [] w 238 0 K else K (0, some (0, zTV (w 19 (12 * x + y).toNat) (w 18) (1 : Int))) w 238 from zmI (fun h => (fun h => show zwp 43 40 [(2, 14), (0, x), (0, y), (0, w 19 (12 * x + y).toNat), (0, 1), (0, zTV (w 19 (12 * x + y).toNat) (w 18) (1 : Int))] [] w 238 0 K from zgo_imp zT198_ok (cut := fun pc => Nat.beq pc 6 || Nat.beq pc 20 || Nat.beq pc 23 || Nat.beq pc 40) 400 (show zwp 43 20 [(2, 14), (0, x), (0, y), (0, w 19 (12 * x + y).toNat), (0, 2), (9, 0)] [(0, 2), (0, w 19 (12 * x + y).toNat), (2, 14)] w 238 0 K from (fun h => show zwp 43 20 [(2, 14), (0, x), (0, y), (0, w 19 (12 * x + y).toNat), (0, 2), (9, 0)] [(0, 2), (0, w 19 (12 * x + y).toNat), (2, 14)] w 238 0 K from zgo_imp zT198_ok (cut := fun pc => Nat.beq pc 6 || Nat.beq pc 20 || Nat.beq pc 23 || Nat.beq pc 40) 400 (show ((-1 ≤ (w 19 (12 * x + y).toNat) ∧ (w 19 (12 * x + y).toNat) < w 14 1) ∧ (w 14 1 ≤ 20) ∧ 0 ≤ (2 : Int) ∧ (2 : Int) < 1000) ∧ (zwp 43 23 [(2, 14), (0, x), (0, y), (0, w 19 (12 * x + y).toNat), (0, 2), (9, 0)] [(0, zTV (w 19 (12 * x + y).toNat) (w 18) (2 : Int))] w 238 0 K) from zmA (fun h => (fun h => show zwp 43 23 [(2, 14), (0, x), (0, y), (0, w 19 (12 * x + y).toNat), (0, 2), (9, 0)] [(0, zTV (w 19 (12 * x + y).toNat) (w 18) (2 : Int))] w 238 0 K from zgo_imp zT198_ok (cut := fun pc => Nat.beq pc 6 || Nat.beq pc 20 || Nat.beq pc 23 || Nat.beq pc 40) 400 (show if zTV (w 19 (12 * x + y).toNat) (w 18) (2 : Int) = x then zwp 43 40 [(2, 14), (0, x), (0, y), (0, w 19 (12 * x + y).toNat), (0, 2), (0, zTV (w 19 (12 * x + y).toNat) (w 18) (2 : Int))] [] w 238 0 K else if zTV (w 19 (12 * x + y).toNat) (w 18) (2 : Int) = y then zwp 43 40 [(2, 14), (0, x), (0, y), (0, w 19 (12 * x + y).toNat), (0, 2), (0, zTV (w 19 (12 * x + y).toNat) (w 18) (2 : Int))] [] w 238 0 K else K (0, some (0, zTV (w 19 (12 * x + y).toNat) (w 18) (2 : Int))) w 238 from zmI (fun h => (fun h => show zwp 43 40 [(2, 14), (0, x), (0, y), (0, w 19 (12 * x + y).toNat), (0, 2), (0, zTV (w 19 (12 * x + y).toNat) (w 18) (2 : Int))] [] w 238 0 K from zgo_imp zT198_ok (cut := fun pc => Nat.beq pc 6 || Nat.beq pc 20 || Nat.beq pc 23 || Nat.beq pc 40) 400 (show K (0, some (0, (-1))) w 238 from h)) h) (fun h => zmI (fun h => (fun h => show zwp 43 40 [(2, 14), (0, x), (0, y), (0, w 19 (12 * x + y).toNat), (0, 2), (0, zTV (w 19 (12 * x + y).toNat) (w 18) (2 : Int))] [] w 238 0 K from zgo_imp zT198_ok (cut := fun pc => Nat.beq pc 6 || Nat.beq pc 20 || Nat.beq pc 23 || Nat.beq pc 40) 400 (show K (0, some (0, (-1))) w 238 from h)) h) (fun h => h) h) h)) h) h)) h)) h) (fun h => zmI (fun h => (fun h => show zwp 43 40 [(2, 14), (0, x), (0, y), (0, w 19 (12 * x + y).toNat), (0, 1), (0, zTV (w 19 (12 * x + y).toNat) (w 18) (1 : Int))] [] w 238 0 K from zgo_imp zT198_ok (cut := fun pc => Nat.beq pc 6 || Nat.beq pc 20 || Nat.beq pc 23 || Nat.beq pc 40) 400 (show zwp 43 20 [(2, 14), (0, x), (0, y), (0, w 19 (12 * x + y).toNat), (0, 2), (9, 0)] [(0, 2), (0, w 19 (12 * x + y).toNat), (2, 14)] w 238 0 K from (fun h => show zwp 43 20 [(2, 14), (0, x), (0, y), (0, w 19 (12 * x + y).toNat), (0, 2), (9, 0)] [(0, 2), (0, w 19 (12 * x + y).toNat), (2, 14)] w 238 0 K from zgo_imp zT198_ok (cut := fun pc => Nat.beq pc 6 || Nat.beq pc 20 || Nat.beq pc 23 || Nat.beq pc 40) 400 (show ((-1 ≤ (w 19 (12 * x + y).toNat) ∧ (w 19 (12 * x + y).toNat) < w 14 1) ∧ (w 14 1 ≤ 20) ∧ 0 ≤ (2 : Int) ∧ (2 : Int) < 1000) ∧ (zwp 43 23 [(2, 14), (0, x), (0, y), (0, w 19 (12 * x + y).toNat), (0, 2), (9, 0)] [(0, zTV (w 19 (12 * x + y).toNat) (w 18) (2 : Int))] w 238 0 K) from zmA (fun h => (fun h => show zwp 43 23 [(2, 14), (0, x), (0, y), (0, w 19 (12 * x + y).toNat), (0, 2), (9, 0)] [(0, zTV (w 19 (12 * x + y).toNat) (w 18) (2 : Int))] w 238 0 K from zgo_imp zT198_ok (cut := fun pc => Nat.beq pc 6 || Nat.beq pc 20 || Nat.beq pc 23 || Nat.beq pc 40) 400 (show if zTV (w 19 (12 * x + y).toNat) (w 18) (2 : Int) = x then zwp 43 40 [(2, 14), (0, x), (0, y), (0, w 19 (12 * x + y).toNat), (0, 2), (0, zTV (w 19 (12 * x + y).toNat) (w 18) (2 : Int))] [] w 238 0 K else if zTV (w 19 (12 * x + y).toNat) (w 18) (2 : Int) = y then zwp 43 40 [(2, 14), (0, x), (0, y), (0, w 19 (12 * x + y).toNat), (0, 2), (0, zTV (w 19 (12 * x + y).toNat) (w 18) (2 : Int))] [] w 238 0 K else K (0, some (0, zTV (w 19 (12 * x + y).toNat) (w 18) (2 : Int))) w 238 from zmI (fun h => (fun h => show zwp 43 40 [(2, 14), (0, x), (0, y), (0, w 19 (12 * x + y).toNat), (0, 2), (0, zTV (w 19 (12 * x + y).toNat) (w 18) (2 : Int))] [] w 238 0 K from zgo_imp zT198_ok (cut := fun pc => Nat.beq pc 6 || Nat.beq pc 20 || Nat.beq pc 23 || Nat.beq pc 40) 400 (show K (0, some (0, (-1))) w 238 from h)) h) (fun h => zmI (fun h => (fun h => show zwp 43 40 [(2, 14), (0, x), (0, y), (0, w 19 (12 * x + y).toNat), (0, 2), (0, zTV (w 19 (12 * x + y).toNat) (w 18) (2 : Int))] [] w 238 0 K from zgo_imp zT198_ok (cut := fun pc => Nat.beq pc 6 || Nat.beq pc 20 || Nat.beq pc 23 || Nat.beq pc 40) 400 (show K (0, some (0, (-1))) w 238 from h)) h) (fun h => h) h) h)) h) h)) h)) h) (fun h => h) h) h)) h) h)) h)) h) (fun h => zmI (fun h => (fun h => show zwp 43 40 [(2, 14), (0, x), (0, y), (0, w 19 (12 * x + y).toNat), (0, 0), (0, zTV (w 19 (12 * x + y).toNat) (w 18) (0 : Int))] [] w 238 0 K from zgo_imp zT198_ok (cut := fun pc => Nat.beq pc 6 || Nat.beq pc 20 || Nat.beq pc 23 || Nat.beq pc 40) 400 (show zwp 43 20 [(2, 14), (0, x), (0, y), (0, w 19 (12 * x + y).toNat), (0, 1), (9, 0)] [(0, 1), (0, w 19 (12 * x + y).toNat), (2, 14)] w 238 0 K from (fun h => show zwp 43 20 [(2, 14), (0, x), (0, y), (0, w 19 (12 * x + y).toNat), (0, 1), (9, 0)] [(0, 1), (0, w 19 (12 * x + y).toNat), (2, 14)] w 238 0 K from zgo_imp zT198_ok (cut := fun pc => Nat.beq pc 6 || Nat.beq pc 20 || Nat.beq pc 23 || Nat.beq pc 40) 400 (show ((-1 ≤ (w 19 (12 * x + y).toNat) ∧ (w 19 (12 * x + y).toNat) < w 14 1) ∧ (w 14 1 ≤ 20) ∧ 0 ≤ (1 : Int) ∧ (1 : Int) < 1000) ∧ (zwp 43 23 [(2, 14), (0, x), (0, y), (0, w 19 (12 * x + y).toNat), (0, 1), (9, 0)] [(0, zTV (w 19 (12 * x + y).toNat) (w 18) (1 : Int))] w 238 0 K) from zmA (fun h => (fun h => show zwp 43 23 [(2, 14), (0, x), (0, y), (0, w 19 (12 * x + y).toNat), (0, 1), (9, 0)] [(0, zTV (w 19 (12 * x + y).toNat) (w 18) (1 : Int))] w 238 0 K from zgo_imp zT198_ok (cut := fun pc => Nat.beq pc 6 || Nat.beq pc 20 || Nat.beq pc 23 || Nat.beq pc 40) 400 (show if zTV (w 19 (12 * x + y).toNat) (w 18) (1 : Int) = x then zwp 43 40 [(2, 14), (0, x), (0, y), (0, w 19 (12 * x + y).toNat), (0, 1), (0, zTV (w 19 (12 * x + y).toNat) (w 18) (1 : Int))] [] w 238 0 K else if zTV (w 19 (12 * x + y).toNat) (w 18) (1 : Int) = y then zwp 43 40 [(2, 14), (0, x), (0, y), (0, w 19 (12 * x + y).toNat), (0, 1), (0, zTV (w 19 (12 * x + y).toNat) (w 18) (1 : Int))] [] w 238 0 K else K (0, some (0, zTV (w 19 (12 * x + y).toNat) (w 18) (1 : Int))) w 238 from zmI (fun h => (fun h => show zwp 43 40 [(2, 14), (0, x), (0, y), (0, w 19 (12 * x + y).toNat), (0, 1), (0, zTV (w 19 (12 * x + y).toNat) (w 18) (1 : Int))] [] w 238 0 K from zgo_imp zT198_ok (cut := fun pc => Nat.beq pc 6 || Nat.beq pc 20 || Nat.beq pc 23 || Nat.beq pc 40) 400 (show zwp 43 20 [(2, 14), (0, x), (0, y), (0, w 19 (12 * x + y).toNat), (0, 2), (9, 0)] [(0, 2), (0, w 19 (12 * x + y).toNat), (2, 14)] w 238 0 K from (fun h => show zwp 43 20 [(2, 14), (0, x), (0, y), (0, w 19 (12 * x + y).toNat), (0, 2), (9, 0)] [(0, 2), (0, w 19 (12 * x + y).toNat), (2, 14)] w 238 0 K from zgo_imp zT198_ok (cut := fun pc => Nat.beq pc 6 || Nat.beq pc 20 || Nat.beq pc 23 || Nat.beq pc 40) 400 (show ((-1 ≤ (w 19 (12 * x + y).toNat) ∧ (w 19 (12 * x + y).toNat) < w 14 1) ∧ (w 14 1 ≤ 20) ∧ 0 ≤ (2 : Int) ∧ (2 : Int) < 1000) ∧ (zwp 43 23 [(2, 14), (0, x), (0, y), (0, w 19 (12 * x + y).toNat), (0, 2), (9, 0)] [(0, zTV (w 19 (12 * x + y).toNat) (w 18) (2 : Int))] w 238 0 K) from zmA (fun h => (fun h => show zwp 43 23 [(2, 14), (0, x), (0, y), (0, w 19 (12 * x + y).toNat), (0, 2), (9, 0)] [(0, zTV (w 19 (12 * x + y).toNat) (w 18) (2 : Int))] w 238 0 K from zgo_imp zT198_ok (cut := fun pc => Nat.beq pc 6 || Nat.beq pc 20 || Nat.beq pc 23 || Nat.beq pc 40) 400 (show if zTV (w 19 (12 * x + y).toNat) (w 18) (2 : Int) = x then zwp 43 40 [(2, 14), (0, x), (0, y), (0, w 19 (12 * x + y).toNat), (0, 2), (0, zTV (w 19 (12 * x + y).toNat) (w 18) (2 : Int))] [] w 238 0 K else if zTV (w 19 (12 * x + y).toNat) (w 18) (2 : Int) = y then zwp 43 40 [(2, 14), (0, x), (0, y), (0, w 19 (12 * x + y).toNat), (0, 2), (0, zTV (w 19 (12 * x + y).toNat) (w 18) (2 : Int))] [] w 238 0 K else K (0, some (0, zTV (w 19 (12 * x + y).toNat) (w 18) (2 : Int))) w 238 from zmI (fun h => (fun h => show zwp 43 40 [(2, 14), (0, x), (0, y), (0, w 19 (12 * x + y).toNat), (0, 2), (0, zTV (w 19 (12 * x + y).toNat) (w 18) (2 : Int))] [] w 238 0 K from zgo_imp zT198_ok (cut := fun pc => Nat.beq pc 6 || Nat.beq pc 20 || Nat.beq pc 23 || Nat.beq pc 40) 400 (show K (0, some (0, (-1))) w 238 from h)) h) (fun h => zmI (fun h => (fun h => show zwp 43 40 [(2, 14), (0, x), (0, y), (0, w 19 (12 * x + y).toNat), (0, 2), (0, zTV (w 19 (12 * x + y).toNat) (w 18) (2 : Int))] [] w 238 0 K from zgo_imp zT198_ok (cut := fun pc => Nat.beq pc 6 || Nat.beq pc 20 || Nat.beq pc 23 || Nat.beq pc 40) 400 (show K (0, some (0, (-1))) w 238 from h)) h) (fun h => h) h) h)) h) h)) h)) h) (fun h => zmI (fun h => (fun h => show zwp 43 40 [(2, 14), (0, x), (0, y), (0, w 19 (12 * x + y).toNat), (0, 1), (0, zTV (w 19 (12 * x + y).toNat) (w 18) (1 : Int))] [] w 238 0 K from zgo_imp zT198_ok (cut := fun pc => Nat.beq pc 6 || Nat.beq pc 20 || Nat.beq pc 23 || Nat.beq pc 40) 400 (show zwp 43 20 [(2, 14), (0, x), (0, y), (0, w 19 (12 * x + y).toNat), (0, 2), (9, 0)] [(0, 2), (0, w 19 (12 * x + y).toNat), (2, 14)] w 238 0 K from (fun h => show zwp 43 20 [(2, 14), (0, x), (0, y), (0, w 19 (12 * x + y).toNat), (0, 2), (9, 0)] [(0, 2), (0, w 19 (12 * x + y).toNat), (2, 14)] w 238 0 K from zgo_imp zT198_ok (cut := fun pc => Nat.beq pc 6 || Nat.beq pc 20 || Nat.beq pc 23 || Nat.beq pc 40) 400 (show ((-1 ≤ (w 19 (12 * x + y).toNat) ∧ (w 19 (12 * x + y).toNat) < w 14 1) ∧ (w 14 1 ≤ 20) ∧ 0 ≤ (2 : Int) ∧ (2 : Int) < 1000) ∧ (zwp 43 23 [(2, 14), (0, x), (0, y), (0, w 19 (12 * x + y).toNat), (0, 2), (9, 0)] [(0, zTV (w 19 (12 * x + y).toNat) (w 18) (2 : Int))] w 238 0 K) from zmA (fun h => (fun h => show zwp 43 23 [(2, 14), (0, x), (0, y), (0, w 19 (12 * x + y).toNat), (0, 2), (9, 0)] [(0, zTV (w 19 (12 * x + y).toNat) (w 18) (2 : Int))] w 238 0 K from zgo_imp zT198_ok (cut := fun pc => Nat.beq pc 6 || Nat.beq pc 20 || Nat.beq pc 23 || Nat.beq pc 40) 400 (show if zTV (w 19 (12 * x + y).toNat) (w 18) (2 : Int) = x then zwp 43 40 [(2, 14), (0, x), (0, y), (0, w 19 (12 * x + y).toNat), (0, 2), (0, zTV (w 19 (12 * x + y).toNat) (w 18) (2 : Int))] [] w 238 0 K else if zTV (w 19 (12 * x + y).toNat) (w 18) (2 : Int) = y then zwp 43 40 [(2, 14), (0, x), (0, y), (0, w 19 (12 * x + y).toNat), (0, 2), (0, zTV (w 19 (12 * x + y).toNat) (w 18) (2 : Int))] [] w 238 0 K else K (0, some (0, zTV (w 19 (12 * x + y).toNat) (w 18) (2 : Int))) w 238 from zmI (fun h => (fun h => show zwp 43 40 [(2, 14), (0, x), (0, y), (0, w 19 (12 * x + y).toNat), (0, 2), (0, zTV (w 19 (12 * x + y).toNat) (w 18) (2 : Int))] [] w 238 0 K from zgo_imp zT198_ok (cut := fun pc => Nat.beq pc 6 || Nat.beq pc 20 || Nat.beq pc 23 || Nat.beq pc 40) 400 (show K (0, some (0, (-1))) w 238 from h)) h) (fun h => zmI (fun h => (fun h => show zwp 43 40 [(2, 14), (0, x), (0, y), (0, w 19 (12 * x + y).toNat), (0, 2), (0, zTV (w 19 (12 * x + y).toNat) (w 18) (2 : Int))] [] w 238 0 K from zgo_imp zT198_ok (cut := fun pc => Nat.beq pc 6 || Nat.beq pc 20 || Nat.beq pc 23 || Nat.beq pc 40) 400 (show K (0, some (0, (-1))) w 238 from h)) h) (fun h => h) h) h)) h) h)) h)) h) (fun h => h) h) h)) h) h)) h)) h) (fun h => h) h) h)) h) h)) h)) h) h)) ?_
  obtain ⟨hC, hx, hy⟩ := hg
  have r := hC.2.2.1 x y hx.1 hx.2 hy.1 hy.2
  have hf := hC.2.1
  unfold zTC zTC1 at h
  generalize w 19 (12 * x + y).toNat = f at r h ⊢
  refine zifI ⟨hx, hy⟩ ?_
  refine ⟨by omega, ?_⟩
  by_cases a0 : zTV f (w 18) 0 = x
  · rw [if_pos (show zTV f (w 18) 0 = x ∨ zTV f (w 18) 0 = y from Or.inl a0)] at h
    refine ziT a0 ?_
    refine ⟨by omega, ?_⟩
    by_cases a1 : zTV f (w 18) 1 = x
    · rw [if_pos (show zTV f (w 18) 1 = x ∨ zTV f (w 18) 1 = y from Or.inl a1)] at h
      refine ziT a1 ?_
      refine ⟨by omega, ?_⟩
      by_cases a2 : zTV f (w 18) 2 = x
      · rw [if_pos (show zTV f (w 18) 2 = x ∨ zTV f (w 18) 2 = y from Or.inl a2)] at h
        refine ziT a2 ?_
        exact h
      · refine ziF a2 ?_
        by_cases b2 : zTV f (w 18) 2 = y
        · rw [if_pos (show zTV f (w 18) 2 = x ∨ zTV f (w 18) 2 = y from Or.inr b2)] at h
          refine ziT b2 ?_
          exact h
        · rw [if_neg (show ¬ (zTV f (w 18) 2 = x ∨ zTV f (w 18) 2 = y) from fun q => q.elim a2 b2)] at h
          exact ziF b2 h
    · refine ziF a1 ?_
      by_cases b1 : zTV f (w 18) 1 = y
      · rw [if_pos (show zTV f (w 18) 1 = x ∨ zTV f (w 18) 1 = y from Or.inr b1)] at h
        refine ziT b1 ?_
        refine ⟨by omega, ?_⟩
        by_cases a2 : zTV f (w 18) 2 = x
        · rw [if_pos (show zTV f (w 18) 2 = x ∨ zTV f (w 18) 2 = y from Or.inl a2)] at h
          refine ziT a2 ?_
          exact h
        · refine ziF a2 ?_
          by_cases b2 : zTV f (w 18) 2 = y
          · rw [if_pos (show zTV f (w 18) 2 = x ∨ zTV f (w 18) 2 = y from Or.inr b2)] at h
            refine ziT b2 ?_
            exact h
          · rw [if_neg (show ¬ (zTV f (w 18) 2 = x ∨ zTV f (w 18) 2 = y) from fun q => q.elim a2 b2)] at h
            exact ziF b2 h
      · rw [if_neg (show ¬ (zTV f (w 18) 1 = x ∨ zTV f (w 18) 1 = y) from fun q => q.elim a1 b1)] at h
        exact ziF b1 h
  · refine ziF a0 ?_
    by_cases b0 : zTV f (w 18) 0 = y
    · rw [if_pos (show zTV f (w 18) 0 = x ∨ zTV f (w 18) 0 = y from Or.inr b0)] at h
      refine ziT b0 ?_
      refine ⟨by omega, ?_⟩
      by_cases a1 : zTV f (w 18) 1 = x
      · rw [if_pos (show zTV f (w 18) 1 = x ∨ zTV f (w 18) 1 = y from Or.inl a1)] at h
        refine ziT a1 ?_
        refine ⟨by omega, ?_⟩
        by_cases a2 : zTV f (w 18) 2 = x
        · rw [if_pos (show zTV f (w 18) 2 = x ∨ zTV f (w 18) 2 = y from Or.inl a2)] at h
          refine ziT a2 ?_
          exact h
        · refine ziF a2 ?_
          by_cases b2 : zTV f (w 18) 2 = y
          · rw [if_pos (show zTV f (w 18) 2 = x ∨ zTV f (w 18) 2 = y from Or.inr b2)] at h
            refine ziT b2 ?_
            exact h
          · rw [if_neg (show ¬ (zTV f (w 18) 2 = x ∨ zTV f (w 18) 2 = y) from fun q => q.elim a2 b2)] at h
            exact ziF b2 h
      · refine ziF a1 ?_
        by_cases b1 : zTV f (w 18) 1 = y
        · rw [if_pos (show zTV f (w 18) 1 = x ∨ zTV f (w 18) 1 = y from Or.inr b1)] at h
          refine ziT b1 ?_
          refine ⟨by omega, ?_⟩
          by_cases a2 : zTV f (w 18) 2 = x
          · rw [if_pos (show zTV f (w 18) 2 = x ∨ zTV f (w 18) 2 = y from Or.inl a2)] at h
            refine ziT a2 ?_
            exact h
          · refine ziF a2 ?_
            by_cases b2 : zTV f (w 18) 2 = y
            · rw [if_pos (show zTV f (w 18) 2 = x ∨ zTV f (w 18) 2 = y from Or.inr b2)] at h
              refine ziT b2 ?_
              exact h
            · rw [if_neg (show ¬ (zTV f (w 18) 2 = x ∨ zTV f (w 18) 2 = y) from fun q => q.elim a2 b2)] at h
              exact ziF b2 h
        · rw [if_neg (show ¬ (zTV f (w 18) 1 = x ∨ zTV f (w 18) 1 = y) from fun q => q.elim a1 b1)] at h
          exact ziF b1 h
    · rw [if_neg (show ¬ (zTV f (w 18) 0 = x ∨ zTV f (w 18) 0 = y) from fun q => q.elim a0 b0)] at h
      exact ziF b0 h
noncomputable def zb43 (l0 : List zV) (w : zW) (K : zK) : Prop := cond (zpe (zar l0 0) 14) (zA l0 1 fun x => zA l0 2 fun y => (zCT w ∧ (0 ≤ x ∧ x < 12) ∧ 0 ≤ y ∧ y < 12) ∧ (K (0, some (0, zTC w x y)) (w) 238)) (False)
noncomputable def zT199 : zSum := zsm1 43 [2, 0, 0, 9, 9, 9] zb43 zT197
theorem zT199_ok : zSok zT199 := zsm1_ok zT197_ok fun l0 w K h => by
  unfold zb43 at h
  cases q0 : zpe (zar l0 0) 14 with
  | true =>
    rw [q0, cond_true] at h
    have e : zar l0 0 = 14 := zpe_e q0
    show zcall 43 [(2, zar l0 0), (0, zar l0 1), (0, zar l0 2), (9, 0), (9, 0), (9, 0)] w 238 K
    rw [e]
    exact zk43_14 (zar l0 1) (zar l0 2) w K (zA_e (zA_e h))
  | false =>
  rw [q0, cond_false] at h
  exact h.elim
set_option maxRecDepth 100000 in
theorem zk44_L4 {w : zW} {K : zK} (c : Int) (hC : zCT w) (hc : 0 ≤ c ∧ c < 12)  : ∀ (m : Nat) (s a : Int), (0 ≤ a) → (a + m = w 14 0) → (0 ≤ s ∧ s ≤ a) → (K (0, some (0, s + zSm (fun a => if zap (zTC w) c a then 0 else 1) m a)) w 238) → zwp 44 4 [(2, 14), (0, c), (0, s), (0, a)] [] w 238 0 K := by
  
  intro m
  induction m with
  | zero =>
    intro s a  h1 h2 h3 h
    refine (show (if a < w 14 0 then zif False ((0 ≤ c ∧ c < 12) ∧ (0 ≤ a ∧ a < 12)) (if zNbr w 19 c a = 0 then zwp 44 4 [(2, 14), (0, c), (0, s), (0, z32 (a + 1))] [] w 238 0 K else zwp 44 4 [(2, 14), (0, c), (0, z32 (s + 1)), (0, z32 (a + 1))] [] w 238 0 K) else K (0, some (0, s)) w 238) → _ from fun h => show zwp 44 4 [(2, 14), (0, c), (0, s), (0, a)] [] w 238 0 K from zgo_imp zT199_ok (cut := fun pc => Nat.beq pc 4 || Nat.beq pc 13 || Nat.beq pc 18) 400 (show if a < w 14 0 then zwp 44 13 [(2, 14), (0, c), (0, s), (0, a)] [(2, 14)] w 238 0 K else K (0, some (0, s)) w 238 from zmI (fun h => (fun h => show zwp 44 13 [(2, 14), (0, c), (0, s), (0, a)] [(2, 14)] w 238 0 K from zgo_imp zT199_ok (cut := fun pc => Nat.beq pc 4 || Nat.beq pc 13 || Nat.beq pc 18) 400 (show zif False ((0 ≤ c ∧ c < 12) ∧ (0 ≤ a ∧ a < 12)) (zwp 44 18 [(2, 14), (0, c), (0, s), (0, a)] [(0, zNbr w 19 c a)] w 238 0 K) from zmZ (fun h => (fun h => show zwp 44 18 [(2, 14), (0, c), (0, s), (0, a)] [(0, zNbr w 19 c a)] w 238 0 K from zgo_imp zT199_ok (cut := fun pc => Nat.beq pc 4 || Nat.beq pc 13 || Nat.beq pc 18) 400 (show if zNbr w 19 c a = 0 then zwp 44 4 [(2, 14), (0, c), (0, s), (0, z32 (a + 1))] [] w 238 0 K else zwp 44 4 [(2, 14), (0, c), (0, z32 (s + 1)), (0, z32 (a + 1))] [] w 238 0 K from h)) h) h)) h) (fun h => h) h)) ?_
    have hn := hC.1
    exact ziF (by omega) (zKe h (by show s + 0 = s; omega))
  | succ m ih =>
    intro s a  h1 h2 h3 h
    refine (show (if a < w 14 0 then zif False ((0 ≤ c ∧ c < 12) ∧ (0 ≤ a ∧ a < 12)) (if zNbr w 19 c a = 0 then zwp 44 4 [(2, 14), (0, c), (0, s), (0, z32 (a + 1))] [] w 238 0 K else zwp 44 4 [(2, 14), (0, c), (0, z32 (s + 1)), (0, z32 (a + 1))] [] w 238 0 K) else K (0, some (0, s)) w 238) → _ from fun h => show zwp 44 4 [(2, 14), (0, c), (0, s), (0, a)] [] w 238 0 K from zgo_imp zT199_ok (cut := fun pc => Nat.beq pc 4 || Nat.beq pc 13 || Nat.beq pc 18) 400 (show if a < w 14 0 then zwp 44 13 [(2, 14), (0, c), (0, s), (0, a)] [(2, 14)] w 238 0 K else K (0, some (0, s)) w 238 from zmI (fun h => (fun h => show zwp 44 13 [(2, 14), (0, c), (0, s), (0, a)] [(2, 14)] w 238 0 K from zgo_imp zT199_ok (cut := fun pc => Nat.beq pc 4 || Nat.beq pc 13 || Nat.beq pc 18) 400 (show zif False ((0 ≤ c ∧ c < 12) ∧ (0 ≤ a ∧ a < 12)) (zwp 44 18 [(2, 14), (0, c), (0, s), (0, a)] [(0, zNbr w 19 c a)] w 238 0 K) from zmZ (fun h => (fun h => show zwp 44 18 [(2, 14), (0, c), (0, s), (0, a)] [(0, zNbr w 19 c a)] w 238 0 K from zgo_imp zT199_ok (cut := fun pc => Nat.beq pc 4 || Nat.beq pc 13 || Nat.beq pc 18) 400 (show if zNbr w 19 c a = 0 then zwp 44 4 [(2, 14), (0, c), (0, s), (0, z32 (a + 1))] [] w 238 0 K else zwp 44 4 [(2, 14), (0, c), (0, z32 (s + 1)), (0, z32 (a + 1))] [] w 238 0 K from h)) h) h)) h) (fun h => h) h)) ?_
    have hn := hC.1
    have e : zSm (fun a => if zap (zTC w) c a then 0 else 1) (m + 1) a = (if zap (zTC w) c a then 0 else 1) + zSm (fun a => if zap (zTC w) c a then 0 else 1) m (a + 1) := rfl
    have eN := zNbr_T hC hc (y := a) ⟨h1, by omega⟩
    rw [z32_id (x := a + 1) ⟨by omega, by omega⟩, z32_id (x := s + 1) ⟨by omega, by omega⟩, eN]
    refine ziT (by omega) (zifI (by omega) ?_)
    rw [e] at h
    by_cases g : zap (zTC w) c a
    · rw [if_pos g, Int.zero_add] at h
      exact ziT (if_pos g) (ih _ _ (by omega) (by omega) (by omega) h)
    · rw [if_neg g, ← Int.add_assoc] at h
      exact ziF (by rw [if_neg g]; decide) (ih _ _ (by omega) (by omega) (by omega) h)
/-! $Net.countNeighbors -/
set_option maxRecDepth 100000 in
theorem zk44_14 (c : Int) (w : zW) (K : zK) (h : (zCT w ∧ 0 ≤ c ∧ c < 12) ∧ (K (0, some (0, zNb (zTC w) (w 14 0) c)) (w) 238)) : zcall 44 [(2, 14), (0, c), (9, 0), (9, 0)] w 238 K := by
  obtain ⟨hg, h⟩ := h
  refine (show (zwp 44 4 [(2, 14), (0, c), (0, 0), (0, 0)] [] w 238 0 K) → _ from fun h => show zwp 44 0 [(2, 14), (0, c), (9, 0), (9, 0)] [] w 238 0 K from zgo_imp zT199_ok (cut := fun pc => Nat.beq pc 4 || Nat.beq pc 13 || Nat.beq pc 18) 400 (show zwp 44 4 [(2, 14), (0, c), (0, 0), (0, 0)] [] w 238 0 K from h)) ?_
  have hn := hg.1.1
  refine zk44_L4 c hg.1 hg.2 (w 14 0).toNat 0 0 (by omega) (by omega) (by omega) ?_
  rw [Int.zero_add]
  exact h
noncomputable def zb44 (l0 : List zV) (w : zW) (K : zK) : Prop := cond (zpe (zar l0 0) 14) (zA l0 1 fun c => (zCT w ∧ 0 ≤ c ∧ c < 12) ∧ (K (0, some (0, zNb (zTC w) (w 14 0) c)) (w) 238)) (False)
noncomputable def zT200 : zSum := zsm1 44 [2, 0, 9, 9] zb44 zT199
theorem zT200_ok : zSok zT200 := zsm1_ok zT199_ok fun l0 w K h => by
  unfold zb44 at h
  cases q0 : zpe (zar l0 0) 14 with
  | true =>
    rw [q0, cond_true] at h
    have e : zar l0 0 = 14 := zpe_e q0
    show zcall 44 [(2, zar l0 0), (0, zar l0 1), (9, 0), (9, 0)] w 238 K
    rw [e]
    exact zk44_14 (zar l0 1) w K (zA_e h)
  | false =>
  rw [q0, cond_false] at h
  exact h.elim
set_option maxRecDepth 100000 in
theorem zk42_L32 {w : zW} {K : zK} (c l : Int) (hC : zCT w) (hc : 0 ≤ c ∧ c < 12)  : ∀ (m : Nat) (a : Int), (0 ≤ a) → (a + m = w 14 0) → (K (0, some (0, if zFi (fun a => ¬ zap (zTC w) c a ∧ zAh (zTC w) (w 14 0) c a = -1) m a = -1 then l else zFi (fun a => ¬ zap (zTC w) c a ∧ zAh (zTC w) (w 14 0) c a = -1) m a)) w 238) → zwp 42 32 [(2, 14), (0, c), (0, l), (0, a)] [] w 238 0 K := by
  
  intro m
  induction m with
  | zero =>
    intro a  h1 h2 h
    refine (show (if a < w 14 0 then zif False ((0 ≤ c ∧ c < 12) ∧ (0 ≤ a ∧ a < 12)) (if zNbr w 19 c a = 0 then zwp 42 32 [(2, 14), (0, c), (0, l), (0, z32 (a + 1))] [] w 238 0 K else zif False ((0 ≤ a ∧ a < 12) ∧ (0 ≤ c ∧ c < 12)) (if w 19 (12 * a + c).toNat = (-1) then K (0, some (0, a)) w 238 else zwp 42 32 [(2, 14), (0, c), (0, l), (0, z32 (a + 1))] [] w 238 0 K)) else K (0, some (0, l)) w 238) → _ from fun h => show zwp 42 32 [(2, 14), (0, c), (0, l), (0, a)] [] w 238 0 K from zgo_imp zT200_ok (cut := fun pc => Nat.beq pc 9 || Nat.beq pc 13 || Nat.beq pc 19 || Nat.beq pc 32 || Nat.beq pc 34 || Nat.beq pc 46 || Nat.beq pc 55) 400 (show zwp 42 34 [(2, 14), (0, c), (0, l), (0, a)] [(2, 14), (0, a)] w 238 0 K from (fun h => show zwp 42 34 [(2, 14), (0, c), (0, l), (0, a)] [(2, 14), (0, a)] w 238 0 K from zgo_imp zT200_ok (cut := fun pc => Nat.beq pc 9 || Nat.beq pc 13 || Nat.beq pc 19 || Nat.beq pc 32 || Nat.beq pc 34 || Nat.beq pc 46 || Nat.beq pc 55) 400 (show if a < w 14 0 then zif False ((0 ≤ c ∧ c < 12) ∧ (0 ≤ a ∧ a < 12)) (zwp 42 46 [(2, 14), (0, c), (0, l), (0, a)] [(0, zNbr w 19 c a)] w 238 0 K) else K (0, some (0, l)) w 238 from zmI (fun h => zmZ (fun h => (fun h => show zwp 42 46 [(2, 14), (0, c), (0, l), (0, a)] [(0, zNbr w 19 c a)] w 238 0 K from zgo_imp zT200_ok (cut := fun pc => Nat.beq pc 9 || Nat.beq pc 13 || Nat.beq pc 19 || Nat.beq pc 32 || Nat.beq pc 34 || Nat.beq pc 46 || Nat.beq pc 55) 400 (show if zNbr w 19 c a = 0 then zwp 42 32 [(2, 14), (0, c), (0, l), (0, z32 (a + 1))] [] w 238 0 K else zif False ((0 ≤ a ∧ a < 12) ∧ (0 ≤ c ∧ c < 12)) (zwp 42 55 [(2, 14), (0, c), (0, l), (0, a)] [(0, w 19 (12 * a + c).toNat)] w 238 0 K) from zmI (fun h => h) (fun h => zmZ (fun h => (fun h => show zwp 42 55 [(2, 14), (0, c), (0, l), (0, a)] [(0, w 19 (12 * a + c).toNat)] w 238 0 K from zgo_imp zT200_ok (cut := fun pc => Nat.beq pc 9 || Nat.beq pc 13 || Nat.beq pc 19 || Nat.beq pc 32 || Nat.beq pc 34 || Nat.beq pc 46 || Nat.beq pc 55) 400 (show if w 19 (12 * a + c).toNat = (-1) then K (0, some (0, a)) w 238 else zwp 42 32 [(2, 14), (0, c), (0, l), (0, z32 (a + 1))] [] w 238 0 K from h)) h) h) h)) h) h) (fun h => h) h)) h)) ?_
    have hn := hC.1
    exact ziF (by omega) (zKe h (if_pos rfl))
  | succ m ih =>
    intro a  h1 h2 h
    refine (show (if a < w 14 0 then zif False ((0 ≤ c ∧ c < 12) ∧ (0 ≤ a ∧ a < 12)) (if zNbr w 19 c a = 0 then zwp 42 32 [(2, 14), (0, c), (0, l), (0, z32 (a + 1))] [] w 238 0 K else zif False ((0 ≤ a ∧ a < 12) ∧ (0 ≤ c ∧ c < 12)) (if w 19 (12 * a + c).toNat = (-1) then K (0, some (0, a)) w 238 else zwp 42 32 [(2, 14), (0, c), (0, l), (0, z32 (a + 1))] [] w 238 0 K)) else K (0, some (0, l)) w 238) → _ from fun h => show zwp 42 32 [(2, 14), (0, c), (0, l), (0, a)] [] w 238 0 K from zgo_imp zT200_ok (cut := fun pc => Nat.beq pc 9 || Nat.beq pc 13 || Nat.beq pc 19 || Nat.beq pc 32 || Nat.beq pc 34 || Nat.beq pc 46 || Nat.beq pc 55) 400 (show zwp 42 34 [(2, 14), (0, c), (0, l), (0, a)] [(2, 14), (0, a)] w 238 0 K from (fun h => show zwp 42 34 [(2, 14), (0, c), (0, l), (0, a)] [(2, 14), (0, a)] w 238 0 K from zgo_imp zT200_ok (cut := fun pc => Nat.beq pc 9 || Nat.beq pc 13 || Nat.beq pc 19 || Nat.beq pc 32 || Nat.beq pc 34 || Nat.beq pc 46 || Nat.beq pc 55) 400 (show if a < w 14 0 then zif False ((0 ≤ c ∧ c < 12) ∧ (0 ≤ a ∧ a < 12)) (zwp 42 46 [(2, 14), (0, c), (0, l), (0, a)] [(0, zNbr w 19 c a)] w 238 0 K) else K (0, some (0, l)) w 238 from zmI (fun h => zmZ (fun h => (fun h => show zwp 42 46 [(2, 14), (0, c), (0, l), (0, a)] [(0, zNbr w 19 c a)] w 238 0 K from zgo_imp zT200_ok (cut := fun pc => Nat.beq pc 9 || Nat.beq pc 13 || Nat.beq pc 19 || Nat.beq pc 32 || Nat.beq pc 34 || Nat.beq pc 46 || Nat.beq pc 55) 400 (show if zNbr w 19 c a = 0 then zwp 42 32 [(2, 14), (0, c), (0, l), (0, z32 (a + 1))] [] w 238 0 K else zif False ((0 ≤ a ∧ a < 12) ∧ (0 ≤ c ∧ c < 12)) (zwp 42 55 [(2, 14), (0, c), (0, l), (0, a)] [(0, w 19 (12 * a + c).toNat)] w 238 0 K) from zmI (fun h => h) (fun h => zmZ (fun h => (fun h => show zwp 42 55 [(2, 14), (0, c), (0, l), (0, a)] [(0, w 19 (12 * a + c).toNat)] w 238 0 K from zgo_imp zT200_ok (cut := fun pc => Nat.beq pc 9 || Nat.beq pc 13 || Nat.beq pc 19 || Nat.beq pc 32 || Nat.beq pc 34 || Nat.beq pc 46 || Nat.beq pc 55) 400 (show if w 19 (12 * a + c).toNat = (-1) then K (0, some (0, a)) w 238 else zwp 42 32 [(2, 14), (0, c), (0, l), (0, z32 (a + 1))] [] w 238 0 K from h)) h) h) h)) h) h) (fun h => h) h)) h)) ?_
    have hn := hC.1
    have e : zFi (fun a => ¬ zap (zTC w) c a ∧ zAh (zTC w) (w 14 0) c a = -1) (m + 1) a = if ¬ zap (zTC w) c a ∧ zAh (zTC w) (w 14 0) c a = -1 then a else zFi (fun a => ¬ zap (zTC w) c a ∧ zAh (zTC w) (w 14 0) c a = -1) m (a + 1) := rfl
    have eN := zNbr_T hC hc (y := a) ⟨h1, by omega⟩
    have ah := zAh_i hC.2.2.2 hc (x := a) ⟨h1, by omega⟩
    have si := (hC.2.2.1 a c h1 (by omega) hc.1 hc.2).2.2
    rw [z32_id (x := a + 1) ⟨by omega, by omega⟩, eN]
    refine ziT (by omega) (zifI (by omega) ?_)
    by_cases q : zap (zTC w) c a
    · rw [e.trans (if_neg fun q2 => q2.1 q)] at h
      exact ziT (if_pos q) (ih _ (by omega) (by omega) h)
    · refine ziF (by rw [if_neg q]; decide) (zifI (by omega) ?_)
      by_cases q2 : w 19 (12 * a + c).toNat = -1
      · rw [e.trans (if_pos ⟨q, ah.mpr (si.mp q2)⟩)] at h
        exact ziT q2 (zKe h (if_neg (by omega)))
      · rw [e.trans (if_neg fun q3 => q2 (si.mpr (ah.mp q3.2)))] at h
        exact ziF q2 (ih _ (by omega) (by omega) h)
set_option maxRecDepth 100000 in
theorem zk42_L9 {w : zW} {K : zK} (c : Int) (hC : zCT w) (hc : 0 ≤ c ∧ c < 12)  : ∀ (m : Nat) (l a : Int), (a + 1 = m) → (a < w 14 0) → (l = zFi (fun a => ¬ zap (zTC w) c a) (w 14 0 - 1 - a).toNat (a + 1)) → (K (0, some (0, zFs (zTC w) (w 14 0) c)) w 238) → zwp 42 9 [(2, 14), (0, c), (0, l), (0, a)] [] w 238 0 K := by
  
  intro m
  induction m with
  | zero =>
    intro l a  h1 h2 h3 h
    refine (show (if a < 0 then zwp 42 32 [(2, 14), (0, c), (0, l), (0, 0)] [] w 238 0 K else zif False ((0 ≤ c ∧ c < 12) ∧ (0 ≤ a ∧ a < 12)) (if zNbr w 19 c a = 0 then zwp 42 9 [(2, 14), (0, c), (0, l), (0, z32 (a + (-1)))] [] w 238 0 K else zwp 42 9 [(2, 14), (0, c), (0, a), (0, z32 (a + (-1)))] [] w 238 0 K)) → _ from fun h => show zwp 42 9 [(2, 14), (0, c), (0, l), (0, a)] [] w 238 0 K from zgo_imp zT200_ok (cut := fun pc => Nat.beq pc 9 || Nat.beq pc 13 || Nat.beq pc 19 || Nat.beq pc 32 || Nat.beq pc 34 || Nat.beq pc 46 || Nat.beq pc 55) 400 (show if a < 0 then zwp 42 32 [(2, 14), (0, c), (0, l), (0, 0)] [] w 238 0 K else zwp 42 13 [(2, 14), (0, c), (0, l), (0, a)] [] w 238 0 K from zmI (fun h => h) (fun h => (fun h => show zwp 42 13 [(2, 14), (0, c), (0, l), (0, a)] [] w 238 0 K from zgo_imp zT200_ok (cut := fun pc => Nat.beq pc 9 || Nat.beq pc 13 || Nat.beq pc 19 || Nat.beq pc 32 || Nat.beq pc 34 || Nat.beq pc 46 || Nat.beq pc 55) 400 (show zif False ((0 ≤ c ∧ c < 12) ∧ (0 ≤ a ∧ a < 12)) (zwp 42 19 [(2, 14), (0, c), (0, l), (0, a)] [(0, zNbr w 19 c a)] w 238 0 K) from zmZ (fun h => (fun h => show zwp 42 19 [(2, 14), (0, c), (0, l), (0, a)] [(0, zNbr w 19 c a)] w 238 0 K from zgo_imp zT200_ok (cut := fun pc => Nat.beq pc 9 || Nat.beq pc 13 || Nat.beq pc 19 || Nat.beq pc 32 || Nat.beq pc 34 || Nat.beq pc 46 || Nat.beq pc 55) 400 (show if zNbr w 19 c a = 0 then zwp 42 9 [(2, 14), (0, c), (0, l), (0, z32 (a + (-1)))] [] w 238 0 K else zwp 42 9 [(2, 14), (0, c), (0, a), (0, z32 (a + (-1)))] [] w 238 0 K from h)) h) h)) h) h)) ?_
    have hn := hC.1
    refine ziT (by omega) ?_
    refine zk42_L32 c l hC hc (w 14 0).toNat 0 (by omega) (by omega) (zKe h ?_)
    have ea : a = -1 := by omega
    subst ea
    have h3 : l = zLw (zTC w) (w 14 0) c := by rw [h3]; unfold zLw; rw [show w 14 0 - 1 - -1 = w 14 0 by omega]; rfl
    rw [h3]; rfl
  | succ m ih =>
    intro l a  h1 h2 h3 h
    refine (show (if a < 0 then zwp 42 32 [(2, 14), (0, c), (0, l), (0, 0)] [] w 238 0 K else zif False ((0 ≤ c ∧ c < 12) ∧ (0 ≤ a ∧ a < 12)) (if zNbr w 19 c a = 0 then zwp 42 9 [(2, 14), (0, c), (0, l), (0, z32 (a + (-1)))] [] w 238 0 K else zwp 42 9 [(2, 14), (0, c), (0, a), (0, z32 (a + (-1)))] [] w 238 0 K)) → _ from fun h => show zwp 42 9 [(2, 14), (0, c), (0, l), (0, a)] [] w 238 0 K from zgo_imp zT200_ok (cut := fun pc => Nat.beq pc 9 || Nat.beq pc 13 || Nat.beq pc 19 || Nat.beq pc 32 || Nat.beq pc 34 || Nat.beq pc 46 || Nat.beq pc 55) 400 (show if a < 0 then zwp 42 32 [(2, 14), (0, c), (0, l), (0, 0)] [] w 238 0 K else zwp 42 13 [(2, 14), (0, c), (0, l), (0, a)] [] w 238 0 K from zmI (fun h => h) (fun h => (fun h => show zwp 42 13 [(2, 14), (0, c), (0, l), (0, a)] [] w 238 0 K from zgo_imp zT200_ok (cut := fun pc => Nat.beq pc 9 || Nat.beq pc 13 || Nat.beq pc 19 || Nat.beq pc 32 || Nat.beq pc 34 || Nat.beq pc 46 || Nat.beq pc 55) 400 (show zif False ((0 ≤ c ∧ c < 12) ∧ (0 ≤ a ∧ a < 12)) (zwp 42 19 [(2, 14), (0, c), (0, l), (0, a)] [(0, zNbr w 19 c a)] w 238 0 K) from zmZ (fun h => (fun h => show zwp 42 19 [(2, 14), (0, c), (0, l), (0, a)] [(0, zNbr w 19 c a)] w 238 0 K from zgo_imp zT200_ok (cut := fun pc => Nat.beq pc 9 || Nat.beq pc 13 || Nat.beq pc 19 || Nat.beq pc 32 || Nat.beq pc 34 || Nat.beq pc 46 || Nat.beq pc 55) 400 (show if zNbr w 19 c a = 0 then zwp 42 9 [(2, 14), (0, c), (0, l), (0, z32 (a + (-1)))] [] w 238 0 K else zwp 42 9 [(2, 14), (0, c), (0, a), (0, z32 (a + (-1)))] [] w 238 0 K from h)) h) h)) h) h)) ?_
    have hn := hC.1
    have eN := zNbr_T hC hc (y := a) ⟨by omega, by omega⟩
    refine ziF (by omega) (zifI (by omega) ?_)
    rw [z32_id (x := a + -1) ⟨by omega, by omega⟩, eN]
    have e : zFi (fun a => ¬ zap (zTC w) c a) ((w 14 0 - 1 - a).toNat + 1) a = if ¬ zap (zTC w) c a then a else zFi (fun a => ¬ zap (zTC w) c a) (w 14 0 - 1 - a).toNat (a + 1) := rfl
    have e2 : (w 14 0 - 1 - (a + -1)).toNat = (w 14 0 - 1 - a).toNat + 1 := by omega
    by_cases q : zap (zTC w) c a
    · refine ziT (if_pos q) (ih _ _ (by omega) (by omega) ?_ h)
      rw [e2, show a + -1 + 1 = a by omega, e.trans (if_neg fun q2 => q2 q)]
      exact h3
    · refine ziF (by rw [if_neg q]; decide) (ih _ _ (by omega) (by omega) ?_ h)
      rw [e2, show a + -1 + 1 = a by omega, e.trans (if_pos q)]
/-! $Net.firstNeighbor -/
set_option maxRecDepth 100000 in
theorem zk42_14 (c : Int) (w : zW) (K : zK) (h : (zCT w ∧ 0 ≤ c ∧ c < 12) ∧ (K (0, some (0, zFs (zTC w) (w 14 0) c)) (w) 238)) : zcall 42 [(2, 14), (0, c), (9, 0), (9, 0)] w 238 K := by
  obtain ⟨hg, h⟩ := h
  refine (show (zwp 42 9 [(2, 14), (0, c), (0, (-1)), (0, z32 ((w 14 0) - 1))] [] w 238 0 K) → _ from fun h => show zwp 42 0 [(2, 14), (0, c), (9, 0), (9, 0)] [] w 238 0 K from zgo_imp zT200_ok (cut := fun pc => Nat.beq pc 9 || Nat.beq pc 13 || Nat.beq pc 19 || Nat.beq pc 32 || Nat.beq pc 34 || Nat.beq pc 46 || Nat.beq pc 55) 400 (show zwp 42 9 [(2, 14), (0, c), (0, (-1)), (0, z32 ((w 14 0) - 1))] [] w 238 0 K from h)) ?_
  have hn := hg.1.1
  rw [z32_id (x := w 14 0 - 1) ⟨by omega, by omega⟩]
  refine zk42_L9 c hg.1 hg.2 (w 14 0).toNat _ _ (by omega) (by omega) ?_ h
  rw [show (w 14 0 - 1 - (w 14 0 - 1)).toNat = 0 by omega]; rfl
noncomputable def zb42 (l0 : List zV) (w : zW) (K : zK) : Prop := cond (zpe (zar l0 0) 14) (zA l0 1 fun c => (zCT w ∧ 0 ≤ c ∧ c < 12) ∧ (K (0, some (0, zFs (zTC w) (w 14 0) c)) (w) 238)) (False)
noncomputable def zT201 : zSum := zsm1 42 [2, 0, 9, 9] zb42 zT200
theorem zT201_ok : zSok zT201 := zsm1_ok zT200_ok fun l0 w K h => by
  unfold zb42 at h
  cases q0 : zpe (zar l0 0) 14 with
  | true =>
    rw [q0, cond_true] at h
    have e : zar l0 0 = 14 := zpe_e q0
    show zcall 42 [(2, zar l0 0), (0, zar l0 1), (9, 0), (9, 0)] w 238 K
    rw [e]
    exact zk42_14 (zar l0 1) w K (zA_e h)
  | false =>
  rw [q0, cond_false] at h
  exact h.elim

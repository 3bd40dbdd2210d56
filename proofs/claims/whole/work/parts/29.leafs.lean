/-! ===== small methods of the class (written by wip/whole/gen_c.py) ===== -/
def zpe (x : Int) (p : Nat) : Bool := Nat.beq x.toNat p && Nat.blt 0 p
theorem zpe_e {x : Int} {p : Nat} (h : zpe x p = true) : x = (p : Int) := by
  unfold zpe at h
  simp only [Bool.and_eq_true] at h
  have h1 := Nat.eq_of_beq_eq_true h.1
  have h2 := Nat.blt_eq.mp h.2
  omega
/-- a parameter -/
def zA (l : List zV) (i : Nat) (f : Int → Prop) : Prop := match l[i]? with
  | some v => f v.2
  | none => False
theorem zA_e {l : List zV} {i : Nat} {f : Int → Prop} (h : zA l i f) : f (zar l i) := by
  unfold zA at h
  unfold zar
  cases hv : l[i]? with
  | none => rw [hv] at h; exact h.elim
  | some v => rw [hv] at h; exact h
noncomputable def zT1 : zSum := zin1 27 400 zcall0
theorem zT1_ok : zSok zT1 := zin1_ok zcall0_ok
noncomputable def zT2 : zSum := zin1 54 400 zT1
theorem zT2_ok : zSok zT2 := zin1_ok zT1_ok
/-! .quotient -/
set_option maxRecDepth 100000 in
theorem zk195 (a b : Int) (w : zW) (K : zK) (h : zif False (b ≠ 0) (K (0, some (1, z64 (Int.tdiv a b))) w 238)) : zcall 195 [(1, a), (9, 0), (1, b), (9, 0)] w 238 K := by
  obtain ⟨hg, h⟩ := zif_e h
  refine zgo_imp zT2_ok (cut := fun _ => false) 400 ?_
  show if b = 0 then K (0, some (1, 0)) w 238 else zif False (b ≠ 0) (K (0, some (1, z64 (Int.tdiv a b))) w 238)
  repeat' first | exact h | rw [if_pos (by omega)] | rw [if_neg (by omega)] | refine zifI (by omega) ?_
noncomputable def zb195 (l0 : List zV) (w : zW) (K : zK) : Prop := zA l0 0 fun a => zA l0 2 fun b => zif False (b ≠ 0) (K (0, some (1, z64 (Int.tdiv a b))) w 238)
noncomputable def zT3 : zSum := zsm1 195 [1, 9, 1, 9] zb195 zT2
theorem zT3_ok : zSok zT3 := zsm1_ok zT2_ok fun l0 w K h => zk195 (zar l0 0) (zar l0 2) w K (zA_e (zA_e h))
noncomputable def zb196 (l0 : List zV) (w : zW) (K : zK) : Prop := zA l0 0 fun n => zif False (n < 9223372036854775808) (K (0, some (1, zqr n)) w 238)
noncomputable def zT4 : zSum := zsm1 196 [1, 9, 9, 9, 9, 9, 9] zb196 zT3
theorem zT4_ok : zSok zT4 := zsm1_ok zT3_ok fun l0 w K h => zk196 (zar l0 0) w K (zA_e h)
noncomputable def zb257 (l0 : List zV) (w : zW) (K : zK) : Prop := zA l0 0 fun n => zif False (n < 4611686018427387904) (K (0, some (1, zqr n)) w 238)
noncomputable def zT5 : zSum := zsm1 257 [1, 9, 9, 9, 9, 9, 9, 9] zb257 zT4
theorem zT5_ok : zSok zT5 := zsm1_ok zT4_ok fun l0 w K h => zk257 (zar l0 0) w K (zA_e h)
/-! $Net.faceOfSide -/
set_option maxRecDepth 100000 in
theorem zk34_4 (x y : Int) (w : zW) (K : zK) (h : zif False ((0 ≤ x ∧ x < 12) ∧ (0 ≤ y ∧ y < 12)) (K (0, some (0, w 9 (12 * x + y).toNat)) w 238)) : zcall 34 [(2, 4), (0, x), (0, y)] w 238 K := by
  obtain ⟨hg, h⟩ := zif_e h
  refine zgo_imp zT5_ok (cut := fun _ => false) 400 ?_
  show if x < 0 then K (0, some (0, (-1))) w 238 else if x < 12 then if y < 0 then K (0, some (0, (-1))) w 238 else if y < 12 then zif False (0 ≤ z32 ((z32 (x * 12)) + y) ∧ z32 ((z32 (x * 12)) + y) < 144) (K (0, some (0, w 9 (z32 ((z32 (x * 12)) + y)).toNat)) w 238) else K (0, some (0, (-1))) w 238 else K (0, some (0, (-1))) w 238
  have e : z32 (z32 (x * 12) + y) = 12 * x + y := by rw [z32_id (x := x * 12) ⟨by omega, by omega⟩, z32_id ⟨by omega, by omega⟩]; omega
  rw [e]
  repeat' first | exact h | rw [if_pos (by omega)] | rw [if_neg (by omega)] | refine zifI (by omega) ?_
set_option maxRecDepth 100000 in
theorem zk34_14 (x y : Int) (w : zW) (K : zK) (h : zif False ((0 ≤ x ∧ x < 12) ∧ (0 ≤ y ∧ y < 12)) (K (0, some (0, w 19 (12 * x + y).toNat)) w 238)) : zcall 34 [(2, 14), (0, x), (0, y)] w 238 K := by
  obtain ⟨hg, h⟩ := zif_e h
  refine zgo_imp zT5_ok (cut := fun _ => false) 400 ?_
  show if x < 0 then K (0, some (0, (-1))) w 238 else if x < 12 then if y < 0 then K (0, some (0, (-1))) w 238 else if y < 12 then zif False (0 ≤ z32 ((z32 (x * 12)) + y) ∧ z32 ((z32 (x * 12)) + y) < 144) (K (0, some (0, w 19 (z32 ((z32 (x * 12)) + y)).toNat)) w 238) else K (0, some (0, (-1))) w 238 else K (0, some (0, (-1))) w 238
  have e : z32 (z32 (x * 12) + y) = 12 * x + y := by rw [z32_id (x := x * 12) ⟨by omega, by omega⟩, z32_id ⟨by omega, by omega⟩]; omega
  rw [e]
  repeat' first | exact h | rw [if_pos (by omega)] | rw [if_neg (by omega)] | refine zifI (by omega) ?_
noncomputable def zb34 (l0 : List zV) (w : zW) (K : zK) : Prop := cond (zpe (zar l0 0) 4) (zA l0 1 fun x => zA l0 2 fun y => zif False ((0 ≤ x ∧ x < 12) ∧ (0 ≤ y ∧ y < 12)) (K (0, some (0, w 9 (12 * x + y).toNat)) w 238)) (cond (zpe (zar l0 0) 14) (zA l0 1 fun x => zA l0 2 fun y => zif False ((0 ≤ x ∧ x < 12) ∧ (0 ≤ y ∧ y < 12)) (K (0, some (0, w 19 (12 * x + y).toNat)) w 238)) (False))
noncomputable def zT6 : zSum := zsm1 34 [2, 0, 0] zb34 zT5
theorem zT6_ok : zSok zT6 := zsm1_ok zT5_ok fun l0 w K h => by
  unfold zb34 at h
  cases q0 : zpe (zar l0 0) 4 with
  | true =>
    rw [q0, cond_true] at h
    have e : zar l0 0 = 4 := zpe_e q0
    show zcall 34 [(2, zar l0 0), (0, zar l0 1), (0, zar l0 2)] w 238 K
    rw [e]
    exact zk34_4 (zar l0 1) (zar l0 2) w K (zA_e (zA_e h))
  | false =>
  rw [q0, cond_false] at h
  cases q1 : zpe (zar l0 0) 14 with
  | true =>
    rw [q1, cond_true] at h
    have e : zar l0 0 = 14 := zpe_e q1
    show zcall 34 [(2, zar l0 0), (0, zar l0 1), (0, zar l0 2)] w 238 K
    rw [e]
    exact zk34_14 (zar l0 1) (zar l0 2) w K (zA_e (zA_e h))
  | false =>
  rw [q1, cond_false] at h
  exact h.elim
def zNbr (w : zW) (q : Nat) (x y : Int) : Int := if w q (12 * x + y).toNat = -1 ∧ w q (12 * y + x).toNat = -1 then 0 else 1
/-! $Net.areNeighbors -/
set_option maxRecDepth 100000 in
theorem zk35_4 (x y : Int) (w : zW) (K : zK) (h : zif False ((0 ≤ x ∧ x < 12) ∧ (0 ≤ y ∧ y < 12)) (K (0, some (0, zNbr w 9 x y)) w 238)) : zcall 35 [(2, 4), (0, x), (0, y)] w 238 K := by
  obtain ⟨hg, h⟩ := zif_e h
  refine zgo_imp zT6_ok (cut := fun _ => false) 400 ?_
  show zif False ((0 ≤ x ∧ x < 12) ∧ (0 ≤ y ∧ y < 12)) (if w 9 (12 * x + y).toNat = (-1) then zif False ((0 ≤ y ∧ y < 12) ∧ (0 ≤ x ∧ x < 12)) (if w 9 (12 * y + x).toNat = (-1) then K (0, some (0, 0)) w 238 else K (0, some (0, 1)) w 238) else K (0, some (0, 1)) w 238)
  refine zifI (by omega) ?_
  unfold zNbr at h
  split
  · refine zifI (by omega) ?_
    split
    · rwa [if_pos ⟨by assumption, by assumption⟩] at h
    · rwa [if_neg (by omega)] at h
  · rwa [if_neg (by omega)] at h
set_option maxRecDepth 100000 in
theorem zk35_14 (x y : Int) (w : zW) (K : zK) (h : zif False ((0 ≤ x ∧ x < 12) ∧ (0 ≤ y ∧ y < 12)) (K (0, some (0, zNbr w 19 x y)) w 238)) : zcall 35 [(2, 14), (0, x), (0, y)] w 238 K := by
  obtain ⟨hg, h⟩ := zif_e h
  refine zgo_imp zT6_ok (cut := fun _ => false) 400 ?_
  show zif False ((0 ≤ x ∧ x < 12) ∧ (0 ≤ y ∧ y < 12)) (if w 19 (12 * x + y).toNat = (-1) then zif False ((0 ≤ y ∧ y < 12) ∧ (0 ≤ x ∧ x < 12)) (if w 19 (12 * y + x).toNat = (-1) then K (0, some (0, 0)) w 238 else K (0, some (0, 1)) w 238) else K (0, some (0, 1)) w 238)
  refine zifI (by omega) ?_
  unfold zNbr at h
  split
  · refine zifI (by omega) ?_
    split
    · rwa [if_pos ⟨by assumption, by assumption⟩] at h
    · rwa [if_neg (by omega)] at h
  · rwa [if_neg (by omega)] at h
noncomputable def zb35 (l0 : List zV) (w : zW) (K : zK) : Prop := cond (zpe (zar l0 0) 4) (zA l0 1 fun x => zA l0 2 fun y => zif False ((0 ≤ x ∧ x < 12) ∧ (0 ≤ y ∧ y < 12)) (K (0, some (0, zNbr w 9 x y)) w 238)) (cond (zpe (zar l0 0) 14) (zA l0 1 fun x => zA l0 2 fun y => zif False ((0 ≤ x ∧ x < 12) ∧ (0 ≤ y ∧ y < 12)) (K (0, some (0, zNbr w 19 x y)) w 238)) (False))
noncomputable def zT7 : zSum := zsm1 35 [2, 0, 0] zb35 zT6
theorem zT7_ok : zSok zT7 := zsm1_ok zT6_ok fun l0 w K h => by
  unfold zb35 at h
  cases q0 : zpe (zar l0 0) 4 with
  | true =>
    rw [q0, cond_true] at h
    have e : zar l0 0 = 4 := zpe_e q0
    show zcall 35 [(2, zar l0 0), (0, zar l0 1), (0, zar l0 2)] w 238 K
    rw [e]
    exact zk35_4 (zar l0 1) (zar l0 2) w K (zA_e (zA_e h))
  | false =>
  rw [q0, cond_false] at h
  cases q1 : zpe (zar l0 0) 14 with
  | true =>
    rw [q1, cond_true] at h
    have e : zar l0 0 = 14 := zpe_e q1
    show zcall 35 [(2, zar l0 0), (0, zar l0 1), (0, zar l0 2)] w 238 K
    rw [e]
    exact zk35_14 (zar l0 1) (zar l0 2) w K (zA_e (zA_e h))
  | false =>
  rw [q1, cond_false] at h
  exact h.elim
/-! $Net.nameOf -/
set_option maxRecDepth 100000 in
theorem zk29_4 (x : Int) (w : zW) (K : zK) (h : zif False (0 ≤ x ∧ x < 12) (K (0, some (1, w 5 x.toNat)) w 238)) : zcall 29 [(2, 4), (0, x)] w 238 K := by
  obtain ⟨hg, h⟩ := zif_e h
  refine zgo_imp zT7_ok (cut := fun _ => false) 400 ?_
  show if x < 0 then K (0, some (1, 0)) w 238 else if x < 12 then zif False (0 ≤ x ∧ x < 12) (K (0, some (1, w 5 x.toNat)) w 238) else K (0, some (1, 0)) w 238
  repeat' first | exact h | rw [if_pos (by omega)] | rw [if_neg (by omega)] | refine zifI (by omega) ?_
set_option maxRecDepth 100000 in
theorem zk29_14 (x : Int) (w : zW) (K : zK) (h : zif False (0 ≤ x ∧ x < 12) (K (0, some (1, w 15 x.toNat)) w 238)) : zcall 29 [(2, 14), (0, x)] w 238 K := by
  obtain ⟨hg, h⟩ := zif_e h
  refine zgo_imp zT7_ok (cut := fun _ => false) 400 ?_
  show if x < 0 then K (0, some (1, 0)) w 238 else if x < 12 then zif False (0 ≤ x ∧ x < 12) (K (0, some (1, w 15 x.toNat)) w 238) else K (0, some (1, 0)) w 238
  repeat' first | exact h | rw [if_pos (by omega)] | rw [if_neg (by omega)] | refine zifI (by omega) ?_
noncomputable def zb29 (l0 : List zV) (w : zW) (K : zK) : Prop := cond (zpe (zar l0 0) 4) (zA l0 1 fun x => zif False (0 ≤ x ∧ x < 12) (K (0, some (1, w 5 x.toNat)) w 238)) (cond (zpe (zar l0 0) 14) (zA l0 1 fun x => zif False (0 ≤ x ∧ x < 12) (K (0, some (1, w 15 x.toNat)) w 238)) (False))
noncomputable def zT8 : zSum := zsm1 29 [2, 0] zb29 zT7
theorem zT8_ok : zSok zT8 := zsm1_ok zT7_ok fun l0 w K h => by
  unfold zb29 at h
  cases q0 : zpe (zar l0 0) 4 with
  | true =>
    rw [q0, cond_true] at h
    have e : zar l0 0 = 4 := zpe_e q0
    show zcall 29 [(2, zar l0 0), (0, zar l0 1)] w 238 K
    rw [e]
    exact zk29_4 (zar l0 1) w K (zA_e h)
  | false =>
  rw [q0, cond_false] at h
  cases q1 : zpe (zar l0 0) 14 with
  | true =>
    rw [q1, cond_true] at h
    have e : zar l0 0 = 14 := zpe_e q1
    show zcall 29 [(2, zar l0 0), (0, zar l0 1)] w 238 K
    rw [e]
    exact zk29_14 (zar l0 1) w K (zA_e h)
  | false =>
  rw [q1, cond_false] at h
  exact h.elim
/-! $Net.degreesOf -/
set_option maxRecDepth 100000 in
theorem zk30_4 (x : Int) (w : zW) (K : zK) (h : zif False (0 ≤ x ∧ x < 12) (K (0, some (0, w 6 x.toNat)) w 238)) : zcall 30 [(2, 4), (0, x)] w 238 K := by
  obtain ⟨hg, h⟩ := zif_e h
  refine zgo_imp zT8_ok (cut := fun _ => false) 400 ?_
  show if x < 0 then K (0, some (0, 0)) w 238 else if x < 12 then zif False (0 ≤ x ∧ x < 12) (K (0, some (0, w 6 x.toNat)) w 238) else K (0, some (0, 0)) w 238
  repeat' first | exact h | rw [if_pos (by omega)] | rw [if_neg (by omega)] | refine zifI (by omega) ?_
noncomputable def zb30 (l0 : List zV) (w : zW) (K : zK) : Prop := cond (zpe (zar l0 0) 4) (zA l0 1 fun x => zif False (0 ≤ x ∧ x < 12) (K (0, some (0, w 6 x.toNat)) w 238)) (False)
noncomputable def zT9 : zSum := zsm1 30 [2, 0] zb30 zT8
theorem zT9_ok : zSok zT9 := zsm1_ok zT8_ok fun l0 w K h => by
  unfold zb30 at h
  cases q0 : zpe (zar l0 0) 4 with
  | true =>
    rw [q0, cond_true] at h
    have e : zar l0 0 = 4 := zpe_e q0
    show zcall 30 [(2, zar l0 0), (0, zar l0 1)] w 238 K
    rw [e]
    exact zk30_4 (zar l0 1) w K (zA_e h)
  | false =>
  rw [q0, cond_false] at h
  exact h.elim
/-! $Net.isFree -/
set_option maxRecDepth 100000 in
theorem zk31_4 (x : Int) (w : zW) (K : zK) (h : zif False (0 ≤ x ∧ x < 12) (K (0, some (0, (if 0 < w 6 x.toNat then 1 else 0))) w 238)) : zcall 31 [(2, 4), (0, x)] w 238 K := by
  obtain ⟨hg, h⟩ := zif_e h
  refine zgo_imp zT9_ok (cut := fun _ => false) 400 ?_
  show if x < 0 then K (0, some (0, 0)) w 238 else if x < 12 then zif False (0 ≤ x ∧ x < 12) (if 0 < w 6 x.toNat then K (0, some (0, 1)) w 238 else K (0, some (0, 0)) w 238) else K (0, some (0, 0)) w 238
  rw [if_neg (by omega), if_pos (by omega)]
  refine zifI (by omega) ?_
  split
  · rwa [if_pos (by assumption)] at h
  · rwa [if_neg (by assumption)] at h
noncomputable def zb31 (l0 : List zV) (w : zW) (K : zK) : Prop := cond (zpe (zar l0 0) 4) (zA l0 1 fun x => zif False (0 ≤ x ∧ x < 12) (K (0, some (0, (if 0 < w 6 x.toNat then 1 else 0))) w 238)) (False)
noncomputable def zT10 : zSum := zsm1 31 [2, 0] zb31 zT9
theorem zT10_ok : zSok zT10 := zsm1_ok zT9_ok fun l0 w K h => by
  unfold zb31 at h
  cases q0 : zpe (zar l0 0) 4 with
  | true =>
    rw [q0, cond_true] at h
    have e : zar l0 0 = 4 := zpe_e q0
    show zcall 31 [(2, zar l0 0), (0, zar l0 1)] w 238 K
    rw [e]
    exact zk31_4 (zar l0 1) w K (zA_e h)
  | false =>
  rw [q0, cond_false] at h
  exact h.elim
/-! $Net.firstRadius -/
set_option maxRecDepth 100000 in
theorem zk32_4 (x : Int) (w : zW) (K : zK) (h : zif False (0 ≤ x ∧ x < 12) (K (0, some (0, (if 0 < w 7 x.toNat then w 7 x.toNat else w 4 2))) w 238)) : zcall 32 [(2, 4), (0, x)] w 238 K := by
  obtain ⟨hg, h⟩ := zif_e h
  refine zgo_imp zT10_ok (cut := fun _ => false) 400 ?_
  show if x < 0 then K (0, some (0, w 4 2)) w 238 else if x < 12 then zif False (0 ≤ x ∧ x < 12) (if 0 < w 7 x.toNat then zif False (0 ≤ x ∧ x < 12) (K (0, some (0, w 7 x.toNat)) w 238) else K (0, some (0, w 4 2)) w 238) else K (0, some (0, w 4 2)) w 238
  rw [if_neg (by omega), if_pos (by omega)]
  refine zifI (by omega) ?_
  split
  · rw [if_pos (by assumption)] at h
    refine zifI (by omega) ?_
    exact h
  · rwa [if_neg (by assumption)] at h
noncomputable def zb32 (l0 : List zV) (w : zW) (K : zK) : Prop := cond (zpe (zar l0 0) 4) (zA l0 1 fun x => zif False (0 ≤ x ∧ x < 12) (K (0, some (0, (if 0 < w 7 x.toNat then w 7 x.toNat else w 4 2))) w 238)) (False)
noncomputable def zT11 : zSum := zsm1 32 [2, 0] zb32 zT10
theorem zT11_ok : zSok zT11 := zsm1_ok zT10_ok fun l0 w K h => by
  unfold zb32 at h
  cases q0 : zpe (zar l0 0) 4 with
  | true =>
    rw [q0, cond_true] at h
    have e : zar l0 0 = 4 := zpe_e q0
    show zcall 32 [(2, zar l0 0), (0, zar l0 1)] w 238 K
    rw [e]
    exact zk32_4 (zar l0 1) w K (zA_e h)
  | false =>
  rw [q0, cond_false] at h
  exact h.elim
/-! $Net.rowLength -/
set_option maxRecDepth 100000 in
theorem zk36_4 (x : Int) (w : zW) (K : zK) (h : zif False (0 ≤ x ∧ x < 12) (K (0, some (0, w 11 x.toNat)) w 238)) : zcall 36 [(2, 4), (0, x)] w 238 K := by
  obtain ⟨hg, h⟩ := zif_e h
  refine zgo_imp zT11_ok (cut := fun _ => false) 400 ?_
  show if x < 0 then K (0, some (0, 0)) w 238 else if x < 12 then zif False (0 ≤ x ∧ x < 12) (K (0, some (0, w 11 x.toNat)) w 238) else K (0, some (0, 0)) w 238
  repeat' first | exact h | rw [if_pos (by omega)] | rw [if_neg (by omega)] | refine zifI (by omega) ?_
set_option maxRecDepth 100000 in
theorem zk36_14 (x : Int) (w : zW) (K : zK) (h : zif False (0 ≤ x ∧ x < 12) (K (0, some (0, w 21 x.toNat)) w 238)) : zcall 36 [(2, 14), (0, x)] w 238 K := by
  obtain ⟨hg, h⟩ := zif_e h
  refine zgo_imp zT11_ok (cut := fun _ => false) 400 ?_
  show if x < 0 then K (0, some (0, 0)) w 238 else if x < 12 then zif False (0 ≤ x ∧ x < 12) (K (0, some (0, w 21 x.toNat)) w 238) else K (0, some (0, 0)) w 238
  repeat' first | exact h | rw [if_pos (by omega)] | rw [if_neg (by omega)] | refine zifI (by omega) ?_
noncomputable def zb36 (l0 : List zV) (w : zW) (K : zK) : Prop := cond (zpe (zar l0 0) 4) (zA l0 1 fun x => zif False (0 ≤ x ∧ x < 12) (K (0, some (0, w 11 x.toNat)) w 238)) (cond (zpe (zar l0 0) 14) (zA l0 1 fun x => zif False (0 ≤ x ∧ x < 12) (K (0, some (0, w 21 x.toNat)) w 238)) (False))
noncomputable def zT12 : zSum := zsm1 36 [2, 0] zb36 zT11
theorem zT12_ok : zSok zT12 := zsm1_ok zT11_ok fun l0 w K h => by
  unfold zb36 at h
  cases q0 : zpe (zar l0 0) 4 with
  | true =>
    rw [q0, cond_true] at h
    have e : zar l0 0 = 4 := zpe_e q0
    show zcall 36 [(2, zar l0 0), (0, zar l0 1)] w 238 K
    rw [e]
    exact zk36_4 (zar l0 1) w K (zA_e h)
  | false =>
  rw [q0, cond_false] at h
  cases q1 : zpe (zar l0 0) 14 with
  | true =>
    rw [q1, cond_true] at h
    have e : zar l0 0 = 14 := zpe_e q1
    show zcall 36 [(2, zar l0 0), (0, zar l0 1)] w 238 K
    rw [e]
    exact zk36_14 (zar l0 1) w K (zA_e h)
  | false =>
  rw [q1, cond_false] at h
  exact h.elim
/-! $Net.cornerOf -/
set_option maxRecDepth 100000 in
theorem zk33_4 (f k : Int) (w : zW) (K : zK) (h : zif False (0 ≤ f ∧ f < w 4 1 ∧ f < 20 ∧ 0 ≤ k ∧ k < 1000) (K (0, some (0, w 8 (3 * f + k % 3).toNat)) w 238)) : zcall 33 [(2, 4), (0, f), (0, k)] w 238 K := by
  obtain ⟨hg, h⟩ := zif_e h
  refine zgo_imp zT12_ok (cut := fun _ => false) 400 ?_
  show if f < 0 then K (0, some (0, (-1))) w 238 else if f < w 4 1 then if f < 20 then if k < 0 then K (0, some (0, (-1))) w 238 else zif False (0 ≤ z32 ((z32 (f * 3)) + (z32 (Int.tmod k 3))) ∧ z32 ((z32 (f * 3)) + (z32 (Int.tmod k 3))) < 60) (K (0, some (0, w 8 (z32 ((z32 (f * 3)) + (z32 (Int.tmod k 3)))).toNat)) w 238) else K (0, some (0, (-1))) w 238 else K (0, some (0, (-1))) w 238
  
  have e1 : Int.tmod k 3 = k % 3 := Int.tmod_eq_emod_of_nonneg (by omega)
  rw [e1]
  have e : z32 (z32 (f * 3) + z32 (k % 3)) = 3 * f + k % 3 := by rw [z32_id (x := f * 3) ⟨by omega, by omega⟩, z32_id (x := k % 3) ⟨by omega, by omega⟩, z32_id ⟨by omega, by omega⟩]; omega
  rw [e]
  repeat' first | exact h | rw [if_pos (by omega)] | rw [if_neg (by omega)] | refine zifI (by omega) ?_
set_option maxRecDepth 100000 in
theorem zk33_14 (f k : Int) (w : zW) (K : zK) (h : zif False (0 ≤ f ∧ f < w 14 1 ∧ f < 20 ∧ 0 ≤ k ∧ k < 1000) (K (0, some (0, w 18 (3 * f + k % 3).toNat)) w 238)) : zcall 33 [(2, 14), (0, f), (0, k)] w 238 K := by
  obtain ⟨hg, h⟩ := zif_e h
  refine zgo_imp zT12_ok (cut := fun _ => false) 400 ?_
  show if f < 0 then K (0, some (0, (-1))) w 238 else if f < w 14 1 then if f < 20 then if k < 0 then K (0, some (0, (-1))) w 238 else zif False (0 ≤ z32 ((z32 (f * 3)) + (z32 (Int.tmod k 3))) ∧ z32 ((z32 (f * 3)) + (z32 (Int.tmod k 3))) < 60) (K (0, some (0, w 18 (z32 ((z32 (f * 3)) + (z32 (Int.tmod k 3)))).toNat)) w 238) else K (0, some (0, (-1))) w 238 else K (0, some (0, (-1))) w 238
  
  have e1 : Int.tmod k 3 = k % 3 := Int.tmod_eq_emod_of_nonneg (by omega)
  rw [e1]
  have e : z32 (z32 (f * 3) + z32 (k % 3)) = 3 * f + k % 3 := by rw [z32_id (x := f * 3) ⟨by omega, by omega⟩, z32_id (x := k % 3) ⟨by omega, by omega⟩, z32_id ⟨by omega, by omega⟩]; omega
  rw [e]
  repeat' first | exact h | rw [if_pos (by omega)] | rw [if_neg (by omega)] | refine zifI (by omega) ?_
noncomputable def zb33 (l0 : List zV) (w : zW) (K : zK) : Prop := cond (zpe (zar l0 0) 4) (zA l0 1 fun f => zA l0 2 fun k => zif False (0 ≤ f ∧ f < w 4 1 ∧ f < 20 ∧ 0 ≤ k ∧ k < 1000) (K (0, some (0, w 8 (3 * f + k % 3).toNat)) w 238)) (cond (zpe (zar l0 0) 14) (zA l0 1 fun f => zA l0 2 fun k => zif False (0 ≤ f ∧ f < w 14 1 ∧ f < 20 ∧ 0 ≤ k ∧ k < 1000) (K (0, some (0, w 18 (3 * f + k % 3).toNat)) w 238)) (False))
noncomputable def zT13 : zSum := zsm1 33 [2, 0, 0] zb33 zT12
theorem zT13_ok : zSok zT13 := zsm1_ok zT12_ok fun l0 w K h => by
  unfold zb33 at h
  cases q0 : zpe (zar l0 0) 4 with
  | true =>
    rw [q0, cond_true] at h
    have e : zar l0 0 = 4 := zpe_e q0
    show zcall 33 [(2, zar l0 0), (0, zar l0 1), (0, zar l0 2)] w 238 K
    rw [e]
    exact zk33_4 (zar l0 1) (zar l0 2) w K (zA_e (zA_e h))
  | false =>
  rw [q0, cond_false] at h
  cases q1 : zpe (zar l0 0) 14 with
  | true =>
    rw [q1, cond_true] at h
    have e : zar l0 0 = 14 := zpe_e q1
    show zcall 33 [(2, zar l0 0), (0, zar l0 1), (0, zar l0 2)] w 238 K
    rw [e]
    exact zk33_14 (zar l0 1) (zar l0 2) w K (zA_e (zA_e h))
  | false =>
  rw [q1, cond_false] at h
  exact h.elim
/-! $Net.inRow -/
set_option maxRecDepth 100000 in
theorem zk37_4 (x i : Int) (w : zW) (K : zK) (h : zif False ((0 ≤ x ∧ x < 12) ∧ 0 ≤ i ∧ i < w 11 x.toNat ∧ i < 12) (K (0, some (0, w 10 (12 * x + i).toNat)) w 238)) : zcall 37 [(2, 4), (0, x), (0, i)] w 238 K := by
  obtain ⟨hg, h⟩ := zif_e h
  refine zgo_imp zT13_ok (cut := fun _ => false) 400 ?_
  show if x < 0 then K (0, some (0, (-1))) w 238 else if x < 12 then if i < 0 then K (0, some (0, (-1))) w 238 else zif False (0 ≤ x ∧ x < 12) (if i < w 11 x.toNat then if i < 12 then zif False (0 ≤ z32 ((z32 (x * 12)) + i) ∧ z32 ((z32 (x * 12)) + i) < 144) (K (0, some (0, w 10 (z32 ((z32 (x * 12)) + i)).toNat)) w 238) else K (0, some (0, (-1))) w 238 else K (0, some (0, (-1))) w 238) else K (0, some (0, (-1))) w 238
  have e : z32 (z32 (x * 12) + i) = 12 * x + i := by rw [z32_id (x := x * 12) ⟨by omega, by omega⟩, z32_id ⟨by omega, by omega⟩]; omega
  rw [e]
  repeat' first | exact h | rw [if_pos (by omega)] | rw [if_neg (by omega)] | refine zifI (by omega) ?_
noncomputable def zb37 (l0 : List zV) (w : zW) (K : zK) : Prop := cond (zpe (zar l0 0) 4) (zA l0 1 fun x => zA l0 2 fun i => zif False ((0 ≤ x ∧ x < 12) ∧ 0 ≤ i ∧ i < w 11 x.toNat ∧ i < 12) (K (0, some (0, w 10 (12 * x + i).toNat)) w 238)) (False)
noncomputable def zT14 : zSum := zsm1 37 [2, 0, 0] zb37 zT13
theorem zT14_ok : zSok zT14 := zsm1_ok zT13_ok fun l0 w K h => by
  unfold zb37 at h
  cases q0 : zpe (zar l0 0) 4 with
  | true =>
    rw [q0, cond_true] at h
    have e : zar l0 0 = 4 := zpe_e q0
    show zcall 37 [(2, zar l0 0), (0, zar l0 1), (0, zar l0 2)] w 238 K
    rw [e]
    exact zk37_4 (zar l0 1) (zar l0 2) w K (zA_e (zA_e h))
  | false =>
  rw [q0, cond_false] at h
  exact h.elim
/-! $Net.lastInRow -/
set_option maxRecDepth 100000 in
theorem zk38_4 (x : Int) (w : zW) (K : zK) (h : zif False ((0 ≤ x ∧ x < 12) ∧ 1 ≤ w 11 x.toNat ∧ w 11 x.toNat ≤ 12) (K (0, some (0, w 10 (12 * x + (w 11 x.toNat - 1)).toNat)) w 238)) : zcall 38 [(2, 4), (0, x)] w 238 K := by
  obtain ⟨hg, h⟩ := zif_e h
  refine zgo_imp zT14_ok (cut := fun _ => false) 400 ?_
  show zif False (0 ≤ x ∧ x < 12) (zif False ((0 ≤ x ∧ x < 12) ∧ 0 ≤ (z32 ((w 11 x.toNat) - 1)) ∧ (z32 ((w 11 x.toNat) - 1)) < w 11 x.toNat ∧ (z32 ((w 11 x.toNat) - 1)) < 12) (K (0, some (0, w 10 (12 * x + (z32 ((w 11 x.toNat) - 1))).toNat)) w 238))
  refine zifI (by omega) ?_
  have e : z32 (w 11 x.toNat - 1) = w 11 x.toNat - 1 := z32_id ⟨by omega, by omega⟩
  rw [e]
  refine zifI (by omega) ?_
  exact h
noncomputable def zb38 (l0 : List zV) (w : zW) (K : zK) : Prop := cond (zpe (zar l0 0) 4) (zA l0 1 fun x => zif False ((0 ≤ x ∧ x < 12) ∧ 1 ≤ w 11 x.toNat ∧ w 11 x.toNat ≤ 12) (K (0, some (0, w 10 (12 * x + (w 11 x.toNat - 1)).toNat)) w 238)) (False)
noncomputable def zT15 : zSum := zsm1 38 [2, 0] zb38 zT14
theorem zT15_ok : zSok zT15 := zsm1_ok zT14_ok fun l0 w K h => by
  unfold zb38 at h
  cases q0 : zpe (zar l0 0) 4 with
  | true =>
    rw [q0, cond_true] at h
    have e : zar l0 0 = 4 := zpe_e q0
    show zcall 38 [(2, zar l0 0), (0, zar l0 1)] w 238 K
    rw [e]
    exact zk38_4 (zar l0 1) w K (zA_e h)
  | false =>
  rw [q0, cond_false] at h
  exact h.elim
/-! $Net.kindOf -/
set_option maxRecDepth 100000 in
theorem zk39_4 (x : Int) (w : zW) (K : zK) (h : zif False (0 ≤ x ∧ x < 12) (K (0, some (0, (if w 11 x.toNat = 0 then 2 else if w 12 x.toNat = 0 then 1 else 0))) w 238)) : zcall 39 [(2, 4), (0, x)] w 238 K := by
  obtain ⟨hg, h⟩ := zif_e h
  refine zgo_imp zT15_ok (cut := fun _ => false) 400 ?_
  show if x < 0 then K (0, some (0, 2)) w 238 else if x < 12 then zif False (0 ≤ x ∧ x < 12) (if w 11 x.toNat = 0 then K (0, some (0, 2)) w 238 else zif False (0 ≤ x ∧ x < 12) (if w 12 x.toNat = 0 then K (0, some (0, 1)) w 238 else K (0, some (0, 0)) w 238)) else K (0, some (0, 2)) w 238
  rw [if_neg (by omega), if_pos (by omega)]
  refine zifI (by omega) ?_
  split
  · rwa [if_pos (by assumption)] at h
  · rw [if_neg (by assumption)] at h
    refine zifI (by omega) ?_
    split
    · rwa [if_pos (by assumption)] at h
    · rwa [if_neg (by assumption)] at h
noncomputable def zb39 (l0 : List zV) (w : zW) (K : zK) : Prop := cond (zpe (zar l0 0) 4) (zA l0 1 fun x => zif False (0 ≤ x ∧ x < 12) (K (0, some (0, (if w 11 x.toNat = 0 then 2 else if w 12 x.toNat = 0 then 1 else 0))) w 238)) (False)
noncomputable def zT16 : zSum := zsm1 39 [2, 0] zb39 zT15
theorem zT16_ok : zSok zT16 := zsm1_ok zT15_ok fun l0 w K h => by
  unfold zb39 at h
  cases q0 : zpe (zar l0 0) 4 with
  | true =>
    rw [q0, cond_true] at h
    have e : zar l0 0 = 4 := zpe_e q0
    show zcall 39 [(2, zar l0 0), (0, zar l0 1)] w 238 K
    rw [e]
    exact zk39_4 (zar l0 1) w K (zA_e h)
  | false =>
  rw [q0, cond_false] at h
  exact h.elim
/-! $Packing.radiusOf -/
set_option maxRecDepth 100000 in
theorem zk55_29 (x : Int) (w : zW) (K : zK) (h : zif False (0 ≤ x ∧ x < 12) (K (0, some (0, w 30 x.toNat)) w 238)) : zcall 55 [(2, 29), (0, x)] w 238 K := by
  obtain ⟨hg, h⟩ := zif_e h
  refine zgo_imp zT16_ok (cut := fun _ => false) 400 ?_
  show if x < 0 then K (0, some (0, 1)) w 238 else if x < 12 then zif False (0 ≤ x ∧ x < 12) (K (0, some (0, w 30 x.toNat)) w 238) else K (0, some (0, 1)) w 238
  repeat' first | exact h | rw [if_pos (by omega)] | rw [if_neg (by omega)] | refine zifI (by omega) ?_
noncomputable def zb55 (l0 : List zV) (w : zW) (K : zK) : Prop := cond (zpe (zar l0 0) 29) (zA l0 1 fun x => zif False (0 ≤ x ∧ x < 12) (K (0, some (0, w 30 x.toNat)) w 238)) (False)
noncomputable def zT17 : zSum := zsm1 55 [2, 0] zb55 zT16
theorem zT17_ok : zSok zT17 := zsm1_ok zT16_ok fun l0 w K h => by
  unfold zb55 at h
  cases q0 : zpe (zar l0 0) 29 with
  | true =>
    rw [q0, cond_true] at h
    have e : zar l0 0 = 29 := zpe_e q0
    show zcall 55 [(2, zar l0 0), (0, zar l0 1)] w 238 K
    rw [e]
    exact zk55_29 (zar l0 1) w K (zA_e h)
  | false =>
  rw [q0, cond_false] at h
  exact h.elim
/-! $Packing.reach -/
set_option maxRecDepth 100000 in
theorem zk57_29 (x y : Int) (w : zW) (K : zK) (h : zif False ((0 ≤ x ∧ x < 12) ∧ (0 ≤ y ∧ y < 12)) (K (0, some (1, z64 (w 30 x.toNat + w 30 y.toNat))) w 238)) : zcall 57 [(2, 29), (0, x), (0, y)] w 238 K := by
  obtain ⟨hg, h⟩ := zif_e h
  refine zgo_imp zT17_ok (cut := fun _ => false) 400 ?_
  show zif False (0 ≤ x ∧ x < 12) (zif False (0 ≤ y ∧ y < 12) (K (0, some (1, z64 ((w 30 x.toNat) + (w 30 y.toNat)))) w 238))
  repeat' first | exact h | rw [if_pos (by omega)] | rw [if_neg (by omega)] | refine zifI (by omega) ?_
noncomputable def zb57 (l0 : List zV) (w : zW) (K : zK) : Prop := cond (zpe (zar l0 0) 29) (zA l0 1 fun x => zA l0 2 fun y => zif False ((0 ≤ x ∧ x < 12) ∧ (0 ≤ y ∧ y < 12)) (K (0, some (1, z64 (w 30 x.toNat + w 30 y.toNat))) w 238)) (False)
noncomputable def zT18 : zSum := zsm1 57 [2, 0, 0] zb57 zT17
theorem zT18_ok : zSok zT18 := zsm1_ok zT17_ok fun l0 w K h => by
  unfold zb57 at h
  cases q0 : zpe (zar l0 0) 29 with
  | true =>
    rw [q0, cond_true] at h
    have e : zar l0 0 = 29 := zpe_e q0
    show zcall 57 [(2, zar l0 0), (0, zar l0 1), (0, zar l0 2)] w 238 K
    rw [e]
    exact zk57_29 (zar l0 1) (zar l0 2) w K (zA_e (zA_e h))
  | false =>
  rw [q0, cond_false] at h
  exact h.elim
/-! $Packing.hasPlace -/
set_option maxRecDepth 100000 in
theorem zk58_29 (x : Int) (w : zW) (K : zK) (h : zif False (0 ≤ x ∧ x < 12) (K (0, some (0, (if w 33 x.toNat = 0 then 0 else 1))) w 238)) : zcall 58 [(2, 29), (0, x)] w 238 K := by
  obtain ⟨hg, h⟩ := zif_e h
  refine zgo_imp zT18_ok (cut := fun _ => false) 400 ?_
  show if x < 0 then K (0, some (0, 0)) w 238 else if x < 12 then zif False (0 ≤ x ∧ x < 12) (if w 33 x.toNat = 0 then K (0, some (0, 0)) w 238 else K (0, some (0, 1)) w 238) else K (0, some (0, 0)) w 238
  rw [if_neg (by omega), if_pos (by omega)]
  refine zifI (by omega) ?_
  split
  · rwa [if_pos (by assumption)] at h
  · rwa [if_neg (by assumption)] at h
noncomputable def zb58 (l0 : List zV) (w : zW) (K : zK) : Prop := cond (zpe (zar l0 0) 29) (zA l0 1 fun x => zif False (0 ≤ x ∧ x < 12) (K (0, some (0, (if w 33 x.toNat = 0 then 0 else 1))) w 238)) (False)
noncomputable def zT19 : zSum := zsm1 58 [2, 0] zb58 zT18
theorem zT19_ok : zSok zT19 := zsm1_ok zT18_ok fun l0 w K h => by
  unfold zb58 at h
  cases q0 : zpe (zar l0 0) 29 with
  | true =>
    rw [q0, cond_true] at h
    have e : zar l0 0 = 29 := zpe_e q0
    show zcall 58 [(2, zar l0 0), (0, zar l0 1)] w 238 K
    rw [e]
    exact zk58_29 (zar l0 1) w K (zA_e h)
  | false =>
  rw [q0, cond_false] at h
  exact h.elim
/-! $Packing.xOf -/
set_option maxRecDepth 100000 in
theorem zk59_29 (x : Int) (w : zW) (K : zK) (h : zif False (0 ≤ x ∧ x < 12) (K (0, some (0, w 31 x.toNat)) w 238)) : zcall 59 [(2, 29), (0, x)] w 238 K := by
  obtain ⟨hg, h⟩ := zif_e h
  refine zgo_imp zT19_ok (cut := fun _ => false) 400 ?_
  show if x < 0 then K (0, some (0, 0)) w 238 else if x < 12 then zif False (0 ≤ x ∧ x < 12) (K (0, some (0, w 31 x.toNat)) w 238) else K (0, some (0, 0)) w 238
  repeat' first | exact h | rw [if_pos (by omega)] | rw [if_neg (by omega)] | refine zifI (by omega) ?_
noncomputable def zb59 (l0 : List zV) (w : zW) (K : zK) : Prop := cond (zpe (zar l0 0) 29) (zA l0 1 fun x => zif False (0 ≤ x ∧ x < 12) (K (0, some (0, w 31 x.toNat)) w 238)) (False)
noncomputable def zT20 : zSum := zsm1 59 [2, 0] zb59 zT19
theorem zT20_ok : zSok zT20 := zsm1_ok zT19_ok fun l0 w K h => by
  unfold zb59 at h
  cases q0 : zpe (zar l0 0) 29 with
  | true =>
    rw [q0, cond_true] at h
    have e : zar l0 0 = 29 := zpe_e q0
    show zcall 59 [(2, zar l0 0), (0, zar l0 1)] w 238 K
    rw [e]
    exact zk59_29 (zar l0 1) w K (zA_e h)
  | false =>
  rw [q0, cond_false] at h
  exact h.elim
/-! $Packing.yOf -/
set_option maxRecDepth 100000 in
theorem zk60_29 (x : Int) (w : zW) (K : zK) (h : zif False (0 ≤ x ∧ x < 12) (K (0, some (0, w 32 x.toNat)) w 238)) : zcall 60 [(2, 29), (0, x)] w 238 K := by
  obtain ⟨hg, h⟩ := zif_e h
  refine zgo_imp zT20_ok (cut := fun _ => false) 400 ?_
  show if x < 0 then K (0, some (0, 0)) w 238 else if x < 12 then zif False (0 ≤ x ∧ x < 12) (K (0, some (0, w 32 x.toNat)) w 238) else K (0, some (0, 0)) w 238
  repeat' first | exact h | rw [if_pos (by omega)] | rw [if_neg (by omega)] | refine zifI (by omega) ?_
noncomputable def zb60 (l0 : List zV) (w : zW) (K : zK) : Prop := cond (zpe (zar l0 0) 29) (zA l0 1 fun x => zif False (0 ≤ x ∧ x < 12) (K (0, some (0, w 32 x.toNat)) w 238)) (False)
noncomputable def zT21 : zSum := zsm1 60 [2, 0] zb60 zT20
theorem zT21_ok : zSok zT21 := zsm1_ok zT20_ok fun l0 w K h => by
  unfold zb60 at h
  cases q0 : zpe (zar l0 0) 29 with
  | true =>
    rw [q0, cond_true] at h
    have e : zar l0 0 = 29 := zpe_e q0
    show zcall 60 [(2, zar l0 0), (0, zar l0 1)] w 238 K
    rw [e]
    exact zk60_29 (zar l0 1) w K (zA_e h)
  | false =>
  rw [q0, cond_false] at h
  exact h.elim

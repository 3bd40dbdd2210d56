/-! ===== angles (written by wip/whole/gen_c.py) ===== -/
def zw0 (a b c : Int) : Int := 1000000000 - 2000000000 * b / (a + b) * c / (a + c)
noncomputable def zit : Nat → Int → Int
  | 0, v => v
  | n + 1, v => zit n (zqr ((1000000000 + v) * 1000000000 / 2))
/-- the angle at the circle a between b and c -/
noncomputable def zan (a b c : Int) : Int := 64 * zqr (2000000000 * (1000000000 - zit 6 (zw0 a b c)))
theorem zdiv_rg {x y m : Int} (hy : 0 < y) (hx : 0 ≤ x) (h : x ≤ m * y) : 0 ≤ x / y ∧ x / y ≤ m :=
  ⟨Int.ediv_nonneg hx (by omega), by
    have := Int.ediv_le_ediv hy h
    rwa [Int.mul_ediv_cancel _ (by omega)] at this⟩
theorem zw0_ok {a b c : Int} (ha : 1 ≤ a ∧ a ≤ 2000000) (hb : 1 ≤ b ∧ b ≤ 2000000) (hc : 1 ≤ c ∧ c ≤ 2000000) :
    z64 (1000000000 - z64 (Int.tdiv (z64 (z64 (Int.tdiv (z64 (2000000000 * b)) (z64 (a + b))) * c)) (z64 (a + c)))) = zw0 a b c ∧ -1000000000 ≤ zw0 a b c ∧ zw0 a b c ≤ 1000000000 := by
  obtain ⟨q1, q2⟩ := zdiv_rg (x := 2000000000 * b) (y := a + b) (m := 2000000000) (by omega) (by omega) (by omega)
  unfold zw0
  rw [z64_id (x := 2000000000 * b) ⟨by omega, by omega⟩, z64_id (x := a + b) ⟨by omega, by omega⟩, z64_id (x := a + c) ⟨by omega, by omega⟩, Int.tdiv_eq_ediv_of_nonneg (a := 2000000000 * b) (by omega)]
  generalize 2000000000 * b / (a + b) = q at *
  rw [z64_id (x := q) ⟨by omega, by omega⟩]
  have p1 : q * c ≤ 2000000000 * c := Int.mul_le_mul_of_nonneg_right q2 (by omega)
  have p0 : 0 ≤ q * c := Int.mul_nonneg q1 (by omega)
  obtain ⟨r1, r2⟩ := zdiv_rg (x := q * c) (y := a + c) (m := 2000000000) (by omega) p0 (by omega)
  rw [z64_id (x := q * c) ⟨by omega, by omega⟩, Int.tdiv_eq_ediv_of_nonneg (a := q * c) p0]
  generalize q * c / (a + c) = d at *
  rw [z64_id (x := d) ⟨by omega, by omega⟩, z64_id ⟨by omega, by omega⟩]
  exact ⟨rfl, by omega, by omega⟩
theorem zst_ok {v : Int} (h1 : -1000000000 ≤ v) (h2 : v ≤ 1000000000) : z64 (Int.tdiv (z64 (z64 (1000000000 + v) * 1000000000)) 2) = (1000000000 + v) * 1000000000 / 2 ∧ (1000000000 + v) * 1000000000 / 2 < 4611686018427387904 ∧ -1000000000 ≤ zqr ((1000000000 + v) * 1000000000 / 2) ∧ zqr ((1000000000 + v) * 1000000000 / 2) ≤ 1000000000 := by
  rw [z64_id (x := 1000000000 + v) ⟨by omega, by omega⟩, z64_id (x := (1000000000 + v) * 1000000000) ⟨by omega, by omega⟩, Int.tdiv_eq_ediv_of_nonneg (by omega), z64_id ⟨by omega, by omega⟩]
  refine ⟨rfl, by omega, ?_, zqr_le (by decide) (by omega)⟩
  have := zqr_nn ((1000000000 + v) * 1000000000 / 2)
  omega
theorem zit_ok : ∀ (n : Nat) (v : Int), -1000000000 ≤ v → v ≤ 1000000000 → -1000000000 ≤ zit n v ∧ zit n v ≤ 1000000000 ∧ (n ≠ 0 → 0 ≤ zit n v)
  | 0, v, h1, h2 => ⟨h1, h2, fun q => absurd rfl q⟩
  | n + 1, v, h1, h2 => by
    obtain ⟨s1, s2, s3, s4⟩ := zst_ok h1 h2
    obtain ⟨r1, r2, r3⟩ := zit_ok n _ s3 s4
    refine ⟨r1, r2, fun _ => ?_⟩
    cases n with
    | zero => exact zqr_nn _
    | succ n => exact r3 (by omega)
theorem zan_rg {a b c : Int} (ha : 1 ≤ a ∧ a ≤ 2000000) (hb : 1 ≤ b ∧ b ≤ 2000000) (hc : 1 ≤ c ∧ c ≤ 2000000) : 0 ≤ zan a b c ∧ zan a b c ≤ 128000000000 := by
  have r0 := zw0_ok ha hb hc
  obtain ⟨r1, r2, r3⟩ := zit_ok 6 (zw0 a b c) r0.2.1 r0.2.2
  have r3 := r3 (by decide)
  unfold zan
  generalize zit 6 (zw0 a b c) = v at *
  have l7 : zqr (2000000000 * (1000000000 - v)) ≤ 2000000000 := zqr_le (by decide) (by omega)
  have n7 := zqr_nn (2000000000 * (1000000000 - v))
  omega
set_option maxRecDepth 100000 in
theorem zk88_go {w : zW} {K : zK} : ∀ (n : Nat) (v i : Int) (d0 d1 d2 d3 d4 d5 d6 d7 d9 : zV), 0 ≤ i → i + n = 6 → -1000000000 ≤ v → v ≤ 1000000000 → (n = 0 → 0 ≤ v) → K (0, some (1, 64 * zqr (2000000000 * (1000000000 - zit n v)))) w 238 → zwp 88 34 [d0, d1, d2, d3, d4, d5, d6, d7, (1, v), d9, (0, i)] [] w 238 0 K := by
  intro n
  induction n with
  | zero =>
    intro v i d0 d1 d2 d3 d4 d5 d6 d7 d9 h1 h2 h3 h4 h5 h
    refine zgo_imp zT21_ok (cut := fun pc => Nat.beq pc 34) 400 ?_
    show if i < 6 then zif False (z64 (Int.tdiv (z64 ((z64 (1000000000 + v)) * 1000000000)) 2) < 9223372036854775808) (zwp 88 34 [(9, 0), (9, 0), (9, 0), (9, 0), (9, 0), (9, 0), (9, 0), (9, 0), (1, zqr (z64 (Int.tdiv (z64 ((z64 (1000000000 + v)) * 1000000000)) 2))), (9, 0), (0, z32 (i + 1))] [] w 238 0 K) else zif False (z64 (2000000000 * (z64 (1000000000 - v))) < 9223372036854775808) (K (0, some (1, z64 (64 * (zqr (z64 (2000000000 * (z64 (1000000000 - v)))))))) w 238)
    have h5 := h5 rfl
    rw [if_neg (by omega), z64_id (x := 1000000000 - v) ⟨by omega, by omega⟩, z64_id (x := 2000000000 * (1000000000 - v)) ⟨by omega, by omega⟩]
    refine zifI (by omega) ?_
    have l7 : zqr (2000000000 * (1000000000 - v)) ≤ 2000000000 := zqr_le (by decide) (by omega)
    have n7 := zqr_nn (2000000000 * (1000000000 - v))
    rw [z64_id (x := 64 * zqr (2000000000 * (1000000000 - v))) ⟨by omega, by omega⟩]
    exact h
  | succ n ih =>
    intro v i d0 d1 d2 d3 d4 d5 d6 d7 d9 h1 h2 h3 h4 h5 h
    refine zgo_imp zT21_ok (cut := fun pc => Nat.beq pc 34) 400 ?_
    show if i < 6 then zif False (z64 (Int.tdiv (z64 ((z64 (1000000000 + v)) * 1000000000)) 2) < 9223372036854775808) (zwp 88 34 [(9, 0), (9, 0), (9, 0), (9, 0), (9, 0), (9, 0), (9, 0), (9, 0), (1, zqr (z64 (Int.tdiv (z64 ((z64 (1000000000 + v)) * 1000000000)) 2))), (9, 0), (0, z32 (i + 1))] [] w 238 0 K) else zif False (z64 (2000000000 * (z64 (1000000000 - v))) < 9223372036854775808) (K (0, some (1, z64 (64 * (zqr (z64 (2000000000 * (z64 (1000000000 - v)))))))) w 238)
    obtain ⟨s1, s2, s3, s4⟩ := zst_ok h3 h4
    rw [if_pos (by omega), s1]
    refine zifI (by omega) ?_
    rw [z32_id (x := i + 1) ⟨by omega, by omega⟩]
    exact ih _ _ _ _ _ _ _ _ _ _ _ (by omega) (by omega) s3 s4 (fun _ => zqr_nn _) h
/-! $Solver.angleBetween -/
set_option maxRecDepth 100000 in
theorem zk88 (a b c : Int) (w : zW) (K : zK) (h : zif False ((1 ≤ a ∧ a ≤ 2000000) ∧ (1 ≤ b ∧ b ≤ 2000000) ∧ (1 ≤ c ∧ c ≤ 2000000)) (K (0, some (1, zan a b c)) w 238)) : zcall 88 [(1, a), (9, 0), (1, b), (9, 0), (1, c), (9, 0), (9, 0), (9, 0), (9, 0), (9, 0), (9, 0)] w 238 K := by
  obtain ⟨hg, h⟩ := zif_e h
  refine zgo_imp zT21_ok (cut := fun pc => Nat.beq pc 34) 400 ?_
  show zif False ((z64 (a + b)) ≠ 0) (zif False ((z64 (a + c)) ≠ 0) (zwp 88 34 [(1, a), (9, 0), (1, b), (9, 0), (1, c), (9, 0), (1, z64 ((z64 (Int.tdiv (z64 (2000000000 * b)) (z64 (a + b)))) * c)), (9, 0), (1, z64 (1000000000 - (z64 (Int.tdiv (z64 ((z64 (Int.tdiv (z64 (2000000000 * b)) (z64 (a + b)))) * c)) (z64 (a + c)))))), (9, 0), (0, 0)] [] w 238 0 K))
  have r0 := zw0_ok hg.1 hg.2.1 hg.2.2
  rw [r0.1, z64_id (x := a + b) ⟨by omega, by omega⟩, z64_id (x := a + c) ⟨by omega, by omega⟩]
  refine zifI (by omega) (zifI (by omega) ?_)
  exact zk88_go 6 _ 0 _ _ _ _ _ _ _ _ _ (by decide) (by decide) r0.2.1 r0.2.2 (fun q => by cases q) h
noncomputable def zb88 (l0 : List zV) (w : zW) (K : zK) : Prop := zA l0 0 fun a => zA l0 2 fun b => zA l0 4 fun c => zif False ((1 ≤ a ∧ a ≤ 2000000) ∧ (1 ≤ b ∧ b ≤ 2000000) ∧ (1 ≤ c ∧ c ≤ 2000000)) (K (0, some (1, zan a b c)) w 238)
noncomputable def zT22 : zSum := zsm1 88 [1, 9, 1, 9, 1, 9, 9, 9, 9, 9, 9] zb88 zT21
theorem zT22_ok : zSok zT22 := zsm1_ok zT21_ok fun l0 w K h => zk88 (zar l0 0) (zar l0 2) (zar l0 4) w K (zA_e (zA_e (zA_e h)))
set_option maxRecDepth 100000 in
theorem zk258_go {w : zW} {K : zK} : ∀ (n : Nat) (v i : Int) (d0 d1 d2 d3 d4 d5 d7 : zV), 0 ≤ i → i + n = 6 → -1000000000 ≤ v → v ≤ 1000000000 → (n = 0 → 0 ≤ v) → K (0, some (1, 64 * zqr (2000000000 * (1000000000 - zit n v)))) w 238 → zwp 258 26 [d0, d1, d2, d3, d4, d5, (1, v), d7, (0, i)] [] w 238 0 K := by
  intro n
  induction n with
  | zero =>
    intro v i d0 d1 d2 d3 d4 d5 d7 h1 h2 h3 h4 h5 h
    refine zgo_imp zT22_ok (cut := fun pc => Nat.beq pc 26) 400 ?_
    show if i < 6 then zif False (z64 (Int.tdiv (z64 ((z64 (1000000000 + v)) * 1000000000)) 2) < 4611686018427387904) (zwp 258 26 [(9, 0), (9, 0), (9, 0), (9, 0), (9, 0), (9, 0), (1, zqr (z64 (Int.tdiv (z64 ((z64 (1000000000 + v)) * 1000000000)) 2))), (9, 0), (0, z32 (i + 1))] [] w 238 0 K) else zif False (z64 (2000000000 * (z64 (1000000000 - v))) < 4611686018427387904) (K (0, some (1, z64 (64 * (zqr (z64 (2000000000 * (z64 (1000000000 - v)))))))) w 238)
    have h5 := h5 rfl
    rw [if_neg (by omega), z64_id (x := 1000000000 - v) ⟨by omega, by omega⟩, z64_id (x := 2000000000 * (1000000000 - v)) ⟨by omega, by omega⟩]
    refine zifI (by omega) ?_
    have l7 : zqr (2000000000 * (1000000000 - v)) ≤ 2000000000 := zqr_le (by decide) (by omega)
    have n7 := zqr_nn (2000000000 * (1000000000 - v))
    rw [z64_id (x := 64 * zqr (2000000000 * (1000000000 - v))) ⟨by omega, by omega⟩]
    exact h
  | succ n ih =>
    intro v i d0 d1 d2 d3 d4 d5 d7 h1 h2 h3 h4 h5 h
    refine zgo_imp zT22_ok (cut := fun pc => Nat.beq pc 26) 400 ?_
    show if i < 6 then zif False (z64 (Int.tdiv (z64 ((z64 (1000000000 + v)) * 1000000000)) 2) < 4611686018427387904) (zwp 258 26 [(9, 0), (9, 0), (9, 0), (9, 0), (9, 0), (9, 0), (1, zqr (z64 (Int.tdiv (z64 ((z64 (1000000000 + v)) * 1000000000)) 2))), (9, 0), (0, z32 (i + 1))] [] w 238 0 K) else zif False (z64 (2000000000 * (z64 (1000000000 - v))) < 4611686018427387904) (K (0, some (1, z64 (64 * (zqr (z64 (2000000000 * (z64 (1000000000 - v)))))))) w 238)
    obtain ⟨s1, s2, s3, s4⟩ := zst_ok h3 h4
    rw [if_pos (by omega), s1]
    refine zifI (by omega) ?_
    rw [z32_id (x := i + 1) ⟨by omega, by omega⟩]
    exact ih _ _ _ _ _ _ _ _ _ (by omega) (by omega) s3 s4 (fun _ => zqr_nn _) h
/-! Model.angleOf -/
set_option maxRecDepth 100000 in
theorem zk258 (a b c : Int) (w : zW) (K : zK) (h : zif False ((1 ≤ a ∧ a ≤ 2000000) ∧ (1 ≤ b ∧ b ≤ 2000000) ∧ (1 ≤ c ∧ c ≤ 2000000)) (K (0, some (1, zan a b c)) w 238)) : zcall 258 [(1, a), (9, 0), (1, b), (9, 0), (1, c), (9, 0), (9, 0), (9, 0), (9, 0)] w 238 K := by
  obtain ⟨hg, h⟩ := zif_e h
  refine zgo_imp zT22_ok (cut := fun pc => Nat.beq pc 26) 400 ?_
  show zif False (z64 (a + b) ≠ 0) (zif False (z64 (a + c) ≠ 0) (zwp 258 26 [(1, a), (9, 0), (1, b), (9, 0), (1, c), (9, 0), (1, z64 (1000000000 - (z64 (Int.tdiv (z64 ((z64 (Int.tdiv (z64 (2000000000 * b)) (z64 (a + b)))) * c)) (z64 (a + c)))))), (9, 0), (0, 0)] [] w 238 0 K))
  have r0 := zw0_ok hg.1 hg.2.1 hg.2.2
  rw [r0.1, z64_id (x := a + b) ⟨by omega, by omega⟩, z64_id (x := a + c) ⟨by omega, by omega⟩]
  refine zifI (by omega) (zifI (by omega) ?_)
  exact zk258_go 6 _ 0 _ _ _ _ _ _ _ (by decide) (by decide) r0.2.1 r0.2.2 (fun q => by cases q) h
noncomputable def zb258 (l0 : List zV) (w : zW) (K : zK) : Prop := zA l0 0 fun a => zA l0 2 fun b => zA l0 4 fun c => zif False ((1 ≤ a ∧ a ≤ 2000000) ∧ (1 ≤ b ∧ b ≤ 2000000) ∧ (1 ≤ c ∧ c ≤ 2000000)) (K (0, some (1, zan a b c)) w 238)
noncomputable def zT23 : zSum := zsm1 258 [1, 9, 1, 9, 1, 9, 9, 9, 9] zb258 zT22
theorem zT23_ok : zSok zT23 := zsm1_ok zT22_ok fun l0 w K h => zk258 (zar l0 0) (zar l0 2) (zar l0 4) w K (zA_e (zA_e (zA_e h)))

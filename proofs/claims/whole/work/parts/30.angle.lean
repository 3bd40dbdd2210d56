/-! ===== angles (written by wip/whole/gen_c.py) ===== -/
def zw0 (a b c : Int) : Int := 1000000000 - 2000000000 * b / (a + b) * c / (a + c)
/-- the angle at the circle a between b and c -/
def zan (a b c : Int) : Int := 64 * zqr (2000000000 * (1000000000 - zqr ((1000000000 + zqr ((1000000000 + zqr ((1000000000 + zqr ((1000000000 + zqr ((1000000000 + zqr ((1000000000 + zw0 a b c) * 1000000000 / 2)) * 1000000000 / 2)) * 1000000000 / 2)) * 1000000000 / 2)) * 1000000000 / 2)) * 1000000000 / 2)))
theorem zdiv_rg {x y m : Int} (hy : 0 < y) (hx : 0 ≤ x) (h : x ≤ m * y) : 0 ≤ x / y ∧ x / y ≤ m :=
  ⟨Int.ediv_nonneg hx (by omega), by
    have := Int.ediv_le_ediv hy h
    rwa [Int.mul_ediv_cancel _ (by omega)] at this⟩
theorem zw0_ok {a b c : Int} (ha : 1 ≤ a ∧ a ≤ 2000000) (hb : 1 ≤ b ∧ b ≤ 2000000) (hc : 1 ≤ c ∧ c ≤ 2000000) :
    z64 (1000000000 - z64 (Int.tdiv (z64 (z64 (Int.tdiv (z64 (2000000000 * b)) (z64 (a + b))) * c)) (z64 (a + c)))) = zw0 a b c ∧ -1000000000 ≤ zw0 a b c ∧ zw0 a b c ≤ 1000000000 := by
  obtain ⟨q1, q2⟩ := zdiv_rg (x := 2000000000 * b) (y := a + b) (m := 2000000000) (by omega) (by omega) (by omega)
  unfold zw0
  rw [z64_id (x := 2000000000 * b) ⟨by omega, by omega⟩, z64_id (x := a + b) ⟨by omega, by omega⟩, z64_id (x := a + c) ⟨by omega, by omega⟩, Int.tdiv_eq_ediv_of_nonneg (a := 2000000000 * b) (by omega)]
  generalize 2000000000 * b / (a + b) = q at *
  rw [z64_id (x := q) ⟨by omega, by omega⟩]
  have p1 : q * c ≤ 2000000000 * c := Int.mul_le_mul_of_nonneg_right q2 (by omega)
  have p0 : 0 ≤ q * c := Int.mul_nonneg q1 (by omega)
  obtain ⟨r1, r2⟩ := zdiv_rg (x := q * c) (y := a + c) (m := 2000000000) (by omega) p0 (by omega)
  rw [z64_id (x := q * c) ⟨by omega, by omega⟩, Int.tdiv_eq_ediv_of_nonneg (a := q * c) p0]
  generalize q * c / (a + c) = d at *
  rw [z64_id (x := d) ⟨by omega, by omega⟩, z64_id ⟨by omega, by omega⟩]
  exact ⟨rfl, by omega, by omega⟩
theorem zst_ok {v : Int} (h1 : -1000000000 ≤ v) (h2 : v ≤ 1000000000) : z64 (Int.tdiv (z64 (z64 (1000000000 + v) * 1000000000)) 2) = (1000000000 + v) * 1000000000 / 2 ∧ (1000000000 + v) * 1000000000 / 2 < 4611686018427387904 ∧ -1000000000 ≤ zqr ((1000000000 + v) * 1000000000 / 2) ∧ zqr ((1000000000 + v) * 1000000000 / 2) ≤ 1000000000 := by
  rw [z64_id (x := 1000000000 + v) ⟨by omega, by omega⟩, z64_id (x := (1000000000 + v) * 1000000000) ⟨by omega, by omega⟩, Int.tdiv_eq_ediv_of_nonneg (by omega), z64_id ⟨by omega, by omega⟩]
  refine ⟨rfl, by omega, ?_, zqr_le (by decide) (by omega)⟩
  have := zqr_nn ((1000000000 + v) * 1000000000 / 2)
  omega
/-! $Solver.angleBetween -/
set_option maxRecDepth 20000 in
theorem zk88 (a b c : Int) (w : zW) (K : zK) (h : zif False ((1 ≤ a ∧ a ≤ 2000000) ∧ (1 ≤ b ∧ b ≤ 2000000) ∧ (1 ≤ c ∧ c ≤ 2000000)) (K (0, some (1, zan a b c)) w 238)) : zcall 88 [(1, a), (9, 0), (1, b), (9, 0), (1, c), (9, 0), (9, 0), (9, 0), (9, 0), (9, 0), (9, 0)] w 238 K := by
  obtain ⟨hg, h⟩ := zif_e h
  refine zgo_imp zT21_ok (cut := fun _ => false) 400 ?_
  show zif False ((z64 (a + b)) ≠ 0) (zif False ((z64 (a + c)) ≠ 0) (zif False (z64 (Int.tdiv (z64 ((z64 (1000000000 + (z64 (1000000000 - (z64 (Int.tdiv (z64 ((z64 (Int.tdiv (z64 (2000000000 * b)) (z64 (a + b)))) * c)) (z64 (a + c)))))))) * 1000000000)) 2) < 9223372036854775808) (zif False (z64 (Int.tdiv (z64 ((z64 (1000000000 + (zqr (z64 (Int.tdiv (z64 ((z64 (1000000000 + (z64 (1000000000 - (z64 (Int.tdiv (z64 ((z64 (Int.tdiv (z64 (2000000000 * b)) (z64 (a + b)))) * c)) (z64 (a + c)))))))) * 1000000000)) 2))))) * 1000000000)) 2) < 9223372036854775808) (zif False (z64 (Int.tdiv (z64 ((z64 (1000000000 + (zqr (z64 (Int.tdiv (z64 ((z64 (1000000000 + (zqr (z64 (Int.tdiv (z64 ((z64 (1000000000 + (z64 (1000000000 - (z64 (Int.tdiv (z64 ((z64 (Int.tdiv (z64 (2000000000 * b)) (z64 (a + b)))) * c)) (z64 (a + c)))))))) * 1000000000)) 2))))) * 1000000000)) 2))))) * 1000000000)) 2) < 9223372036854775808) (zif False (z64 (Int.tdiv (z64 ((z64 (1000000000 + (zqr (z64 (Int.tdiv (z64 ((z64 (1000000000 + (zqr (z64 (Int.tdiv (z64 ((z64 (1000000000 + (zqr (z64 (Int.tdiv (z64 ((z64 (1000000000 + (z64 (1000000000 - (z64 (Int.tdiv (z64 ((z64 (Int.tdiv (z64 (2000000000 * b)) (z64 (a + b)))) * c)) (z64 (a + c)))))))) * 1000000000)) 2))))) * 1000000000)) 2))))) * 1000000000)) 2))))) * 1000000000)) 2) < 9223372036854775808) (zif False (z64 (Int.tdiv (z64 ((z64 (1000000000 + (zqr (z64 (Int.tdiv (z64 ((z64 (1000000000 + (zqr (z64 (Int.tdiv (z64 ((z64 (1000000000 + (zqr (z64 (Int.tdiv (z64 ((z64 (1000000000 + (zqr (z64 (Int.tdiv (z64 ((z64 (1000000000 + (z64 (1000000000 - (z64 (Int.tdiv (z64 ((z64 (Int.tdiv (z64 (2000000000 * b)) (z64 (a + b)))) * c)) (z64 (a + c)))))))) * 1000000000)) 2))))) * 1000000000)) 2))))) * 1000000000)) 2))))) * 1000000000)) 2))))) * 1000000000)) 2) < 9223372036854775808) (zif False (z64 (Int.tdiv (z64 ((z64 (1000000000 + (zqr (z64 (Int.tdiv (z64 ((z64 (1000000000 + (zqr (z64 (Int.tdiv (z64 ((z64 (1000000000 + (zqr (z64 (Int.tdiv (z64 ((z64 (1000000000 + (zqr (z64 (Int.tdiv (z64 ((z64 (1000000000 + (zqr (z64 (Int.tdiv (z64 ((z64 (1000000000 + (z64 (1000000000 - (z64 (Int.tdiv (z64 ((z64 (Int.tdiv (z64 (2000000000 * b)) (z64 (a + b)))) * c)) (z64 (a + c)))))))) * 1000000000)) 2))))) * 1000000000)) 2))))) * 1000000000)) 2))))) * 1000000000)) 2))))) * 1000000000)) 2))))) * 1000000000)) 2) < 9223372036854775808) (zif False (z64 (2000000000 * (z64 (1000000000 - (zqr (z64 (Int.tdiv (z64 ((z64 (1000000000 + (zqr (z64 (Int.tdiv (z64 ((z64 (1000000000 + (zqr (z64 (Int.tdiv (z64 ((z64 (1000000000 + (zqr (z64 (Int.tdiv (z64 ((z64 (1000000000 + (zqr (z64 (Int.tdiv (z64 ((z64 (1000000000 + (zqr (z64 (Int.tdiv (z64 ((z64 (1000000000 + (z64 (1000000000 - (z64 (Int.tdiv (z64 ((z64 (Int.tdiv (z64 (2000000000 * b)) (z64 (a + b)))) * c)) (z64 (a + c)))))))) * 1000000000)) 2))))) * 1000000000)) 2))))) * 1000000000)) 2))))) * 1000000000)) 2))))) * 1000000000)) 2))))) * 1000000000)) 2)))))) < 9223372036854775808) (K (0, some (1, z64 (64 * (zqr (z64 (2000000000 * (z64 (1000000000 - (zqr (z64 (Int.tdiv (z64 ((z64 (1000000000 + (zqr (z64 (Int.tdiv (z64 ((z64 (1000000000 + (zqr (z64 (Int.tdiv (z64 ((z64 (1000000000 + (zqr (z64 (Int.tdiv (z64 ((z64 (1000000000 + (zqr (z64 (Int.tdiv (z64 ((z64 (1000000000 + (zqr (z64 (Int.tdiv (z64 ((z64 (1000000000 + (z64 (1000000000 - (z64 (Int.tdiv (z64 ((z64 (Int.tdiv (z64 (2000000000 * b)) (z64 (a + b)))) * c)) (z64 (a + c)))))))) * 1000000000)) 2))))) * 1000000000)) 2))))) * 1000000000)) 2))))) * 1000000000)) 2))))) * 1000000000)) 2))))) * 1000000000)) 2))))))))))) w 238)))))))))
  have r0 := zw0_ok hg.1 hg.2.1 hg.2.2
  unfold zan at h
  rw [r0.1]
  generalize zw0 a b c = v0 at *
  rw [z64_id (x := a + b) ⟨by omega, by omega⟩, z64_id (x := a + c) ⟨by omega, by omega⟩]
  refine zifI (by omega) (zifI (by omega) ?_)
  have s0 := zst_ok r0.2.1 r0.2.2
  rw [s0.1]
  refine zifI (by have := s0.2.1; omega) ?_
  generalize zqr ((1000000000 + v0) * 1000000000 / 2) = v1 at *
  have s1 := zst_ok s0.2.2.1 s0.2.2.2
  rw [s1.1]
  refine zifI (by have := s1.2.1; omega) ?_
  generalize zqr ((1000000000 + v1) * 1000000000 / 2) = v2 at *
  have s2 := zst_ok s1.2.2.1 s1.2.2.2
  rw [s2.1]
  refine zifI (by have := s2.2.1; omega) ?_
  generalize zqr ((1000000000 + v2) * 1000000000 / 2) = v3 at *
  have s3 := zst_ok s2.2.2.1 s2.2.2.2
  rw [s3.1]
  refine zifI (by have := s3.2.1; omega) ?_
  generalize zqr ((1000000000 + v3) * 1000000000 / 2) = v4 at *
  have s4 := zst_ok s3.2.2.1 s3.2.2.2
  rw [s4.1]
  refine zifI (by have := s4.2.1; omega) ?_
  generalize zqr ((1000000000 + v4) * 1000000000 / 2) = v5 at *
  have s5 := zst_ok s4.2.2.1 s4.2.2.2
  rw [s5.1]
  refine zifI (by have := s5.2.1; omega) ?_
  generalize hv6 : zqr ((1000000000 + v5) * 1000000000 / 2) = v6 at *
  have n6 : 0 ≤ v6 := by rw [← hv6]; exact zqr_nn _
  rw [z64_id (x := 1000000000 - v6) ⟨by omega, by omega⟩, z64_id (x := 2000000000 * (1000000000 - v6)) ⟨by omega, by omega⟩]
  refine zifI (by omega) ?_
  have l7 : zqr (2000000000 * (1000000000 - v6)) ≤ 2000000000 := zqr_le (by decide) (by omega)
  have n7 := zqr_nn (2000000000 * (1000000000 - v6))
  rw [z64_id (x := 64 * zqr (2000000000 * (1000000000 - v6))) ⟨by omega, by omega⟩]
  exact h
def zb88 (l0 : List zV) (w : zW) (K : zK) : Prop := zif False ((1 ≤ (zar l0 0) ∧ (zar l0 0) ≤ 2000000) ∧ (1 ≤ (zar l0 2) ∧ (zar l0 2) ≤ 2000000) ∧ (1 ≤ (zar l0 4) ∧ (zar l0 4) ≤ 2000000)) (K (0, some (1, zan (zar l0 0) (zar l0 2) (zar l0 4))) w 238)
def zT22 : zSum := zsm1 88 [1, 9, 1, 9, 1, 9, 9, 9, 9, 9, 9] zb88 zT21
theorem zT22_ok : zSok zT22 := zsm1_ok zT21_ok fun l0 w K h => zk88 (zar l0 0) (zar l0 2) (zar l0 4) w K h
/-! Model.angleOf -/
set_option maxRecDepth 20000 in
theorem zk258 (a b c : Int) (w : zW) (K : zK) (h : zif False ((1 ≤ a ∧ a ≤ 2000000) ∧ (1 ≤ b ∧ b ≤ 2000000) ∧ (1 ≤ c ∧ c ≤ 2000000)) (K (0, some (1, zan a b c)) w 238)) : zcall 258 [(1, a), (9, 0), (1, b), (9, 0), (1, c), (9, 0), (9, 0), (9, 0), (9, 0)] w 238 K := by
  obtain ⟨hg, h⟩ := zif_e h
  refine zgo_imp zT22_ok (cut := fun _ => false) 400 ?_
  show zif False (z64 (a + b) ≠ 0) (zif False (z64 (a + c) ≠ 0) (zif False (z64 (Int.tdiv (z64 ((z64 (1000000000 + (z64 (1000000000 - (z64 (Int.tdiv (z64 ((z64 (Int.tdiv (z64 (2000000000 * b)) (z64 (a + b)))) * c)) (z64 (a + c)))))))) * 1000000000)) 2) < 4611686018427387904) (zif False (z64 (Int.tdiv (z64 ((z64 (1000000000 + (zqr (z64 (Int.tdiv (z64 ((z64 (1000000000 + (z64 (1000000000 - (z64 (Int.tdiv (z64 ((z64 (Int.tdiv (z64 (2000000000 * b)) (z64 (a + b)))) * c)) (z64 (a + c)))))))) * 1000000000)) 2))))) * 1000000000)) 2) < 4611686018427387904) (zif False (z64 (Int.tdiv (z64 ((z64 (1000000000 + (zqr (z64 (Int.tdiv (z64 ((z64 (1000000000 + (zqr (z64 (Int.tdiv (z64 ((z64 (1000000000 + (z64 (1000000000 - (z64 (Int.tdiv (z64 ((z64 (Int.tdiv (z64 (2000000000 * b)) (z64 (a + b)))) * c)) (z64 (a + c)))))))) * 1000000000)) 2))))) * 1000000000)) 2))))) * 1000000000)) 2) < 4611686018427387904) (zif False (z64 (Int.tdiv (z64 ((z64 (1000000000 + (zqr (z64 (Int.tdiv (z64 ((z64 (1000000000 + (zqr (z64 (Int.tdiv (z64 ((z64 (1000000000 + (zqr (z64 (Int.tdiv (z64 ((z64 (1000000000 + (z64 (1000000000 - (z64 (Int.tdiv (z64 ((z64 (Int.tdiv (z64 (2000000000 * b)) (z64 (a + b)))) * c)) (z64 (a + c)))))))) * 1000000000)) 2))))) * 1000000000)) 2))))) * 1000000000)) 2))))) * 1000000000)) 2) < 4611686018427387904) (zif False (z64 (Int.tdiv (z64 ((z64 (1000000000 + (zqr (z64 (Int.tdiv (z64 ((z64 (1000000000 + (zqr (z64 (Int.tdiv (z64 ((z64 (1000000000 + (zqr (z64 (Int.tdiv (z64 ((z64 (1000000000 + (zqr (z64 (Int.tdiv (z64 ((z64 (1000000000 + (z64 (1000000000 - (z64 (Int.tdiv (z64 ((z64 (Int.tdiv (z64 (2000000000 * b)) (z64 (a + b)))) * c)) (z64 (a + c)))))))) * 1000000000)) 2))))) * 1000000000)) 2))))) * 1000000000)) 2))))) * 1000000000)) 2))))) * 1000000000)) 2) < 4611686018427387904) (zif False (z64 (Int.tdiv (z64 ((z64 (1000000000 + (zqr (z64 (Int.tdiv (z64 ((z64 (1000000000 + (zqr (z64 (Int.tdiv (z64 ((z64 (1000000000 + (zqr (z64 (Int.tdiv (z64 ((z64 (1000000000 + (zqr (z64 (Int.tdiv (z64 ((z64 (1000000000 + (zqr (z64 (Int.tdiv (z64 ((z64 (1000000000 + (z64 (1000000000 - (z64 (Int.tdiv (z64 ((z64 (Int.tdiv (z64 (2000000000 * b)) (z64 (a + b)))) * c)) (z64 (a + c)))))))) * 1000000000)) 2))))) * 1000000000)) 2))))) * 1000000000)) 2))))) * 1000000000)) 2))))) * 1000000000)) 2))))) * 1000000000)) 2) < 4611686018427387904) (zif False (z64 (2000000000 * (z64 (1000000000 - (zqr (z64 (Int.tdiv (z64 ((z64 (1000000000 + (zqr (z64 (Int.tdiv (z64 ((z64 (1000000000 + (zqr (z64 (Int.tdiv (z64 ((z64 (1000000000 + (zqr (z64 (Int.tdiv (z64 ((z64 (1000000000 + (zqr (z64 (Int.tdiv (z64 ((z64 (1000000000 + (zqr (z64 (Int.tdiv (z64 ((z64 (1000000000 + (z64 (1000000000 - (z64 (Int.tdiv (z64 ((z64 (Int.tdiv (z64 (2000000000 * b)) (z64 (a + b)))) * c)) (z64 (a + c)))))))) * 1000000000)) 2))))) * 1000000000)) 2))))) * 1000000000)) 2))))) * 1000000000)) 2))))) * 1000000000)) 2))))) * 1000000000)) 2)))))) < 4611686018427387904) (K (0, some (1, z64 (64 * (zqr (z64 (2000000000 * (z64 (1000000000 - (zqr (z64 (Int.tdiv (z64 ((z64 (1000000000 + (zqr (z64 (Int.tdiv (z64 ((z64 (1000000000 + (zqr (z64 (Int.tdiv (z64 ((z64 (1000000000 + (zqr (z64 (Int.tdiv (z64 ((z64 (1000000000 + (zqr (z64 (Int.tdiv (z64 ((z64 (1000000000 + (zqr (z64 (Int.tdiv (z64 ((z64 (1000000000 + (z64 (1000000000 - (z64 (Int.tdiv (z64 ((z64 (Int.tdiv (z64 (2000000000 * b)) (z64 (a + b)))) * c)) (z64 (a + c)))))))) * 1000000000)) 2))))) * 1000000000)) 2))))) * 1000000000)) 2))))) * 1000000000)) 2))))) * 1000000000)) 2))))) * 1000000000)) 2))))))))))) w 238)))))))))
  have r0 := zw0_ok hg.1 hg.2.1 hg.2.2
  unfold zan at h
  rw [r0.1]
  generalize zw0 a b c = v0 at *
  rw [z64_id (x := a + b) ⟨by omega, by omega⟩, z64_id (x := a + c) ⟨by omega, by omega⟩]
  refine zifI (by omega) (zifI (by omega) ?_)
  have s0 := zst_ok r0.2.1 r0.2.2
  rw [s0.1]
  refine zifI (by have := s0.2.1; omega) ?_
  generalize zqr ((1000000000 + v0) * 1000000000 / 2) = v1 at *
  have s1 := zst_ok s0.2.2.1 s0.2.2.2
  rw [s1.1]
  refine zifI (by have := s1.2.1; omega) ?_
  generalize zqr ((1000000000 + v1) * 1000000000 / 2) = v2 at *
  have s2 := zst_ok s1.2.2.1 s1.2.2.2
  rw [s2.1]
  refine zifI (by have := s2.2.1; omega) ?_
  generalize zqr ((1000000000 + v2) * 1000000000 / 2) = v3 at *
  have s3 := zst_ok s2.2.2.1 s2.2.2.2
  rw [s3.1]
  refine zifI (by have := s3.2.1; omega) ?_
  generalize zqr ((1000000000 + v3) * 1000000000 / 2) = v4 at *
  have s4 := zst_ok s3.2.2.1 s3.2.2.2
  rw [s4.1]
  refine zifI (by have := s4.2.1; omega) ?_
  generalize zqr ((1000000000 + v4) * 1000000000 / 2) = v5 at *
  have s5 := zst_ok s4.2.2.1 s4.2.2.2
  rw [s5.1]
  refine zifI (by have := s5.2.1; omega) ?_
  generalize hv6 : zqr ((1000000000 + v5) * 1000000000 / 2) = v6 at *
  have n6 : 0 ≤ v6 := by rw [← hv6]; exact zqr_nn _
  rw [z64_id (x := 1000000000 - v6) ⟨by omega, by omega⟩, z64_id (x := 2000000000 * (1000000000 - v6)) ⟨by omega, by omega⟩]
  refine zifI (by omega) ?_
  have l7 : zqr (2000000000 * (1000000000 - v6)) ≤ 2000000000 := zqr_le (by decide) (by omega)
  have n7 := zqr_nn (2000000000 * (1000000000 - v6))
  rw [z64_id (x := 64 * zqr (2000000000 * (1000000000 - v6))) ⟨by omega, by omega⟩]
  exact h
def zb258 (l0 : List zV) (w : zW) (K : zK) : Prop := zif False ((1 ≤ (zar l0 0) ∧ (zar l0 0) ≤ 2000000) ∧ (1 ≤ (zar l0 2) ∧ (zar l0 2) ≤ 2000000) ∧ (1 ≤ (zar l0 4) ∧ (zar l0 4) ≤ 2000000)) (K (0, some (1, zan (zar l0 0) (zar l0 2) (zar l0 4))) w 238)
def zT23 : zSum := zsm1 258 [1, 9, 1, 9, 1, 9, 9, 9, 9] zb258 zT22
theorem zT23_ok : zSok zT23 := zsm1_ok zT22_ok fun l0 w K h => zk258 (zar l0 0) (zar l0 2) (zar l0 4) w K h
theorem zan_rg (a b c : Int) (ha : 1 ≤ a ∧ a ≤ 2000000) (hb : 1 ≤ b ∧ b ≤ 2000000) (hc : 1 ≤ c ∧ c ≤ 2000000) : 0 ≤ zan a b c ∧ zan a b c ≤ 128000000000 := by
  have r0 := zw0_ok ha hb hc
  unfold zan
  generalize zw0 a b c = v0 at *
  have s0 := zst_ok r0.2.1 r0.2.2
  generalize zqr ((1000000000 + v0) * 1000000000 / 2) = v1 at *
  have s1 := zst_ok s0.2.2.1 s0.2.2.2
  generalize zqr ((1000000000 + v1) * 1000000000 / 2) = v2 at *
  have s2 := zst_ok s1.2.2.1 s1.2.2.2
  generalize zqr ((1000000000 + v2) * 1000000000 / 2) = v3 at *
  have s3 := zst_ok s2.2.2.1 s2.2.2.2
  generalize zqr ((1000000000 + v3) * 1000000000 / 2) = v4 at *
  have s4 := zst_ok s3.2.2.1 s3.2.2.2
  generalize zqr ((1000000000 + v4) * 1000000000 / 2) = v5 at *
  have s5 := zst_ok s4.2.2.1 s4.2.2.2

  have n6 := zqr_nn ((1000000000 + v5) * 1000000000 / 2)
  generalize zqr ((1000000000 + v5) * 1000000000 / 2) = v6 at *
  have l7 : zqr (2000000000 * (1000000000 - v6)) ≤ 2000000000 := zqr_le (by decide) (by omega)
  have n7 := zqr_nn (2000000000 * (1000000000 - v6))
  omega

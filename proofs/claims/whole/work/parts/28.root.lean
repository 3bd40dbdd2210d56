/-! ===== roots (written by wip/whole/gen28.py) ===== -/
/-- the greatest number up to k whose square is no greater than n -/
def zsq (n : Nat) : Nat → Nat
  | 0 => 0
  | k + 1 => if (k + 1) * (k + 1) ≤ n then k + 1 else zsq n k
theorem zsq_sq (n : Nat) : ∀ k, zsq n k * zsq n k ≤ n ∧ ∀ j, j ≤ k → j * j ≤ n → j ≤ zsq n k
  | 0 => ⟨Nat.zero_le _, fun j hj _ => hj⟩
  | k + 1 => by
    unfold zsq
    by_cases h : (k + 1) * (k + 1) ≤ n
    · rw [if_pos h]; exact ⟨h, fun j hj _ => hj⟩
    · rw [if_neg h]
      refine ⟨(zsq_sq n k).1, fun j hj hq => ?_⟩
      by_cases e : j = k + 1
      · subst e; exact absurd hq h
      · exact (zsq_sq n k).2 j (by omega) hq
theorem zqr_ex (n : Int) : ∃ r : Int, r = ((zsq n.toNat n.toNat : Nat) : Int) := ⟨_, rfl⟩
/-- the root; by choice, so that nothing looks into it -/
noncomputable def zqr (n : Int) : Int := Classical.choose (zqr_ex n)
theorem zqr_e (n : Int) : zqr n = ((zsq n.toNat n.toNat : Nat) : Int) := Classical.choose_spec (zqr_ex n)
theorem zqr_spec {n : Int} (h : 0 ≤ n) : 0 ≤ zqr n ∧ zqr n * zqr n ≤ n ∧ n < (zqr n + 1) * (zqr n + 1) := by
  rw [zqr_e]
  obtain ⟨h1, h2⟩ := zsq_sq n.toNat n.toNat
  refine ⟨Int.natCast_nonneg _, ?_, ?_⟩
  · have : ((zsq n.toNat n.toNat * zsq n.toNat n.toNat : Nat) : Int) ≤ n := by omega
    rw [Int.natCast_mul] at this
    exact this
  · by_cases hq : (zsq n.toNat n.toNat + 1) * (zsq n.toNat n.toNat + 1) ≤ n.toNat
    · have hle : zsq n.toNat n.toNat + 1 ≤ n.toNat := Nat.le_trans (Nat.le_mul_of_pos_left _ (by omega)) hq
      have := h2 _ hle hq
      omega
    · have : n < (((zsq n.toNat n.toNat + 1) * (zsq n.toNat n.toNat + 1) : Nat) : Int) := by omega
      rw [Int.natCast_mul, Int.natCast_add] at this
      exact this
theorem zqr_unique {n r : Int} (h0 : 0 ≤ r) (h1 : r * r ≤ n) (h2 : n < (r + 1) * (r + 1)) : r = zqr n := by
  obtain ⟨g0, g1, g2⟩ := zqr_spec (Int.le_trans (Int.mul_nonneg h0 h0) h1)
  rcases Int.lt_trichotomy r (zqr n) with q | q | q
  · have := Int.mul_le_mul (show r + 1 ≤ zqr n by omega) (show r + 1 ≤ zqr n by omega) (by omega) g0
    omega
  · exact q
  · have := Int.mul_le_mul (show zqr n + 1 ≤ r by omega) (show zqr n + 1 ≤ r by omega) (by omega) h0
    omega
theorem zqr_neg {n : Int} (h : n ≤ 0) : zqr n = 0 := by
  rw [zqr_e]
  rw [show n.toNat = 0 by omega]; rfl
theorem zqr_nn (n : Int) : 0 ≤ zqr n := by rw [zqr_e]; exact Int.natCast_nonneg _
theorem zqr_pos {n : Int} (h : 0 < n) : 1 ≤ zqr n := by
  obtain ⟨g0, g1, g2⟩ := zqr_spec (Int.le_of_lt h)
  by_cases q : zqr n = 0
  · rw [q] at g2; omega
  · omega
theorem zqr_lt {n b : Int} (hb : 0 ≤ b) (h : n < b * b) : zqr n < b ∨ b = 0 := by
  by_cases hn : 0 ≤ n
  · obtain ⟨g0, g1, g2⟩ := zqr_spec hn
    by_cases q : zqr n < b
    · exact Or.inl q
    · have := Int.mul_le_mul (show b ≤ zqr n by omega) (show b ≤ zqr n by omega) hb g0
      omega
  · rw [zqr_neg (by omega)]; omega
theorem zqr_le {n b : Int} (hb : 0 ≤ b) (h : n < (b + 1) * (b + 1)) : zqr n ≤ b := by
  have := zqr_lt (b := b + 1) (by omega) h
  omega
theorem zqr_mono {a b : Int} (h : a ≤ b) : zqr a ≤ zqr b := by
  by_cases hb : 0 ≤ b
  · exact zqr_le (zqr_nn b) (Int.lt_of_le_of_lt h (zqr_spec hb).2.2)
  · rw [zqr_neg (by omega)]; exact zqr_nn b
/-- a step of Newton's -/
theorem znewton {n s r : Int} (hs1 : s * s ≤ n) (hs2 : n < (s + 1) * (s + 1)) (h1 : 1 ≤ s) (hr : s ≤ r) : s ≤ (r + n / r) / 2 ∧ (s < r → 2 * ((r + n / r) / 2 - s) ≤ r - s) ∧ 0 ≤ n / r ∧ n / r ≤ s + 2 := by
  have r0 : 0 < r := by omega
  have n0 : 0 ≤ n := Int.le_trans (Int.mul_nonneg (by omega) (by omega)) hs1
  have hq1 : n / r * r ≤ n := Int.ediv_mul_le n (by omega)
  have hq2 : n < (n / r + 1) * r := Int.lt_ediv_add_one_mul_self n r0
  have hq0 : 0 ≤ n / r := Int.ediv_nonneg n0 (by omega)
  generalize n / r = q at *
  have e2 : (s + 1) * (s + 1) = s * s + 2 * s + 1 := by rw [Int.add_mul, Int.mul_add]; omega
  refine ⟨?_, fun hlt => ?_, hq0, ?_⟩
  · by_cases h : 2 * s ≤ r + q
    · omega
    · have g1 : (q + 1) * r ≤ (2 * s - r) * r := Int.mul_le_mul_of_nonneg_right (by omega) (by omega)
      have g2 : (2 * s - r) * r = s * s - (r - s) * (r - s) := by
        rw [Int.sub_mul, Int.sub_mul, Int.mul_sub, Int.mul_sub, Int.mul_assoc, Int.mul_comm r s]; omega
      have g3 : 0 ≤ (r - s) * (r - s) := Int.mul_nonneg (by omega) (by omega)
      omega
  · by_cases h : q ≤ s
    · omega
    · have g1 : (s + 1) * (s + 1) ≤ q * r := Int.mul_le_mul (by omega) (by omega) (by omega) (by omega)
      omega
  · by_cases h : q ≤ s + 2
    · exact h
    · have g1 : (s + 3) * s ≤ q * r := Int.mul_le_mul (by omega) (by omega) (by omega) (by omega)
      have g2 : (s + 3) * s = s * s + 3 * s := by rw [Int.add_mul]
      omega
/-- the class's loop -/
theorem zk196_go {n : Int} {w : zW} {K : zK} (hn0 : 0 < n) (hn : n < 9223372036854775808) (h : K (0, some (1, zqr n)) w 238) : ∀ (b : Nat) (r i : Int) (d1 d2 : zV), zqr n ≤ r → r ≤ 4294967296 → r - zqr n < ((2 ^ b : Nat) : Int) → 0 ≤ i → i + b ≤ 40 → zwp 196 15 [(1, n), (9, 0), (1, r), (9, 0), (0, i), d1, d2] [] w 238 0 K := by
  obtain ⟨s0, s1, s2⟩ := zqr_spec (Int.le_of_lt hn0)
  have s3 := zqr_pos hn0
  generalize hs : zqr n = s at *
  intro b
  induction b with
  | zero =>
    intro r i d1 d2 h1 h2 h3 h4 h5
    have e : r = s := by have : ((2 ^ 0 : Nat) : Int) = 1 := rfl; omega
    subst e
    obtain ⟨g1, g2, g3, g4⟩ := znewton s1 s2 s3 (Int.le_refl r)
    refine zgo_imp zcall0_ok (cut := fun pc => Nat.beq pc 15) 60 ?_
    show if i < 64 then if 0 < r then zif False (r ≠ 0) (if z64 (Int.tdiv (z64 (r + (z64 (Int.tdiv n r)))) 2) < r then zwp 196 15 [(1, n), (9, 0), (1, z64 (Int.tdiv (z64 (r + (z64 (Int.tdiv n r)))) 2)), (9, 0), (0, z32 (i + 1)), (1, z64 (Int.tdiv (z64 (r + (z64 (Int.tdiv n r)))) 2)), (9, 0)] [] w 238 0 K else K (0, some (1, r)) w 238) else K (0, some (1, r)) w 238 else K (0, some (1, r)) w 238
    rw [if_pos (by omega), if_pos (by omega)]
    refine zifI (by omega) ?_
    rw [Int.tdiv_eq_ediv_of_nonneg (a := n) (by omega), z64_id (x := n / r) ⟨by omega, by omega⟩, z64_id (x := r + n / r) ⟨by omega, by omega⟩, Int.tdiv_eq_ediv_of_nonneg (a := r + n / r) (by omega), z64_id (x := (r + n / r) / 2) ⟨by omega, by omega⟩, if_neg (by omega)]
    exact h
  | succ b ih =>
    intro r i d1 d2 h1 h2 h3 h4 h5
    obtain ⟨g1, g2, g3, g4⟩ := znewton s1 s2 s3 h1
    refine zgo_imp zcall0_ok (cut := fun pc => Nat.beq pc 15) 60 ?_
    show if i < 64 then if 0 < r then zif False (r ≠ 0) (if z64 (Int.tdiv (z64 (r + (z64 (Int.tdiv n r)))) 2) < r then zwp 196 15 [(1, n), (9, 0), (1, z64 (Int.tdiv (z64 (r + (z64 (Int.tdiv n r)))) 2)), (9, 0), (0, z32 (i + 1)), (1, z64 (Int.tdiv (z64 (r + (z64 (Int.tdiv n r)))) 2)), (9, 0)] [] w 238 0 K else K (0, some (1, r)) w 238) else K (0, some (1, r)) w 238 else K (0, some (1, r)) w 238
    rw [if_pos (by omega), if_pos (by omega)]
    refine zifI (by omega) ?_
    rw [Int.tdiv_eq_ediv_of_nonneg (a := n) (by omega), z64_id (x := n / r) ⟨by omega, by omega⟩, z64_id (x := r + n / r) ⟨by omega, by omega⟩, Int.tdiv_eq_ediv_of_nonneg (a := r + n / r) (by omega), z64_id (x := (r + n / r) / 2) ⟨by omega, by omega⟩, z32_id ⟨by omega, by omega⟩]
    by_cases hlt : s < r
    · have g2 := g2 hlt
      rw [if_pos (by omega)]
      have hp : ((2 ^ (b + 1) : Nat) : Int) = 2 * ((2 ^ b : Nat) : Int) := by rw [Nat.pow_succ]; omega
      exact ih _ _ _ _ g1 (by omega) (by omega) (by omega) (by omega)
    · have e : r = s := by omega
      subst e
      rw [if_neg (by omega)]
      exact h
theorem zk196 (n : Int) (w : zW) (K : zK) (h : zif False (n < 9223372036854775808) (K (0, some (1, zqr n)) w 238)) : zcall 196 [(1, n), (9, 0), (9, 0), (9, 0), (9, 0), (9, 0), (9, 0)] w 238 K := by
  obtain ⟨hn, h⟩ := zif_e h
  refine zgo_imp zcall0_ok (cut := fun pc => Nat.beq pc 15) 60 ?_
  show if 0 < n then zwp 196 15 [(1, n), (9, 0), (1, 4294967296), (9, 0), (0, 0), (9, 0), (9, 0)] [] w 238 0 K else K (0, some (1, 0)) w 238
  by_cases h0 : 0 < n
  · rw [if_pos h0]
    have h2 : zqr n ≤ 4294967296 := zqr_le (by decide) (by omega)
    have := zqr_pos h0
    exact zk196_go h0 hn h 33 4294967296 0 _ _ h2 (by decide) (by show 4294967296 - zqr n < 8589934592; omega) (by decide) (by decide)
  · rw [if_neg h0]
    rw [zqr_neg (by omega)] at h
    exact h
/-- the model's loop: bit by bit -/
theorem zor_bit {m : Int} {j : Nat} (hm : 0 ≤ m) (hj : j < 31) (hb : m * ((2 ^ (j + 1) : Nat) : Int) < 2147483648) : (Int64.ofInt (m * ((2 ^ (j + 1) : Nat) : Int)) ||| Int64.ofInt ((2 ^ j : Nat) : Int)).toInt = m * ((2 ^ (j + 1) : Nat) : Int) + ((2 ^ j : Nat) : Int) := by
  have hp : 2 ^ j < 2 ^ 31 := Nat.pow_lt_pow_right (by decide) hj
  have hp2 : (2 ^ 31 : Nat) = 2147483648 := by decide
  have h0 : 0 ≤ m * ((2 ^ (j + 1) : Nat) : Int) := Int.mul_nonneg hm (Int.natCast_nonneg _)
  have h1 : 0 ≤ ((2 ^ j : Nat) : Int) := Int.natCast_nonneg _
  have h2 : ((2 ^ j : Nat) : Int) < 9223372036854775808 := by rw [hp2] at hp; have := Int.ofNat_lt.mpr hp; omega
  rw [zl_or ⟨h0, by omega⟩ ⟨h1, h2⟩]
  have e1 : (m * ((2 ^ (j + 1) : Nat) : Int)).toNat = 2 ^ (j + 1) * m.toNat := by
    have : m = (m.toNat : Int) := by omega
    rw [this, ← Int.natCast_mul, Int.toNat_natCast, Int.toNat_natCast, Nat.mul_comm]
  have e2 := Nat.two_pow_add_eq_or_of_lt (i := j + 1) (b := 2 ^ j) (Nat.pow_lt_pow_right (by decide) (by omega)) m.toNat
  rw [e1, Int.toNat_natCast, ← e2, Int.natCast_add, Int.natCast_mul]
  rw [show ((m.toNat : Nat) : Int) = m by omega, Int.mul_comm]
theorem zk257_go {n : Int} {w : zW} {K : zK} (hn : n < 4611686018427387904) (h : K (0, some (1, zqr n)) w 238) : ∀ (j : Nat) (m : Int) (d1 d2 d3 : zV), j ≤ 31 → 0 ≤ m → (0 ≤ n → m * ((2 ^ j : Nat) : Int) * (m * ((2 ^ j : Nat) : Int)) ≤ n) → (n < 0 → m = 0) → n < (m * ((2 ^ j : Nat) : Int) + ((2 ^ j : Nat) : Int)) * (m * ((2 ^ j : Nat) : Int) + ((2 ^ j : Nat) : Int)) → m * ((2 ^ j : Nat) : Int) < 2147483648 →
    zwp 257 7 [(1, n), (9, 0), (1, m * ((2 ^ j : Nat) : Int)), (9, 0), (1, ((2 ^ j : Nat) : Int) / 2), d1, d2, d3] [] w 238 0 K := by
  intro j
  induction j with
  | zero =>
    intro m d1 d2 d3 h1 h2 h3 h4 h5 h6
    refine zgo_imp zcall0_ok (cut := fun pc => Nat.beq pc 7) 60 ?_
    show if 0 < (((2 ^ 0 : Nat) : Int) / 2) then if n < z64 (((Int64.ofInt (m * ((2 ^ 0 : Nat) : Int)) ||| Int64.ofInt (((2 ^ 0 : Nat) : Int) / 2)).toInt) * ((Int64.ofInt (m * ((2 ^ 0 : Nat) : Int)) ||| Int64.ofInt (((2 ^ 0 : Nat) : Int) / 2)).toInt)) then zwp 257 7 [(1, n), (9, 0), (1, (m * ((2 ^ 0 : Nat) : Int))), (9, 0), (1, (Int64.ofInt (((2 ^ 0 : Nat) : Int) / 2) >>> ((Int32.ofInt 1).toInt64 &&& 63)).toInt), (9, 0), (9, 0), (9, 0)] [] w 238 0 K else zwp 257 7 [(1, n), (9, 0), (1, (Int64.ofInt (m * ((2 ^ 0 : Nat) : Int)) ||| Int64.ofInt (((2 ^ 0 : Nat) : Int) / 2)).toInt), (9, 0), (1, (Int64.ofInt (((2 ^ 0 : Nat) : Int) / 2) >>> ((Int32.ofInt 1).toInt64 &&& 63)).toInt), (9, 0), (9, 0), (9, 0)] [] w 238 0 K else K (0, some (1, (m * ((2 ^ 0 : Nat) : Int)))) w 238
    rw [if_neg (by decide)]
    have e : m * ((2 ^ 0 : Nat) : Int) = m := Int.mul_one m
    rw [e] at h3 h5 ⊢
    have h5 : n < (m + 1) * (m + 1) := h5
    by_cases h0 : 0 ≤ n
    · rw [zqr_unique h2 (h3 h0) h5]; exact h
    · rw [h4 (by omega), ← zqr_neg (n := n) (by omega)]; exact h
  | succ j ih =>
    intro m d1 d2 d3 h1 h2 h3 h4 h5 h6
    have hp : ((2 ^ (j + 1) : Nat) : Int) / 2 = ((2 ^ j : Nat) : Int) := by rw [Nat.pow_succ]; omega
    have hp1 : ((2 ^ (j + 1) : Nat) : Int) = 2 * ((2 ^ j : Nat) : Int) := by rw [Nat.pow_succ]; omega
    have hp3 : 0 < 2 ^ j := Nat.pow_pos (by decide)
    have hpb : 2 ^ j ≤ 2 ^ 30 := Nat.pow_le_pow_right (by decide) (by omega)
    have hpc : (2 ^ 30 : Nat) = 1073741824 := by decide
    have ho := zor_bit h2 (show j < 31 by omega) h6
    have e1 : m * ((2 ^ (j + 1) : Nat) : Int) = (2 * m) * ((2 ^ j : Nat) : Int) := by rw [hp1, ← Int.mul_assoc, Int.mul_comm m 2]
    have e2 : m * ((2 ^ (j + 1) : Nat) : Int) + ((2 ^ j : Nat) : Int) = (2 * m + 1) * ((2 ^ j : Nat) : Int) := by rw [e1, Int.add_mul, Int.one_mul]
    have hsh : (Int64.ofInt ((2 ^ j : Nat) : Int) >>> ((Int32.ofInt 1).toInt64 &&& 63)).toInt = ((2 ^ j : Nat) : Int) / 2 := zl_shr (s := 1) (by decide) ⟨by omega, by omega⟩
    rw [hp]
    refine zgo_imp zcall0_ok (cut := fun pc => Nat.beq pc 7) 60 ?_
    show if 0 < ((2 ^ j : Nat) : Int) then if n < z64 (((Int64.ofInt (m * ((2 ^ (j + 1) : Nat) : Int)) ||| Int64.ofInt ((2 ^ j : Nat) : Int)).toInt) * ((Int64.ofInt (m * ((2 ^ (j + 1) : Nat) : Int)) ||| Int64.ofInt ((2 ^ j : Nat) : Int)).toInt)) then zwp 257 7 [(1, n), (9, 0), (1, (m * ((2 ^ (j + 1) : Nat) : Int))), (9, 0), (1, (Int64.ofInt ((2 ^ j : Nat) : Int) >>> ((Int32.ofInt 1).toInt64 &&& 63)).toInt), (9, 0), (9, 0), (9, 0)] [] w 238 0 K else zwp 257 7 [(1, n), (9, 0), (1, (Int64.ofInt (m * ((2 ^ (j + 1) : Nat) : Int)) ||| Int64.ofInt ((2 ^ j : Nat) : Int)).toInt), (9, 0), (1, (Int64.ofInt ((2 ^ j : Nat) : Int) >>> ((Int32.ofInt 1).toInt64 &&& 63)).toInt), (9, 0), (9, 0), (9, 0)] [] w 238 0 K else K (0, some (1, (m * ((2 ^ (j + 1) : Nat) : Int)))) w 238
    rw [if_pos (by omega), ho, hsh, e2]
    have hr0 : 0 ≤ (2 * m) * ((2 ^ j : Nat) : Int) := Int.mul_nonneg (by omega) (by omega)
    rw [e1] at h3 h5 h6
    have hp9 : (2 * m + 1) * ((2 ^ j : Nat) : Int) = (2 * m) * ((2 ^ j : Nat) : Int) + ((2 ^ j : Nat) : Int) := by rw [Int.add_mul, Int.one_mul]
    have hlt : (2 * m + 1) * ((2 ^ j : Nat) : Int) < 2147483648 := by
      have hz : m ≤ m * 1 := by omega
      have hm : (2 * m) * ((2 ^ j : Nat) : Int) = 2 * (m * ((2 ^ j : Nat) : Int)) := by rw [Int.mul_assoc]
      have hdv : (2147483648 : Int) = 2 * ((2 ^ (30 - j) : Nat) : Int) * ((2 ^ j : Nat) : Int) := by
        have : (2 ^ (30 - j) * 2 ^ j : Nat) = 1073741824 := by rw [← Nat.pow_add, show 30 - j + j = 30 by omega]
        have := congrArg (fun x : Nat => (x : Int)) this
        simp only [Int.natCast_mul] at this
        rw [Int.mul_assoc, this]; rfl
      rw [hdv] at h6 ⊢
      have hk : 2 * m < 2 * ((2 ^ (30 - j) : Nat) : Int) := Int.lt_of_mul_lt_mul_right h6 (by omega)
      exact Int.mul_lt_mul_of_pos_right (by omega) (by omega)
    have hsq : zr64 ((2 * m + 1) * ((2 ^ j : Nat) : Int) * ((2 * m + 1) * ((2 ^ j : Nat) : Int))) := by
      have a0 : 0 ≤ (2 * m + 1) * ((2 ^ j : Nat) : Int) := by omega
      have := Int.mul_le_mul (show (2 * m + 1) * ((2 ^ j : Nat) : Int) ≤ 2147483647 by omega) (show (2 * m + 1) * ((2 ^ j : Nat) : Int) ≤ 2147483647 by omega) a0 (by decide)
      have := Int.mul_nonneg a0 a0
      exact ⟨by omega, by omega⟩
    rw [z64_id hsq]
    by_cases hc : n < (2 * m + 1) * ((2 ^ j : Nat) : Int) * ((2 * m + 1) * ((2 ^ j : Nat) : Int))
    · rw [if_pos hc, e1]
      exact ih (2 * m) _ _ _ (by omega) (by omega) h3 (fun q => by rw [h4 q]; rfl) (by rw [← hp9]; exact hc) (by omega)
    · rw [if_neg hc]
      have hn0 : 0 ≤ n := Int.le_trans (Int.mul_nonneg (show 0 ≤ (2 * m + 1) * ((2 ^ j : Nat) : Int) by omega) (by omega)) (Int.not_lt.mp hc)
      refine ih (2 * m + 1) _ _ _ (by omega) (by omega) (fun _ => Int.not_lt.mp hc) (fun q => by omega) ?_ hlt
      have e9 : (2 * m + 1) * ((2 ^ j : Nat) : Int) + ((2 ^ j : Nat) : Int) = (2 * m) * ((2 ^ j : Nat) : Int) + ((2 ^ (j + 1) : Nat) : Int) := by rw [hp1]; omega
      rw [e9]; exact h5
theorem zk257 (n : Int) (w : zW) (K : zK) (h : zif False (n < 4611686018427387904) (K (0, some (1, zqr n)) w 238)) : zcall 257 [(1, n), (9, 0), (9, 0), (9, 0), (9, 0), (9, 0), (9, 0), (9, 0)] w 238 K := by
  obtain ⟨hn, h⟩ := zif_e h
  refine zgo_imp zcall0_ok (cut := fun pc => Nat.beq pc 7) 60 ?_
  show zwp 257 7 [(1, n), (9, 0), (1, 0), (9, 0), (1, 1073741824), (9, 0), (9, 0), (9, 0)] [] w 238 0 K
  have := zk257_go hn h 31 0 (9, 0) (9, 0) (9, 0) (by decide) (by decide) (fun q => by omega) (fun _ => rfl) (by show n < 2147483648 * 2147483648; omega) (by decide)
  exact this

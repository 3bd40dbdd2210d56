/-! ===== the model: sums, solving, bounds (written by wip/whole/gen_c.py) ===== -/
/-! Model.cornerOf -/
set_option maxRecDepth 100000 in
theorem zk246_93 (f k : Int) (w : zW) (K : zK) (h : ((0 ≤ f ∧ f < 60) ∧ 0 ≤ k ∧ k < 1000) ∧ (K (0, some (0, w 99 (3 * f + k % 3).toNat)) (w) 238)) : zcall 246 [(2, 93), (0, f), (0, k)] w 238 K := by
  obtain ⟨hg, h⟩ := h
  refine (show (zif False (0 ≤ z32 ((z32 (3 * f)) + (z32 (Int.tmod k 3))) ∧ z32 ((z32 (3 * f)) + (z32 (Int.tmod k 3))) < 180) (K (0, some (0, w 99 (z32 ((z32 (3 * f)) + (z32 (Int.tmod k 3)))).toNat)) w 238)) → _ from fun h => show zwp 246 0 [(2, 93), (0, f), (0, k)] [] w 238 0 K from zgo_imp zT62_ok (cut := fun pc => Nat.beq pc 11) 400 (show zwp 246 11 [(2, 93), (0, f), (0, k)] [(0, z32 ((z32 (3 * f)) + (z32 (Int.tmod k 3)))), (2, 99)] w 238 0 K from (fun h => show zwp 246 11 [(2, 93), (0, f), (0, k)] [(0, z32 ((z32 (3 * f)) + (z32 (Int.tmod k 3)))), (2, 99)] w 238 0 K from zgo_imp zT62_ok (cut := fun pc => Nat.beq pc 11) 400 (show zif False (0 ≤ z32 ((z32 (3 * f)) + (z32 (Int.tmod k 3))) ∧ z32 ((z32 (3 * f)) + (z32 (Int.tmod k 3))) < 180) (K (0, some (0, w 99 (z32 ((z32 (3 * f)) + (z32 (Int.tmod k 3)))).toNat)) w 238) from h)) h)) ?_
  have e1 : Int.tmod k 3 = k % 3 := Int.tmod_eq_emod_of_nonneg (by omega)
  have e : z32 (z32 (3 * f) + z32 (Int.tmod k 3)) = 3 * f + k % 3 := by rw [e1, z32_id (x := 3 * f) ⟨by omega, by omega⟩, z32_id (x := k % 3) ⟨by omega, by omega⟩, z32_id ⟨by omega, by omega⟩]
  rw [e]
  exact zifI (by omega) h
noncomputable def zb246 (l0 : List zV) (w : zW) (K : zK) : Prop := cond (zpe (zar l0 0) 93) (zA l0 1 fun f => zA l0 2 fun k => ((0 ≤ f ∧ f < 60) ∧ 0 ≤ k ∧ k < 1000) ∧ (K (0, some (0, w 99 (3 * f + k % 3).toNat)) (w) 238)) (False)
noncomputable def zT63 : zSum := zsm1 246 [2, 0, 0] zb246 zT62
theorem zT63_ok : zSok zT63 := zsm1_ok zT62_ok fun l0 w K h => by
  unfold zb246 at h
  cases q0 : zpe (zar l0 0) 93 with
  | true =>
    rw [q0, cond_true] at h
    have e : zar l0 0 = 93 := zpe_e q0
    show zcall 246 [(2, zar l0 0), (0, zar l0 1), (0, zar l0 2)] w 238 K
    rw [e]
    exact zk246_93 (zar l0 1) (zar l0 2) w K (zA_e (zA_e h))
  | false =>
  rw [q0, cond_false] at h
  exact h.elim
/-! Model.radiusOf -/
set_option maxRecDepth 100000 in
theorem zk260_93 (f k : Int) (w : zW) (K : zK) (h : (((0 ≤ f ∧ f < 60) ∧ 0 ≤ k ∧ k < 1000) ∧ 0 ≤ w 99 (3 * f + k % 3).toNat ∧ w 99 (3 * f + k % 3).toNat < 36) ∧ (K (0, some (1, w 98 (w 99 (3 * f + k % 3).toNat).toNat)) (w) 238)) : zcall 260 [(2, 93), (0, f), (0, k)] w 238 K := by
  obtain ⟨hg, h⟩ := h
  refine (show (((0 ≤ f ∧ f < 60) ∧ 0 ≤ k ∧ k < 1000) ∧ (zif False (0 ≤ w 99 (3 * f + k % 3).toNat ∧ w 99 (3 * f + k % 3).toNat < 36) (K (0, some (1, w 98 (w 99 (3 * f + k % 3).toNat).toNat)) w 238))) → _ from fun h => show zwp 260 0 [(2, 93), (0, f), (0, k)] [] w 238 0 K from zgo_imp zT63_ok (cut := fun pc => Nat.beq pc 10) 400 (show ((0 ≤ f ∧ f < 60) ∧ 0 ≤ k ∧ k < 1000) ∧ (zwp 260 10 [(2, 93), (0, f), (0, k)] [(0, w 99 (3 * f + k % 3).toNat), (2, 98)] w 238 0 K) from zmA (fun h => (fun h => show zwp 260 10 [(2, 93), (0, f), (0, k)] [(0, w 99 (3 * f + k % 3).toNat), (2, 98)] w 238 0 K from zgo_imp zT63_ok (cut := fun pc => Nat.beq pc 10) 400 (show zif False (0 ≤ w 99 (3 * f + k % 3).toNat ∧ w 99 (3 * f + k % 3).toNat < 36) (K (0, some (1, w 98 (w 99 (3 * f + k % 3).toNat).toNat)) w 238) from h)) h) h)) ?_
  exact ⟨hg.1, zifI hg.2 h⟩
noncomputable def zb260 (l0 : List zV) (w : zW) (K : zK) : Prop := cond (zpe (zar l0 0) 93) (zA l0 1 fun f => zA l0 2 fun k => (((0 ≤ f ∧ f < 60) ∧ 0 ≤ k ∧ k < 1000) ∧ 0 ≤ w 99 (3 * f + k % 3).toNat ∧ w 99 (3 * f + k % 3).toNat < 36) ∧ (K (0, some (1, w 98 (w 99 (3 * f + k % 3).toNat).toNat)) (w) 238)) (False)
noncomputable def zT64 : zSum := zsm1 260 [2, 0, 0] zb260 zT63
theorem zT64_ok : zSok zT64 := zsm1_ok zT63_ok fun l0 w K h => by
  unfold zb260 at h
  cases q0 : zpe (zar l0 0) 93 with
  | true =>
    rw [q0, cond_true] at h
    have e : zar l0 0 = 93 := zpe_e q0
    show zcall 260 [(2, zar l0 0), (0, zar l0 1), (0, zar l0 2)] w 238 K
    rw [e]
    exact zk260_93 (zar l0 1) (zar l0 2) w K (zA_e (zA_e h))
  | false =>
  rw [q0, cond_false] at h
  exact h.elim
/-! Model.held -/
set_option maxRecDepth 100000 in
theorem zk262 (x : Int) (w : zW) (K : zK) (h : K (0, some (1, max 1 x)) (w) 238) : zcall 262 [(1, x), (9, 0)] w 238 K := by
  refine (show (if x < 1 then K (0, some (1, 1)) w 238 else K (0, some (1, x)) w 238) → _ from fun h => show zwp 262 0 [(1, x), (9, 0)] [] w 238 0 K from zgo_imp zT64_ok (cut := fun pc => false) 400 (show if x < 1 then K (0, some (1, 1)) w 238 else K (0, some (1, x)) w 238 from h)) ?_
  by_cases q : x < 1
  · exact ziT q (zKe h (by omega))
  · exact ziF q (zKe h (by omega))
noncomputable def zb262 (l0 : List zV) (w : zW) (K : zK) : Prop := zA l0 0 fun x => K (0, some (1, max 1 x)) (w) 238
noncomputable def zT65 : zSum := zsm1 262 [1, 9] zb262 zT64
theorem zT65_ok : zSok zT65 := zsm1_ok zT64_ok fun l0 w K h => zk262 (zar l0 0) w K (zA_e h)
set_option maxRecDepth 100000 in
theorem zk263_L6 {w : zW} {K : zK} (hN : zNt w) (hr : zRd 98 w) (c r d : Int) (hc : 0 ≤ c ∧ c < w 95 0) (ho : 1 ≤ r ∧ r ≤ 1001000) (hd : -1000 ≤ d ∧ d ≤ 1000)  : ∀ (m : Nat) (i s : Int) (d3 d6 : zV), (0 ≤ i) → (i + m = 3 * w 96 0) → (0 ≤ s) → (s ≤ i * 128000000000) → (K (0, some (1, s + zSm (fun i => if w 99 i.toNat = c then zan r (max 1 (w 98 (w 99 (3 * (i / 3) + (i % 3 + 1) % 3).toNat).toNat + d)) (max 1 (w 98 (w 99 (3 * (i / 3) + (i % 3 + 2) % 3).toNat).toNat + d)) else 0) m i)) w 238) → zwp 263 6 [(2, 93), (0, c), (1, r), d3, (0, d), (1, s), d6, (0, i)] [] w 238 0 K := by
  
  intro m
  induction m with
  | zero =>
    intro i s d3 d6 h1 h2 h3 h4 h
    refine (show (if i < z32 (3 * (w 96 0)) then zif False (0 ≤ i ∧ i < 180) (if w 99 i.toNat = c then (((0 ≤ (z32 (Int.tdiv i 3)) ∧ (z32 (Int.tdiv i 3)) < 60) ∧ 0 ≤ (z32 ((z32 (Int.tmod i 3)) + 1)) ∧ (z32 ((z32 (Int.tmod i 3)) + 1)) < 1000) ∧ 0 ≤ w 99 (3 * (z32 (Int.tdiv i 3)) + (z32 ((z32 (Int.tmod i 3)) + 1)) % 3).toNat ∧ w 99 (3 * (z32 (Int.tdiv i 3)) + (z32 ((z32 (Int.tmod i 3)) + 1)) % 3).toNat < 36) ∧ ((((0 ≤ (z32 (Int.tdiv i 3)) ∧ (z32 (Int.tdiv i 3)) < 60) ∧ 0 ≤ (z32 ((z32 (Int.tmod i 3)) + 2)) ∧ (z32 ((z32 (Int.tmod i 3)) + 2)) < 1000) ∧ 0 ≤ w 99 (3 * (z32 (Int.tdiv i 3)) + (z32 ((z32 (Int.tmod i 3)) + 2)) % 3).toNat ∧ w 99 (3 * (z32 (Int.tdiv i 3)) + (z32 ((z32 (Int.tmod i 3)) + 2)) % 3).toNat < 36) ∧ (zif False ((1 ≤ r ∧ r ≤ 2000000) ∧ (1 ≤ (max 1 (z64 ((w 98 (w 99 (3 * (z32 (Int.tdiv i 3)) + (z32 ((z32 (Int.tmod i 3)) + 1)) % 3).toNat).toNat) + d))) ∧ (max 1 (z64 ((w 98 (w 99 (3 * (z32 (Int.tdiv i 3)) + (z32 ((z32 (Int.tmod i 3)) + 1)) % 3).toNat).toNat) + d))) ≤ 2000000) ∧ (1 ≤ (max 1 (z64 ((w 98 (w 99 (3 * (z32 (Int.tdiv i 3)) + (z32 ((z32 (Int.tmod i 3)) + 2)) % 3).toNat).toNat) + d))) ∧ (max 1 (z64 ((w 98 (w 99 (3 * (z32 (Int.tdiv i 3)) + (z32 ((z32 (Int.tmod i 3)) + 2)) % 3).toNat).toNat) + d))) ≤ 2000000)) (zwp 263 6 [(2, 93), (0, c), (1, r), (9, 0), (0, d), (1, z64 (s + (zan r (max 1 (z64 ((w 98 (w 99 (3 * (z32 (Int.tdiv i 3)) + (z32 ((z32 (Int.tmod i 3)) + 1)) % 3).toNat).toNat) + d))) (max 1 (z64 ((w 98 (w 99 (3 * (z32 (Int.tdiv i 3)) + (z32 ((z32 (Int.tmod i 3)) + 2)) % 3).toNat).toNat) + d)))))), (9, 0), (0, z32 (i + 1))] [] w 238 0 K))) else zwp 263 6 [(2, 93), (0, c), (1, r), (9, 0), (0, d), (1, s), (9, 0), (0, z32 (i + 1))] [] w 238 0 K) else K (0, some (1, s)) w 238) → _ from fun h => show zwp 263 6 [(2, 93), (0, c), (1, r), d3, (0, d), (1, s), d6, (0, i)] [] w 238 0 K from zgo_imp zT65_ok (cut := fun pc => Nat.beq pc 6 || Nat.beq pc 14 || Nat.beq pc 30 || Nat.beq pc 44 || Nat.beq pc 50 || Nat.beq pc 57 || Nat.beq pc 68 || Nat.beq pc 71 || Nat.beq pc 78 || Nat.beq pc 81) 400 (show zwp 263 14 [(2, 93), (0, c), (1, r), (9, 0), (0, d), (1, s), (9, 0), (0, i)] [(0, 0), (2, 96), (0, 3), (0, i)] w 238 0 K from (fun h => show zwp 263 14 [(2, 93), (0, c), (1, r), (9, 0), (0, d), (1, s), (9, 0), (0, i)] [(0, 0), (2, 96), (0, 3), (0, i)] w 238 0 K from zgo_imp zT65_ok (cut := fun pc => Nat.beq pc 6 || Nat.beq pc 14 || Nat.beq pc 30 || Nat.beq pc 44 || Nat.beq pc 50 || Nat.beq pc 57 || Nat.beq pc 68 || Nat.beq pc 71 || Nat.beq pc 78 || Nat.beq pc 81) 400 (show if i < z32 (3 * (w 96 0)) then zif False (0 ≤ i ∧ i < 180) (if w 99 i.toNat = c then zwp 263 44 [(2, 93), (0, c), (1, r), (9, 0), (0, d), (1, s), (9, 0), (0, i)] [(0, 3), (0, i), (0, z32 (Int.tdiv i 3)), (2, 93), (1, r), (1, s)] w 238 0 K else zwp 263 30 [(2, 93), (0, c), (1, r), (9, 0), (0, d), (1, s), (9, 0), (0, i)] [] w 238 0 K) else K (0, some (1, s)) w 238 from zmI (fun h => zmZ (fun h => zmI (fun h => (fun h => show zwp 263 44 [(2, 93), (0, c), (1, r), (9, 0), (0, d), (1, s), (9, 0), (0, i)] [(0, 3), (0, i), (0, z32 (Int.tdiv i 3)), (2, 93), (1, r), (1, s)] w 238 0 K from zgo_imp zT65_ok (cut := fun pc => Nat.beq pc 6 || Nat.beq pc 14 || Nat.beq pc 30 || Nat.beq pc 44 || Nat.beq pc 50 || Nat.beq pc 57 || Nat.beq pc 68 || Nat.beq pc 71 || Nat.beq pc 78 || Nat.beq pc 81) 400 (show (((0 ≤ (z32 (Int.tdiv i 3)) ∧ (z32 (Int.tdiv i 3)) < 60) ∧ 0 ≤ (z32 ((z32 (Int.tmod i 3)) + 1)) ∧ (z32 ((z32 (Int.tmod i 3)) + 1)) < 1000) ∧ 0 ≤ w 99 (3 * (z32 (Int.tdiv i 3)) + (z32 ((z32 (Int.tmod i 3)) + 1)) % 3).toNat ∧ w 99 (3 * (z32 (Int.tdiv i 3)) + (z32 ((z32 (Int.tmod i 3)) + 1)) % 3).toNat < 36) ∧ (zwp 263 50 [(2, 93), (0, c), (1, r), (9, 0), (0, d), (1, s), (9, 0), (0, i)] [(1, w 98 (w 99 (3 * (z32 (Int.tdiv i 3)) + (z32 ((z32 (Int.tmod i 3)) + 1)) % 3).toNat).toNat), (1, r), (1, s)] w 238 0 K) from zmA (fun h => (fun h => show zwp 263 50 [(2, 93), (0, c), (1, r), (9, 0), (0, d), (1, s), (9, 0), (0, i)] [(1, w 98 (w 99 (3 * (z32 (Int.tdiv i 3)) + (z32 ((z32 (Int.tmod i 3)) + 1)) % 3).toNat).toNat), (1, r), (1, s)] w 238 0 K from zgo_imp zT65_ok (cut := fun pc => Nat.beq pc 6 || Nat.beq pc 14 || Nat.beq pc 30 || Nat.beq pc 44 || Nat.beq pc 50 || Nat.beq pc 57 || Nat.beq pc 68 || Nat.beq pc 71 || Nat.beq pc 78 || Nat.beq pc 81) 400 (show zwp 263 57 [(2, 93), (0, c), (1, r), (9, 0), (0, d), (1, s), (9, 0), (0, i)] [(1, max 1 (z64 ((w 98 (w 99 (3 * (z32 (Int.tdiv i 3)) + (z32 ((z32 (Int.tmod i 3)) + 1)) % 3).toNat).toNat) + d))), (1, r), (1, s)] w 238 0 K from (fun h => show zwp 263 57 [(2, 93), (0, c), (1, r), (9, 0), (0, d), (1, s), (9, 0), (0, i)] [(1, max 1 (z64 ((w 98 (w 99 (3 * (z32 (Int.tdiv i 3)) + (z32 ((z32 (Int.tmod i 3)) + 1)) % 3).toNat).toNat) + d))), (1, r), (1, s)] w 238 0 K from zgo_imp zT65_ok (cut := fun pc => Nat.beq pc 6 || Nat.beq pc 14 || Nat.beq pc 30 || Nat.beq pc 44 || Nat.beq pc 50 || Nat.beq pc 57 || Nat.beq pc 68 || Nat.beq pc 71 || Nat.beq pc 78 || Nat.beq pc 81) 400 (show zwp 263 68 [(2, 93), (0, c), (1, r), (9, 0), (0, d), (1, s), (9, 0), (0, i)] [(0, z32 ((z32 (Int.tmod i 3)) + 2)), (0, z32 (Int.tdiv i 3)), (2, 93), (1, max 1 (z64 ((w 98 (w 99 (3 * (z32 (Int.tdiv i 3)) + (z32 ((z32 (Int.tmod i 3)) + 1)) % 3).toNat).toNat) + d))), (1, r), (1, s)] w 238 0 K from (fun h => show zwp 263 68 [(2, 93), (0, c), (1, r), (9, 0), (0, d), (1, s), (9, 0), (0, i)] [(0, z32 ((z32 (Int.tmod i 3)) + 2)), (0, z32 (Int.tdiv i 3)), (2, 93), (1, max 1 (z64 ((w 98 (w 99 (3 * (z32 (Int.tdiv i 3)) + (z32 ((z32 (Int.tmod i 3)) + 1)) % 3).toNat).toNat) + d))), (1, r), (1, s)] w 238 0 K from zgo_imp zT65_ok (cut := fun pc => Nat.beq pc 6 || Nat.beq pc 14 || Nat.beq pc 30 || Nat.beq pc 44 || Nat.beq pc 50 || Nat.beq pc 57 || Nat.beq pc 68 || Nat.beq pc 71 || Nat.beq pc 78 || Nat.beq pc 81) 400 (show (((0 ≤ (z32 (Int.tdiv i 3)) ∧ (z32 (Int.tdiv i 3)) < 60) ∧ 0 ≤ (z32 ((z32 (Int.tmod i 3)) + 2)) ∧ (z32 ((z32 (Int.tmod i 3)) + 2)) < 1000) ∧ 0 ≤ w 99 (3 * (z32 (Int.tdiv i 3)) + (z32 ((z32 (Int.tmod i 3)) + 2)) % 3).toNat ∧ w 99 (3 * (z32 (Int.tdiv i 3)) + (z32 ((z32 (Int.tmod i 3)) + 2)) % 3).toNat < 36) ∧ (zwp 263 71 [(2, 93), (0, c), (1, r), (9, 0), (0, d), (1, s), (9, 0), (0, i)] [(1, w 98 (w 99 (3 * (z32 (Int.tdiv i 3)) + (z32 ((z32 (Int.tmod i 3)) + 2)) % 3).toNat).toNat), (1, max 1 (z64 ((w 98 (w 99 (3 * (z32 (Int.tdiv i 3)) + (z32 ((z32 (Int.tmod i 3)) + 1)) % 3).toNat).toNat) + d))), (1, r), (1, s)] w 238 0 K) from zmA (fun h => (fun h => show zwp 263 71 [(2, 93), (0, c), (1, r), (9, 0), (0, d), (1, s), (9, 0), (0, i)] [(1, w 98 (w 99 (3 * (z32 (Int.tdiv i 3)) + (z32 ((z32 (Int.tmod i 3)) + 2)) % 3).toNat).toNat), (1, max 1 (z64 ((w 98 (w 99 (3 * (z32 (Int.tdiv i 3)) + (z32 ((z32 (Int.tmod i 3)) + 1)) % 3).toNat).toNat) + d))), (1, r), (1, s)] w 238 0 K from zgo_imp zT65_ok (cut := fun pc => Nat.beq pc 6 || Nat.beq pc 14 || Nat.beq pc 30 || Nat.beq pc 44 || Nat.beq pc 50 || Nat.beq pc 57 || Nat.beq pc 68 || Nat.beq pc 71 || Nat.beq pc 78 || Nat.beq pc 81) 400 (show zwp 263 78 [(2, 93), (0, c), (1, r), (9, 0), (0, d), (1, s), (9, 0), (0, i)] [(1, max 1 (z64 ((w 98 (w 99 (3 * (z32 (Int.tdiv i 3)) + (z32 ((z32 (Int.tmod i 3)) + 2)) % 3).toNat).toNat) + d))), (1, max 1 (z64 ((w 98 (w 99 (3 * (z32 (Int.tdiv i 3)) + (z32 ((z32 (Int.tmod i 3)) + 1)) % 3).toNat).toNat) + d))), (1, r), (1, s)] w 238 0 K from (fun h => show zwp 263 78 [(2, 93), (0, c), (1, r), (9, 0), (0, d), (1, s), (9, 0), (0, i)] [(1, max 1 (z64 ((w 98 (w 99 (3 * (z32 (Int.tdiv i 3)) + (z32 ((z32 (Int.tmod i 3)) + 2)) % 3).toNat).toNat) + d))), (1, max 1 (z64 ((w 98 (w 99 (3 * (z32 (Int.tdiv i 3)) + (z32 ((z32 (Int.tmod i 3)) + 1)) % 3).toNat).toNat) + d))), (1, r), (1, s)] w 238 0 K from zgo_imp zT65_ok (cut := fun pc => Nat.beq pc 6 || Nat.beq pc 14 || Nat.beq pc 30 || Nat.beq pc 44 || Nat.beq pc 50 || Nat.beq pc 57 || Nat.beq pc 68 || Nat.beq pc 71 || Nat.beq pc 78 || Nat.beq pc 81) 400 (show zif False ((1 ≤ r ∧ r ≤ 2000000) ∧ (1 ≤ (max 1 (z64 ((w 98 (w 99 (3 * (z32 (Int.tdiv i 3)) + (z32 ((z32 (Int.tmod i 3)) + 1)) % 3).toNat).toNat) + d))) ∧ (max 1 (z64 ((w 98 (w 99 (3 * (z32 (Int.tdiv i 3)) + (z32 ((z32 (Int.tmod i 3)) + 1)) % 3).toNat).toNat) + d))) ≤ 2000000) ∧ (1 ≤ (max 1 (z64 ((w 98 (w 99 (3 * (z32 (Int.tdiv i 3)) + (z32 ((z32 (Int.tmod i 3)) + 2)) % 3).toNat).toNat) + d))) ∧ (max 1 (z64 ((w 98 (w 99 (3 * (z32 (Int.tdiv i 3)) + (z32 ((z32 (Int.tmod i 3)) + 2)) % 3).toNat).toNat) + d))) ≤ 2000000)) (zwp 263 81 [(2, 93), (0, c), (1, r), (9, 0), (0, d), (1, s), (9, 0), (0, i)] [(1, zan r (max 1 (z64 ((w 98 (w 99 (3 * (z32 (Int.tdiv i 3)) + (z32 ((z32 (Int.tmod i 3)) + 1)) % 3).toNat).toNat) + d))) (max 1 (z64 ((w 98 (w 99 (3 * (z32 (Int.tdiv i 3)) + (z32 ((z32 (Int.tmod i 3)) + 2)) % 3).toNat).toNat) + d)))), (1, s)] w 238 0 K) from zmZ (fun h => (fun h => show zwp 263 81 [(2, 93), (0, c), (1, r), (9, 0), (0, d), (1, s), (9, 0), (0, i)] [(1, zan r (max 1 (z64 ((w 98 (w 99 (3 * (z32 (Int.tdiv i 3)) + (z32 ((z32 (Int.tmod i 3)) + 1)) % 3).toNat).toNat) + d))) (max 1 (z64 ((w 98 (w 99 (3 * (z32 (Int.tdiv i 3)) + (z32 ((z32 (Int.tmod i 3)) + 2)) % 3).toNat).toNat) + d)))), (1, s)] w 238 0 K from zgo_imp zT65_ok (cut := fun pc => Nat.beq pc 6 || Nat.beq pc 14 || Nat.beq pc 30 || Nat.beq pc 44 || Nat.beq pc 50 || Nat.beq pc 57 || Nat.beq pc 68 || Nat.beq pc 71 || Nat.beq pc 78 || Nat.beq pc 81) 400 (show zwp 263 6 [(2, 93), (0, c), (1, r), (9, 0), (0, d), (1, z64 (s + (zan r (max 1 (z64 ((w 98 (w 99 (3 * (z32 (Int.tdiv i 3)) + (z32 ((z32 (Int.tmod i 3)) + 1)) % 3).toNat).toNat) + d))) (max 1 (z64 ((w 98 (w 99 (3 * (z32 (Int.tdiv i 3)) + (z32 ((z32 (Int.tmod i 3)) + 2)) % 3).toNat).toNat) + d)))))), (9, 0), (0, z32 (i + 1))] [] w 238 0 K from h)) h) h)) h)) h) h)) h)) h)) h) h)) h) (fun h => (fun h => show zwp 263 30 [(2, 93), (0, c), (1, r), (9, 0), (0, d), (1, s), (9, 0), (0, i)] [] w 238 0 K from zgo_imp zT65_ok (cut := fun pc => Nat.beq pc 6 || Nat.beq pc 14 || Nat.beq pc 30 || Nat.beq pc 44 || Nat.beq pc 50 || Nat.beq pc 57 || Nat.beq pc 68 || Nat.beq pc 71 || Nat.beq pc 78 || Nat.beq pc 81) 400 (show zwp 263 6 [(2, 93), (0, c), (1, r), (9, 0), (0, d), (1, s), (9, 0), (0, z32 (i + 1))] [] w 238 0 K from h)) h) h) h) (fun h => h) h)) h)) ?_
    have hn := hN.n
    rw [z32_id (x := 3 * w 96 0) ⟨by omega, by omega⟩]
    refine ziF (by omega) (zKe h ?_)
    show s + 0 = s; omega
  | succ m ih =>
    intro i s d3 d6 h1 h2 h3 h4 h
    refine (show (if i < z32 (3 * (w 96 0)) then zif False (0 ≤ i ∧ i < 180) (if w 99 i.toNat = c then (((0 ≤ (z32 (Int.tdiv i 3)) ∧ (z32 (Int.tdiv i 3)) < 60) ∧ 0 ≤ (z32 ((z32 (Int.tmod i 3)) + 1)) ∧ (z32 ((z32 (Int.tmod i 3)) + 1)) < 1000) ∧ 0 ≤ w 99 (3 * (z32 (Int.tdiv i 3)) + (z32 ((z32 (Int.tmod i 3)) + 1)) % 3).toNat ∧ w 99 (3 * (z32 (Int.tdiv i 3)) + (z32 ((z32 (Int.tmod i 3)) + 1)) % 3).toNat < 36) ∧ ((((0 ≤ (z32 (Int.tdiv i 3)) ∧ (z32 (Int.tdiv i 3)) < 60) ∧ 0 ≤ (z32 ((z32 (Int.tmod i 3)) + 2)) ∧ (z32 ((z32 (Int.tmod i 3)) + 2)) < 1000) ∧ 0 ≤ w 99 (3 * (z32 (Int.tdiv i 3)) + (z32 ((z32 (Int.tmod i 3)) + 2)) % 3).toNat ∧ w 99 (3 * (z32 (Int.tdiv i 3)) + (z32 ((z32 (Int.tmod i 3)) + 2)) % 3).toNat < 36) ∧ (zif False ((1 ≤ r ∧ r ≤ 2000000) ∧ (1 ≤ (max 1 (z64 ((w 98 (w 99 (3 * (z32 (Int.tdiv i 3)) + (z32 ((z32 (Int.tmod i 3)) + 1)) % 3).toNat).toNat) + d))) ∧ (max 1 (z64 ((w 98 (w 99 (3 * (z32 (Int.tdiv i 3)) + (z32 ((z32 (Int.tmod i 3)) + 1)) % 3).toNat).toNat) + d))) ≤ 2000000) ∧ (1 ≤ (max 1 (z64 ((w 98 (w 99 (3 * (z32 (Int.tdiv i 3)) + (z32 ((z32 (Int.tmod i 3)) + 2)) % 3).toNat).toNat) + d))) ∧ (max 1 (z64 ((w 98 (w 99 (3 * (z32 (Int.tdiv i 3)) + (z32 ((z32 (Int.tmod i 3)) + 2)) % 3).toNat).toNat) + d))) ≤ 2000000)) (zwp 263 6 [(2, 93), (0, c), (1, r), (9, 0), (0, d), (1, z64 (s + (zan r (max 1 (z64 ((w 98 (w 99 (3 * (z32 (Int.tdiv i 3)) + (z32 ((z32 (Int.tmod i 3)) + 1)) % 3).toNat).toNat) + d))) (max 1 (z64 ((w 98 (w 99 (3 * (z32 (Int.tdiv i 3)) + (z32 ((z32 (Int.tmod i 3)) + 2)) % 3).toNat).toNat) + d)))))), (9, 0), (0, z32 (i + 1))] [] w 238 0 K))) else zwp 263 6 [(2, 93), (0, c), (1, r), (9, 0), (0, d), (1, s), (9, 0), (0, z32 (i + 1))] [] w 238 0 K) else K (0, some (1, s)) w 238) → _ from fun h => show zwp 263 6 [(2, 93), (0, c), (1, r), d3, (0, d), (1, s), d6, (0, i)] [] w 238 0 K from zgo_imp zT65_ok (cut := fun pc => Nat.beq pc 6 || Nat.beq pc 14 || Nat.beq pc 30 || Nat.beq pc 44 || Nat.beq pc 50 || Nat.beq pc 57 || Nat.beq pc 68 || Nat.beq pc 71 || Nat.beq pc 78 || Nat.beq pc 81) 400 (show zwp 263 14 [(2, 93), (0, c), (1, r), (9, 0), (0, d), (1, s), (9, 0), (0, i)] [(0, 0), (2, 96), (0, 3), (0, i)] w 238 0 K from (fun h => show zwp 263 14 [(2, 93), (0, c), (1, r), (9, 0), (0, d), (1, s), (9, 0), (0, i)] [(0, 0), (2, 96), (0, 3), (0, i)] w 238 0 K from zgo_imp zT65_ok (cut := fun pc => Nat.beq pc 6 || Nat.beq pc 14 || Nat.beq pc 30 || Nat.beq pc 44 || Nat.beq pc 50 || Nat.beq pc 57 || Nat.beq pc 68 || Nat.beq pc 71 || Nat.beq pc 78 || Nat.beq pc 81) 400 (show if i < z32 (3 * (w 96 0)) then zif False (0 ≤ i ∧ i < 180) (if w 99 i.toNat = c then zwp 263 44 [(2, 93), (0, c), (1, r), (9, 0), (0, d), (1, s), (9, 0), (0, i)] [(0, 3), (0, i), (0, z32 (Int.tdiv i 3)), (2, 93), (1, r), (1, s)] w 238 0 K else zwp 263 30 [(2, 93), (0, c), (1, r), (9, 0), (0, d), (1, s), (9, 0), (0, i)] [] w 238 0 K) else K (0, some (1, s)) w 238 from zmI (fun h => zmZ (fun h => zmI (fun h => (fun h => show zwp 263 44 [(2, 93), (0, c), (1, r), (9, 0), (0, d), (1, s), (9, 0), (0, i)] [(0, 3), (0, i), (0, z32 (Int.tdiv i 3)), (2, 93), (1, r), (1, s)] w 238 0 K from zgo_imp zT65_ok (cut := fun pc => Nat.beq pc 6 || Nat.beq pc 14 || Nat.beq pc 30 || Nat.beq pc 44 || Nat.beq pc 50 || Nat.beq pc 57 || Nat.beq pc 68 || Nat.beq pc 71 || Nat.beq pc 78 || Nat.beq pc 81) 400 (show (((0 ≤ (z32 (Int.tdiv i 3)) ∧ (z32 (Int.tdiv i 3)) < 60) ∧ 0 ≤ (z32 ((z32 (Int.tmod i 3)) + 1)) ∧ (z32 ((z32 (Int.tmod i 3)) + 1)) < 1000) ∧ 0 ≤ w 99 (3 * (z32 (Int.tdiv i 3)) + (z32 ((z32 (Int.tmod i 3)) + 1)) % 3).toNat ∧ w 99 (3 * (z32 (Int.tdiv i 3)) + (z32 ((z32 (Int.tmod i 3)) + 1)) % 3).toNat < 36) ∧ (zwp 263 50 [(2, 93), (0, c), (1, r), (9, 0), (0, d), (1, s), (9, 0), (0, i)] [(1, w 98 (w 99 (3 * (z32 (Int.tdiv i 3)) + (z32 ((z32 (Int.tmod i 3)) + 1)) % 3).toNat).toNat), (1, r), (1, s)] w 238 0 K) from zmA (fun h => (fun h => show zwp 263 50 [(2, 93), (0, c), (1, r), (9, 0), (0, d), (1, s), (9, 0), (0, i)] [(1, w 98 (w 99 (3 * (z32 (Int.tdiv i 3)) + (z32 ((z32 (Int.tmod i 3)) + 1)) % 3).toNat).toNat), (1, r), (1, s)] w 238 0 K from zgo_imp zT65_ok (cut := fun pc => Nat.beq pc 6 || Nat.beq pc 14 || Nat.beq pc 30 || Nat.beq pc 44 || Nat.beq pc 50 || Nat.beq pc 57 || Nat.beq pc 68 || Nat.beq pc 71 || Nat.beq pc 78 || Nat.beq pc 81) 400 (show zwp 263 57 [(2, 93), (0, c), (1, r), (9, 0), (0, d), (1, s), (9, 0), (0, i)] [(1, max 1 (z64 ((w 98 (w 99 (3 * (z32 (Int.tdiv i 3)) + (z32 ((z32 (Int.tmod i 3)) + 1)) % 3).toNat).toNat) + d))), (1, r), (1, s)] w 238 0 K from (fun h => show zwp 263 57 [(2, 93), (0, c), (1, r), (9, 0), (0, d), (1, s), (9, 0), (0, i)] [(1, max 1 (z64 ((w 98 (w 99 (3 * (z32 (Int.tdiv i 3)) + (z32 ((z32 (Int.tmod i 3)) + 1)) % 3).toNat).toNat) + d))), (1, r), (1, s)] w 238 0 K from zgo_imp zT65_ok (cut := fun pc => Nat.beq pc 6 || Nat.beq pc 14 || Nat.beq pc 30 || Nat.beq pc 44 || Nat.beq pc 50 || Nat.beq pc 57 || Nat.beq pc 68 || Nat.beq pc 71 || Nat.beq pc 78 || Nat.beq pc 81) 400 (show zwp 263 68 [(2, 93), (0, c), (1, r), (9, 0), (0, d), (1, s), (9, 0), (0, i)] [(0, z32 ((z32 (Int.tmod i 3)) + 2)), (0, z32 (Int.tdiv i 3)), (2, 93), (1, max 1 (z64 ((w 98 (w 99 (3 * (z32 (Int.tdiv i 3)) + (z32 ((z32 (Int.tmod i 3)) + 1)) % 3).toNat).toNat) + d))), (1, r), (1, s)] w 238 0 K from (fun h => show zwp 263 68 [(2, 93), (0, c), (1, r), (9, 0), (0, d), (1, s), (9, 0), (0, i)] [(0, z32 ((z32 (Int.tmod i 3)) + 2)), (0, z32 (Int.tdiv i 3)), (2, 93), (1, max 1 (z64 ((w 98 (w 99 (3 * (z32 (Int.tdiv i 3)) + (z32 ((z32 (Int.tmod i 3)) + 1)) % 3).toNat).toNat) + d))), (1, r), (1, s)] w 238 0 K from zgo_imp zT65_ok (cut := fun pc => Nat.beq pc 6 || Nat.beq pc 14 || Nat.beq pc 30 || Nat.beq pc 44 || Nat.beq pc 50 || Nat.beq pc 57 || Nat.beq pc 68 || Nat.beq pc 71 || Nat.beq pc 78 || Nat.beq pc 81) 400 (show (((0 ≤ (z32 (Int.tdiv i 3)) ∧ (z32 (Int.tdiv i 3)) < 60) ∧ 0 ≤ (z32 ((z32 (Int.tmod i 3)) + 2)) ∧ (z32 ((z32 (Int.tmod i 3)) + 2)) < 1000) ∧ 0 ≤ w 99 (3 * (z32 (Int.tdiv i 3)) + (z32 ((z32 (Int.tmod i 3)) + 2)) % 3).toNat ∧ w 99 (3 * (z32 (Int.tdiv i 3)) + (z32 ((z32 (Int.tmod i 3)) + 2)) % 3).toNat < 36) ∧ (zwp 263 71 [(2, 93), (0, c), (1, r), (9, 0), (0, d), (1, s), (9, 0), (0, i)] [(1, w 98 (w 99 (3 * (z32 (Int.tdiv i 3)) + (z32 ((z32 (Int.tmod i 3)) + 2)) % 3).toNat).toNat), (1, max 1 (z64 ((w 98 (w 99 (3 * (z32 (Int.tdiv i 3)) + (z32 ((z32 (Int.tmod i 3)) + 1)) % 3).toNat).toNat) + d))), (1, r), (1, s)] w 238 0 K) from zmA (fun h => (fun h => show zwp 263 71 [(2, 93), (0, c), (1, r), (9, 0), (0, d), (1, s), (9, 0), (0, i)] [(1, w 98 (w 99 (3 * (z32 (Int.tdiv i 3)) + (z32 ((z32 (Int.tmod i 3)) + 2)) % 3).toNat).toNat), (1, max 1 (z64 ((w 98 (w 99 (3 * (z32 (Int.tdiv i 3)) + (z32 ((z32 (Int.tmod i 3)) + 1)) % 3).toNat).toNat) + d))), (1, r), (1, s)] w 238 0 K from zgo_imp zT65_ok (cut := fun pc => Nat.beq pc 6 || Nat.beq pc 14 || Nat.beq pc 30 || Nat.beq pc 44 || Nat.beq pc 50 || Nat.beq pc 57 || Nat.beq pc 68 || Nat.beq pc 71 || Nat.beq pc 78 || Nat.beq pc 81) 400 (show zwp 263 78 [(2, 93), (0, c), (1, r), (9, 0), (0, d), (1, s), (9, 0), (0, i)] [(1, max 1 (z64 ((w 98 (w 99 (3 * (z32 (Int.tdiv i 3)) + (z32 ((z32 (Int.tmod i 3)) + 2)) % 3).toNat).toNat) + d))), (1, max 1 (z64 ((w 98 (w 99 (3 * (z32 (Int.tdiv i 3)) + (z32 ((z32 (Int.tmod i 3)) + 1)) % 3).toNat).toNat) + d))), (1, r), (1, s)] w 238 0 K from (fun h => show zwp 263 78 [(2, 93), (0, c), (1, r), (9, 0), (0, d), (1, s), (9, 0), (0, i)] [(1, max 1 (z64 ((w 98 (w 99 (3 * (z32 (Int.tdiv i 3)) + (z32 ((z32 (Int.tmod i 3)) + 2)) % 3).toNat).toNat) + d))), (1, max 1 (z64 ((w 98 (w 99 (3 * (z32 (Int.tdiv i 3)) + (z32 ((z32 (Int.tmod i 3)) + 1)) % 3).toNat).toNat) + d))), (1, r), (1, s)] w 238 0 K from zgo_imp zT65_ok (cut := fun pc => Nat.beq pc 6 || Nat.beq pc 14 || Nat.beq pc 30 || Nat.beq pc 44 || Nat.beq pc 50 || Nat.beq pc 57 || Nat.beq pc 68 || Nat.beq pc 71 || Nat.beq pc 78 || Nat.beq pc 81) 400 (show zif False ((1 ≤ r ∧ r ≤ 2000000) ∧ (1 ≤ (max 1 (z64 ((w 98 (w 99 (3 * (z32 (Int.tdiv i 3)) + (z32 ((z32 (Int.tmod i 3)) + 1)) % 3).toNat).toNat) + d))) ∧ (max 1 (z64 ((w 98 (w 99 (3 * (z32 (Int.tdiv i 3)) + (z32 ((z32 (Int.tmod i 3)) + 1)) % 3).toNat).toNat) + d))) ≤ 2000000) ∧ (1 ≤ (max 1 (z64 ((w 98 (w 99 (3 * (z32 (Int.tdiv i 3)) + (z32 ((z32 (Int.tmod i 3)) + 2)) % 3).toNat).toNat) + d))) ∧ (max 1 (z64 ((w 98 (w 99 (3 * (z32 (Int.tdiv i 3)) + (z32 ((z32 (Int.tmod i 3)) + 2)) % 3).toNat).toNat) + d))) ≤ 2000000)) (zwp 263 81 [(2, 93), (0, c), (1, r), (9, 0), (0, d), (1, s), (9, 0), (0, i)] [(1, zan r (max 1 (z64 ((w 98 (w 99 (3 * (z32 (Int.tdiv i 3)) + (z32 ((z32 (Int.tmod i 3)) + 1)) % 3).toNat).toNat) + d))) (max 1 (z64 ((w 98 (w 99 (3 * (z32 (Int.tdiv i 3)) + (z32 ((z32 (Int.tmod i 3)) + 2)) % 3).toNat).toNat) + d)))), (1, s)] w 238 0 K) from zmZ (fun h => (fun h => show zwp 263 81 [(2, 93), (0, c), (1, r), (9, 0), (0, d), (1, s), (9, 0), (0, i)] [(1, zan r (max 1 (z64 ((w 98 (w 99 (3 * (z32 (Int.tdiv i 3)) + (z32 ((z32 (Int.tmod i 3)) + 1)) % 3).toNat).toNat) + d))) (max 1 (z64 ((w 98 (w 99 (3 * (z32 (Int.tdiv i 3)) + (z32 ((z32 (Int.tmod i 3)) + 2)) % 3).toNat).toNat) + d)))), (1, s)] w 238 0 K from zgo_imp zT65_ok (cut := fun pc => Nat.beq pc 6 || Nat.beq pc 14 || Nat.beq pc 30 || Nat.beq pc 44 || Nat.beq pc 50 || Nat.beq pc 57 || Nat.beq pc 68 || Nat.beq pc 71 || Nat.beq pc 78 || Nat.beq pc 81) 400 (show zwp 263 6 [(2, 93), (0, c), (1, r), (9, 0), (0, d), (1, z64 (s + (zan r (max 1 (z64 ((w 98 (w 99 (3 * (z32 (Int.tdiv i 3)) + (z32 ((z32 (Int.tmod i 3)) + 1)) % 3).toNat).toNat) + d))) (max 1 (z64 ((w 98 (w 99 (3 * (z32 (Int.tdiv i 3)) + (z32 ((z32 (Int.tmod i 3)) + 2)) % 3).toNat).toNat) + d)))))), (9, 0), (0, z32 (i + 1))] [] w 238 0 K from h)) h) h)) h)) h) h)) h)) h)) h) h)) h) (fun h => (fun h => show zwp 263 30 [(2, 93), (0, c), (1, r), (9, 0), (0, d), (1, s), (9, 0), (0, i)] [] w 238 0 K from zgo_imp zT65_ok (cut := fun pc => Nat.beq pc 6 || Nat.beq pc 14 || Nat.beq pc 30 || Nat.beq pc 44 || Nat.beq pc 50 || Nat.beq pc 57 || Nat.beq pc 68 || Nat.beq pc 71 || Nat.beq pc 78 || Nat.beq pc 81) 400 (show zwp 263 6 [(2, 93), (0, c), (1, r), (9, 0), (0, d), (1, s), (9, 0), (0, z32 (i + 1))] [] w 238 0 K from h)) h) h) h) (fun h => h) h)) h)) ?_
    have hn := hN.n
    have e0 : z32 (3 * w 96 0) = 3 * w 96 0 := z32_id ⟨by omega, by omega⟩
    have e1 : z32 (Int.tdiv i 3) = i / 3 := by rw [Int.tdiv_eq_ediv_of_nonneg h1]; exact z32_id ⟨by omega, by omega⟩
    have e2 : z32 (Int.tmod i 3) = i % 3 := by rw [Int.tmod_eq_emod_of_nonneg h1]; exact z32_id ⟨by omega, by omega⟩
    have e3 : z32 (i % 3 + 1) = i % 3 + 1 := z32_id ⟨by omega, by omega⟩
    have e4 : z32 (i % 3 + 2) = i % 3 + 2 := z32_id ⟨by omega, by omega⟩
    have e5 : z32 (i + 1) = i + 1 := z32_id ⟨by omega, by omega⟩
    have k1 := hN.cor (k := 3 * (i / 3) + (i % 3 + 1) % 3) (by omega) (by omega)
    have k2 := hN.cor (k := 3 * (i / 3) + (i % 3 + 2) % 3) (by omega) (by omega)
    have r1 := hr _ k1.2.1 k1.2.2
    have r2 := hr _ k2.2.1 k2.2.2
    have e6 : z64 (w 98 (w 99 (3 * (i / 3) + (i % 3 + 1) % 3).toNat).toNat + d) = w 98 (w 99 (3 * (i / 3) + (i % 3 + 1) % 3).toNat).toNat + d := z64_id ⟨by omega, by omega⟩
    have e7 : z64 (w 98 (w 99 (3 * (i / 3) + (i % 3 + 2) % 3).toNat).toNat + d) = w 98 (w 99 (3 * (i / 3) + (i % 3 + 2) % 3).toNat).toNat + d := z64_id ⟨by omega, by omega⟩
    simp only [e0, e1, e2, e3, e4, e5, e6, e7]
    refine ziT (by omega) (zifI (by omega) ?_)
    by_cases q : w 99 i.toNat = c
    · refine ziT q ⟨by omega, by omega, zifI (by omega) ?_⟩
      have hz := zan_rg (a := r) (b := max 1 (w 98 (w 99 (3 * (i / 3) + (i % 3 + 1) % 3).toNat).toNat + d)) (c := max 1 (w 98 (w 99 (3 * (i / 3) + (i % 3 + 2) % 3).toNat).toNat + d)) (by omega) (by omega) (by omega)
      rw [z64_id ⟨by omega, by omega⟩]
      refine ih _ _ _ _ (by omega) (by omega) (by omega) (by omega) (zKe h ?_)
      show s + ((if w 99 i.toNat = c then zan r (max 1 (w 98 (w 99 (3 * (i / 3) + (i % 3 + 1) % 3).toNat).toNat + d)) (max 1 (w 98 (w 99 (3 * (i / 3) + (i % 3 + 2) % 3).toNat).toNat + d)) else 0) + _) = _
      rw [if_pos q]; omega
    · refine ziF q (ih _ _ _ _ (by omega) (by omega) (by omega) (by omega) (zKe h ?_))
      show s + ((if w 99 i.toNat = c then zan r (max 1 (w 98 (w 99 (3 * (i / 3) + (i % 3 + 1) % 3).toNat).toNat + d)) (max 1 (w 98 (w 99 (3 * (i / 3) + (i % 3 + 2) % 3).toNat).toNat + d)) else 0) + _) = _
      rw [if_neg q]; omega
/-! Model.sumBy -/
set_option maxRecDepth 100000 in
theorem zk263_93 (c r d : Int) (w : zW) (K : zK) (h : (zNt w ∧ zRd 98 w ∧ (0 ≤ c ∧ c < w 95 0) ∧ (1 ≤ r ∧ r ≤ 1001000) ∧ -1000 ≤ d ∧ d ≤ 1000) ∧ (K (0, some (1, zHq w 98 c r d)) (w) 238)) : zcall 263 [(2, 93), (0, c), (1, r), (9, 0), (0, d), (9, 0), (9, 0), (9, 0)] w 238 K := by
  obtain ⟨hg, h⟩ := h
  refine (show (zwp 263 6 [(2, 93), (0, c), (1, r), (9, 0), (0, d), (1, 0), (9, 0), (0, 0)] [] w 238 0 K) → _ from fun h => show zwp 263 0 [(2, 93), (0, c), (1, r), (9, 0), (0, d), (9, 0), (9, 0), (9, 0)] [] w 238 0 K from zgo_imp zT65_ok (cut := fun pc => Nat.beq pc 6 || Nat.beq pc 14 || Nat.beq pc 30 || Nat.beq pc 44 || Nat.beq pc 50 || Nat.beq pc 57 || Nat.beq pc 68 || Nat.beq pc 71 || Nat.beq pc 78 || Nat.beq pc 81) 400 (show zwp 263 6 [(2, 93), (0, c), (1, r), (9, 0), (0, d), (1, 0), (9, 0), (0, 0)] [] w 238 0 K from h)) ?_
  obtain ⟨hN, hr, hc, ho, hd⟩ := hg
  have hn := hN.n
  have hf := zHs_faces (zHf (fun a => w 98 a.toNat) r d) hN.1 (c := c) hc.1 (by omega)
  refine zk263_L6 hN hr c r d hc ho hd (3 * w 96 0).toNat 0 0 _ _ (by omega) (by omega) (by omega) (by omega) (zKe h ?_)
  rw [Int.zero_add]
  unfold zHq zH
  rw [← hf]
  refine zSm_congr _ 0 fun k k0 k1 => ?_
  rw [zco0, zco0, zco0]
  rfl
noncomputable def zb263 (l0 : List zV) (w : zW) (K : zK) : Prop := cond (zpe (zar l0 0) 93) (zA l0 1 fun c => zA l0 2 fun r => zA l0 4 fun d => (zNt w ∧ zRd 98 w ∧ (0 ≤ c ∧ c < w 95 0) ∧ (1 ≤ r ∧ r ≤ 1001000) ∧ -1000 ≤ d ∧ d ≤ 1000) ∧ (K (0, some (1, zHq w 98 c r d)) (w) 238)) (False)
noncomputable def zT66 : zSum := zsm1 263 [2, 0, 1, 9, 0, 9, 9, 9] zb263 zT65
theorem zT66_ok : zSok zT66 := zsm1_ok zT65_ok fun l0 w K h => by
  unfold zb263 at h
  cases q0 : zpe (zar l0 0) 93 with
  | true =>
    rw [q0, cond_true] at h
    have e : zar l0 0 = 93 := zpe_e q0
    show zcall 263 [(2, zar l0 0), (0, zar l0 1), (1, zar l0 2), (9, 0), (0, zar l0 4), (9, 0), (9, 0), (9, 0)] w 238 K
    rw [e]
    exact zk263_93 (zar l0 1) (zar l0 2) (zar l0 4) w K (zA_e (zA_e (zA_e h)))
  | false =>
  rw [q0, cond_false] at h
  exact h.elim
noncomputable def zT67 : zSum := zin1 264 400 zT66
theorem zT67_ok : zSok zT67 := zin1_ok zT66_ok
/-! Model.targetOf -/
set_option maxRecDepth 100000 in
theorem zk266_93 (c : Int) (w : zW) (K : zK) (h : (zNt w ∧ 0 ≤ c ∧ c < w 95 0) ∧ (K (0, some (1, zTgt (w 97 c.toNat))) (w) 238)) : zcall 266 [(2, 93), (0, c)] w 238 K := by
  obtain ⟨hg, h⟩ := h
  refine (show (zif False (0 ≤ c ∧ c < 36) (K (0, some (1, z64 (Int.tdiv (z64 ((w 97 c.toNat) * 6283185307)) 360))) w 238)) → _ from fun h => show zwp 266 0 [(2, 93), (0, c)] [] w 238 0 K from zgo_imp zT67_ok (cut := fun pc => Nat.beq pc 15) 400 (show zif False (0 ≤ c ∧ c < 36) (zwp 266 15 [(2, 93), (0, c)] [(1, z64 (Int.tdiv (z64 ((w 97 c.toNat) * 6283185307)) 360))] w 238 0 K) from zmZ (fun h => (fun h => show zwp 266 15 [(2, 93), (0, c)] [(1, z64 (Int.tdiv (z64 ((w 97 c.toNat) * 6283185307)) 360))] w 238 0 K from zgo_imp zT67_ok (cut := fun pc => Nat.beq pc 15) 400 (show K (0, some (1, z64 (Int.tdiv (z64 ((w 97 c.toNat) * 6283185307)) 360))) w 238 from h)) h) h)) ?_
  obtain ⟨hN, hc⟩ := hg
  obtain ⟨d1, d2, d3, _⟩ := hN.deg hc.1 hc.2
  have hn := hN.n
  have h4 := zTgt_rg d2 d3
  refine zifI (by omega) ?_
  rw [z64_id (x := w 97 c.toNat * 6283185307) ⟨by omega, by omega⟩, Int.tdiv_eq_ediv_of_nonneg (by omega)]
  rw [z64_id (x := w 97 c.toNat * 6283185307 / 360) (by unfold zTgt at h4; exact ⟨by omega, by omega⟩)]
  exact h
noncomputable def zb266 (l0 : List zV) (w : zW) (K : zK) : Prop := cond (zpe (zar l0 0) 93) (zA l0 1 fun c => (zNt w ∧ 0 ≤ c ∧ c < w 95 0) ∧ (K (0, some (1, zTgt (w 97 c.toNat))) (w) 238)) (False)
noncomputable def zT68 : zSum := zsm1 266 [2, 0] zb266 zT67
theorem zT68_ok : zSok zT68 := zsm1_ok zT67_ok fun l0 w K h => by
  unfold zb266 at h
  cases q0 : zpe (zar l0 0) 93 with
  | true =>
    rw [q0, cond_true] at h
    have e : zar l0 0 = 93 := zpe_e q0
    show zcall 266 [(2, zar l0 0), (0, zar l0 1)] w 238 K
    rw [e]
    exact zk266_93 (zar l0 1) w K (zA_e h)
  | false =>
  rw [q0, cond_false] at h
  exact h.elim
/-! Model.defectOf -/
set_option maxRecDepth 100000 in
theorem zk267_93 (c : Int) (w : zW) (K : zK) (h : (zNt w ∧ zRd 98 w ∧ 0 ≤ c ∧ c < w 95 0) ∧ (K (0, some (1, zDf w 98 c)) (w) 238)) : zcall 267 [(2, 93), (0, c)] w 238 K := by
  obtain ⟨hg, h⟩ := h
  refine (show ((zNt w ∧ 0 ≤ c ∧ c < w 95 0) ∧ (zif False (0 ≤ c ∧ c < 36) ((zNt w ∧ zRd 98 w ∧ (0 ≤ c ∧ c < w 95 0) ∧ (1 ≤ (w 98 c.toNat) ∧ (w 98 c.toNat) ≤ 1001000) ∧ -1000 ≤ (0 : Int) ∧ (0 : Int) ≤ 1000) ∧ (K (0, some (1, z64 ((zTgt (w 97 c.toNat)) - (zHq w 98 c (w 98 c.toNat) (0 : Int))))) w 238)))) → _ from fun h => show zwp 267 0 [(2, 93), (0, c)] [] w 238 0 K from zgo_imp zT68_ok (cut := fun pc => Nat.beq pc 5 || Nat.beq pc 10) 400 (show (zNt w ∧ 0 ≤ c ∧ c < w 95 0) ∧ (zwp 267 5 [(2, 93), (0, c)] [(1, zTgt (w 97 c.toNat))] w 238 0 K) from zmA (fun h => (fun h => show zwp 267 5 [(2, 93), (0, c)] [(1, zTgt (w 97 c.toNat))] w 238 0 K from zgo_imp zT68_ok (cut := fun pc => Nat.beq pc 5 || Nat.beq pc 10) 400 (show zif False (0 ≤ c ∧ c < 36) ((zNt w ∧ zRd 98 w ∧ (0 ≤ c ∧ c < w 95 0) ∧ (1 ≤ (w 98 c.toNat) ∧ (w 98 c.toNat) ≤ 1001000) ∧ -1000 ≤ (0 : Int) ∧ (0 : Int) ≤ 1000) ∧ (zwp 267 10 [(2, 93), (0, c)] [(1, zHq w 98 c (w 98 c.toNat) (0 : Int)), (1, zTgt (w 97 c.toNat))] w 238 0 K)) from zmZ (fun h => zmA (fun h => (fun h => show zwp 267 10 [(2, 93), (0, c)] [(1, zHq w 98 c (w 98 c.toNat) (0 : Int)), (1, zTgt (w 97 c.toNat))] w 238 0 K from zgo_imp zT68_ok (cut := fun pc => Nat.beq pc 5 || Nat.beq pc 10) 400 (show K (0, some (1, z64 ((zTgt (w 97 c.toNat)) - (zHq w 98 c (w 98 c.toNat) (0 : Int))))) w 238 from h)) h) h) h)) h) h)) ?_
  obtain ⟨hN, hr, hc⟩ := hg
  have hn := hN.n
  have h1 := hr c hc.1 hc.2
  have hd := zDf_rg hN hr hc.1 hc.2
  refine ⟨⟨hN, hc⟩, zifI (by omega) ⟨⟨hN, hr, hc, by omega, by omega⟩, ?_⟩⟩
  rw [z64_id (by unfold zDf at hd; exact ⟨by omega, by omega⟩)]
  exact h
noncomputable def zb267 (l0 : List zV) (w : zW) (K : zK) : Prop := cond (zpe (zar l0 0) 93) (zA l0 1 fun c => (zNt w ∧ zRd 98 w ∧ 0 ≤ c ∧ c < w 95 0) ∧ (K (0, some (1, zDf w 98 c)) (w) 238)) (False)
noncomputable def zT69 : zSum := zsm1 267 [2, 0] zb267 zT68
theorem zT69_ok : zSok zT69 := zsm1_ok zT68_ok fun l0 w K h => by
  unfold zb267 at h
  cases q0 : zpe (zar l0 0) 93 with
  | true =>
    rw [q0, cond_true] at h
    have e : zar l0 0 = 93 := zpe_e q0
    show zcall 267 [(2, zar l0 0), (0, zar l0 1)] w 238 K
    rw [e]
    exact zk267_93 (zar l0 1) w K (zA_e h)
  | false =>
  rw [q0, cond_false] at h
  exact h.elim
set_option maxRecDepth 100000 in
theorem zk270_L4 {w : zW} {K : zK} (hN : zNt w) (hr : zRd 98 w)  : ∀ (m : Nat) (i s : Int) (d2 : zV), (0 ≤ i) → (i + m = w 95 0) → (0 ≤ s) → (s ≤ i * 1536000000000) → (K (0, some (1, s + zSm (fun c => if 0 < w 97 c.toNat then zab (zDf w 98 c) else 0) m i)) w 238) → zwp 270 4 [(2, 93), (1, s), d2, (0, i)] [] w 238 0 K := by
  
  intro m
  induction m with
  | zero =>
    intro i s d2 h1 h2 h3 h4 h
    refine (show (if i < w 95 0 then zif False (0 ≤ i ∧ i < 36) (if 0 < w 97 i.toNat then (zNt w ∧ zRd 98 w ∧ 0 ≤ i ∧ i < w 95 0) ∧ (if zDf w 98 i < 0 then zwp 270 4 [(2, 93), (1, z64 (s + (z64 (-(zDf w 98 i))))), (9, 0), (0, z32 (i + 1))] [] w 238 0 K else zwp 270 4 [(2, 93), (1, z64 (s + (zDf w 98 i))), (9, 0), (0, z32 (i + 1))] [] w 238 0 K) else zwp 270 4 [(2, 93), (1, z64 (s + 0)), (9, 0), (0, z32 (i + 1))] [] w 238 0 K) else K (0, some (1, s)) w 238) → _ from fun h => show zwp 270 4 [(2, 93), (1, s), d2, (0, i)] [] w 238 0 K from zgo_imp zT69_ok (cut := fun pc => Nat.beq pc 4 || Nat.beq pc 11 || Nat.beq pc 20 || Nat.beq pc 28 || Nat.beq pc 31) 400 (show zwp 270 11 [(2, 93), (1, s), (9, 0), (0, i)] [(0, w 95 0), (0, i)] w 238 0 K from (fun h => show zwp 270 11 [(2, 93), (1, s), (9, 0), (0, i)] [(0, w 95 0), (0, i)] w 238 0 K from zgo_imp zT69_ok (cut := fun pc => Nat.beq pc 4 || Nat.beq pc 11 || Nat.beq pc 20 || Nat.beq pc 28 || Nat.beq pc 31) 400 (show if i < w 95 0 then zif False (0 ≤ i ∧ i < 36) (if 0 < w 97 i.toNat then zwp 270 20 [(2, 93), (1, s), (9, 0), (0, i)] [(0, 1), (1, s)] w 238 0 K else zwp 270 20 [(2, 93), (1, s), (9, 0), (0, i)] [(0, 0), (1, s)] w 238 0 K) else K (0, some (1, s)) w 238 from zmI (fun h => zmZ (fun h => zmI (fun h => (fun h => show zwp 270 20 [(2, 93), (1, s), (9, 0), (0, i)] [(0, 1), (1, s)] w 238 0 K from zgo_imp zT69_ok (cut := fun pc => Nat.beq pc 4 || Nat.beq pc 11 || Nat.beq pc 20 || Nat.beq pc 28 || Nat.beq pc 31) 400 (show (zNt w ∧ zRd 98 w ∧ 0 ≤ i ∧ i < w 95 0) ∧ (zwp 270 28 [(2, 93), (1, s), (9, 0), (0, i)] [(1, zDf w 98 i), (1, s)] w 238 0 K) from zmA (fun h => (fun h => show zwp 270 28 [(2, 93), (1, s), (9, 0), (0, i)] [(1, zDf w 98 i), (1, s)] w 238 0 K from zgo_imp zT69_ok (cut := fun pc => Nat.beq pc 4 || Nat.beq pc 11 || Nat.beq pc 20 || Nat.beq pc 28 || Nat.beq pc 31) 400 (show if zDf w 98 i < 0 then zwp 270 31 [(2, 93), (1, s), (9, 0), (0, i)] [(1, z64 (-(zDf w 98 i))), (1, s)] w 238 0 K else zwp 270 31 [(2, 93), (1, s), (9, 0), (0, i)] [(1, zDf w 98 i), (1, s)] w 238 0 K from zmI (fun h => (fun h => show zwp 270 31 [(2, 93), (1, s), (9, 0), (0, i)] [(1, z64 (-(zDf w 98 i))), (1, s)] w 238 0 K from zgo_imp zT69_ok (cut := fun pc => Nat.beq pc 4 || Nat.beq pc 11 || Nat.beq pc 20 || Nat.beq pc 28 || Nat.beq pc 31) 400 (show zwp 270 4 [(2, 93), (1, z64 (s + (z64 (-(zDf w 98 i))))), (9, 0), (0, z32 (i + 1))] [] w 238 0 K from h)) h) (fun h => (fun h => show zwp 270 31 [(2, 93), (1, s), (9, 0), (0, i)] [(1, zDf w 98 i), (1, s)] w 238 0 K from zgo_imp zT69_ok (cut := fun pc => Nat.beq pc 4 || Nat.beq pc 11 || Nat.beq pc 20 || Nat.beq pc 28 || Nat.beq pc 31) 400 (show zwp 270 4 [(2, 93), (1, z64 (s + (zDf w 98 i))), (9, 0), (0, z32 (i + 1))] [] w 238 0 K from h)) h) h)) h) h)) h) (fun h => (fun h => show zwp 270 20 [(2, 93), (1, s), (9, 0), (0, i)] [(0, 0), (1, s)] w 238 0 K from zgo_imp zT69_ok (cut := fun pc => Nat.beq pc 4 || Nat.beq pc 11 || Nat.beq pc 20 || Nat.beq pc 28 || Nat.beq pc 31) 400 (show zwp 270 4 [(2, 93), (1, z64 (s + 0)), (9, 0), (0, z32 (i + 1))] [] w 238 0 K from h)) h) h) h) (fun h => h) h)) h)) ?_
    refine ziF (by omega) ?_
    exact zKe h (by show s + 0 = s; omega)
  | succ m ih =>
    intro i s d2 h1 h2 h3 h4 h
    refine (show (if i < w 95 0 then zif False (0 ≤ i ∧ i < 36) (if 0 < w 97 i.toNat then (zNt w ∧ zRd 98 w ∧ 0 ≤ i ∧ i < w 95 0) ∧ (if zDf w 98 i < 0 then zwp 270 4 [(2, 93), (1, z64 (s + (z64 (-(zDf w 98 i))))), (9, 0), (0, z32 (i + 1))] [] w 238 0 K else zwp 270 4 [(2, 93), (1, z64 (s + (zDf w 98 i))), (9, 0), (0, z32 (i + 1))] [] w 238 0 K) else zwp 270 4 [(2, 93), (1, z64 (s + 0)), (9, 0), (0, z32 (i + 1))] [] w 238 0 K) else K (0, some (1, s)) w 238) → _ from fun h => show zwp 270 4 [(2, 93), (1, s), d2, (0, i)] [] w 238 0 K from zgo_imp zT69_ok (cut := fun pc => Nat.beq pc 4 || Nat.beq pc 11 || Nat.beq pc 20 || Nat.beq pc 28 || Nat.beq pc 31) 400 (show zwp 270 11 [(2, 93), (1, s), (9, 0), (0, i)] [(0, w 95 0), (0, i)] w 238 0 K from (fun h => show zwp 270 11 [(2, 93), (1, s), (9, 0), (0, i)] [(0, w 95 0), (0, i)] w 238 0 K from zgo_imp zT69_ok (cut := fun pc => Nat.beq pc 4 || Nat.beq pc 11 || Nat.beq pc 20 || Nat.beq pc 28 || Nat.beq pc 31) 400 (show if i < w 95 0 then zif False (0 ≤ i ∧ i < 36) (if 0 < w 97 i.toNat then zwp 270 20 [(2, 93), (1, s), (9, 0), (0, i)] [(0, 1), (1, s)] w 238 0 K else zwp 270 20 [(2, 93), (1, s), (9, 0), (0, i)] [(0, 0), (1, s)] w 238 0 K) else K (0, some (1, s)) w 238 from zmI (fun h => zmZ (fun h => zmI (fun h => (fun h => show zwp 270 20 [(2, 93), (1, s), (9, 0), (0, i)] [(0, 1), (1, s)] w 238 0 K from zgo_imp zT69_ok (cut := fun pc => Nat.beq pc 4 || Nat.beq pc 11 || Nat.beq pc 20 || Nat.beq pc 28 || Nat.beq pc 31) 400 (show (zNt w ∧ zRd 98 w ∧ 0 ≤ i ∧ i < w 95 0) ∧ (zwp 270 28 [(2, 93), (1, s), (9, 0), (0, i)] [(1, zDf w 98 i), (1, s)] w 238 0 K) from zmA (fun h => (fun h => show zwp 270 28 [(2, 93), (1, s), (9, 0), (0, i)] [(1, zDf w 98 i), (1, s)] w 238 0 K from zgo_imp zT69_ok (cut := fun pc => Nat.beq pc 4 || Nat.beq pc 11 || Nat.beq pc 20 || Nat.beq pc 28 || Nat.beq pc 31) 400 (show if zDf w 98 i < 0 then zwp 270 31 [(2, 93), (1, s), (9, 0), (0, i)] [(1, z64 (-(zDf w 98 i))), (1, s)] w 238 0 K else zwp 270 31 [(2, 93), (1, s), (9, 0), (0, i)] [(1, zDf w 98 i), (1, s)] w 238 0 K from zmI (fun h => (fun h => show zwp 270 31 [(2, 93), (1, s), (9, 0), (0, i)] [(1, z64 (-(zDf w 98 i))), (1, s)] w 238 0 K from zgo_imp zT69_ok (cut := fun pc => Nat.beq pc 4 || Nat.beq pc 11 || Nat.beq pc 20 || Nat.beq pc 28 || Nat.beq pc 31) 400 (show zwp 270 4 [(2, 93), (1, z64 (s + (z64 (-(zDf w 98 i))))), (9, 0), (0, z32 (i + 1))] [] w 238 0 K from h)) h) (fun h => (fun h => show zwp 270 31 [(2, 93), (1, s), (9, 0), (0, i)] [(1, zDf w 98 i), (1, s)] w 238 0 K from zgo_imp zT69_ok (cut := fun pc => Nat.beq pc 4 || Nat.beq pc 11 || Nat.beq pc 20 || Nat.beq pc 28 || Nat.beq pc 31) 400 (show zwp 270 4 [(2, 93), (1, z64 (s + (zDf w 98 i))), (9, 0), (0, z32 (i + 1))] [] w 238 0 K from h)) h) h)) h) h)) h) (fun h => (fun h => show zwp 270 20 [(2, 93), (1, s), (9, 0), (0, i)] [(0, 0), (1, s)] w 238 0 K from zgo_imp zT69_ok (cut := fun pc => Nat.beq pc 4 || Nat.beq pc 11 || Nat.beq pc 20 || Nat.beq pc 28 || Nat.beq pc 31) 400 (show zwp 270 4 [(2, 93), (1, z64 (s + 0)), (9, 0), (0, z32 (i + 1))] [] w 238 0 K from h)) h) h) h) (fun h => h) h)) h)) ?_
    have hn := hN.n
    refine ziT (by omega) (zifI (by omega) ?_)
    rw [z32_id (x := i + 1) ⟨by omega, by omega⟩]
    by_cases hp : 0 < w 97 i.toNat
    · refine ziT hp ⟨⟨hN, hr, by omega⟩, ?_⟩
      have hz := zDf_rg hN hr h1 (by omega)
      by_cases q : zDf w 98 i < 0
      · refine ziT q ?_
        rw [z64_id (x := -zDf w 98 i) ⟨by omega, by omega⟩, z64_id (x := s + -zDf w 98 i) ⟨by omega, by omega⟩]
        refine ih _ _ _ (by omega) (by omega) (by omega) (by omega) (zKe h ?_)
        show s + ((if 0 < w 97 i.toNat then max (zDf w 98 i) (-zDf w 98 i) else 0) + _) = _
        rw [if_pos hp]; omega
      · refine ziF q ?_
        rw [z64_id (x := s + zDf w 98 i) ⟨by omega, by omega⟩]
        refine ih _ _ _ (by omega) (by omega) (by omega) (by omega) (zKe h ?_)
        show s + ((if 0 < w 97 i.toNat then max (zDf w 98 i) (-zDf w 98 i) else 0) + _) = _
        rw [if_pos hp]; omega
    · refine ziF hp ?_
      rw [z64_id (x := s + 0) ⟨by omega, by omega⟩]
      refine ih _ _ _ (by omega) (by omega) (by omega) (by omega) (zKe h ?_)
      show s + ((if 0 < w 97 i.toNat then max (zDf w 98 i) (-zDf w 98 i) else 0) + _) = _
      rw [if_neg hp]; omega
/-! Model.unrestNow -/
set_option maxRecDepth 100000 in
theorem zk270_93 (w : zW) (K : zK) (h : (zNt w ∧ zRd 98 w) ∧ (K (0, some (1, zUn w 98)) (w) 238)) : zcall 270 [(2, 93), (9, 0), (9, 0), (9, 0)] w 238 K := by
  obtain ⟨hg, h⟩ := h
  refine (show (zwp 270 4 [(2, 93), (1, 0), (9, 0), (0, 0)] [] w 238 0 K) → _ from fun h => show zwp 270 0 [(2, 93), (9, 0), (9, 0), (9, 0)] [] w 238 0 K from zgo_imp zT69_ok (cut := fun pc => Nat.beq pc 4 || Nat.beq pc 11 || Nat.beq pc 20 || Nat.beq pc 28 || Nat.beq pc 31) 400 (show zwp 270 4 [(2, 93), (1, 0), (9, 0), (0, 0)] [] w 238 0 K from h)) ?_
  have hn := hg.1.n
  exact zk270_L4 hg.1 hg.2 (w 95 0).toNat 0 0 _ (by omega) (by omega) (by omega) (by omega) (zKe h (by unfold zUn; omega))
noncomputable def zb270 (l0 : List zV) (w : zW) (K : zK) : Prop := cond (zpe (zar l0 0) 93) ((zNt w ∧ zRd 98 w) ∧ (K (0, some (1, zUn w 98)) (w) 238)) (False)
noncomputable def zT70 : zSum := zsm1 270 [2, 9, 9, 9] zb270 zT69
theorem zT70_ok : zSok zT70 := zsm1_ok zT69_ok fun l0 w K h => by
  unfold zb270 at h
  cases q0 : zpe (zar l0 0) 93 with
  | true =>
    rw [q0, cond_true] at h
    have e : zar l0 0 = 93 := zpe_e q0
    show zcall 270 [(2, zar l0 0), (9, 0), (9, 0), (9, 0)] w 238 K
    rw [e]
    exact zk270_93  w K h
  | false =>
  rw [q0, cond_false] at h
  exact h.elim
/-! Model.canSolve -/
set_option maxRecDepth 100000 in
theorem zk277_93 (c : Int) (w : zW) (K : zK) (h : (zNt w ∧ 0 ≤ c ∧ c < w 95 0) ∧ (K (0, some (0, (if zSb w c then 1 else 0))) (w) 238)) : zcall 277 [(2, 93), (0, c)] w 238 K := by
  obtain ⟨hg, h⟩ := h
  refine (show (zif False (0 ≤ c ∧ c < 36) (if 0 < w 97 c.toNat then (zAr w (0 : Int) ∧ 0 ≤ c ∧ c < 12) ∧ (if 0 < zNb (zfw w (0 : Int).toNat) (w 95 (0 : Int).toNat) c then K (0, some (0, 1)) w 238 else K (0, some (0, 0)) w 238) else K (0, some (0, 0)) w 238)) → _ from fun h => show zwp 277 0 [(2, 93), (0, c)] [] w 238 0 K from zgo_imp zT70_ok (cut := fun pc => Nat.beq pc 5 || Nat.beq pc 14) 400 (show zif False (0 ≤ c ∧ c < 36) (if 0 < w 97 c.toNat then zwp 277 5 [(2, 93), (0, c)] [(0, 1)] w 238 0 K else zwp 277 5 [(2, 93), (0, c)] [(0, 0)] w 238 0 K) from zmZ (fun h => zmI (fun h => (fun h => show zwp 277 5 [(2, 93), (0, c)] [(0, 1)] w 238 0 K from zgo_imp zT70_ok (cut := fun pc => Nat.beq pc 5 || Nat.beq pc 14) 400 (show (zAr w (0 : Int) ∧ 0 ≤ c ∧ c < 12) ∧ (zwp 277 14 [(2, 93), (0, c)] [(0, zNb (zfw w (0 : Int).toNat) (w 95 (0 : Int).toNat) c)] w 238 0 K) from zmA (fun h => (fun h => show zwp 277 14 [(2, 93), (0, c)] [(0, zNb (zfw w (0 : Int).toNat) (w 95 (0 : Int).toNat) c)] w 238 0 K from zgo_imp zT70_ok (cut := fun pc => Nat.beq pc 5 || Nat.beq pc 14) 400 (show if 0 < zNb (zfw w (0 : Int).toNat) (w 95 (0 : Int).toNat) c then K (0, some (0, 1)) w 238 else K (0, some (0, 0)) w 238 from h)) h) h)) h) (fun h => (fun h => show zwp 277 5 [(2, 93), (0, c)] [(0, 0)] w 238 0 K from zgo_imp zT70_ok (cut := fun pc => Nat.beq pc 5 || Nat.beq pc 14) 400 (show K (0, some (0, 0)) w 238 from h)) h) h) h)) ?_
  obtain ⟨hN, hc⟩ := hg
  have hn := hN.n
  refine zifI (by omega) ?_
  by_cases hp : 0 < w 97 c.toNat
  · refine ziT hp ⟨⟨hN.ar, by omega, by omega⟩, ?_⟩
    by_cases h2 : 0 < zNb (zF0 w) (w 95 0) c
    · exact ziT h2 (zKe h (if_pos ⟨hp, h2⟩))
    · exact ziF h2 (zKe h (if_neg fun q => h2 q.2))
  · exact ziF hp (zKe h (if_neg fun q => hp q.1))
noncomputable def zb277 (l0 : List zV) (w : zW) (K : zK) : Prop := cond (zpe (zar l0 0) 93) (zA l0 1 fun c => (zNt w ∧ 0 ≤ c ∧ c < w 95 0) ∧ (K (0, some (0, (if zSb w c then 1 else 0))) (w) 238)) (False)
noncomputable def zT71 : zSum := zsm1 277 [2, 0] zb277 zT70
theorem zT71_ok : zSok zT71 := zsm1_ok zT70_ok fun l0 w K h => by
  unfold zb277 at h
  cases q0 : zpe (zar l0 0) 93 with
  | true =>
    rw [q0, cond_true] at h
    have e : zar l0 0 = 93 := zpe_e q0
    show zcall 277 [(2, zar l0 0), (0, zar l0 1)] w 238 K
    rw [e]
    exact zk277_93 (zar l0 1) w K (zA_e h)
  | false =>
  rw [q0, cond_false] at h
  exact h.elim
set_option maxRecDepth 100000 in
theorem zk278_L6 {w : zW} {K : zK} (hN : zNt w) (hr : zRd 98 w) (c : Int) (hc : 0 ≤ c ∧ c < w 95 0)  : ∀ (m : Nat) (e t : Int) (d4 : zV), (1 ≤ e ∧ e < t ∧ t ≤ 1000001) → (t - e ≤ ((2 ^ m : Nat) : Int)) → (e = 1 ∨ zTgt (w 97 c.toNat) ≤ zHq w 98 c e 0) → (t = 1000001 ∨ zHq w 98 c t 0 < zTgt (w 97 c.toNat)) → (K (0, some (0, zSv (fun v => zHq w 98 c v 0) (zTgt (w 97 c.toNat)))) w 238) → zwp 278 6 [(2, 93), (0, c), (0, e), (0, t), d4] [] w 238 0 K := by
  
  intro m
  induction m with
  | zero =>
    intro e t d4 h1 h2 h3 h4 h
    refine (show (if 1 < z32 (t - e) then (zNt w ∧ zRd 98 w ∧ (0 ≤ c ∧ c < w 95 0) ∧ (1 ≤ (z32 (Int.tdiv (z32 (e + t)) 2)) ∧ (z32 (Int.tdiv (z32 (e + t)) 2)) ≤ 1001000) ∧ -1000 ≤ (0 : Int) ∧ (0 : Int) ≤ 1000) ∧ ((zNt w ∧ 0 ≤ c ∧ c < w 95 0) ∧ (if zHq w 98 c (z32 (Int.tdiv (z32 (e + t)) 2)) (0 : Int) < zTgt (w 97 c.toNat) then zwp 278 6 [(2, 93), (0, c), (0, e), (0, z32 (Int.tdiv (z32 (e + t)) 2)), (9, 0)] [] w 238 0 K else zwp 278 6 [(2, 93), (0, c), (0, z32 (Int.tdiv (z32 (e + t)) 2)), (0, t), (9, 0)] [] w 238 0 K)) else K (0, some (0, e)) w 238) → _ from fun h => show zwp 278 6 [(2, 93), (0, c), (0, e), (0, t), d4] [] w 238 0 K from zgo_imp zT71_ok (cut := fun pc => Nat.beq pc 6 || Nat.beq pc 13 || Nat.beq pc 24 || Nat.beq pc 29 || Nat.beq pc 34 || Nat.beq pc 51) 400 (show if 1 < z32 (t - e) then zwp 278 13 [(2, 93), (0, c), (0, e), (0, t), (9, 0)] [] w 238 0 K else zwp 278 51 [(2, 93), (0, c), (0, e), (0, t), (9, 0)] [(0, e)] w 238 0 K from zmI (fun h => (fun h => show zwp 278 13 [(2, 93), (0, c), (0, e), (0, t), (9, 0)] [] w 238 0 K from zgo_imp zT71_ok (cut := fun pc => Nat.beq pc 6 || Nat.beq pc 13 || Nat.beq pc 24 || Nat.beq pc 29 || Nat.beq pc 34 || Nat.beq pc 51) 400 (show zwp 278 24 [(2, 93), (0, c), (0, e), (0, t), (0, z32 (Int.tdiv (z32 (e + t)) 2))] [(0, z32 (Int.tdiv (z32 (e + t)) 2)), (0, c), (2, 93)] w 238 0 K from (fun h => show zwp 278 24 [(2, 93), (0, c), (0, e), (0, t), (0, z32 (Int.tdiv (z32 (e + t)) 2))] [(0, z32 (Int.tdiv (z32 (e + t)) 2)), (0, c), (2, 93)] w 238 0 K from zgo_imp zT71_ok (cut := fun pc => Nat.beq pc 6 || Nat.beq pc 13 || Nat.beq pc 24 || Nat.beq pc 29 || Nat.beq pc 34 || Nat.beq pc 51) 400 (show (zNt w ∧ zRd 98 w ∧ (0 ≤ c ∧ c < w 95 0) ∧ (1 ≤ (z32 (Int.tdiv (z32 (e + t)) 2)) ∧ (z32 (Int.tdiv (z32 (e + t)) 2)) ≤ 1001000) ∧ -1000 ≤ (0 : Int) ∧ (0 : Int) ≤ 1000) ∧ (zwp 278 29 [(2, 93), (0, c), (0, e), (0, t), (0, z32 (Int.tdiv (z32 (e + t)) 2))] [(1, zHq w 98 c (z32 (Int.tdiv (z32 (e + t)) 2)) (0 : Int))] w 238 0 K) from zmA (fun h => (fun h => show zwp 278 29 [(2, 93), (0, c), (0, e), (0, t), (0, z32 (Int.tdiv (z32 (e + t)) 2))] [(1, zHq w 98 c (z32 (Int.tdiv (z32 (e + t)) 2)) (0 : Int))] w 238 0 K from zgo_imp zT71_ok (cut := fun pc => Nat.beq pc 6 || Nat.beq pc 13 || Nat.beq pc 24 || Nat.beq pc 29 || Nat.beq pc 34 || Nat.beq pc 51) 400 (show (zNt w ∧ 0 ≤ c ∧ c < w 95 0) ∧ (zwp 278 34 [(2, 93), (0, c), (0, e), (0, t), (0, z32 (Int.tdiv (z32 (e + t)) 2))] [(1, zTgt (w 97 c.toNat)), (1, zHq w 98 c (z32 (Int.tdiv (z32 (e + t)) 2)) (0 : Int))] w 238 0 K) from zmA (fun h => (fun h => show zwp 278 34 [(2, 93), (0, c), (0, e), (0, t), (0, z32 (Int.tdiv (z32 (e + t)) 2))] [(1, zTgt (w 97 c.toNat)), (1, zHq w 98 c (z32 (Int.tdiv (z32 (e + t)) 2)) (0 : Int))] w 238 0 K from zgo_imp zT71_ok (cut := fun pc => Nat.beq pc 6 || Nat.beq pc 13 || Nat.beq pc 24 || Nat.beq pc 29 || Nat.beq pc 34 || Nat.beq pc 51) 400 (show if zHq w 98 c (z32 (Int.tdiv (z32 (e + t)) 2)) (0 : Int) < zTgt (w 97 c.toNat) then zwp 278 6 [(2, 93), (0, c), (0, e), (0, z32 (Int.tdiv (z32 (e + t)) 2)), (9, 0)] [] w 238 0 K else zwp 278 6 [(2, 93), (0, c), (0, z32 (Int.tdiv (z32 (e + t)) 2)), (0, t), (9, 0)] [] w 238 0 K from h)) h) h)) h) h)) h)) h) (fun h => (fun h => show zwp 278 51 [(2, 93), (0, c), (0, e), (0, t), (9, 0)] [(0, e)] w 238 0 K from zgo_imp zT71_ok (cut := fun pc => Nat.beq pc 6 || Nat.beq pc 13 || Nat.beq pc 24 || Nat.beq pc 29 || Nat.beq pc 34 || Nat.beq pc 51) 400 (show K (0, some (0, e)) w 238 from h)) h) h)) ?_
    have hp : ((2 ^ 0 : Nat) : Int) = 1 := by decide
    rw [z32_id (x := t - e) ⟨by omega, by omega⟩]
    refine ziF (by omega) (zKe h ?_)
    refine zSv_eq ⟨by omega, by omega, h3, fun u u0 u1 => ?_⟩
    rcases h4 with q | q
    · omega
    · have : zHq w 98 c u 0 ≤ zHq w 98 c t 0 := zH_mono (by omega) (by omega) (by omega)
      show zHq w 98 c u 0 < _
      omega
  | succ m ih =>
    intro e t d4 h1 h2 h3 h4 h
    refine (show (if 1 < z32 (t - e) then (zNt w ∧ zRd 98 w ∧ (0 ≤ c ∧ c < w 95 0) ∧ (1 ≤ (z32 (Int.tdiv (z32 (e + t)) 2)) ∧ (z32 (Int.tdiv (z32 (e + t)) 2)) ≤ 1001000) ∧ -1000 ≤ (0 : Int) ∧ (0 : Int) ≤ 1000) ∧ ((zNt w ∧ 0 ≤ c ∧ c < w 95 0) ∧ (if zHq w 98 c (z32 (Int.tdiv (z32 (e + t)) 2)) (0 : Int) < zTgt (w 97 c.toNat) then zwp 278 6 [(2, 93), (0, c), (0, e), (0, z32 (Int.tdiv (z32 (e + t)) 2)), (9, 0)] [] w 238 0 K else zwp 278 6 [(2, 93), (0, c), (0, z32 (Int.tdiv (z32 (e + t)) 2)), (0, t), (9, 0)] [] w 238 0 K)) else K (0, some (0, e)) w 238) → _ from fun h => show zwp 278 6 [(2, 93), (0, c), (0, e), (0, t), d4] [] w 238 0 K from zgo_imp zT71_ok (cut := fun pc => Nat.beq pc 6 || Nat.beq pc 13 || Nat.beq pc 24 || Nat.beq pc 29 || Nat.beq pc 34 || Nat.beq pc 51) 400 (show if 1 < z32 (t - e) then zwp 278 13 [(2, 93), (0, c), (0, e), (0, t), (9, 0)] [] w 238 0 K else zwp 278 51 [(2, 93), (0, c), (0, e), (0, t), (9, 0)] [(0, e)] w 238 0 K from zmI (fun h => (fun h => show zwp 278 13 [(2, 93), (0, c), (0, e), (0, t), (9, 0)] [] w 238 0 K from zgo_imp zT71_ok (cut := fun pc => Nat.beq pc 6 || Nat.beq pc 13 || Nat.beq pc 24 || Nat.beq pc 29 || Nat.beq pc 34 || Nat.beq pc 51) 400 (show zwp 278 24 [(2, 93), (0, c), (0, e), (0, t), (0, z32 (Int.tdiv (z32 (e + t)) 2))] [(0, z32 (Int.tdiv (z32 (e + t)) 2)), (0, c), (2, 93)] w 238 0 K from (fun h => show zwp 278 24 [(2, 93), (0, c), (0, e), (0, t), (0, z32 (Int.tdiv (z32 (e + t)) 2))] [(0, z32 (Int.tdiv (z32 (e + t)) 2)), (0, c), (2, 93)] w 238 0 K from zgo_imp zT71_ok (cut := fun pc => Nat.beq pc 6 || Nat.beq pc 13 || Nat.beq pc 24 || Nat.beq pc 29 || Nat.beq pc 34 || Nat.beq pc 51) 400 (show (zNt w ∧ zRd 98 w ∧ (0 ≤ c ∧ c < w 95 0) ∧ (1 ≤ (z32 (Int.tdiv (z32 (e + t)) 2)) ∧ (z32 (Int.tdiv (z32 (e + t)) 2)) ≤ 1001000) ∧ -1000 ≤ (0 : Int) ∧ (0 : Int) ≤ 1000) ∧ (zwp 278 29 [(2, 93), (0, c), (0, e), (0, t), (0, z32 (Int.tdiv (z32 (e + t)) 2))] [(1, zHq w 98 c (z32 (Int.tdiv (z32 (e + t)) 2)) (0 : Int))] w 238 0 K) from zmA (fun h => (fun h => show zwp 278 29 [(2, 93), (0, c), (0, e), (0, t), (0, z32 (Int.tdiv (z32 (e + t)) 2))] [(1, zHq w 98 c (z32 (Int.tdiv (z32 (e + t)) 2)) (0 : Int))] w 238 0 K from zgo_imp zT71_ok (cut := fun pc => Nat.beq pc 6 || Nat.beq pc 13 || Nat.beq pc 24 || Nat.beq pc 29 || Nat.beq pc 34 || Nat.beq pc 51) 400 (show (zNt w ∧ 0 ≤ c ∧ c < w 95 0) ∧ (zwp 278 34 [(2, 93), (0, c), (0, e), (0, t), (0, z32 (Int.tdiv (z32 (e + t)) 2))] [(1, zTgt (w 97 c.toNat)), (1, zHq w 98 c (z32 (Int.tdiv (z32 (e + t)) 2)) (0 : Int))] w 238 0 K) from zmA (fun h => (fun h => show zwp 278 34 [(2, 93), (0, c), (0, e), (0, t), (0, z32 (Int.tdiv (z32 (e + t)) 2))] [(1, zTgt (w 97 c.toNat)), (1, zHq w 98 c (z32 (Int.tdiv (z32 (e + t)) 2)) (0 : Int))] w 238 0 K from zgo_imp zT71_ok (cut := fun pc => Nat.beq pc 6 || Nat.beq pc 13 || Nat.beq pc 24 || Nat.beq pc 29 || Nat.beq pc 34 || Nat.beq pc 51) 400 (show if zHq w 98 c (z32 (Int.tdiv (z32 (e + t)) 2)) (0 : Int) < zTgt (w 97 c.toNat) then zwp 278 6 [(2, 93), (0, c), (0, e), (0, z32 (Int.tdiv (z32 (e + t)) 2)), (9, 0)] [] w 238 0 K else zwp 278 6 [(2, 93), (0, c), (0, z32 (Int.tdiv (z32 (e + t)) 2)), (0, t), (9, 0)] [] w 238 0 K from h)) h) h)) h) h)) h)) h) (fun h => (fun h => show zwp 278 51 [(2, 93), (0, c), (0, e), (0, t), (9, 0)] [(0, e)] w 238 0 K from zgo_imp zT71_ok (cut := fun pc => Nat.beq pc 6 || Nat.beq pc 13 || Nat.beq pc 24 || Nat.beq pc 29 || Nat.beq pc 34 || Nat.beq pc 51) 400 (show K (0, some (0, e)) w 238 from h)) h) h)) ?_
    have hp := zpow2 m
    rw [z32_id (x := t - e) ⟨by omega, by omega⟩]
    by_cases q : 1 < t - e
    · have e1 : z32 (Int.tdiv (z32 (e + t)) 2) = (e + t) / 2 := by rw [z32_id (x := e + t) ⟨by omega, by omega⟩, Int.tdiv_eq_ediv_of_nonneg (by omega)]; exact z32_id ⟨by omega, by omega⟩
      simp only [e1]
      refine ziT q ⟨⟨hN, hr, hc, by omega, by omega⟩, ⟨hN, hc⟩, ?_⟩
      by_cases q2 : zHq w 98 c ((e + t) / 2) 0 < zTgt (w 97 c.toNat)
      · exact ziT q2 (ih _ _ _ (by omega) (by omega) h3 (Or.inr q2) h)
      · exact ziF q2 (ih _ _ _ (by omega) (by omega) (Or.inr (by omega)) h4 h)
    · refine ziF q (zKe h ?_)
      refine zSv_eq ⟨by omega, by omega, h3, fun u u0 u1 => ?_⟩
      rcases h4 with q2 | q2
      · omega
      · have : zHq w 98 c u 0 ≤ zHq w 98 c t 0 := zH_mono (by omega) (by omega) (by omega)
        show zHq w 98 c u 0 < _
        omega
/-! Model.solvedOf -/
set_option maxRecDepth 100000 in
theorem zk278_93 (c : Int) (w : zW) (K : zK) (h : (zNt w ∧ zRd 98 w ∧ 0 ≤ c ∧ c < w 95 0) ∧ (K (0, some (0, zSv (fun v => zHq w 98 c v 0) (zTgt (w 97 c.toNat)))) (w) 238)) : zcall 278 [(2, 93), (0, c), (9, 0), (9, 0), (9, 0)] w 238 K := by
  obtain ⟨hg, h⟩ := h
  refine (show (zwp 278 6 [(2, 93), (0, c), (0, 1), (0, 1000001), (9, 0)] [] w 238 0 K) → _ from fun h => show zwp 278 0 [(2, 93), (0, c), (9, 0), (9, 0), (9, 0)] [] w 238 0 K from zgo_imp zT71_ok (cut := fun pc => Nat.beq pc 6 || Nat.beq pc 13 || Nat.beq pc 24 || Nat.beq pc 29 || Nat.beq pc 34 || Nat.beq pc 51) 400 (show zwp 278 6 [(2, 93), (0, c), (0, 1), (0, 1000001), (9, 0)] [] w 238 0 K from h)) ?_
  obtain ⟨hN, hr, hc⟩ := hg
  exact zk278_L6 hN hr c hc 20 1 1000001 _ (by omega) (by decide) (Or.inl rfl) (Or.inl rfl) h
noncomputable def zb278 (l0 : List zV) (w : zW) (K : zK) : Prop := cond (zpe (zar l0 0) 93) (zA l0 1 fun c => (zNt w ∧ zRd 98 w ∧ 0 ≤ c ∧ c < w 95 0) ∧ (K (0, some (0, zSv (fun v => zHq w 98 c v 0) (zTgt (w 97 c.toNat)))) (w) 238)) (False)
noncomputable def zT72 : zSum := zsm1 278 [2, 0, 9, 9, 9] zb278 zT71
theorem zT72_ok : zSok zT72 := zsm1_ok zT71_ok fun l0 w K h => by
  unfold zb278 at h
  cases q0 : zpe (zar l0 0) 93 with
  | true =>
    rw [q0, cond_true] at h
    have e : zar l0 0 = 93 := zpe_e q0
    show zcall 278 [(2, zar l0 0), (0, zar l0 1), (9, 0), (9, 0), (9, 0)] w 238 K
    rw [e]
    exact zk278_93 (zar l0 1) w K (zA_e h)
  | false =>
  rw [q0, cond_false] at h
  exact h.elim
set_option maxRecDepth 100000 in
theorem zk281_L4 {K : zK}   : ∀ (m : Nat) (i k : Int) (w : zW) (d3 : zV), (zNt w) → (zRd 98 w) → (0 ≤ i) → (i + m = w 95 0) → (0 ≤ k) → (k ≤ i) → (K (0, some (0, k + (zSwL 98 m i w).2)) (zSwL 98 m i w).1 238) → zwp 281 4 [(2, 93), (0, k), (0, i), d3] [] w 238 0 K := by
  
  intro m
  induction m with
  | zero =>
    intro i k w d3 hN hr h1 h2 h3 h4 h
    refine (show (if i < w 95 0 then (zNt w ∧ 0 ≤ i ∧ i < w 95 0) ∧ (if ((if zSb w i then 1 else 0) : Int) = 0 then zwp 281 4 [(2, 93), (0, k), (0, z32 (i + 1)), (9, 0)] [] w 238 0 K else zif False (0 ≤ i ∧ i < 36) ((zNt w ∧ zRd 98 w ∧ 0 ≤ i ∧ i < w 95 0) ∧ (zif False (0 ≤ i ∧ i < 36) (zif False (0 ≤ i ∧ i < 36) (if (zupd w 98 i.toNat (zSv (fun v => zHq w 98 i v 0) (zTgt (w 97 i.toNat)))) 98 i.toNat = w 98 i.toNat then zwp 281 4 [(2, 93), (0, z32 (k + 0)), (0, z32 (i + 1)), (9, 0)] [] (zupd w 98 i.toNat (zSv (fun v => zHq w 98 i v 0) (zTgt (w 97 i.toNat)))) 238 0 K else zwp 281 4 [(2, 93), (0, z32 (k + 1)), (0, z32 (i + 1)), (9, 0)] [] (zupd w 98 i.toNat (zSv (fun v => zHq w 98 i v 0) (zTgt (w 97 i.toNat)))) 238 0 K))))) else K (0, some (0, k)) w 238) → _ from fun h => show zwp 281 4 [(2, 93), (0, k), (0, i), d3] [] w 238 0 K from zgo_imp zT72_ok (cut := fun pc => Nat.beq pc 4 || Nat.beq pc 11 || Nat.beq pc 19 || Nat.beq pc 36 || Nat.beq pc 42 || Nat.beq pc 55 || Nat.beq pc 62) 400 (show zwp 281 11 [(2, 93), (0, k), (0, i), (9, 0)] [(0, w 95 0), (0, i)] w 238 0 K from (fun h => show zwp 281 11 [(2, 93), (0, k), (0, i), (9, 0)] [(0, w 95 0), (0, i)] w 238 0 K from zgo_imp zT72_ok (cut := fun pc => Nat.beq pc 4 || Nat.beq pc 11 || Nat.beq pc 19 || Nat.beq pc 36 || Nat.beq pc 42 || Nat.beq pc 55 || Nat.beq pc 62) 400 (show if i < w 95 0 then (zNt w ∧ 0 ≤ i ∧ i < w 95 0) ∧ (zwp 281 19 [(2, 93), (0, k), (0, i), (9, 0)] [(0, ((if zSb w i then 1 else 0) : Int))] w 238 0 K) else K (0, some (0, k)) w 238 from zmI (fun h => zmA (fun h => (fun h => show zwp 281 19 [(2, 93), (0, k), (0, i), (9, 0)] [(0, ((if zSb w i then 1 else 0) : Int))] w 238 0 K from zgo_imp zT72_ok (cut := fun pc => Nat.beq pc 4 || Nat.beq pc 11 || Nat.beq pc 19 || Nat.beq pc 36 || Nat.beq pc 42 || Nat.beq pc 55 || Nat.beq pc 62) 400 (show if ((if zSb w i then 1 else 0) : Int) = 0 then zwp 281 4 [(2, 93), (0, k), (0, z32 (i + 1)), (9, 0)] [] w 238 0 K else zif False (0 ≤ i ∧ i < 36) (zwp 281 36 [(2, 93), (0, k), (0, i), (0, w 98 i.toNat)] [(2, 98)] w 238 0 K) from zmI (fun h => h) (fun h => zmZ (fun h => (fun h => show zwp 281 36 [(2, 93), (0, k), (0, i), (0, w 98 i.toNat)] [(2, 98)] w 238 0 K from zgo_imp zT72_ok (cut := fun pc => Nat.beq pc 4 || Nat.beq pc 11 || Nat.beq pc 19 || Nat.beq pc 36 || Nat.beq pc 42 || Nat.beq pc 55 || Nat.beq pc 62) 400 (show (zNt w ∧ zRd 98 w ∧ 0 ≤ i ∧ i < w 95 0) ∧ (zwp 281 42 [(2, 93), (0, k), (0, i), (0, w 98 i.toNat)] [(0, zSv (fun v => zHq w 98 i v 0) (zTgt (w 97 i.toNat))), (0, i), (2, 98)] w 238 0 K) from zmA (fun h => (fun h => show zwp 281 42 [(2, 93), (0, k), (0, i), (0, w 98 i.toNat)] [(0, zSv (fun v => zHq w 98 i v 0) (zTgt (w 97 i.toNat))), (0, i), (2, 98)] w 238 0 K from zgo_imp zT72_ok (cut := fun pc => Nat.beq pc 4 || Nat.beq pc 11 || Nat.beq pc 19 || Nat.beq pc 36 || Nat.beq pc 42 || Nat.beq pc 55 || Nat.beq pc 62) 400 (show zif False (0 ≤ i ∧ i < 36) (zif False (0 ≤ i ∧ i < 36) (if (zupd w 98 i.toNat (zSv (fun v => zHq w 98 i v 0) (zTgt (w 97 i.toNat)))) 98 i.toNat = w 98 i.toNat then zwp 281 62 [(2, 93), (9, 0), (0, i), (9, 0)] [(0, 0), (0, k)] (zupd w 98 i.toNat (zSv (fun v => zHq w 98 i v 0) (zTgt (w 97 i.toNat)))) 238 0 K else zwp 281 55 [(2, 93), (0, k), (0, i), (0, w 98 i.toNat)] [(0, 1), (0, k)] (zupd w 98 i.toNat (zSv (fun v => zHq w 98 i v 0) (zTgt (w 97 i.toNat)))) 238 0 K)) from zmZ (fun h => zmZ (fun h => zmI (fun h => (fun h => show zwp 281 62 [(2, 93), (9, 0), (0, i), (9, 0)] [(0, 0), (0, k)] (zupd w 98 i.toNat (zSv (fun v => zHq w 98 i v 0) (zTgt (w 97 i.toNat)))) 238 0 K from zgo_imp zT72_ok (cut := fun pc => Nat.beq pc 4 || Nat.beq pc 11 || Nat.beq pc 19 || Nat.beq pc 36 || Nat.beq pc 42 || Nat.beq pc 55 || Nat.beq pc 62) 400 (show zwp 281 4 [(2, 93), (0, z32 (k + 0)), (0, z32 (i + 1)), (9, 0)] [] (zupd w 98 i.toNat (zSv (fun v => zHq w 98 i v 0) (zTgt (w 97 i.toNat)))) 238 0 K from h)) h) (fun h => (fun h => show zwp 281 55 [(2, 93), (0, k), (0, i), (0, w 98 i.toNat)] [(0, 1), (0, k)] (zupd w 98 i.toNat (zSv (fun v => zHq w 98 i v 0) (zTgt (w 97 i.toNat)))) 238 0 K from zgo_imp zT72_ok (cut := fun pc => Nat.beq pc 4 || Nat.beq pc 11 || Nat.beq pc 19 || Nat.beq pc 36 || Nat.beq pc 42 || Nat.beq pc 55 || Nat.beq pc 62) 400 (show zwp 281 62 [(2, 93), (9, 0), (0, i), (9, 0)] [(0, 1), (0, k)] (zupd w 98 i.toNat (zSv (fun v => zHq w 98 i v 0) (zTgt (w 97 i.toNat)))) 238 0 K from (fun h => show zwp 281 62 [(2, 93), (9, 0), (0, i), (9, 0)] [(0, 1), (0, k)] (zupd w 98 i.toNat (zSv (fun v => zHq w 98 i v 0) (zTgt (w 97 i.toNat)))) 238 0 K from zgo_imp zT72_ok (cut := fun pc => Nat.beq pc 4 || Nat.beq pc 11 || Nat.beq pc 19 || Nat.beq pc 36 || Nat.beq pc 42 || Nat.beq pc 55 || Nat.beq pc 62) 400 (show zwp 281 4 [(2, 93), (0, z32 (k + 1)), (0, z32 (i + 1)), (9, 0)] [] (zupd w 98 i.toNat (zSv (fun v => zHq w 98 i v 0) (zTgt (w 97 i.toNat)))) 238 0 K from h)) h)) h) h) h) h)) h) h)) h) h) h)) h) h) (fun h => h) h)) h)) ?_
    refine ziF (by omega) ?_
    exact zKe h (by show k + 0 = k; omega)
  | succ m ih =>
    intro i k w d3 hN hr h1 h2 h3 h4 h
    refine (show (if i < w 95 0 then (zNt w ∧ 0 ≤ i ∧ i < w 95 0) ∧ (if ((if zSb w i then 1 else 0) : Int) = 0 then zwp 281 4 [(2, 93), (0, k), (0, z32 (i + 1)), (9, 0)] [] w 238 0 K else zif False (0 ≤ i ∧ i < 36) ((zNt w ∧ zRd 98 w ∧ 0 ≤ i ∧ i < w 95 0) ∧ (zif False (0 ≤ i ∧ i < 36) (zif False (0 ≤ i ∧ i < 36) (if (zupd w 98 i.toNat (zSv (fun v => zHq w 98 i v 0) (zTgt (w 97 i.toNat)))) 98 i.toNat = w 98 i.toNat then zwp 281 4 [(2, 93), (0, z32 (k + 0)), (0, z32 (i + 1)), (9, 0)] [] (zupd w 98 i.toNat (zSv (fun v => zHq w 98 i v 0) (zTgt (w 97 i.toNat)))) 238 0 K else zwp 281 4 [(2, 93), (0, z32 (k + 1)), (0, z32 (i + 1)), (9, 0)] [] (zupd w 98 i.toNat (zSv (fun v => zHq w 98 i v 0) (zTgt (w 97 i.toNat)))) 238 0 K))))) else K (0, some (0, k)) w 238) → _ from fun h => show zwp 281 4 [(2, 93), (0, k), (0, i), d3] [] w 238 0 K from zgo_imp zT72_ok (cut := fun pc => Nat.beq pc 4 || Nat.beq pc 11 || Nat.beq pc 19 || Nat.beq pc 36 || Nat.beq pc 42 || Nat.beq pc 55 || Nat.beq pc 62) 400 (show zwp 281 11 [(2, 93), (0, k), (0, i), (9, 0)] [(0, w 95 0), (0, i)] w 238 0 K from (fun h => show zwp 281 11 [(2, 93), (0, k), (0, i), (9, 0)] [(0, w 95 0), (0, i)] w 238 0 K from zgo_imp zT72_ok (cut := fun pc => Nat.beq pc 4 || Nat.beq pc 11 || Nat.beq pc 19 || Nat.beq pc 36 || Nat.beq pc 42 || Nat.beq pc 55 || Nat.beq pc 62) 400 (show if i < w 95 0 then (zNt w ∧ 0 ≤ i ∧ i < w 95 0) ∧ (zwp 281 19 [(2, 93), (0, k), (0, i), (9, 0)] [(0, ((if zSb w i then 1 else 0) : Int))] w 238 0 K) else K (0, some (0, k)) w 238 from zmI (fun h => zmA (fun h => (fun h => show zwp 281 19 [(2, 93), (0, k), (0, i), (9, 0)] [(0, ((if zSb w i then 1 else 0) : Int))] w 238 0 K from zgo_imp zT72_ok (cut := fun pc => Nat.beq pc 4 || Nat.beq pc 11 || Nat.beq pc 19 || Nat.beq pc 36 || Nat.beq pc 42 || Nat.beq pc 55 || Nat.beq pc 62) 400 (show if ((if zSb w i then 1 else 0) : Int) = 0 then zwp 281 4 [(2, 93), (0, k), (0, z32 (i + 1)), (9, 0)] [] w 238 0 K else zif False (0 ≤ i ∧ i < 36) (zwp 281 36 [(2, 93), (0, k), (0, i), (0, w 98 i.toNat)] [(2, 98)] w 238 0 K) from zmI (fun h => h) (fun h => zmZ (fun h => (fun h => show zwp 281 36 [(2, 93), (0, k), (0, i), (0, w 98 i.toNat)] [(2, 98)] w 238 0 K from zgo_imp zT72_ok (cut := fun pc => Nat.beq pc 4 || Nat.beq pc 11 || Nat.beq pc 19 || Nat.beq pc 36 || Nat.beq pc 42 || Nat.beq pc 55 || Nat.beq pc 62) 400 (show (zNt w ∧ zRd 98 w ∧ 0 ≤ i ∧ i < w 95 0) ∧ (zwp 281 42 [(2, 93), (0, k), (0, i), (0, w 98 i.toNat)] [(0, zSv (fun v => zHq w 98 i v 0) (zTgt (w 97 i.toNat))), (0, i), (2, 98)] w 238 0 K) from zmA (fun h => (fun h => show zwp 281 42 [(2, 93), (0, k), (0, i), (0, w 98 i.toNat)] [(0, zSv (fun v => zHq w 98 i v 0) (zTgt (w 97 i.toNat))), (0, i), (2, 98)] w 238 0 K from zgo_imp zT72_ok (cut := fun pc => Nat.beq pc 4 || Nat.beq pc 11 || Nat.beq pc 19 || Nat.beq pc 36 || Nat.beq pc 42 || Nat.beq pc 55 || Nat.beq pc 62) 400 (show zif False (0 ≤ i ∧ i < 36) (zif False (0 ≤ i ∧ i < 36) (if (zupd w 98 i.toNat (zSv (fun v => zHq w 98 i v 0) (zTgt (w 97 i.toNat)))) 98 i.toNat = w 98 i.toNat then zwp 281 62 [(2, 93), (9, 0), (0, i), (9, 0)] [(0, 0), (0, k)] (zupd w 98 i.toNat (zSv (fun v => zHq w 98 i v 0) (zTgt (w 97 i.toNat)))) 238 0 K else zwp 281 55 [(2, 93), (0, k), (0, i), (0, w 98 i.toNat)] [(0, 1), (0, k)] (zupd w 98 i.toNat (zSv (fun v => zHq w 98 i v 0) (zTgt (w 97 i.toNat)))) 238 0 K)) from zmZ (fun h => zmZ (fun h => zmI (fun h => (fun h => show zwp 281 62 [(2, 93), (9, 0), (0, i), (9, 0)] [(0, 0), (0, k)] (zupd w 98 i.toNat (zSv (fun v => zHq w 98 i v 0) (zTgt (w 97 i.toNat)))) 238 0 K from zgo_imp zT72_ok (cut := fun pc => Nat.beq pc 4 || Nat.beq pc 11 || Nat.beq pc 19 || Nat.beq pc 36 || Nat.beq pc 42 || Nat.beq pc 55 || Nat.beq pc 62) 400 (show zwp 281 4 [(2, 93), (0, z32 (k + 0)), (0, z32 (i + 1)), (9, 0)] [] (zupd w 98 i.toNat (zSv (fun v => zHq w 98 i v 0) (zTgt (w 97 i.toNat)))) 238 0 K from h)) h) (fun h => (fun h => show zwp 281 55 [(2, 93), (0, k), (0, i), (0, w 98 i.toNat)] [(0, 1), (0, k)] (zupd w 98 i.toNat (zSv (fun v => zHq w 98 i v 0) (zTgt (w 97 i.toNat)))) 238 0 K from zgo_imp zT72_ok (cut := fun pc => Nat.beq pc 4 || Nat.beq pc 11 || Nat.beq pc 19 || Nat.beq pc 36 || Nat.beq pc 42 || Nat.beq pc 55 || Nat.beq pc 62) 400 (show zwp 281 62 [(2, 93), (9, 0), (0, i), (9, 0)] [(0, 1), (0, k)] (zupd w 98 i.toNat (zSv (fun v => zHq w 98 i v 0) (zTgt (w 97 i.toNat)))) 238 0 K from (fun h => show zwp 281 62 [(2, 93), (9, 0), (0, i), (9, 0)] [(0, 1), (0, k)] (zupd w 98 i.toNat (zSv (fun v => zHq w 98 i v 0) (zTgt (w 97 i.toNat)))) 238 0 K from zgo_imp zT72_ok (cut := fun pc => Nat.beq pc 4 || Nat.beq pc 11 || Nat.beq pc 19 || Nat.beq pc 36 || Nat.beq pc 42 || Nat.beq pc 55 || Nat.beq pc 62) 400 (show zwp 281 4 [(2, 93), (0, z32 (k + 1)), (0, z32 (i + 1)), (9, 0)] [] (zupd w 98 i.toNat (zSv (fun v => zHq w 98 i v 0) (zTgt (w 97 i.toNat)))) 238 0 K from h)) h)) h) h) h) h)) h) h)) h) h) h)) h) h) (fun h => h) h)) h)) ?_
    have hn := hN.n
    have hv := zSR_rg w 98 i
    have e : zSwL 98 (m + 1) i w = if zSR w 98 i = -1 ∨ zSR w 98 i = w 98 i.toNat then zSwL 98 m (i + 1) w else
          ((zSwL 98 m (i + 1) (zupd w 98 i.toNat (zSR w 98 i))).1, 1 + (zSwL 98 m (i + 1) (zupd w 98 i.toNat (zSR w 98 i))).2) := rfl
    rw [e] at h
    refine ziT (by omega) ⟨⟨hN, by omega⟩, ?_⟩
    rw [z32_id (x := i + 1) ⟨by omega, by omega⟩]
    by_cases hb : zSb w i
    · refine ziF (by rw [if_pos hb]; decide) (zifI (by omega) ⟨⟨hN, hr, by omega⟩, zifI (by omega) (zifI (by omega) ?_)⟩)
      have ev : zSR w 98 i = zSv (fun v => zHq w 98 i v 0) (zTgt (w 97 i.toNat)) := if_pos hb
      have hv1 : 1 ≤ zSR w 98 i ∧ zSR w 98 i ≤ 1000000 := by
        rw [ev]; exact zSv_rg (zSvP_ex 1000000 (by omega) fun u h1 h2 => by omega)
      rw [← ev]
      have e2 : zupd w 98 i.toNat (zSR w 98 i) 98 i.toNat = zSR w 98 i := by rw [zuat, if_pos rfl]
      have e95 : zupd w 98 i.toNat (zSR w 98 i) 95 = w 95 := zune (by decide)
      by_cases p2 : zSR w 98 i = w 98 i.toNat
      · refine ziT (by rw [e2]; exact p2) ?_
        rw [if_pos (Or.inr p2)] at h
        have e3 : zupd w 98 i.toNat (zSR w 98 i) = w := by
          funext a b
          unfold zupd
          split
          · rename_i ha; subst ha
            split
            · rename_i hb2; subst hb2; exact p2
            · rfl
          · rfl
        rw [e3, z32_id (x := k + 0) ⟨by omega, by omega⟩]
        exact ih _ _ _ _ hN hr (by omega) (by omega) (by omega) (by omega) (zKe h (by omega))
      · refine ziF (by rw [e2]; exact p2) ?_
        rw [if_neg (by omega)] at h
        rw [z32_id (x := k + 1) ⟨by omega, by omega⟩]
        refine ih _ _ _ _ (zNt_fr (fun p hp => zune (by omega)) hN) (zRd_upd (by decide) hr hv1) (by omega) (by rw [e95]; omega) (by omega) (by omega) (zKe h ?_)
        show k + (1 + _) = _
        omega
    · have ev : zSR w 98 i = -1 := if_neg hb
      rw [if_pos (Or.inl ev)] at h
      exact ziT (if_neg hb) (ih _ _ _ _ hN hr (by omega) (by omega) (by omega) (by omega) h)
/-! Model.sweeps -/
set_option maxRecDepth 100000 in
theorem zk281_93 (w : zW) (K : zK) (h : (zNt w ∧ zRd 98 w) ∧ (K (0, some (0, zSwn 98 w)) (zSwp 98 w) 238)) : zcall 281 [(2, 93), (9, 0), (9, 0), (9, 0)] w 238 K := by
  obtain ⟨hg, h⟩ := h
  refine (show (zwp 281 4 [(2, 93), (0, 0), (0, 0), (9, 0)] [] w 238 0 K) → _ from fun h => show zwp 281 0 [(2, 93), (9, 0), (9, 0), (9, 0)] [] w 238 0 K from zgo_imp zT72_ok (cut := fun pc => Nat.beq pc 4 || Nat.beq pc 11 || Nat.beq pc 19 || Nat.beq pc 36 || Nat.beq pc 42 || Nat.beq pc 55 || Nat.beq pc 62) 400 (show zwp 281 4 [(2, 93), (0, 0), (0, 0), (9, 0)] [] w 238 0 K from h)) ?_
  have hn := hg.1.n
  exact zk281_L4 (w 95 0).toNat 0 0 w _ hg.1 hg.2 (by omega) (by omega) (by omega) (by omega) (zKe h (by unfold zSwn; omega))
noncomputable def zb281 (l0 : List zV) (w : zW) (K : zK) : Prop := cond (zpe (zar l0 0) 93) ((zNt w ∧ zRd 98 w) ∧ (K (0, some (0, zSwn 98 w)) (zSwp 98 w) 238)) (False)
noncomputable def zT73 : zSum := zsm1 281 [2, 9, 9, 9] zb281 zT72
theorem zT73_ok : zSok zT73 := zsm1_ok zT72_ok fun l0 w K h => by
  unfold zb281 at h
  cases q0 : zpe (zar l0 0) 93 with
  | true =>
    rw [q0, cond_true] at h
    have e : zar l0 0 = 93 := zpe_e q0
    show zcall 281 [(2, zar l0 0), (9, 0), (9, 0), (9, 0)] w 238 K
    rw [e]
    exact zk281_93  w K h
  | false =>
  rw [q0, cond_false] at h
  exact h.elim
/-! Model.lowOf -/
set_option maxRecDepth 100000 in
theorem zk286_93 (c s : Int) (w : zW) (K : zK) (h : (zNt w ∧ zRd 98 w ∧ (0 ≤ c ∧ c < w 95 0) ∧ 0 ≤ s ∧ s ≤ 1000) ∧ (K (0, some (1, zLo w 98 c s)) (w) 238)) : zcall 286 [(2, 93), (0, c), (0, s)] w 238 K := by
  obtain ⟨hg, h⟩ := h
  refine (show (zif False (0 ≤ c ∧ c < 36) ((zNt w ∧ zRd 98 w ∧ (0 ≤ c ∧ c < w 95 0) ∧ (1 ≤ (z32 ((w 98 c.toNat) + s)) ∧ (z32 ((w 98 c.toNat) + s)) ≤ 1001000) ∧ -1000 ≤ (z32 (-s)) ∧ (z32 (-s)) ≤ 1000) ∧ (K (0, some (1, zHq w 98 c (z32 ((w 98 c.toNat) + s)) (z32 (-s)))) w 238))) → _ from fun h => show zwp 286 0 [(2, 93), (0, c), (0, s)] [] w 238 0 K from zgo_imp zT73_ok (cut := fun pc => Nat.beq pc 11 || Nat.beq pc 16) 400 (show zif False (0 ≤ c ∧ c < 36) (zwp 286 11 [(2, 93), (0, c), (0, s)] [(1, z32 ((w 98 c.toNat) + s)), (0, c), (2, 93)] w 238 0 K) from zmZ (fun h => (fun h => show zwp 286 11 [(2, 93), (0, c), (0, s)] [(1, z32 ((w 98 c.toNat) + s)), (0, c), (2, 93)] w 238 0 K from zgo_imp zT73_ok (cut := fun pc => Nat.beq pc 11 || Nat.beq pc 16) 400 (show (zNt w ∧ zRd 98 w ∧ (0 ≤ c ∧ c < w 95 0) ∧ (1 ≤ (z32 ((w 98 c.toNat) + s)) ∧ (z32 ((w 98 c.toNat) + s)) ≤ 1001000) ∧ -1000 ≤ (z32 (-s)) ∧ (z32 (-s)) ≤ 1000) ∧ (zwp 286 16 [(2, 93), (0, c), (0, s)] [(1, zHq w 98 c (z32 ((w 98 c.toNat) + s)) (z32 (-s)))] w 238 0 K) from zmA (fun h => (fun h => show zwp 286 16 [(2, 93), (0, c), (0, s)] [(1, zHq w 98 c (z32 ((w 98 c.toNat) + s)) (z32 (-s)))] w 238 0 K from zgo_imp zT73_ok (cut := fun pc => Nat.beq pc 11 || Nat.beq pc 16) 400 (show K (0, some (1, zHq w 98 c (z32 ((w 98 c.toNat) + s)) (z32 (-s)))) w 238 from h)) h) h)) h) h)) ?_
  obtain ⟨hN, hr, hc, hs⟩ := hg
  have hn := hN.n
  have h1 := hr c hc.1 hc.2
  rw [z32_id (x := -s) ⟨by omega, by omega⟩, z32_id (x := w 98 c.toNat + s) ⟨by omega, by omega⟩]
  exact zifI (by omega) ⟨⟨hN, hr, hc, by omega, by omega⟩, h⟩
noncomputable def zb286 (l0 : List zV) (w : zW) (K : zK) : Prop := cond (zpe (zar l0 0) 93) (zA l0 1 fun c => zA l0 2 fun s => (zNt w ∧ zRd 98 w ∧ (0 ≤ c ∧ c < w 95 0) ∧ 0 ≤ s ∧ s ≤ 1000) ∧ (K (0, some (1, zLo w 98 c s)) (w) 238)) (False)
noncomputable def zT74 : zSum := zsm1 286 [2, 0, 0] zb286 zT73
theorem zT74_ok : zSok zT74 := zsm1_ok zT73_ok fun l0 w K h => by
  unfold zb286 at h
  cases q0 : zpe (zar l0 0) 93 with
  | true =>
    rw [q0, cond_true] at h
    have e : zar l0 0 = 93 := zpe_e q0
    show zcall 286 [(2, zar l0 0), (0, zar l0 1), (0, zar l0 2)] w 238 K
    rw [e]
    exact zk286_93 (zar l0 1) (zar l0 2) w K (zA_e (zA_e h))
  | false =>
  rw [q0, cond_false] at h
  exact h.elim
/-! Model.highOf -/
set_option maxRecDepth 100000 in
theorem zk287_93 (c s : Int) (w : zW) (K : zK) (h : (zNt w ∧ zRd 98 w ∧ (0 ≤ c ∧ c < w 95 0) ∧ 0 ≤ s ∧ s ≤ 1000) ∧ (K (0, some (1, zHi w 98 c s)) (w) 238)) : zcall 287 [(2, 93), (0, c), (0, s)] w 238 K := by
  obtain ⟨hg, h⟩ := h
  refine (show (zif False (0 ≤ c ∧ c < 36) ((zNt w ∧ zRd 98 w ∧ (0 ≤ c ∧ c < w 95 0) ∧ (1 ≤ (max 1 (z32 ((w 98 c.toNat) - s))) ∧ (max 1 (z32 ((w 98 c.toNat) - s))) ≤ 1001000) ∧ -1000 ≤ s ∧ s ≤ 1000) ∧ (K (0, some (1, zHq w 98 c (max 1 (z32 ((w 98 c.toNat) - s))) s)) w 238))) → _ from fun h => show zwp 287 0 [(2, 93), (0, c), (0, s)] [] w 238 0 K from zgo_imp zT74_ok (cut := fun pc => Nat.beq pc 11 || Nat.beq pc 14 || Nat.beq pc 18) 400 (show zif False (0 ≤ c ∧ c < 36) (zwp 287 11 [(2, 93), (0, c), (0, s)] [(1, z32 ((w 98 c.toNat) - s)), (0, c), (2, 93)] w 238 0 K) from zmZ (fun h => (fun h => show zwp 287 11 [(2, 93), (0, c), (0, s)] [(1, z32 ((w 98 c.toNat) - s)), (0, c), (2, 93)] w 238 0 K from zgo_imp zT74_ok (cut := fun pc => Nat.beq pc 11 || Nat.beq pc 14 || Nat.beq pc 18) 400 (show zwp 287 14 [(2, 93), (0, c), (0, s)] [(1, max 1 (z32 ((w 98 c.toNat) - s))), (0, c), (2, 93)] w 238 0 K from (fun h => show zwp 287 14 [(2, 93), (0, c), (0, s)] [(1, max 1 (z32 ((w 98 c.toNat) - s))), (0, c), (2, 93)] w 238 0 K from zgo_imp zT74_ok (cut := fun pc => Nat.beq pc 11 || Nat.beq pc 14 || Nat.beq pc 18) 400 (show (zNt w ∧ zRd 98 w ∧ (0 ≤ c ∧ c < w 95 0) ∧ (1 ≤ (max 1 (z32 ((w 98 c.toNat) - s))) ∧ (max 1 (z32 ((w 98 c.toNat) - s))) ≤ 1001000) ∧ -1000 ≤ s ∧ s ≤ 1000) ∧ (zwp 287 18 [(2, 93), (0, c), (0, s)] [(1, zHq w 98 c (max 1 (z32 ((w 98 c.toNat) - s))) s)] w 238 0 K) from zmA (fun h => (fun h => show zwp 287 18 [(2, 93), (0, c), (0, s)] [(1, zHq w 98 c (max 1 (z32 ((w 98 c.toNat) - s))) s)] w 238 0 K from zgo_imp zT74_ok (cut := fun pc => Nat.beq pc 11 || Nat.beq pc 14 || Nat.beq pc 18) 400 (show K (0, some (1, zHq w 98 c (max 1 (z32 ((w 98 c.toNat) - s))) s)) w 238 from h)) h) h)) h)) h) h)) ?_
  obtain ⟨hN, hr, hc, hs⟩ := hg
  have hn := hN.n
  have h1 := hr c hc.1 hc.2
  rw [z32_id (x := w 98 c.toNat - s) ⟨by omega, by omega⟩]
  exact zifI (by omega) ⟨⟨hN, hr, hc, by omega, by omega⟩, h⟩
noncomputable def zb287 (l0 : List zV) (w : zW) (K : zK) : Prop := cond (zpe (zar l0 0) 93) (zA l0 1 fun c => zA l0 2 fun s => (zNt w ∧ zRd 98 w ∧ (0 ≤ c ∧ c < w 95 0) ∧ 0 ≤ s ∧ s ≤ 1000) ∧ (K (0, some (1, zHi w 98 c s)) (w) 238)) (False)
noncomputable def zT75 : zSum := zsm1 287 [2, 0, 0] zb287 zT74
theorem zT75_ok : zSok zT75 := zsm1_ok zT74_ok fun l0 w K h => by
  unfold zb287 at h
  cases q0 : zpe (zar l0 0) 93 with
  | true =>
    rw [q0, cond_true] at h
    have e : zar l0 0 = 93 := zpe_e q0
    show zcall 287 [(2, zar l0 0), (0, zar l0 1), (0, zar l0 2)] w 238 K
    rw [e]
    exact zk287_93 (zar l0 1) (zar l0 2) w K (zA_e (zA_e h))
  | false =>
  rw [q0, cond_false] at h
  exact h.elim
/-! Model.certain -/
set_option maxRecDepth 100000 in
theorem zk290_93 (c s b : Int) (w : zW) (K : zK) (h : (zNt w ∧ zRd 98 w ∧ (0 ≤ c ∧ c < w 95 0) ∧ 0 ≤ s ∧ s ≤ 1000 ∧ 0 ≤ b ∧ b ≤ 2000000000) ∧ (K (0, some (0, (if zWi w 98 c s b then 1 else 0))) (w) 238)) : zcall 290 [(2, 93), (0, c), (0, s), (0, b)] w 238 K := by
  obtain ⟨hg, h⟩ := h
  refine (show ((zNt w ∧ zRd 98 w ∧ (0 ≤ c ∧ c < w 95 0) ∧ 0 ≤ s ∧ s ≤ 1000) ∧ ((zNt w ∧ 0 ≤ c ∧ c < w 95 0) ∧ (if zLo w 98 c s < z64 ((zTgt (w 97 c.toNat)) - b) then K (0, some (0, 0)) w 238 else (zNt w ∧ zRd 98 w ∧ (0 ≤ c ∧ c < w 95 0) ∧ 0 ≤ s ∧ s ≤ 1000) ∧ ((zNt w ∧ 0 ≤ c ∧ c < w 95 0) ∧ (if z64 ((zTgt (w 97 c.toNat)) + b) < zHi w 98 c s then K (0, some (0, 0)) w 238 else K (0, some (0, 1)) w 238))))) → _ from fun h => show zwp 290 0 [(2, 93), (0, c), (0, s), (0, b)] [] w 238 0 K from zgo_imp zT75_ok (cut := fun pc => Nat.beq pc 6 || Nat.beq pc 11 || Nat.beq pc 24 || Nat.beq pc 29 || Nat.beq pc 42) 400 (show (zNt w ∧ zRd 98 w ∧ (0 ≤ c ∧ c < w 95 0) ∧ 0 ≤ s ∧ s ≤ 1000) ∧ (zwp 290 6 [(2, 93), (0, c), (0, s), (0, b)] [(1, zLo w 98 c s)] w 238 0 K) from zmA (fun h => (fun h => show zwp 290 6 [(2, 93), (0, c), (0, s), (0, b)] [(1, zLo w 98 c s)] w 238 0 K from zgo_imp zT75_ok (cut := fun pc => Nat.beq pc 6 || Nat.beq pc 11 || Nat.beq pc 24 || Nat.beq pc 29 || Nat.beq pc 42) 400 (show (zNt w ∧ 0 ≤ c ∧ c < w 95 0) ∧ (zwp 290 11 [(2, 93), (0, c), (0, s), (0, b)] [(1, zTgt (w 97 c.toNat)), (1, zLo w 98 c s)] w 238 0 K) from zmA (fun h => (fun h => show zwp 290 11 [(2, 93), (0, c), (0, s), (0, b)] [(1, zTgt (w 97 c.toNat)), (1, zLo w 98 c s)] w 238 0 K from zgo_imp zT75_ok (cut := fun pc => Nat.beq pc 6 || Nat.beq pc 11 || Nat.beq pc 24 || Nat.beq pc 29 || Nat.beq pc 42) 400 (show if zLo w 98 c s < z64 ((zTgt (w 97 c.toNat)) - b) then K (0, some (0, 0)) w 238 else (zNt w ∧ zRd 98 w ∧ (0 ≤ c ∧ c < w 95 0) ∧ 0 ≤ s ∧ s ≤ 1000) ∧ (zwp 290 24 [(2, 93), (0, c), (0, s), (0, b)] [(1, zHi w 98 c s)] w 238 0 K) from zmI (fun h => h) (fun h => zmA (fun h => (fun h => show zwp 290 24 [(2, 93), (0, c), (0, s), (0, b)] [(1, zHi w 98 c s)] w 238 0 K from zgo_imp zT75_ok (cut := fun pc => Nat.beq pc 6 || Nat.beq pc 11 || Nat.beq pc 24 || Nat.beq pc 29 || Nat.beq pc 42) 400 (show (zNt w ∧ 0 ≤ c ∧ c < w 95 0) ∧ (zwp 290 29 [(2, 93), (0, c), (0, s), (0, b)] [(1, zTgt (w 97 c.toNat)), (1, zHi w 98 c s)] w 238 0 K) from zmA (fun h => (fun h => show zwp 290 29 [(2, 93), (0, c), (0, s), (0, b)] [(1, zTgt (w 97 c.toNat)), (1, zHi w 98 c s)] w 238 0 K from zgo_imp zT75_ok (cut := fun pc => Nat.beq pc 6 || Nat.beq pc 11 || Nat.beq pc 24 || Nat.beq pc 29 || Nat.beq pc 42) 400 (show if z64 ((zTgt (w 97 c.toNat)) + b) < zHi w 98 c s then K (0, some (0, 0)) w 238 else K (0, some (0, 1)) w 238 from h)) h) h)) h) h) h)) h) h)) h) h)) ?_
  obtain ⟨hN, hr, hc, hs0, hs1, hb⟩ := hg
  have hn := hN.n
  have hd := hN.deg hc.1 hc.2
  have ht := zTgt_rg hd.2.1 hd.2.2.1
  refine ⟨⟨hN, hr, hc, hs0, hs1⟩, ⟨hN, hc⟩, ?_⟩
  rw [z64_id (x := zTgt (w 97 c.toNat) - b) ⟨by omega, by omega⟩, z64_id (x := zTgt (w 97 c.toNat) + b) ⟨by omega, by omega⟩]
  by_cases q1 : zLo w 98 c s < zTgt (w 97 c.toNat) - b
  · exact ziT q1 (zKe h (if_neg fun q => by have := q.1; omega))
  · refine ziF q1 ⟨⟨hN, hr, hc, hs0, hs1⟩, ⟨hN, hc⟩, ?_⟩
    by_cases q2 : zTgt (w 97 c.toNat) + b < zHi w 98 c s
    · exact ziT q2 (zKe h (if_neg fun q => by have := q.2; omega))
    · exact ziF q2 (zKe h (if_pos ⟨by omega, by omega⟩))
noncomputable def zb290 (l0 : List zV) (w : zW) (K : zK) : Prop := cond (zpe (zar l0 0) 93) (zA l0 1 fun c => zA l0 2 fun s => zA l0 3 fun b => (zNt w ∧ zRd 98 w ∧ (0 ≤ c ∧ c < w 95 0) ∧ 0 ≤ s ∧ s ≤ 1000 ∧ 0 ≤ b ∧ b ≤ 2000000000) ∧ (K (0, some (0, (if zWi w 98 c s b then 1 else 0))) (w) 238)) (False)
noncomputable def zT76 : zSum := zsm1 290 [2, 0, 0, 0] zb290 zT75
theorem zT76_ok : zSok zT76 := zsm1_ok zT75_ok fun l0 w K h => by
  unfold zb290 at h
  cases q0 : zpe (zar l0 0) 93 with
  | true =>
    rw [q0, cond_true] at h
    have e : zar l0 0 = 93 := zpe_e q0
    show zcall 290 [(2, zar l0 0), (0, zar l0 1), (0, zar l0 2), (0, zar l0 3)] w 238 K
    rw [e]
    exact zk290_93 (zar l0 1) (zar l0 2) (zar l0 3) w K (zA_e (zA_e (zA_e h)))
  | false =>
  rw [q0, cond_false] at h
  exact h.elim
set_option maxRecDepth 100000 in
theorem zk292_L2 {w : zW} {K : zK} (hN : zNt w) (hr : zRd 98 w) (s b : Int) (hs : 0 ≤ s ∧ s ≤ 1000) (hb : 0 ≤ b ∧ b ≤ 2000000000)  : ∀ (m : Nat) (i : Int), (0 ≤ i) → (i + m = w 95 0) → (K (0, some (0, if zFi (fun c => 0 < w 97 c.toNat ∧ ¬ zWi w 98 c s b) m i = -1 then 1 else 0)) w 238) → zwp 292 2 [(2, 93), (0, s), (0, b), (0, i)] [] w 238 0 K := by
  
  intro m
  induction m with
  | zero =>
    intro i  h1 h2 h
    refine (show (if i < w 95 0 then zif False (0 ≤ i ∧ i < 36) (if 0 < w 97 i.toNat then (zNt w ∧ zRd 98 w ∧ (0 ≤ i ∧ i < w 95 0) ∧ 0 ≤ s ∧ s ≤ 1000 ∧ 0 ≤ b ∧ b ≤ 2000000000) ∧ (if ((if zWi w 98 i s b then 1 else 0) : Int) = 0 then K (0, some (0, 0)) w 238 else zwp 292 2 [(2, 93), (0, s), (0, b), (0, z32 (i + 1))] [] w 238 0 K) else zwp 292 2 [(2, 93), (0, s), (0, b), (0, z32 (i + 1))] [] w 238 0 K) else K (0, some (0, 1)) w 238) → _ from fun h => show zwp 292 2 [(2, 93), (0, s), (0, b), (0, i)] [] w 238 0 K from zgo_imp zT76_ok (cut := fun pc => Nat.beq pc 2 || Nat.beq pc 13 || Nat.beq pc 17 || Nat.beq pc 27) 400 (show if i < w 95 0 then zwp 292 13 [(2, 93), (0, s), (0, b), (0, i)] [(2, 93)] w 238 0 K else K (0, some (0, 1)) w 238 from zmI (fun h => (fun h => show zwp 292 13 [(2, 93), (0, s), (0, b), (0, i)] [(2, 93)] w 238 0 K from zgo_imp zT76_ok (cut := fun pc => Nat.beq pc 2 || Nat.beq pc 13 || Nat.beq pc 17 || Nat.beq pc 27) 400 (show zif False (0 ≤ i ∧ i < 36) (if 0 < w 97 i.toNat then zwp 292 17 [(2, 93), (0, s), (0, b), (0, i)] [(0, 1)] w 238 0 K else zwp 292 17 [(2, 93), (0, s), (0, b), (0, i)] [(0, 0)] w 238 0 K) from zmZ (fun h => zmI (fun h => (fun h => show zwp 292 17 [(2, 93), (0, s), (0, b), (0, i)] [(0, 1)] w 238 0 K from zgo_imp zT76_ok (cut := fun pc => Nat.beq pc 2 || Nat.beq pc 13 || Nat.beq pc 17 || Nat.beq pc 27) 400 (show (zNt w ∧ zRd 98 w ∧ (0 ≤ i ∧ i < w 95 0) ∧ 0 ≤ s ∧ s ≤ 1000 ∧ 0 ≤ b ∧ b ≤ 2000000000) ∧ (zwp 292 27 [(2, 93), (0, s), (0, b), (0, i)] [(0, ((if zWi w 98 i s b then 1 else 0) : Int))] w 238 0 K) from zmA (fun h => (fun h => show zwp 292 27 [(2, 93), (0, s), (0, b), (0, i)] [(0, ((if zWi w 98 i s b then 1 else 0) : Int))] w 238 0 K from zgo_imp zT76_ok (cut := fun pc => Nat.beq pc 2 || Nat.beq pc 13 || Nat.beq pc 17 || Nat.beq pc 27) 400 (show if ((if zWi w 98 i s b then 1 else 0) : Int) = 0 then K (0, some (0, 0)) w 238 else zwp 292 2 [(2, 93), (0, s), (0, b), (0, z32 (i + 1))] [] w 238 0 K from h)) h) h)) h) (fun h => (fun h => show zwp 292 17 [(2, 93), (0, s), (0, b), (0, i)] [(0, 0)] w 238 0 K from zgo_imp zT76_ok (cut := fun pc => Nat.beq pc 2 || Nat.beq pc 13 || Nat.beq pc 17 || Nat.beq pc 27) 400 (show zwp 292 2 [(2, 93), (0, s), (0, b), (0, z32 (i + 1))] [] w 238 0 K from h)) h) h) h)) h) (fun h => h) h)) ?_
    refine ziF (by omega) ?_
    exact h
  | succ m ih =>
    intro i  h1 h2 h
    refine (show (if i < w 95 0 then zif False (0 ≤ i ∧ i < 36) (if 0 < w 97 i.toNat then (zNt w ∧ zRd 98 w ∧ (0 ≤ i ∧ i < w 95 0) ∧ 0 ≤ s ∧ s ≤ 1000 ∧ 0 ≤ b ∧ b ≤ 2000000000) ∧ (if ((if zWi w 98 i s b then 1 else 0) : Int) = 0 then K (0, some (0, 0)) w 238 else zwp 292 2 [(2, 93), (0, s), (0, b), (0, z32 (i + 1))] [] w 238 0 K) else zwp 292 2 [(2, 93), (0, s), (0, b), (0, z32 (i + 1))] [] w 238 0 K) else K (0, some (0, 1)) w 238) → _ from fun h => show zwp 292 2 [(2, 93), (0, s), (0, b), (0, i)] [] w 238 0 K from zgo_imp zT76_ok (cut := fun pc => Nat.beq pc 2 || Nat.beq pc 13 || Nat.beq pc 17 || Nat.beq pc 27) 400 (show if i < w 95 0 then zwp 292 13 [(2, 93), (0, s), (0, b), (0, i)] [(2, 93)] w 238 0 K else K (0, some (0, 1)) w 238 from zmI (fun h => (fun h => show zwp 292 13 [(2, 93), (0, s), (0, b), (0, i)] [(2, 93)] w 238 0 K from zgo_imp zT76_ok (cut := fun pc => Nat.beq pc 2 || Nat.beq pc 13 || Nat.beq pc 17 || Nat.beq pc 27) 400 (show zif False (0 ≤ i ∧ i < 36) (if 0 < w 97 i.toNat then zwp 292 17 [(2, 93), (0, s), (0, b), (0, i)] [(0, 1)] w 238 0 K else zwp 292 17 [(2, 93), (0, s), (0, b), (0, i)] [(0, 0)] w 238 0 K) from zmZ (fun h => zmI (fun h => (fun h => show zwp 292 17 [(2, 93), (0, s), (0, b), (0, i)] [(0, 1)] w 238 0 K from zgo_imp zT76_ok (cut := fun pc => Nat.beq pc 2 || Nat.beq pc 13 || Nat.beq pc 17 || Nat.beq pc 27) 400 (show (zNt w ∧ zRd 98 w ∧ (0 ≤ i ∧ i < w 95 0) ∧ 0 ≤ s ∧ s ≤ 1000 ∧ 0 ≤ b ∧ b ≤ 2000000000) ∧ (zwp 292 27 [(2, 93), (0, s), (0, b), (0, i)] [(0, ((if zWi w 98 i s b then 1 else 0) : Int))] w 238 0 K) from zmA (fun h => (fun h => show zwp 292 27 [(2, 93), (0, s), (0, b), (0, i)] [(0, ((if zWi w 98 i s b then 1 else 0) : Int))] w 238 0 K from zgo_imp zT76_ok (cut := fun pc => Nat.beq pc 2 || Nat.beq pc 13 || Nat.beq pc 17 || Nat.beq pc 27) 400 (show if ((if zWi w 98 i s b then 1 else 0) : Int) = 0 then K (0, some (0, 0)) w 238 else zwp 292 2 [(2, 93), (0, s), (0, b), (0, z32 (i + 1))] [] w 238 0 K from h)) h) h)) h) (fun h => (fun h => show zwp 292 17 [(2, 93), (0, s), (0, b), (0, i)] [(0, 0)] w 238 0 K from zgo_imp zT76_ok (cut := fun pc => Nat.beq pc 2 || Nat.beq pc 13 || Nat.beq pc 17 || Nat.beq pc 27) 400 (show zwp 292 2 [(2, 93), (0, s), (0, b), (0, z32 (i + 1))] [] w 238 0 K from h)) h) h) h)) h) (fun h => h) h)) ?_
    have hn := hN.n
    refine ziT (by omega) (zifI (by omega) ?_)
    rw [z32_id (x := i + 1) ⟨by omega, by omega⟩]
    have e : zFi (fun c => 0 < w 97 c.toNat ∧ ¬ zWi w 98 c s b) (m + 1) i = if 0 < w 97 i.toNat ∧ ¬ zWi w 98 i s b then i else zFi (fun c => 0 < w 97 c.toNat ∧ ¬ zWi w 98 c s b) m (i + 1) := rfl
    by_cases hp : 0 < w 97 i.toNat
    · refine ziT hp ⟨⟨hN, hr, by omega, hs.1, hs.2, hb⟩, ?_⟩
      by_cases hw : zWi w 98 i s b
      · rw [e.trans (if_neg fun q => q.2 hw)] at h
        exact ziF (by rw [if_pos hw]; decide) (ih _ (by omega) (by omega) h)
      · rw [e.trans (if_pos ⟨hp, hw⟩)] at h
        exact ziT (if_neg hw) (zKe h (if_neg (by omega)))
    · rw [e.trans (if_neg fun q => hp q.1)] at h
      exact ziF hp (ih _ (by omega) (by omega) h)
/-! Model.areCertain -/
set_option maxRecDepth 100000 in
theorem zk292_93 (s b : Int) (w : zW) (K : zK) (h : (zNt w ∧ zRd 98 w ∧ (0 ≤ s ∧ s ≤ 1000) ∧ 0 ≤ b ∧ b ≤ 2000000000) ∧ (K (0, some (0, (if zUc w 98 s b = -1 then 1 else 0))) (w) 238)) : zcall 292 [(2, 93), (0, s), (0, b), (9, 0)] w 238 K := by
  obtain ⟨hg, h⟩ := h
  refine (show (zwp 292 2 [(2, 93), (0, s), (0, b), (0, 0)] [] w 238 0 K) → _ from fun h => show zwp 292 0 [(2, 93), (0, s), (0, b), (9, 0)] [] w 238 0 K from zgo_imp zT76_ok (cut := fun pc => Nat.beq pc 2 || Nat.beq pc 13 || Nat.beq pc 17 || Nat.beq pc 27) 400 (show zwp 292 2 [(2, 93), (0, s), (0, b), (0, 0)] [] w 238 0 K from h)) ?_
  obtain ⟨hN, hr, hs, hb⟩ := hg
  have hn := hN.n
  exact zk292_L2 hN hr s b hs hb (w 95 0).toNat 0 (by omega) (by omega) h
noncomputable def zb292 (l0 : List zV) (w : zW) (K : zK) : Prop := cond (zpe (zar l0 0) 93) (zA l0 1 fun s => zA l0 2 fun b => (zNt w ∧ zRd 98 w ∧ (0 ≤ s ∧ s ≤ 1000) ∧ 0 ≤ b ∧ b ≤ 2000000000) ∧ (K (0, some (0, (if zUc w 98 s b = -1 then 1 else 0))) (w) 238)) (False)
noncomputable def zT77 : zSum := zsm1 292 [2, 0, 0, 9] zb292 zT76
theorem zT77_ok : zSok zT77 := zsm1_ok zT76_ok fun l0 w K h => by
  unfold zb292 at h
  cases q0 : zpe (zar l0 0) 93 with
  | true =>
    rw [q0, cond_true] at h
    have e : zar l0 0 = 93 := zpe_e q0
    show zcall 292 [(2, zar l0 0), (0, zar l0 1), (0, zar l0 2), (9, 0)] w 238 K
    rw [e]
    exact zk292_93 (zar l0 1) (zar l0 2) w K (zA_e (zA_e h))
  | false =>
  rw [q0, cond_false] at h
  exact h.elim
set_option maxRecDepth 100000 in
theorem zk330_L5 {K : zK} (b : Int)  : ∀ (m : Nat) (i k : Int) (w : zW) (d2 : zV), (zNt w) → (zRd 98 w) → (0 ≤ i) → (i + m = 6) → (K (0, some (0, if zUn (zCm 98 b m w) 98 ≤ b then 1 else 0)) (zCm 98 b m w) 238) → zwp 330 5 [(2, 93), (1, b), d2, (0, i), (0, k)] [] w 238 0 K := by
  
  intro m
  induction m with
  | zero =>
    intro i k w d2 hN hr h1 h2 h
    refine (show ((zNt w ∧ zRd 98 w) ∧ (if b < zUn w 98 then if i < 6 then (zNt w ∧ zRd 98 w) ∧ (zwp 330 5 [(2, 93), (1, b), (9, 0), (0, z32 (i + 1)), (0, z32 (k + (zSwn 98 w)))] [] (zSwp 98 w) 238 0 K) else (zNt w ∧ zRd 98 w) ∧ (if b < zUn w 98 then K (0, some (0, 0)) w 238 else K (0, some (0, 1)) w 238) else (zNt w ∧ zRd 98 w) ∧ (if b < zUn w 98 then K (0, some (0, 0)) w 238 else K (0, some (0, 1)) w 238))) → _ from fun h => show zwp 330 5 [(2, 93), (1, b), d2, (0, i), (0, k)] [] w 238 0 K from zgo_imp zT77_ok (cut := fun pc => Nat.beq pc 5 || Nat.beq pc 9 || Nat.beq pc 26 || Nat.beq pc 39) 400 (show (zNt w ∧ zRd 98 w) ∧ (zwp 330 9 [(2, 93), (1, b), (9, 0), (0, i), (0, k)] [(1, zUn w 98)] w 238 0 K) from zmA (fun h => (fun h => show zwp 330 9 [(2, 93), (1, b), (9, 0), (0, i), (0, k)] [(1, zUn w 98)] w 238 0 K from zgo_imp zT77_ok (cut := fun pc => Nat.beq pc 5 || Nat.beq pc 9 || Nat.beq pc 26 || Nat.beq pc 39) 400 (show if b < zUn w 98 then if i < 6 then (zNt w ∧ zRd 98 w) ∧ (zwp 330 26 [(2, 93), (1, b), (9, 0), (0, i), (0, k)] [(0, zSwn 98 w), (0, k)] (zSwp 98 w) 238 0 K) else (zNt w ∧ zRd 98 w) ∧ (zwp 330 39 [(2, 93), (1, b), (9, 0), (9, 0), (9, 0)] [(1, zUn w 98)] w 238 0 K) else (zNt w ∧ zRd 98 w) ∧ (zwp 330 39 [(2, 93), (1, b), (9, 0), (9, 0), (9, 0)] [(1, zUn w 98)] w 238 0 K) from zmI (fun h => zmI (fun h => zmA (fun h => (fun h => show zwp 330 26 [(2, 93), (1, b), (9, 0), (0, i), (0, k)] [(0, zSwn 98 w), (0, k)] (zSwp 98 w) 238 0 K from zgo_imp zT77_ok (cut := fun pc => Nat.beq pc 5 || Nat.beq pc 9 || Nat.beq pc 26 || Nat.beq pc 39) 400 (show zwp 330 5 [(2, 93), (1, b), (9, 0), (0, z32 (i + 1)), (0, z32 (k + (zSwn 98 w)))] [] (zSwp 98 w) 238 0 K from h)) h) h) (fun h => zmA (fun h => (fun h => show zwp 330 39 [(2, 93), (1, b), (9, 0), (9, 0), (9, 0)] [(1, zUn w 98)] w 238 0 K from zgo_imp zT77_ok (cut := fun pc => Nat.beq pc 5 || Nat.beq pc 9 || Nat.beq pc 26 || Nat.beq pc 39) 400 (show if b < zUn w 98 then K (0, some (0, 0)) w 238 else K (0, some (0, 1)) w 238 from h)) h) h) h) (fun h => zmA (fun h => (fun h => show zwp 330 39 [(2, 93), (1, b), (9, 0), (9, 0), (9, 0)] [(1, zUn w 98)] w 238 0 K from zgo_imp zT77_ok (cut := fun pc => Nat.beq pc 5 || Nat.beq pc 9 || Nat.beq pc 26 || Nat.beq pc 39) 400 (show if b < zUn w 98 then K (0, some (0, 0)) w 238 else K (0, some (0, 1)) w 238 from h)) h) h) h)) h) h)) ?_
    have h : K (0, some (0, if zUn w 98 ≤ b then 1 else 0)) w 238 := h
    refine ⟨⟨hN, hr⟩, ?_⟩
    by_cases q : b < zUn w 98
    · exact ziT q (ziF (by omega) ⟨⟨hN, hr⟩, ziT q (zKe h (if_neg (by omega)))⟩)
    · exact ziF q ⟨⟨hN, hr⟩, ziF q (zKe h (if_pos (by omega)))⟩
  | succ m ih =>
    intro i k w d2 hN hr h1 h2 h
    refine (show ((zNt w ∧ zRd 98 w) ∧ (if b < zUn w 98 then if i < 6 then (zNt w ∧ zRd 98 w) ∧ (zwp 330 5 [(2, 93), (1, b), (9, 0), (0, z32 (i + 1)), (0, z32 (k + (zSwn 98 w)))] [] (zSwp 98 w) 238 0 K) else (zNt w ∧ zRd 98 w) ∧ (if b < zUn w 98 then K (0, some (0, 0)) w 238 else K (0, some (0, 1)) w 238) else (zNt w ∧ zRd 98 w) ∧ (if b < zUn w 98 then K (0, some (0, 0)) w 238 else K (0, some (0, 1)) w 238))) → _ from fun h => show zwp 330 5 [(2, 93), (1, b), d2, (0, i), (0, k)] [] w 238 0 K from zgo_imp zT77_ok (cut := fun pc => Nat.beq pc 5 || Nat.beq pc 9 || Nat.beq pc 26 || Nat.beq pc 39) 400 (show (zNt w ∧ zRd 98 w) ∧ (zwp 330 9 [(2, 93), (1, b), (9, 0), (0, i), (0, k)] [(1, zUn w 98)] w 238 0 K) from zmA (fun h => (fun h => show zwp 330 9 [(2, 93), (1, b), (9, 0), (0, i), (0, k)] [(1, zUn w 98)] w 238 0 K from zgo_imp zT77_ok (cut := fun pc => Nat.beq pc 5 || Nat.beq pc 9 || Nat.beq pc 26 || Nat.beq pc 39) 400 (show if b < zUn w 98 then if i < 6 then (zNt w ∧ zRd 98 w) ∧ (zwp 330 26 [(2, 93), (1, b), (9, 0), (0, i), (0, k)] [(0, zSwn 98 w), (0, k)] (zSwp 98 w) 238 0 K) else (zNt w ∧ zRd 98 w) ∧ (zwp 330 39 [(2, 93), (1, b), (9, 0), (9, 0), (9, 0)] [(1, zUn w 98)] w 238 0 K) else (zNt w ∧ zRd 98 w) ∧ (zwp 330 39 [(2, 93), (1, b), (9, 0), (9, 0), (9, 0)] [(1, zUn w 98)] w 238 0 K) from zmI (fun h => zmI (fun h => zmA (fun h => (fun h => show zwp 330 26 [(2, 93), (1, b), (9, 0), (0, i), (0, k)] [(0, zSwn 98 w), (0, k)] (zSwp 98 w) 238 0 K from zgo_imp zT77_ok (cut := fun pc => Nat.beq pc 5 || Nat.beq pc 9 || Nat.beq pc 26 || Nat.beq pc 39) 400 (show zwp 330 5 [(2, 93), (1, b), (9, 0), (0, z32 (i + 1)), (0, z32 (k + (zSwn 98 w)))] [] (zSwp 98 w) 238 0 K from h)) h) h) (fun h => zmA (fun h => (fun h => show zwp 330 39 [(2, 93), (1, b), (9, 0), (9, 0), (9, 0)] [(1, zUn w 98)] w 238 0 K from zgo_imp zT77_ok (cut := fun pc => Nat.beq pc 5 || Nat.beq pc 9 || Nat.beq pc 26 || Nat.beq pc 39) 400 (show if b < zUn w 98 then K (0, some (0, 0)) w 238 else K (0, some (0, 1)) w 238 from h)) h) h) h) (fun h => zmA (fun h => (fun h => show zwp 330 39 [(2, 93), (1, b), (9, 0), (9, 0), (9, 0)] [(1, zUn w 98)] w 238 0 K from zgo_imp zT77_ok (cut := fun pc => Nat.beq pc 5 || Nat.beq pc 9 || Nat.beq pc 26 || Nat.beq pc 39) 400 (show if b < zUn w 98 then K (0, some (0, 0)) w 238 else K (0, some (0, 1)) w 238 from h)) h) h) h)) h) h)) ?_
    rw [z32_id (x := i + 1) ⟨by omega, by omega⟩]
    have e : zCm 98 b (m + 1) w = if b < zUn w 98 then zCm 98 b m (zSwp 98 w) else w := rfl
    rw [e] at h
    refine ⟨⟨hN, hr⟩, ?_⟩
    by_cases q : b < zUn w 98
    · rw [if_pos q] at h
      exact ziT q (ziT (by omega) ⟨⟨hN, hr⟩, ih _ _ _ _ (zSwp_nt (Or.inr rfl) hN) (zSwp_rd (Or.inr rfl) hr) (by omega) (by omega) h⟩)
    · rw [if_neg q] at h
      exact ziF q ⟨⟨hN, hr⟩, ziF q (zKe h (if_pos (by omega)))⟩
/-! Model.calms -/
set_option maxRecDepth 100000 in
theorem zk330_93 (b : Int) (w : zW) (K : zK) (h : (zNt w ∧ zRd 98 w) ∧ (K (0, some (0, (if zUn (zCm 98 b 6 w) 98 ≤ b then 1 else 0))) (zCm 98 b 6 w) 238)) : zcall 330 [(2, 93), (1, b), (9, 0), (9, 0), (9, 0)] w 238 K := by
  obtain ⟨hg, h⟩ := h
  refine (show (zwp 330 5 [(2, 93), (1, b), (9, 0), (0, 0), (0, 0)] [] w 238 0 K) → _ from fun h => show zwp 330 0 [(2, 93), (1, b), (9, 0), (9, 0), (9, 0)] [] w 238 0 K from zgo_imp zT77_ok (cut := fun pc => Nat.beq pc 5 || Nat.beq pc 9 || Nat.beq pc 26 || Nat.beq pc 39) 400 (show zwp 330 5 [(2, 93), (1, b), (9, 0), (0, 0), (0, 0)] [] w 238 0 K from h)) ?_
  exact zk330_L5 b 6 0 0 w _ hg.1 hg.2 (by omega) (by omega) h
noncomputable def zb330 (l0 : List zV) (w : zW) (K : zK) : Prop := cond (zpe (zar l0 0) 93) (zA l0 1 fun b => (zNt w ∧ zRd 98 w) ∧ (K (0, some (0, (if zUn (zCm 98 b 6 w) 98 ≤ b then 1 else 0))) (zCm 98 b 6 w) 238)) (False)
noncomputable def zT78 : zSum := zsm1 330 [2, 1, 9, 9, 9] zb330 zT77
theorem zT78_ok : zSok zT78 := zsm1_ok zT77_ok fun l0 w K h => by
  unfold zb330 at h
  cases q0 : zpe (zar l0 0) 93 with
  | true =>
    rw [q0, cond_true] at h
    have e : zar l0 0 = 93 := zpe_e q0
    show zcall 330 [(2, zar l0 0), (1, zar l0 1), (9, 0), (9, 0), (9, 0)] w 238 K
    rw [e]
    exact zk330_93 (zar l0 1) w K (zA_e h)
  | false =>
  rw [q0, cond_false] at h
  exact h.elim

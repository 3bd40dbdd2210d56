/-! ===== the class runs a script (written by wip/whole/gen_c.py) ===== -/
def zsG (w : zW) : Prop := (0 ≤ w 23 6 ∧ w 23 6 ≤ 60) ∧ ∀ i : Int, 0 ≤ i → i < w 23 6 → (1007 ≤ w 24 i.toNat ∧ w 24 i.toNat ≤ 1014) ∧ (w 24 i.toNat = 1014 → 0 ≤ w 26 i.toNat ∧ w 26 i.toNat < 60) ∧ (w 24 i.toNat < 1013 → zcA w (w 24 i.toNat) (w 25 i.toNat) (w 26 i.toNat) ∧ (w 24 i.toNat = 1009 → 1 ≤ w 26 i.toNat ∧ w 26 i.toNat ≤ 1000000))
theorem zsG.g {w : zW} (h : zsG w) : zcfG w := ⟨h.1, fun i i0 i1 => by
  have q := h.2 i i0 i1
  exact ⟨by omega, q.2.1⟩⟩
theorem zsG_fr {w v : zW} (e : ∀ p, p = 23 ∨ p = 24 ∨ p = 25 ∨ p = 26 ∨ p = 95 → v p = w p) (h : zsG w) : zsG v := by
  unfold zsG zcA at h ⊢
  rw [e 23 (by decide), e 24 (by decide), e 25 (by decide), e 26 (by decide), e 95 (by decide)]
  exact h
theorem zcf_spec : ∀ (m : Nat) (i : Int) (w : zW), zsG w → (zcf m i w).1 = -1 ∨ ((0 ≤ (zcf m i w).1 ∧ (zcf m i w).1 < w 23 6) ∧ w 24 (zcf m i w).1.toNat < 1013) := by
  intro m
  induction m with
  | zero => exact fun i w h => Or.inl rfl
  | succ m ih =>
    intro i w h
    have e : zcf (m + 1) i w = if 0 ≤ i ∧ i < w 23 6 then (if w 24 i.toNat = 1013 ∨ w 24 i.toNat = 1014 then zcf m (zcfn w i) (zcw w i) else (i, w)) else (-1, w) := rfl
    rw [e]
    by_cases g : 0 ≤ i ∧ i < w 23 6
    · rw [if_pos g]
      by_cases g2 : w 24 i.toNat = 1013 ∨ w 24 i.toNat = 1014
      · rw [if_pos g2]
        exact ih (zcfn w i) (zcw w i) (zsG_fr (fun p hp => zfill_no (by omega)) h)
      · rw [if_neg g2]
        have q := (h.2 i g.1 g.2).1
        exact Or.inr ⟨g, by show w 24 i.toNat < 1013; omega⟩
    · rw [if_neg g]; exact Or.inl rfl
noncomputable def zrq : Nat → Int → Int → zW → Int × zW
  | 0, _, d, w => (d, w)
  | m + 1, i, d, w => if i = -1 then (d, w) else if (zcC w (w 24 i.toNat) (w 25 i.toNat) (w 26 i.toNat)).1 = 0 then (d, (zcC w (w 24 i.toNat) (w 25 i.toNat) (w 26 i.toNat)).2) else zrq m (zcf 6000 (i + 1) (zcC w (w 24 i.toNat) (w 25 i.toNat) (w 26 i.toNat)).2).1 (d + 1) (zcf 6000 (i + 1) (zcC w (w 24 i.toNat) (w 25 i.toNat) (w 26 i.toNat)).2).2
set_option maxRecDepth 100000 in
theorem zk126_B92 {w : zW} {K : zK} (d i : Int) (hk : (0 ≤ w 37 1 ∧ w 37 1 < 6) ∧ 0 ≤ w 37 2 ∧ w 37 2 ≤ 5) (h : K (0, some (0, d)) (if 0 < d then zkpc w else w) 238) : zwp 126 92 [(2, 0), (9, 0), (0, d), (0, i)] [] w 238 1 K := by
  revert h
  intro h
  refine (show (if 0 < d then ((0 ≤ w 37 1 ∧ w 37 1 < 6) ∧ 0 ≤ w 37 2 ∧ w 37 2 ≤ 5) ∧ (K (0, some (0, d)) (zkpc w) 238) else K (0, some (0, d)) w 238) → _ from fun h => show zwp 126 92 [(2, 0), (9, 0), (0, d), (0, i)] [] w 238 1 K from zgo_imp zT240_ok (cut := fun pc => Nat.beq pc 11 || Nat.beq pc 28 || Nat.beq pc 45 || Nat.beq pc 55 || Nat.beq pc 69 || Nat.beq pc 72 || Nat.beq pc 88 || Nat.beq pc 103) 400 (show if 0 < d then ((0 ≤ w 37 1 ∧ w 37 1 < 6) ∧ 0 ≤ w 37 2 ∧ w 37 2 ≤ 5) ∧ (zwp 126 103 [(2, 0), (9, 0), (0, d), (9, 0)] [] (zkpc w) 238 1 K) else zwp 126 103 [(2, 0), (9, 0), (0, d), (9, 0)] [] w 238 1 K from zmI (fun h => zmA (fun h => (fun h => show zwp 126 103 [(2, 0), (9, 0), (0, d), (9, 0)] [] (zkpc w) 238 1 K from zgo_imp zT240_ok (cut := fun pc => Nat.beq pc 11 || Nat.beq pc 28 || Nat.beq pc 45 || Nat.beq pc 55 || Nat.beq pc 69 || Nat.beq pc 72 || Nat.beq pc 88 || Nat.beq pc 103) 400 (show K (0, some (0, d)) (zkpc w) 238 from h)) h) h) (fun h => (fun h => show zwp 126 103 [(2, 0), (9, 0), (0, d), (9, 0)] [] w 238 1 K from zgo_imp zT240_ok (cut := fun pc => Nat.beq pc 11 || Nat.beq pc 28 || Nat.beq pc 45 || Nat.beq pc 55 || Nat.beq pc 69 || Nat.beq pc 72 || Nat.beq pc 88 || Nat.beq pc 103) 400 (show K (0, some (0, d)) w 238 from h)) h) h)) ?_
  by_cases g : 0 < d
  · rw [if_pos g] at h
    exact ziT g ⟨hk, h⟩
  · rw [if_neg g] at h
    exact ziF g h
set_option maxRecDepth 100000 in
theorem zk126_L56 {K : zK}   : ∀ (m : Nat) (d i : Int) (w : zW) (d1 : zV), (0 ≤ d) → (d + m = 20) → ((0 ≤ w 37 1 ∧ w 37 1 < 6) ∧ 0 ≤ w 37 2 ∧ w 37 2 ≤ 5) → (zsG w) → (zPN w) → (i = -1 ∨ ((0 ≤ i ∧ i < w 23 6) ∧ w 24 i.toNat < 1013)) → (K (0, some (0, (zrq m i d w).1)) (if 0 < (zrq m i d w).1 then zkpc (zrq m i d w).2 else (zrq m i d w).2) 238) → zwp 126 56 [(2, 0), d1, (0, d), (0, i)] [] w 238 1 K := by
  
  intro m
  induction m with
  | zero =>
    intro d i w d1 h1 h2 hk hG hP hi h
    refine (show (if i = (-1) then zwp 126 92 [(2, 0), (9, 0), (0, d), (0, i)] [] w 238 1 K else if d < 20 then ((0 ≤ i ∧ i < 60) ∧ zNt w ∧ zRd 30 w ∧ zPC w ∧ zcA w (w 24 i.toNat) (w 25 i.toNat) (w 26 i.toNat)) ∧ (if (zcC w (w 24 i.toNat) (w 25 i.toNat) (w 26 i.toNat)).1 = 0 then zwp 126 92 [(2, 0), (9, 0), (0, d), (0, i)] [] ((zcC w (w 24 i.toNat) (w 25 i.toNat) (w 26 i.toNat)).2) 238 1 K else ((-1 ≤ (z32 (i + 1)) ∧ (z32 (i + 1)) ≤ 61) ∧ zcfG ((zcC w (w 24 i.toNat) (w 25 i.toNat) (w 26 i.toNat)).2)) ∧ (zwp 126 56 [(2, 0), (9, 0), (0, z32 (d + 1)), (0, (zcf 6000 (z32 (i + 1)) ((zcC w (w 24 i.toNat) (w 25 i.toNat) (w 26 i.toNat)).2)).1)] [] (zfill ((zcC w (w 24 i.toNat) (w 25 i.toNat) (w 26 i.toNat)).2) 27 ((zcf 6000 (z32 (i + 1)) ((zcC w (w 24 i.toNat) (w 25 i.toNat) (w 26 i.toNat)).2)).2 27)) 238 1 K)) else zwp 126 92 [(2, 0), (9, 0), (0, d), (0, i)] [] w 238 1 K) → _ from fun h => show zwp 126 56 [(2, 0), d1, (0, d), (0, i)] [] w 238 1 K from zgo_imp zT240_ok (cut := fun pc => Nat.beq pc 11 || Nat.beq pc 28 || Nat.beq pc 45 || Nat.beq pc 55 || Nat.beq pc 56 || Nat.beq pc 69 || Nat.beq pc 72 || Nat.beq pc 88 || Nat.beq pc 92 || Nat.beq pc 103) 400 (show if i = (-1) then zwp 126 92 [(2, 0), (9, 0), (0, d), (0, i)] [] w 238 1 K else if d < 20 then zwp 126 69 [(2, 0), (9, 0), (0, d), (0, i)] [(0, i), (2, 0)] w 238 1 K else zwp 126 92 [(2, 0), (9, 0), (0, d), (0, i)] [] w 238 1 K from zmI (fun h => h) (fun h => zmI (fun h => (fun h => show zwp 126 69 [(2, 0), (9, 0), (0, d), (0, i)] [(0, i), (2, 0)] w 238 1 K from zgo_imp zT240_ok (cut := fun pc => Nat.beq pc 11 || Nat.beq pc 28 || Nat.beq pc 45 || Nat.beq pc 55 || Nat.beq pc 56 || Nat.beq pc 69 || Nat.beq pc 72 || Nat.beq pc 88 || Nat.beq pc 92 || Nat.beq pc 103) 400 (show ((0 ≤ i ∧ i < 60) ∧ zNt w ∧ zRd 30 w ∧ zPC w ∧ zcA w (w 24 i.toNat) (w 25 i.toNat) (w 26 i.toNat)) ∧ (zwp 126 72 [(2, 0), (9, 0), (0, d), (0, i)] [(0, (zcC w (w 24 i.toNat) (w 25 i.toNat) (w 26 i.toNat)).1)] ((zcC w (w 24 i.toNat) (w 25 i.toNat) (w 26 i.toNat)).2) 238 1 K) from zmA (fun h => (fun h => show zwp 126 72 [(2, 0), (9, 0), (0, d), (0, i)] [(0, (zcC w (w 24 i.toNat) (w 25 i.toNat) (w 26 i.toNat)).1)] ((zcC w (w 24 i.toNat) (w 25 i.toNat) (w 26 i.toNat)).2) 238 1 K from zgo_imp zT240_ok (cut := fun pc => Nat.beq pc 11 || Nat.beq pc 28 || Nat.beq pc 45 || Nat.beq pc 55 || Nat.beq pc 56 || Nat.beq pc 69 || Nat.beq pc 72 || Nat.beq pc 88 || Nat.beq pc 92 || Nat.beq pc 103) 400 (show if (zcC w (w 24 i.toNat) (w 25 i.toNat) (w 26 i.toNat)).1 = 0 then zwp 126 92 [(2, 0), (9, 0), (0, d), (0, i)] [] ((zcC w (w 24 i.toNat) (w 25 i.toNat) (w 26 i.toNat)).2) 238 1 K else ((-1 ≤ (z32 (i + 1)) ∧ (z32 (i + 1)) ≤ 61) ∧ zcfG ((zcC w (w 24 i.toNat) (w 25 i.toNat) (w 26 i.toNat)).2)) ∧ (zwp 126 88 [(2, 0), (9, 0), (0, z32 (d + 1)), (0, i)] [(0, (zcf 6000 (z32 (i + 1)) ((zcC w (w 24 i.toNat) (w 25 i.toNat) (w 26 i.toNat)).2)).1)] (zfill ((zcC w (w 24 i.toNat) (w 25 i.toNat) (w 26 i.toNat)).2) 27 ((zcf 6000 (z32 (i + 1)) ((zcC w (w 24 i.toNat) (w 25 i.toNat) (w 26 i.toNat)).2)).2 27)) 238 1 K) from zmI (fun h => h) (fun h => zmA (fun h => (fun h => show zwp 126 88 [(2, 0), (9, 0), (0, z32 (d + 1)), (0, i)] [(0, (zcf 6000 (z32 (i + 1)) ((zcC w (w 24 i.toNat) (w 25 i.toNat) (w 26 i.toNat)).2)).1)] (zfill ((zcC w (w 24 i.toNat) (w 25 i.toNat) (w 26 i.toNat)).2) 27 ((zcf 6000 (z32 (i + 1)) ((zcC w (w 24 i.toNat) (w 25 i.toNat) (w 26 i.toNat)).2)).2 27)) 238 1 K from zgo_imp zT240_ok (cut := fun pc => Nat.beq pc 11 || Nat.beq pc 28 || Nat.beq pc 45 || Nat.beq pc 55 || Nat.beq pc 56 || Nat.beq pc 69 || Nat.beq pc 72 || Nat.beq pc 88 || Nat.beq pc 92 || Nat.beq pc 103) 400 (show zwp 126 56 [(2, 0), (9, 0), (0, z32 (d + 1)), (0, (zcf 6000 (z32 (i + 1)) ((zcC w (w 24 i.toNat) (w 25 i.toNat) (w 26 i.toNat)).2)).1)] [] (zfill ((zcC w (w 24 i.toNat) (w 25 i.toNat) (w 26 i.toNat)).2) 27 ((zcf 6000 (z32 (i + 1)) ((zcC w (w 24 i.toNat) (w 25 i.toNat) (w 26 i.toNat)).2)).2 27)) 238 1 K from h)) h) h) h)) h) h)) h) (fun h => h) h) h)) ?_
    by_cases g : i = -1
    · exact ziT g (zk126_B92 d i hk h)
    · exact ziF g (ziF (by omega) (zk126_B92 d i hk h))
  | succ m ih =>
    intro d i w d1 h1 h2 hk hG hP hi h
    refine (show (if i = (-1) then zwp 126 92 [(2, 0), (9, 0), (0, d), (0, i)] [] w 238 1 K else if d < 20 then ((0 ≤ i ∧ i < 60) ∧ zNt w ∧ zRd 30 w ∧ zPC w ∧ zcA w (w 24 i.toNat) (w 25 i.toNat) (w 26 i.toNat)) ∧ (if (zcC w (w 24 i.toNat) (w 25 i.toNat) (w 26 i.toNat)).1 = 0 then zwp 126 92 [(2, 0), (9, 0), (0, d), (0, i)] [] ((zcC w (w 24 i.toNat) (w 25 i.toNat) (w 26 i.toNat)).2) 238 1 K else ((-1 ≤ (z32 (i + 1)) ∧ (z32 (i + 1)) ≤ 61) ∧ zcfG ((zcC w (w 24 i.toNat) (w 25 i.toNat) (w 26 i.toNat)).2)) ∧ (zwp 126 56 [(2, 0), (9, 0), (0, z32 (d + 1)), (0, (zcf 6000 (z32 (i + 1)) ((zcC w (w 24 i.toNat) (w 25 i.toNat) (w 26 i.toNat)).2)).1)] [] (zfill ((zcC w (w 24 i.toNat) (w 25 i.toNat) (w 26 i.toNat)).2) 27 ((zcf 6000 (z32 (i + 1)) ((zcC w (w 24 i.toNat) (w 25 i.toNat) (w 26 i.toNat)).2)).2 27)) 238 1 K)) else zwp 126 92 [(2, 0), (9, 0), (0, d), (0, i)] [] w 238 1 K) → _ from fun h => show zwp 126 56 [(2, 0), d1, (0, d), (0, i)] [] w 238 1 K from zgo_imp zT240_ok (cut := fun pc => Nat.beq pc 11 || Nat.beq pc 28 || Nat.beq pc 45 || Nat.beq pc 55 || Nat.beq pc 56 || Nat.beq pc 69 || Nat.beq pc 72 || Nat.beq pc 88 || Nat.beq pc 92 || Nat.beq pc 103) 400 (show if i = (-1) then zwp 126 92 [(2, 0), (9, 0), (0, d), (0, i)] [] w 238 1 K else if d < 20 then zwp 126 69 [(2, 0), (9, 0), (0, d), (0, i)] [(0, i), (2, 0)] w 238 1 K else zwp 126 92 [(2, 0), (9, 0), (0, d), (0, i)] [] w 238 1 K from zmI (fun h => h) (fun h => zmI (fun h => (fun h => show zwp 126 69 [(2, 0), (9, 0), (0, d), (0, i)] [(0, i), (2, 0)] w 238 1 K from zgo_imp zT240_ok (cut := fun pc => Nat.beq pc 11 || Nat.beq pc 28 || Nat.beq pc 45 || Nat.beq pc 55 || Nat.beq pc 56 || Nat.beq pc 69 || Nat.beq pc 72 || Nat.beq pc 88 || Nat.beq pc 92 || Nat.beq pc 103) 400 (show ((0 ≤ i ∧ i < 60) ∧ zNt w ∧ zRd 30 w ∧ zPC w ∧ zcA w (w 24 i.toNat) (w 25 i.toNat) (w 26 i.toNat)) ∧ (zwp 126 72 [(2, 0), (9, 0), (0, d), (0, i)] [(0, (zcC w (w 24 i.toNat) (w 25 i.toNat) (w 26 i.toNat)).1)] ((zcC w (w 24 i.toNat) (w 25 i.toNat) (w 26 i.toNat)).2) 238 1 K) from zmA (fun h => (fun h => show zwp 126 72 [(2, 0), (9, 0), (0, d), (0, i)] [(0, (zcC w (w 24 i.toNat) (w 25 i.toNat) (w 26 i.toNat)).1)] ((zcC w (w 24 i.toNat) (w 25 i.toNat) (w 26 i.toNat)).2) 238 1 K from zgo_imp zT240_ok (cut := fun pc => Nat.beq pc 11 || Nat.beq pc 28 || Nat.beq pc 45 || Nat.beq pc 55 || Nat.beq pc 56 || Nat.beq pc 69 || Nat.beq pc 72 || Nat.beq pc 88 || Nat.beq pc 92 || Nat.beq pc 103) 400 (show if (zcC w (w 24 i.toNat) (w 25 i.toNat) (w 26 i.toNat)).1 = 0 then zwp 126 92 [(2, 0), (9, 0), (0, d), (0, i)] [] ((zcC w (w 24 i.toNat) (w 25 i.toNat) (w 26 i.toNat)).2) 238 1 K else ((-1 ≤ (z32 (i + 1)) ∧ (z32 (i + 1)) ≤ 61) ∧ zcfG ((zcC w (w 24 i.toNat) (w 25 i.toNat) (w 26 i.toNat)).2)) ∧ (zwp 126 88 [(2, 0), (9, 0), (0, z32 (d + 1)), (0, i)] [(0, (zcf 6000 (z32 (i + 1)) ((zcC w (w 24 i.toNat) (w 25 i.toNat) (w 26 i.toNat)).2)).1)] (zfill ((zcC w (w 24 i.toNat) (w 25 i.toNat) (w 26 i.toNat)).2) 27 ((zcf 6000 (z32 (i + 1)) ((zcC w (w 24 i.toNat) (w 25 i.toNat) (w 26 i.toNat)).2)).2 27)) 238 1 K) from zmI (fun h => h) (fun h => zmA (fun h => (fun h => show zwp 126 88 [(2, 0), (9, 0), (0, z32 (d + 1)), (0, i)] [(0, (zcf 6000 (z32 (i + 1)) ((zcC w (w 24 i.toNat) (w 25 i.toNat) (w 26 i.toNat)).2)).1)] (zfill ((zcC w (w 24 i.toNat) (w 25 i.toNat) (w 26 i.toNat)).2) 27 ((zcf 6000 (z32 (i + 1)) ((zcC w (w 24 i.toNat) (w 25 i.toNat) (w 26 i.toNat)).2)).2 27)) 238 1 K from zgo_imp zT240_ok (cut := fun pc => Nat.beq pc 11 || Nat.beq pc 28 || Nat.beq pc 45 || Nat.beq pc 55 || Nat.beq pc 56 || Nat.beq pc 69 || Nat.beq pc 72 || Nat.beq pc 88 || Nat.beq pc 92 || Nat.beq pc 103) 400 (show zwp 126 56 [(2, 0), (9, 0), (0, z32 (d + 1)), (0, (zcf 6000 (z32 (i + 1)) ((zcC w (w 24 i.toNat) (w 25 i.toNat) (w 26 i.toNat)).2)).1)] [] (zfill ((zcC w (w 24 i.toNat) (w 25 i.toNat) (w 26 i.toNat)).2) 27 ((zcf 6000 (z32 (i + 1)) ((zcC w (w 24 i.toNat) (w 25 i.toNat) (w 26 i.toNat)).2)).2 27)) 238 1 K from h)) h) h) h)) h) h)) h) (fun h => h) h) h)) ?_
    have e : zrq (m + 1) i d w = if i = -1 then (d, w) else if (zcC w (w 24 i.toNat) (w 25 i.toNat) (w 26 i.toNat)).1 = 0 then (d, (zcC w (w 24 i.toNat) (w 25 i.toNat) (w 26 i.toNat)).2) else zrq m (zcf 6000 (i + 1) (zcC w (w 24 i.toNat) (w 25 i.toNat) (w 26 i.toNat)).2).1 (d + 1) (zcf 6000 (i + 1) (zcC w (w 24 i.toNat) (w 25 i.toNat) (w 26 i.toNat)).2).2 := rfl
    rw [e] at h
    by_cases g : i = -1
    · rw [if_pos g] at h
      exact ziT g (zk126_B92 d i hk h)
    · rw [if_neg g] at h
      have hi := hi.resolve_left g
      have q := hG.2 i hi.1.1 hi.1.2
      have qA := q.2.2 hi.2
      have q6 := hG.1
      have n37 : (zcC w (w 24 i.toNat) (w 25 i.toNat) (w 26 i.toNat)).2 37 = w 37 := zcC_ne (by omega)
      refine ziF g (ziT (by omega) ⟨⟨by omega, hP.1, hP.2.1, hP.2.2, qA.1⟩, ?_⟩)
      by_cases g2 : (zcC w (w 24 i.toNat) (w 25 i.toNat) (w 26 i.toNat)).1 = 0
      · rw [if_pos g2] at h
        exact ziT g2 (zk126_B92 d i (by rw [n37]; exact hk) h)
      · rw [if_neg g2] at h
        have G2 : zsG (zcC w (w 24 i.toNat) (w 25 i.toNat) (w 26 i.toNat)).2 := zsG_fr (fun p hp => zcC_ne (by omega)) hG
        have P2 := zcC_iv hP qA.1 qA.2
        rw [z32_id (x := i + 1) ⟨by omega, by omega⟩, z32_id (x := d + 1) ⟨by omega, by omega⟩]
        refine ziF g2 ⟨⟨by omega, G2.g⟩, ?_⟩
        rw [zcf_fill]
        have ne : ∀ p, p ≠ 27 → (zcf 6000 (i + 1) (zcC w (w 24 i.toNat) (w 25 i.toNat) (w 26 i.toNat)).2).2 p = (zcC w (w 24 i.toNat) (w 25 i.toNat) (w 26 i.toNat)).2 p := fun p hp => zcf_ne hp _ _ _
        refine ih (d + 1) (zcf 6000 (i + 1) (zcC w (w 24 i.toNat) (w 25 i.toNat) (w 26 i.toNat)).2).1 (zcf 6000 (i + 1) (zcC w (w 24 i.toNat) (w 25 i.toNat) (w 26 i.toNat)).2).2 _ (by omega) (by omega) ?_ ?_ ?_ ?_ h
        · rw [ne 37 (by decide), n37]; exact hk
        · exact zsG_fr (fun p hp => ne p (by omega)) G2
        · exact ⟨zNt_fr (fun p hp => ne p (by omega)) P2.1, zRd_fr (ne 95 (by decide)) (ne 30 (by decide)) P2.2.1, zPC_fr (fun p hp => ne p (by omega)) P2.2.2⟩
        · have s := zcf_spec 6000 (i + 1) (zcC w (w 24 i.toNat) (w 25 i.toNat) (w 26 i.toNat)).2 G2
          rw [ne 23 (by decide), ne 24 (by decide)]
          exact s

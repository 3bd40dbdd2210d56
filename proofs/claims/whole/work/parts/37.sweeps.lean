/-! ===== sweeps, bounds (written by wip/whole/gen_c.py) ===== -/
theorem zune {w : zW} {p q j : Nat} {x : Int} (h : p ≠ q) : zupd w q j x p = w p := by
  funext i; unfold zupd; rw [if_neg h]
theorem zuat {w : zW} {q j : Nat} {x : Int} (i : Nat) : zupd w q j x q i = if i = j then x else w q i := by unfold zupd; rw [if_pos rfl]
/-- the net's places alone tell of the net -/
theorem zNt_fr {w w' : zW} (e : ∀ p, p < 13 ∨ (95 ≤ p ∧ p ≤ 101 ∧ p ≠ 98) → w' p = w p) (h : zNt w) : zNt w' := by
  have e4 := e 4 (by omega)
  have e5 := e 5 (by omega)
  have e6 := e 6 (by omega)
  have e8 := e 8 (by omega)
  have e9 := e 9 (by omega)
  have e10 := e 10 (by omega)
  have e11 := e 11 (by omega)
  have e12 := e 12 (by omega)
  have e95 := e 95 (by omega)
  have e96 := e 96 (by omega)
  have e97 := e 97 (by omega)
  have e99 := e 99 (by omega)
  have e100 := e 100 (by omega)
  have e101 := e 101 (by omega)
  have f1 : zfw w' = zfw w := by funext o a b; unfold zfw; rw [e100]
  have f2 : zco w' = zco w := by funext o k; unfold zco; rw [e99]
  unfold zNt zNet zRow at h ⊢
  simp only [f1, f2, e4, e5, e6, e8, e9, e10, e11, e12, e95, e96, e97, e101, Nat.reduceAdd] at h ⊢
  exact h
theorem zF0_fr {w w' : zW} (e : w' 100 = w 100) : zF0 w' = zF0 w := by
  show zfw w' 0 = zfw w 0
  funext a b; unfold zfw; rw [e]
theorem zSvP_ex {f : Int → Int} {tg : Int} : ∀ (k : Nat), k ≤ 1000000 → (∀ u, (k : Int) < u → u ≤ 1000000 → f u < tg) → ∃ v, zSvP f tg v
  | 0, _, h => ⟨1, by omega, by omega, Or.inl rfl, fun u h1 h2 => h u (by omega) h2⟩
  | k + 1, hk, h => by
    by_cases q : tg ≤ f ((k + 1 : Nat) : Int)
    · exact ⟨((k + 1 : Nat) : Int), by omega, by omega, Or.inr q, fun u h1 h2 => h u h1 h2⟩
    · refine zSvP_ex k (by omega) fun u h1 h2 => ?_
      by_cases e : u = ((k + 1 : Nat) : Int)
      · rw [e]; omega
      · exact h u (by omega) h2
theorem zSR_rg (w : zW) (q : Nat) (c : Int) : zSR w q c = -1 ∨ (1 ≤ zSR w q c ∧ zSR w q c ≤ 1000000) := by
  unfold zSR
  by_cases hb : zSb w c
  · rw [if_pos hb]
    exact Or.inr (zSv_rg (zSvP_ex 1000000 (by omega) fun u h1 h2 => by omega))
  · rw [if_neg hb]; exact Or.inl rfl
theorem zSwL_ne (q : Nat) : ∀ (m : Nat) (i : Int) (w : zW) (p : Nat), p ≠ q → (zSwL q m i w).1 p = w p
  | 0, _, _, _, _ => rfl
  | m + 1, i, w, p, hp => by
    have e : zSwL q (m + 1) i w = if zSR w q i = -1 ∨ zSR w q i = w q i.toNat then zSwL q m (i + 1) w else
      ((zSwL q m (i + 1) (zupd w q i.toNat (zSR w q i))).1, 1 + (zSwL q m (i + 1) (zupd w q i.toNat (zSR w q i))).2) := rfl
    rw [e]
    by_cases h : zSR w q i = -1 ∨ zSR w q i = w q i.toNat
    · rw [if_pos h]; exact zSwL_ne q m (i + 1) w p hp
    · rw [if_neg h]
      show (zSwL q m (i + 1) (zupd w q i.toNat (zSR w q i))).1 p = w p
      rw [zSwL_ne q m (i + 1) _ p hp, zune hp]
theorem zRd_upd {q : Nat} {w : zW} {j : Nat} {v : Int} (hq : q ≠ 95) (h : zRd q w) (hv : 1 ≤ v ∧ v ≤ 1000000) : zRd q (zupd w q j v) := fun c c0 c1 => by
  rw [zune (Ne.symm hq)] at c1
  rw [zuat]
  by_cases e : c.toNat = j
  · rw [if_pos e]; exact hv
  · rw [if_neg e]; exact h c c0 c1
theorem zSwL_rd (q : Nat) (hq : q ≠ 95) : ∀ (m : Nat) (i : Int) (w : zW), zRd q w → zRd q (zSwL q m i w).1
  | 0, _, _, h => h
  | m + 1, i, w, hr => by
    have e : zSwL q (m + 1) i w = if zSR w q i = -1 ∨ zSR w q i = w q i.toNat then zSwL q m (i + 1) w else
      ((zSwL q m (i + 1) (zupd w q i.toNat (zSR w q i))).1, 1 + (zSwL q m (i + 1) (zupd w q i.toNat (zSR w q i))).2) := rfl
    rw [e]
    by_cases h : zSR w q i = -1 ∨ zSR w q i = w q i.toNat
    · rw [if_pos h]; exact zSwL_rd q hq m (i + 1) w hr
    · rw [if_neg h]
      have := zSR_rg w q i
      exact zSwL_rd q hq m (i + 1) _ (zRd_upd hq hr (by omega))
theorem zSwp_ne {q : Nat} {w : zW} {p : Nat} (hp : p ≠ q) : zSwp q w p = w p := zSwL_ne q _ _ w p hp
theorem zSwp_nt {q : Nat} {w : zW} (hq : q = 30 ∨ q = 98) (h : zNt w) : zNt (zSwp q w) := zNt_fr (fun p hp => zSwp_ne (by omega)) h
theorem zSwp_rd {q : Nat} {w : zW} (hq : q = 30 ∨ q = 98) (h : zRd q w) : zRd q (zSwp q w) := zSwL_rd q (by omega) _ _ w h
noncomputable def zT35 : zSum := zin1 56 400 zT34
theorem zT35_ok : zSok zT35 := zin1_ok zT34_ok
set_option maxRecDepth 100000 in
theorem zk97_L4 {K : zK}   : ∀ (m : Nat) (i k : Int) (w : zW) (d3 : zV), (zNt w) → (zRd 30 w) → (0 ≤ i) → (i + m = w 95 0) → (0 ≤ k) → (k ≤ i) → (K (0, some (0, k + (zSwL 30 m i w).2)) (zSwL 30 m i w).1 238) → zwp 97 4 [(2, 35), (0, k), (0, i), d3] [] w 238 0 K := by
  
  intro m
  induction m with
  | zero =>
    intro i k w d3 hN hr h1 h2 h3 h4 h
    refine (show (if i < w 4 0 then (zNt w ∧ zRd 30 w ∧ 0 ≤ i ∧ i < w 95 0) ∧ (if zSR w 30 i = (-1) then zwp 97 4 [(2, 35), (0, k), (0, z32 (i + 1)), (9, 0)] [] w 238 0 K else zif False (0 ≤ i ∧ i < 12) (if zSR w 30 i = w 30 i.toNat then zwp 97 4 [(2, 35), (0, k), (0, z32 (i + 1)), (9, 0)] [] w 238 0 K else if i < 0 then zwp 97 4 [(2, 35), (0, z32 (k + 1)), (0, z32 (i + 1)), (9, 0)] [] w 238 0 K else if i < 12 then zif False (0 ≤ i ∧ i < 12) (zwp 97 4 [(2, 35), (0, z32 (k + 1)), (0, z32 (i + 1)), (9, 0)] [] (zupd w 30 i.toNat (zSR w 30 i)) 238 0 K) else zwp 97 4 [(2, 35), (0, z32 (k + 1)), (0, z32 (i + 1)), (9, 0)] [] w 238 0 K)) else K (0, some (0, k)) w 238) → _ from fun h => show zwp 97 4 [(2, 35), (0, k), (0, i), d3] [] w 238 0 K from zgo_imp zT35_ok (cut := fun pc => Nat.beq pc 4 || Nat.beq pc 15 || Nat.beq pc 20 || Nat.beq pc 35 || Nat.beq pc 47) 400 (show if i < w 4 0 then zwp 97 15 [(2, 35), (0, k), (0, i), (9, 0)] [] w 238 0 K else K (0, some (0, k)) w 238 from zmI (fun h => (fun h => show zwp 97 15 [(2, 35), (0, k), (0, i), (9, 0)] [] w 238 0 K from zgo_imp zT35_ok (cut := fun pc => Nat.beq pc 4 || Nat.beq pc 15 || Nat.beq pc 20 || Nat.beq pc 35 || Nat.beq pc 47) 400 (show (zNt w ∧ zRd 30 w ∧ 0 ≤ i ∧ i < w 95 0) ∧ (zwp 97 20 [(2, 35), (0, k), (0, i), (9, 0)] [(0, zSR w 30 i)] w 238 0 K) from zmA (fun h => (fun h => show zwp 97 20 [(2, 35), (0, k), (0, i), (9, 0)] [(0, zSR w 30 i)] w 238 0 K from zgo_imp zT35_ok (cut := fun pc => Nat.beq pc 4 || Nat.beq pc 15 || Nat.beq pc 20 || Nat.beq pc 35 || Nat.beq pc 47) 400 (show if zSR w 30 i = (-1) then zwp 97 4 [(2, 35), (0, k), (0, z32 (i + 1)), (9, 0)] [] w 238 0 K else zif False (0 ≤ i ∧ i < 12) (zwp 97 35 [(2, 35), (0, k), (0, i), (0, zSR w 30 i)] [(0, w 30 i.toNat), (0, zSR w 30 i)] w 238 0 K) from zmI (fun h => h) (fun h => zmZ (fun h => (fun h => show zwp 97 35 [(2, 35), (0, k), (0, i), (0, zSR w 30 i)] [(0, w 30 i.toNat), (0, zSR w 30 i)] w 238 0 K from zgo_imp zT35_ok (cut := fun pc => Nat.beq pc 4 || Nat.beq pc 15 || Nat.beq pc 20 || Nat.beq pc 35 || Nat.beq pc 47) 400 (show if zSR w 30 i = w 30 i.toNat then zwp 97 4 [(2, 35), (0, k), (0, z32 (i + 1)), (9, 0)] [] w 238 0 K else if i < 0 then zwp 97 47 [(2, 35), (0, k), (0, i), (0, zSR w 30 i)] [] w 238 0 K else if i < 12 then zif False (0 ≤ i ∧ i < 12) (zwp 97 47 [(2, 35), (0, k), (0, i), (0, zSR w 30 i)] [] (zupd w 30 i.toNat (zSR w 30 i)) 238 0 K) else zwp 97 47 [(2, 35), (0, k), (0, i), (0, zSR w 30 i)] [] w 238 0 K from zmI (fun h => h) (fun h => zmI (fun h => (fun h => show zwp 97 47 [(2, 35), (0, k), (0, i), (0, zSR w 30 i)] [] w 238 0 K from zgo_imp zT35_ok (cut := fun pc => Nat.beq pc 4 || Nat.beq pc 15 || Nat.beq pc 20 || Nat.beq pc 35 || Nat.beq pc 47) 400 (show zwp 97 4 [(2, 35), (0, z32 (k + 1)), (0, z32 (i + 1)), (9, 0)] [] w 238 0 K from h)) h) (fun h => zmI (fun h => zmZ (fun h => (fun h => show zwp 97 47 [(2, 35), (0, k), (0, i), (0, zSR w 30 i)] [] (zupd w 30 i.toNat (zSR w 30 i)) 238 0 K from zgo_imp zT35_ok (cut := fun pc => Nat.beq pc 4 || Nat.beq pc 15 || Nat.beq pc 20 || Nat.beq pc 35 || Nat.beq pc 47) 400 (show zwp 97 4 [(2, 35), (0, z32 (k + 1)), (0, z32 (i + 1)), (9, 0)] [] (zupd w 30 i.toNat (zSR w 30 i)) 238 0 K from h)) h) h) (fun h => (fun h => show zwp 97 47 [(2, 35), (0, k), (0, i), (0, zSR w 30 i)] [] w 238 0 K from zgo_imp zT35_ok (cut := fun pc => Nat.beq pc 4 || Nat.beq pc 15 || Nat.beq pc 20 || Nat.beq pc 35 || Nat.beq pc 47) 400 (show zwp 97 4 [(2, 35), (0, z32 (k + 1)), (0, z32 (i + 1)), (9, 0)] [] w 238 0 K from h)) h) h) h) h)) h) h) h)) h) h)) h) (fun h => h) h)) ?_
    have hn := hN.n
    refine ziF (by omega) ?_
    exact zKe h (by show k + 0 = k; omega)
  | succ m ih =>
    intro i k w d3 hN hr h1 h2 h3 h4 h
    refine (show (if i < w 4 0 then (zNt w ∧ zRd 30 w ∧ 0 ≤ i ∧ i < w 95 0) ∧ (if zSR w 30 i = (-1) then zwp 97 4 [(2, 35), (0, k), (0, z32 (i + 1)), (9, 0)] [] w 238 0 K else zif False (0 ≤ i ∧ i < 12) (if zSR w 30 i = w 30 i.toNat then zwp 97 4 [(2, 35), (0, k), (0, z32 (i + 1)), (9, 0)] [] w 238 0 K else if i < 0 then zwp 97 4 [(2, 35), (0, z32 (k + 1)), (0, z32 (i + 1)), (9, 0)] [] w 238 0 K else if i < 12 then zif False (0 ≤ i ∧ i < 12) (zwp 97 4 [(2, 35), (0, z32 (k + 1)), (0, z32 (i + 1)), (9, 0)] [] (zupd w 30 i.toNat (zSR w 30 i)) 238 0 K) else zwp 97 4 [(2, 35), (0, z32 (k + 1)), (0, z32 (i + 1)), (9, 0)] [] w 238 0 K)) else K (0, some (0, k)) w 238) → _ from fun h => show zwp 97 4 [(2, 35), (0, k), (0, i), d3] [] w 238 0 K from zgo_imp zT35_ok (cut := fun pc => Nat.beq pc 4 || Nat.beq pc 15 || Nat.beq pc 20 || Nat.beq pc 35 || Nat.beq pc 47) 400 (show if i < w 4 0 then zwp 97 15 [(2, 35), (0, k), (0, i), (9, 0)] [] w 238 0 K else K (0, some (0, k)) w 238 from zmI (fun h => (fun h => show zwp 97 15 [(2, 35), (0, k), (0, i), (9, 0)] [] w 238 0 K from zgo_imp zT35_ok (cut := fun pc => Nat.beq pc 4 || Nat.beq pc 15 || Nat.beq pc 20 || Nat.beq pc 35 || Nat.beq pc 47) 400 (show (zNt w ∧ zRd 30 w ∧ 0 ≤ i ∧ i < w 95 0) ∧ (zwp 97 20 [(2, 35), (0, k), (0, i), (9, 0)] [(0, zSR w 30 i)] w 238 0 K) from zmA (fun h => (fun h => show zwp 97 20 [(2, 35), (0, k), (0, i), (9, 0)] [(0, zSR w 30 i)] w 238 0 K from zgo_imp zT35_ok (cut := fun pc => Nat.beq pc 4 || Nat.beq pc 15 || Nat.beq pc 20 || Nat.beq pc 35 || Nat.beq pc 47) 400 (show if zSR w 30 i = (-1) then zwp 97 4 [(2, 35), (0, k), (0, z32 (i + 1)), (9, 0)] [] w 238 0 K else zif False (0 ≤ i ∧ i < 12) (zwp 97 35 [(2, 35), (0, k), (0, i), (0, zSR w 30 i)] [(0, w 30 i.toNat), (0, zSR w 30 i)] w 238 0 K) from zmI (fun h => h) (fun h => zmZ (fun h => (fun h => show zwp 97 35 [(2, 35), (0, k), (0, i), (0, zSR w 30 i)] [(0, w 30 i.toNat), (0, zSR w 30 i)] w 238 0 K from zgo_imp zT35_ok (cut := fun pc => Nat.beq pc 4 || Nat.beq pc 15 || Nat.beq pc 20 || Nat.beq pc 35 || Nat.beq pc 47) 400 (show if zSR w 30 i = w 30 i.toNat then zwp 97 4 [(2, 35), (0, k), (0, z32 (i + 1)), (9, 0)] [] w 238 0 K else if i < 0 then zwp 97 47 [(2, 35), (0, k), (0, i), (0, zSR w 30 i)] [] w 238 0 K else if i < 12 then zif False (0 ≤ i ∧ i < 12) (zwp 97 47 [(2, 35), (0, k), (0, i), (0, zSR w 30 i)] [] (zupd w 30 i.toNat (zSR w 30 i)) 238 0 K) else zwp 97 47 [(2, 35), (0, k), (0, i), (0, zSR w 30 i)] [] w 238 0 K from zmI (fun h => h) (fun h => zmI (fun h => (fun h => show zwp 97 47 [(2, 35), (0, k), (0, i), (0, zSR w 30 i)] [] w 238 0 K from zgo_imp zT35_ok (cut := fun pc => Nat.beq pc 4 || Nat.beq pc 15 || Nat.beq pc 20 || Nat.beq pc 35 || Nat.beq pc 47) 400 (show zwp 97 4 [(2, 35), (0, z32 (k + 1)), (0, z32 (i + 1)), (9, 0)] [] w 238 0 K from h)) h) (fun h => zmI (fun h => zmZ (fun h => (fun h => show zwp 97 47 [(2, 35), (0, k), (0, i), (0, zSR w 30 i)] [] (zupd w 30 i.toNat (zSR w 30 i)) 238 0 K from zgo_imp zT35_ok (cut := fun pc => Nat.beq pc 4 || Nat.beq pc 15 || Nat.beq pc 20 || Nat.beq pc 35 || Nat.beq pc 47) 400 (show zwp 97 4 [(2, 35), (0, z32 (k + 1)), (0, z32 (i + 1)), (9, 0)] [] (zupd w 30 i.toNat (zSR w 30 i)) 238 0 K from h)) h) h) (fun h => (fun h => show zwp 97 47 [(2, 35), (0, k), (0, i), (0, zSR w 30 i)] [] w 238 0 K from zgo_imp zT35_ok (cut := fun pc => Nat.beq pc 4 || Nat.beq pc 15 || Nat.beq pc 20 || Nat.beq pc 35 || Nat.beq pc 47) 400 (show zwp 97 4 [(2, 35), (0, z32 (k + 1)), (0, z32 (i + 1)), (9, 0)] [] w 238 0 K from h)) h) h) h) h)) h) h) h)) h) h)) h) (fun h => h) h)) ?_
    have hn := hN.n
    refine ziT (by omega) ⟨⟨hN, hr, by omega⟩, ?_⟩
    have hv := zSR_rg w 30 i
    have e : zSwL 30 (m + 1) i w = if zSR w 30 i = -1 ∨ zSR w 30 i = w 30 i.toNat then zSwL 30 m (i + 1) w else
          ((zSwL 30 m (i + 1) (zupd w 30 i.toNat (zSR w 30 i))).1, 1 + (zSwL 30 m (i + 1) (zupd w 30 i.toNat (zSR w 30 i))).2) := rfl
    rw [e] at h
    rw [z32_id (x := i + 1) ⟨by omega, by omega⟩]
    by_cases p1 : zSR w 30 i = -1
    · refine ziT p1 ?_
      rw [if_pos (Or.inl p1)] at h
      exact ih _ _ _ _ hN hr (by omega) (by omega) (by omega) (by omega) h
    · refine ziF p1 (zifI (by omega) ?_)
      by_cases p2 : zSR w 30 i = w 30 i.toNat
      · refine ziT p2 ?_
        rw [if_pos (Or.inr p2)] at h
        exact ih _ _ _ _ hN hr (by omega) (by omega) (by omega) (by omega) h
      · refine ziF p2 (ziF (by omega) (ziT (by omega) (zifI (by omega) ?_)))
        rw [if_neg (by omega)] at h
        rw [z32_id (x := k + 1) ⟨by omega, by omega⟩]
        have e95 : zupd w 30 i.toNat (zSR w 30 i) 95 = w 95 := zune (by decide)
        refine ih _ _ _ _ (zNt_fr (fun p hp => zune (by omega)) hN) (zRd_upd (by decide) hr (by omega)) (by omega) (by rw [e95]; omega) (by omega) (by omega) (zKe h ?_)
        show k + (1 + _) = _
        omega
/-! $Solver.sweepOnce -/
set_option maxRecDepth 100000 in
theorem zk97_35 (w : zW) (K : zK) (h : (zNt w ∧ zRd 30 w) ∧ (K (0, some (0, zSwn 30 w)) (zSwp 30 w) 238)) : zcall 97 [(2, 35), (9, 0), (9, 0), (9, 0)] w 238 K := by
  obtain ⟨hg, h⟩ := h
  refine (show (zwp 97 4 [(2, 35), (0, 0), (0, 0), (9, 0)] [] w 238 0 K) → _ from fun h => show zwp 97 0 [(2, 35), (9, 0), (9, 0), (9, 0)] [] w 238 0 K from zgo_imp zT35_ok (cut := fun pc => Nat.beq pc 4 || Nat.beq pc 15 || Nat.beq pc 20 || Nat.beq pc 35 || Nat.beq pc 47) 400 (show zwp 97 4 [(2, 35), (0, 0), (0, 0), (9, 0)] [] w 238 0 K from h)) ?_
  have hn := hg.1.n
  exact zk97_L4 (w 95 0).toNat 0 0 w _ hg.1 hg.2 (by omega) (by omega) (by omega) (by omega) (zKe h (by unfold zSwn; omega))
noncomputable def zb97 (l0 : List zV) (w : zW) (K : zK) : Prop := cond (zpe (zar l0 0) 35) ((zNt w ∧ zRd 30 w) ∧ (K (0, some (0, zSwn 30 w)) (zSwp 30 w) 238)) (False)
noncomputable def zT36 : zSum := zsm1 97 [2, 9, 9, 9] zb97 zT35
theorem zT36_ok : zSok zT36 := zsm1_ok zT35_ok fun l0 w K h => by
  unfold zb97 at h
  cases q0 : zpe (zar l0 0) 35 with
  | true =>
    rw [q0, cond_true] at h
    have e : zar l0 0 = 35 := zpe_e q0
    show zcall 97 [(2, zar l0 0), (9, 0), (9, 0), (9, 0)] w 238 K
    rw [e]
    exact zk97_35  w K h
  | false =>
  rw [q0, cond_false] at h
  exact h.elim
set_option maxRecDepth 100000 in
theorem zk98_L2 {K : zK} (n : Int) (hn : n ≤ 1000)  : ∀ (m : Nat) (i : Int) (w : zW), (zNt w) → (zRd 30 w) → (0 ≤ i) → (i + m = n) → (K (0, none) (zIt (zSwp 30) m w) 238) → zwp 98 2 [(2, 35), (0, n), (0, i)] [] w 238 0 K := by
  
  intro m
  induction m with
  | zero =>
    intro i w  hN hr h1 h2 h
    refine (show (if i < n then (zNt w ∧ zRd 30 w) ∧ (zwp 98 2 [(2, 35), (0, n), (0, z32 (i + 1))] [] (zSwp 30 w) 238 0 K) else K (0, none) w 238) → _ from fun h => show zwp 98 2 [(2, 35), (0, n), (0, i)] [] w 238 0 K from zgo_imp zT36_ok (cut := fun pc => Nat.beq pc 2 || Nat.beq pc 11) 400 (show if i < n then (zNt w ∧ zRd 30 w) ∧ (zwp 98 11 [(2, 35), (0, n), (0, i)] [(0, zSwn 30 w)] (zSwp 30 w) 238 0 K) else K (0, none) w 238 from zmI (fun h => zmA (fun h => (fun h => show zwp 98 11 [(2, 35), (0, n), (0, i)] [(0, zSwn 30 w)] (zSwp 30 w) 238 0 K from zgo_imp zT36_ok (cut := fun pc => Nat.beq pc 2 || Nat.beq pc 11) 400 (show zwp 98 2 [(2, 35), (0, n), (0, z32 (i + 1))] [] (zSwp 30 w) 238 0 K from h)) h) h) (fun h => h) h)) ?_
    refine ziF (by omega) ?_
    exact h
  | succ m ih =>
    intro i w  hN hr h1 h2 h
    refine (show (if i < n then (zNt w ∧ zRd 30 w) ∧ (zwp 98 2 [(2, 35), (0, n), (0, z32 (i + 1))] [] (zSwp 30 w) 238 0 K) else K (0, none) w 238) → _ from fun h => show zwp 98 2 [(2, 35), (0, n), (0, i)] [] w 238 0 K from zgo_imp zT36_ok (cut := fun pc => Nat.beq pc 2 || Nat.beq pc 11) 400 (show if i < n then (zNt w ∧ zRd 30 w) ∧ (zwp 98 11 [(2, 35), (0, n), (0, i)] [(0, zSwn 30 w)] (zSwp 30 w) 238 0 K) else K (0, none) w 238 from zmI (fun h => zmA (fun h => (fun h => show zwp 98 11 [(2, 35), (0, n), (0, i)] [(0, zSwn 30 w)] (zSwp 30 w) 238 0 K from zgo_imp zT36_ok (cut := fun pc => Nat.beq pc 2 || Nat.beq pc 11) 400 (show zwp 98 2 [(2, 35), (0, n), (0, z32 (i + 1))] [] (zSwp 30 w) 238 0 K from h)) h) h) (fun h => h) h)) ?_
    refine ziT (by omega) ⟨⟨hN, hr⟩, ?_⟩
    rw [z32_id (x := i + 1) ⟨by omega, by omega⟩]
    exact ih _ _ (zSwp_nt (Or.inl rfl) hN) (zSwp_rd (Or.inl rfl) hr) (by omega) (by omega) h
/-! $Solver.sweepTimes -/
set_option maxRecDepth 100000 in
theorem zk98_35 (n : Int) (w : zW) (K : zK) (h : (zNt w ∧ zRd 30 w ∧ 0 ≤ n ∧ n ≤ 1000) ∧ (K (0, none) (zIt (zSwp 30) n.toNat w) 238)) : zcall 98 [(2, 35), (0, n), (9, 0)] w 238 K := by
  obtain ⟨hg, h⟩ := h
  refine (show (zwp 98 2 [(2, 35), (0, n), (0, 0)] [] w 238 0 K) → _ from fun h => show zwp 98 0 [(2, 35), (0, n), (9, 0)] [] w 238 0 K from zgo_imp zT36_ok (cut := fun pc => Nat.beq pc 2 || Nat.beq pc 11) 400 (show zwp 98 2 [(2, 35), (0, n), (0, 0)] [] w 238 0 K from h)) ?_
  obtain ⟨hN, hr, hn⟩ := hg
  exact zk98_L2 n hn.2 n.toNat 0 w hN hr (by omega) (by omega) h
noncomputable def zb98 (l0 : List zV) (w : zW) (K : zK) : Prop := cond (zpe (zar l0 0) 35) (zA l0 1 fun n => (zNt w ∧ zRd 30 w ∧ 0 ≤ n ∧ n ≤ 1000) ∧ (K (0, none) (zIt (zSwp 30) n.toNat w) 238)) (False)
noncomputable def zT37 : zSum := zsm1 98 [2, 0, 9] zb98 zT36
theorem zT37_ok : zSok zT37 := zsm1_ok zT36_ok fun l0 w K h => by
  unfold zb98 at h
  cases q0 : zpe (zar l0 0) 35 with
  | true =>
    rw [q0, cond_true] at h
    have e : zar l0 0 = 35 := zpe_e q0
    show zcall 98 [(2, zar l0 0), (0, zar l0 1), (9, 0)] w 238 K
    rw [e]
    exact zk98_35 (zar l0 1) w K (zA_e h)
  | false =>
  rw [q0, cond_false] at h
  exact h.elim
set_option maxRecDepth 100000 in
theorem zk99_L2 {K : zK} (b : Int)  : ∀ (m : Nat) (i : Int) (w : zW) (d2 : zV), (zNt w) → (zRd 30 w) → (0 ≤ i) → (i + m = 6) → (K (0, some (0, if zUn (zCm 30 b m w) 30 ≤ b then 1 else 0)) (zCm 30 b m w) 238) → zwp 99 2 [(2, 35), (1, b), d2, (0, i)] [] w 238 0 K := by
  
  intro m
  induction m with
  | zero =>
    intro i w d2 hN hr h1 h2 h
    refine (show (if i < 6 then (zNt w ∧ zRd 30 w) ∧ (if b < zUn w 30 then (zNt w ∧ zRd 30 w) ∧ (zwp 99 2 [(2, 35), (1, b), (9, 0), (0, z32 (i + 1))] [] (zSwp 30 w) 238 0 K) else (zNt w ∧ zRd 30 w) ∧ (if b < zUn w 30 then K (0, some (0, 0)) w 238 else K (0, some (0, 1)) w 238)) else (zNt w ∧ zRd 30 w) ∧ (if b < zUn w 30 then K (0, some (0, 0)) w 238 else K (0, some (0, 1)) w 238)) → _ from fun h => show zwp 99 2 [(2, 35), (1, b), d2, (0, i)] [] w 238 0 K from zgo_imp zT37_ok (cut := fun pc => Nat.beq pc 2 || Nat.beq pc 12 || Nat.beq pc 21 || Nat.beq pc 32) 400 (show if i < 6 then (zNt w ∧ zRd 30 w) ∧ (zwp 99 12 [(2, 35), (1, b), (9, 0), (0, i)] [(1, zUn w 30)] w 238 0 K) else (zNt w ∧ zRd 30 w) ∧ (zwp 99 32 [(2, 35), (1, b), (9, 0), (9, 0)] [(1, zUn w 30)] w 238 0 K) from zmI (fun h => zmA (fun h => (fun h => show zwp 99 12 [(2, 35), (1, b), (9, 0), (0, i)] [(1, zUn w 30)] w 238 0 K from zgo_imp zT37_ok (cut := fun pc => Nat.beq pc 2 || Nat.beq pc 12 || Nat.beq pc 21 || Nat.beq pc 32) 400 (show if b < zUn w 30 then (zNt w ∧ zRd 30 w) ∧ (zwp 99 21 [(2, 35), (1, b), (9, 0), (0, i)] [(0, zSwn 30 w)] (zSwp 30 w) 238 0 K) else (zNt w ∧ zRd 30 w) ∧ (zwp 99 32 [(2, 35), (1, b), (9, 0), (9, 0)] [(1, zUn w 30)] w 238 0 K) from zmI (fun h => zmA (fun h => (fun h => show zwp 99 21 [(2, 35), (1, b), (9, 0), (0, i)] [(0, zSwn 30 w)] (zSwp 30 w) 238 0 K from zgo_imp zT37_ok (cut := fun pc => Nat.beq pc 2 || Nat.beq pc 12 || Nat.beq pc 21 || Nat.beq pc 32) 400 (show zwp 99 2 [(2, 35), (1, b), (9, 0), (0, z32 (i + 1))] [] (zSwp 30 w) 238 0 K from h)) h) h) (fun h => zmA (fun h => (fun h => show zwp 99 32 [(2, 35), (1, b), (9, 0), (9, 0)] [(1, zUn w 30)] w 238 0 K from zgo_imp zT37_ok (cut := fun pc => Nat.beq pc 2 || Nat.beq pc 12 || Nat.beq pc 21 || Nat.beq pc 32) 400 (show if b < zUn w 30 then K (0, some (0, 0)) w 238 else K (0, some (0, 1)) w 238 from h)) h) h) h)) h) h) (fun h => zmA (fun h => (fun h => show zwp 99 32 [(2, 35), (1, b), (9, 0), (9, 0)] [(1, zUn w 30)] w 238 0 K from zgo_imp zT37_ok (cut := fun pc => Nat.beq pc 2 || Nat.beq pc 12 || Nat.beq pc 21 || Nat.beq pc 32) 400 (show if b < zUn w 30 then K (0, some (0, 0)) w 238 else K (0, some (0, 1)) w 238 from h)) h) h) h)) ?_
    refine ziF (by omega) ⟨⟨hN, hr⟩, ?_⟩
    have h : K (0, some (0, if zUn w 30 ≤ b then 1 else 0)) w 238 := h
    by_cases q : b < zUn w 30
    · exact ziT q (zKe h (if_neg (by omega)))
    · exact ziF q (zKe h (if_pos (by omega)))
  | succ m ih =>
    intro i w d2 hN hr h1 h2 h
    refine (show (if i < 6 then (zNt w ∧ zRd 30 w) ∧ (if b < zUn w 30 then (zNt w ∧ zRd 30 w) ∧ (zwp 99 2 [(2, 35), (1, b), (9, 0), (0, z32 (i + 1))] [] (zSwp 30 w) 238 0 K) else (zNt w ∧ zRd 30 w) ∧ (if b < zUn w 30 then K (0, some (0, 0)) w 238 else K (0, some (0, 1)) w 238)) else (zNt w ∧ zRd 30 w) ∧ (if b < zUn w 30 then K (0, some (0, 0)) w 238 else K (0, some (0, 1)) w 238)) → _ from fun h => show zwp 99 2 [(2, 35), (1, b), d2, (0, i)] [] w 238 0 K from zgo_imp zT37_ok (cut := fun pc => Nat.beq pc 2 || Nat.beq pc 12 || Nat.beq pc 21 || Nat.beq pc 32) 400 (show if i < 6 then (zNt w ∧ zRd 30 w) ∧ (zwp 99 12 [(2, 35), (1, b), (9, 0), (0, i)] [(1, zUn w 30)] w 238 0 K) else (zNt w ∧ zRd 30 w) ∧ (zwp 99 32 [(2, 35), (1, b), (9, 0), (9, 0)] [(1, zUn w 30)] w 238 0 K) from zmI (fun h => zmA (fun h => (fun h => show zwp 99 12 [(2, 35), (1, b), (9, 0), (0, i)] [(1, zUn w 30)] w 238 0 K from zgo_imp zT37_ok (cut := fun pc => Nat.beq pc 2 || Nat.beq pc 12 || Nat.beq pc 21 || Nat.beq pc 32) 400 (show if b < zUn w 30 then (zNt w ∧ zRd 30 w) ∧ (zwp 99 21 [(2, 35), (1, b), (9, 0), (0, i)] [(0, zSwn 30 w)] (zSwp 30 w) 238 0 K) else (zNt w ∧ zRd 30 w) ∧ (zwp 99 32 [(2, 35), (1, b), (9, 0), (9, 0)] [(1, zUn w 30)] w 238 0 K) from zmI (fun h => zmA (fun h => (fun h => show zwp 99 21 [(2, 35), (1, b), (9, 0), (0, i)] [(0, zSwn 30 w)] (zSwp 30 w) 238 0 K from zgo_imp zT37_ok (cut := fun pc => Nat.beq pc 2 || Nat.beq pc 12 || Nat.beq pc 21 || Nat.beq pc 32) 400 (show zwp 99 2 [(2, 35), (1, b), (9, 0), (0, z32 (i + 1))] [] (zSwp 30 w) 238 0 K from h)) h) h) (fun h => zmA (fun h => (fun h => show zwp 99 32 [(2, 35), (1, b), (9, 0), (9, 0)] [(1, zUn w 30)] w 238 0 K from zgo_imp zT37_ok (cut := fun pc => Nat.beq pc 2 || Nat.beq pc 12 || Nat.beq pc 21 || Nat.beq pc 32) 400 (show if b < zUn w 30 then K (0, some (0, 0)) w 238 else K (0, some (0, 1)) w 238 from h)) h) h) h)) h) h) (fun h => zmA (fun h => (fun h => show zwp 99 32 [(2, 35), (1, b), (9, 0), (9, 0)] [(1, zUn w 30)] w 238 0 K from zgo_imp zT37_ok (cut := fun pc => Nat.beq pc 2 || Nat.beq pc 12 || Nat.beq pc 21 || Nat.beq pc 32) 400 (show if b < zUn w 30 then K (0, some (0, 0)) w 238 else K (0, some (0, 1)) w 238 from h)) h) h) h)) ?_
    refine ziT (by omega) ⟨⟨hN, hr⟩, ?_⟩
    rw [z32_id (x := i + 1) ⟨by omega, by omega⟩]
    have e : zCm 30 b (m + 1) w = if b < zUn w 30 then zCm 30 b m (zSwp 30 w) else w := rfl
    rw [e] at h
    by_cases q : b < zUn w 30
    · rw [if_pos q] at h
      exact ziT q ⟨⟨hN, hr⟩, ih _ _ _ (zSwp_nt (Or.inl rfl) hN) (zSwp_rd (Or.inl rfl) hr) (by omega) (by omega) h⟩
    · rw [if_neg q] at h
      exact ziF q ⟨⟨hN, hr⟩, ziF q (zKe h (if_pos (by omega)))⟩
/-! $Solver.calmDown -/
set_option maxRecDepth 100000 in
theorem zk99_35 (b : Int) (w : zW) (K : zK) (h : (zNt w ∧ zRd 30 w) ∧ (K (0, some (0, (if zUn (zCm 30 b 6 w) 30 ≤ b then 1 else 0))) (zCm 30 b 6 w) 238)) : zcall 99 [(2, 35), (1, b), (9, 0), (9, 0)] w 238 K := by
  obtain ⟨hg, h⟩ := h
  refine (show (zwp 99 2 [(2, 35), (1, b), (9, 0), (0, 0)] [] w 238 0 K) → _ from fun h => show zwp 99 0 [(2, 35), (1, b), (9, 0), (9, 0)] [] w 238 0 K from zgo_imp zT37_ok (cut := fun pc => Nat.beq pc 2 || Nat.beq pc 12 || Nat.beq pc 21 || Nat.beq pc 32) 400 (show zwp 99 2 [(2, 35), (1, b), (9, 0), (0, 0)] [] w 238 0 K from h)) ?_
  exact zk99_L2 b 6 0 w _ hg.1 hg.2 (by omega) (by omega) h
noncomputable def zb99 (l0 : List zV) (w : zW) (K : zK) : Prop := cond (zpe (zar l0 0) 35) (zA l0 1 fun b => (zNt w ∧ zRd 30 w) ∧ (K (0, some (0, (if zUn (zCm 30 b 6 w) 30 ≤ b then 1 else 0))) (zCm 30 b 6 w) 238)) (False)
noncomputable def zT38 : zSum := zsm1 99 [2, 1, 9, 9] zb99 zT37
theorem zT38_ok : zSok zT38 := zsm1_ok zT37_ok fun l0 w K h => by
  unfold zb99 at h
  cases q0 : zpe (zar l0 0) 35 with
  | true =>
    rw [q0, cond_true] at h
    have e : zar l0 0 = 35 := zpe_e q0
    show zcall 99 [(2, zar l0 0), (1, zar l0 1), (9, 0), (9, 0)] w 238 K
    rw [e]
    exact zk99_35 (zar l0 1) w K (zA_e h)
  | false =>
  rw [q0, cond_false] at h
  exact h.elim
/-! $Solver.lowestSum -/
set_option maxRecDepth 100000 in
theorem zk100_35 (c s : Int) (w : zW) (K : zK) (h : (zNt w ∧ zRd 30 w ∧ (0 ≤ c ∧ c < w 95 0) ∧ 0 ≤ s ∧ s ≤ 1000) ∧ (K (0, some (1, zLo w 30 c s)) (w) 238)) : zcall 100 [(2, 35), (0, c), (0, s)] w 238 K := by
  obtain ⟨hg, h⟩ := h
  refine (show (((0 ≤ c ∧ c < 12) ∧ -2000 ≤ s ∧ s ≤ 2000 ∧ 0 ≤ w 30 c.toNat ∧ w 30 c.toNat ≤ 2000000) ∧ ((zNt w ∧ zRd 30 w ∧ (0 ≤ c ∧ c < w 95 0) ∧ (1 ≤ (max 1 (w 30 c.toNat + s)) ∧ (max 1 (w 30 c.toNat + s)) ≤ 1001000) ∧ -1000 ≤ (z32 (-s)) ∧ (z32 (-s)) ≤ 1000) ∧ (K (0, some (1, zH (zF0 w) (w 95 0) (fun a => w 30 a.toNat) c (max 1 (w 30 c.toNat + s)) (z32 (-s)))) w 238))) → _ from fun h => show zwp 100 0 [(2, 35), (0, c), (0, s)] [] w 238 0 K from zgo_imp zT38_ok (cut := fun pc => Nat.beq pc 8 || Nat.beq pc 13) 400 (show ((0 ≤ c ∧ c < 12) ∧ -2000 ≤ s ∧ s ≤ 2000 ∧ 0 ≤ w 30 c.toNat ∧ w 30 c.toNat ≤ 2000000) ∧ (zwp 100 8 [(2, 35), (0, c), (0, s)] [(0, max 1 (w 30 c.toNat + s)), (0, c), (2, 35)] w 238 0 K) from zmA (fun h => (fun h => show zwp 100 8 [(2, 35), (0, c), (0, s)] [(0, max 1 (w 30 c.toNat + s)), (0, c), (2, 35)] w 238 0 K from zgo_imp zT38_ok (cut := fun pc => Nat.beq pc 8 || Nat.beq pc 13) 400 (show (zNt w ∧ zRd 30 w ∧ (0 ≤ c ∧ c < w 95 0) ∧ (1 ≤ (max 1 (w 30 c.toNat + s)) ∧ (max 1 (w 30 c.toNat + s)) ≤ 1001000) ∧ -1000 ≤ (z32 (-s)) ∧ (z32 (-s)) ≤ 1000) ∧ (zwp 100 13 [(2, 35), (0, c), (0, s)] [(1, zH (zF0 w) (w 95 0) (fun a => w 30 a.toNat) c (max 1 (w 30 c.toNat + s)) (z32 (-s)))] w 238 0 K) from zmA (fun h => (fun h => show zwp 100 13 [(2, 35), (0, c), (0, s)] [(1, zH (zF0 w) (w 95 0) (fun a => w 30 a.toNat) c (max 1 (w 30 c.toNat + s)) (z32 (-s)))] w 238 0 K from zgo_imp zT38_ok (cut := fun pc => Nat.beq pc 8 || Nat.beq pc 13) 400 (show K (0, some (1, zH (zF0 w) (w 95 0) (fun a => w 30 a.toNat) c (max 1 (w 30 c.toNat + s)) (z32 (-s)))) w 238 from h)) h) h)) h) h)) ?_
  obtain ⟨hN, hr, hc, hs⟩ := hg
  have hn := hN.n
  have h1 := hr c hc.1 hc.2
  rw [z32_id (x := -s) ⟨by omega, by omega⟩]
  refine ⟨by omega, ⟨hN, hr, hc, by omega, by omega⟩, ?_⟩
  rw [show max 1 (w 30 c.toNat + s) = w 30 c.toNat + s by omega]
  exact h
noncomputable def zb100 (l0 : List zV) (w : zW) (K : zK) : Prop := cond (zpe (zar l0 0) 35) (zA l0 1 fun c => zA l0 2 fun s => (zNt w ∧ zRd 30 w ∧ (0 ≤ c ∧ c < w 95 0) ∧ 0 ≤ s ∧ s ≤ 1000) ∧ (K (0, some (1, zLo w 30 c s)) (w) 238)) (False)
noncomputable def zT39 : zSum := zsm1 100 [2, 0, 0] zb100 zT38
theorem zT39_ok : zSok zT39 := zsm1_ok zT38_ok fun l0 w K h => by
  unfold zb100 at h
  cases q0 : zpe (zar l0 0) 35 with
  | true =>
    rw [q0, cond_true] at h
    have e : zar l0 0 = 35 := zpe_e q0
    show zcall 100 [(2, zar l0 0), (0, zar l0 1), (0, zar l0 2)] w 238 K
    rw [e]
    exact zk100_35 (zar l0 1) (zar l0 2) w K (zA_e (zA_e h))
  | false =>
  rw [q0, cond_false] at h
  exact h.elim
/-! $Solver.highestSum -/
set_option maxRecDepth 100000 in
theorem zk101_35 (c s : Int) (w : zW) (K : zK) (h : (zNt w ∧ zRd 30 w ∧ (0 ≤ c ∧ c < w 95 0) ∧ 0 ≤ s ∧ s ≤ 1000) ∧ (K (0, some (1, zHi w 30 c s)) (w) 238)) : zcall 101 [(2, 35), (0, c), (0, s)] w 238 K := by
  obtain ⟨hg, h⟩ := h
  refine (show (((0 ≤ c ∧ c < 12) ∧ -2000 ≤ (z32 (-s)) ∧ (z32 (-s)) ≤ 2000 ∧ 0 ≤ w 30 c.toNat ∧ w 30 c.toNat ≤ 2000000) ∧ ((zNt w ∧ zRd 30 w ∧ (0 ≤ c ∧ c < w 95 0) ∧ (1 ≤ (max 1 (w 30 c.toNat + (z32 (-s)))) ∧ (max 1 (w 30 c.toNat + (z32 (-s)))) ≤ 1001000) ∧ -1000 ≤ s ∧ s ≤ 1000) ∧ (K (0, some (1, zH (zF0 w) (w 95 0) (fun a => w 30 a.toNat) c (max 1 (w 30 c.toNat + (z32 (-s)))) s)) w 238))) → _ from fun h => show zwp 101 0 [(2, 35), (0, c), (0, s)] [] w 238 0 K from zgo_imp zT39_ok (cut := fun pc => Nat.beq pc 9 || Nat.beq pc 13) 400 (show ((0 ≤ c ∧ c < 12) ∧ -2000 ≤ (z32 (-s)) ∧ (z32 (-s)) ≤ 2000 ∧ 0 ≤ w 30 c.toNat ∧ w 30 c.toNat ≤ 2000000) ∧ (zwp 101 9 [(2, 35), (0, c), (0, s)] [(0, max 1 (w 30 c.toNat + (z32 (-s)))), (0, c), (2, 35)] w 238 0 K) from zmA (fun h => (fun h => show zwp 101 9 [(2, 35), (0, c), (0, s)] [(0, max 1 (w 30 c.toNat + (z32 (-s)))), (0, c), (2, 35)] w 238 0 K from zgo_imp zT39_ok (cut := fun pc => Nat.beq pc 9 || Nat.beq pc 13) 400 (show (zNt w ∧ zRd 30 w ∧ (0 ≤ c ∧ c < w 95 0) ∧ (1 ≤ (max 1 (w 30 c.toNat + (z32 (-s)))) ∧ (max 1 (w 30 c.toNat + (z32 (-s)))) ≤ 1001000) ∧ -1000 ≤ s ∧ s ≤ 1000) ∧ (zwp 101 13 [(2, 35), (0, c), (0, s)] [(1, zH (zF0 w) (w 95 0) (fun a => w 30 a.toNat) c (max 1 (w 30 c.toNat + (z32 (-s)))) s)] w 238 0 K) from zmA (fun h => (fun h => show zwp 101 13 [(2, 35), (0, c), (0, s)] [(1, zH (zF0 w) (w 95 0) (fun a => w 30 a.toNat) c (max 1 (w 30 c.toNat + (z32 (-s)))) s)] w 238 0 K from zgo_imp zT39_ok (cut := fun pc => Nat.beq pc 9 || Nat.beq pc 13) 400 (show K (0, some (1, zH (zF0 w) (w 95 0) (fun a => w 30 a.toNat) c (max 1 (w 30 c.toNat + (z32 (-s)))) s)) w 238 from h)) h) h)) h) h)) ?_
  obtain ⟨hN, hr, hc, hs⟩ := hg
  have hn := hN.n
  have h1 := hr c hc.1 hc.2
  rw [z32_id (x := -s) ⟨by omega, by omega⟩]
  exact ⟨by omega, ⟨hN, hr, hc, by omega, by omega⟩, h⟩
noncomputable def zb101 (l0 : List zV) (w : zW) (K : zK) : Prop := cond (zpe (zar l0 0) 35) (zA l0 1 fun c => zA l0 2 fun s => (zNt w ∧ zRd 30 w ∧ (0 ≤ c ∧ c < w 95 0) ∧ 0 ≤ s ∧ s ≤ 1000) ∧ (K (0, some (1, zHi w 30 c s)) (w) 238)) (False)
noncomputable def zT40 : zSum := zsm1 101 [2, 0, 0] zb101 zT39
theorem zT40_ok : zSok zT40 := zsm1_ok zT39_ok fun l0 w K h => by
  unfold zb101 at h
  cases q0 : zpe (zar l0 0) 35 with
  | true =>
    rw [q0, cond_true] at h
    have e : zar l0 0 = 35 := zpe_e q0
    show zcall 101 [(2, zar l0 0), (0, zar l0 1), (0, zar l0 2)] w 238 K
    rw [e]
    exact zk101_35 (zar l0 1) (zar l0 2) w K (zA_e (zA_e h))
  | false =>
  rw [q0, cond_false] at h
  exact h.elim
/-! $Solver.isWithin -/
set_option maxRecDepth 100000 in
theorem zk102_35 (c s b : Int) (w : zW) (K : zK) (h : (zNt w ∧ zRd 30 w ∧ (0 ≤ c ∧ c < w 95 0) ∧ 0 ≤ s ∧ s ≤ 1000 ∧ 0 ≤ b ∧ b ≤ 2000000000) ∧ (K (0, some (0, (if zWi w 30 c s b then 1 else 0))) (w) 238)) : zcall 102 [(2, 35), (0, c), (0, s), (0, b), (9, 0), (9, 0)] w 238 K := by
  obtain ⟨hg, h⟩ := h
  refine (show ((zNt w ∧ 0 ≤ c ∧ c < w 95 0) ∧ ((zNt w ∧ zRd 30 w ∧ (0 ≤ c ∧ c < w 95 0) ∧ 0 ≤ s ∧ s ≤ 1000) ∧ (if zLo w 30 c s < z64 ((zTgt (w 97 c.toNat)) - b) then K (0, some (0, 0)) w 238 else (zNt w ∧ zRd 30 w ∧ (0 ≤ c ∧ c < w 95 0) ∧ 0 ≤ s ∧ s ≤ 1000) ∧ (if z64 ((zTgt (w 97 c.toNat)) + b) < zHi w 30 c s then K (0, some (0, 0)) w 238 else K (0, some (0, 1)) w 238)))) → _ from fun h => show zwp 102 0 [(2, 35), (0, c), (0, s), (0, b), (9, 0), (9, 0)] [] w 238 0 K from zgo_imp zT40_ok (cut := fun pc => Nat.beq pc 5 || Nat.beq pc 13 || Nat.beq pc 25 || Nat.beq pc 28 || Nat.beq pc 42) 400 (show (zNt w ∧ 0 ≤ c ∧ c < w 95 0) ∧ (zwp 102 5 [(2, 35), (0, c), (0, s), (0, b), (9, 0), (9, 0)] [(1, zTgt (w 97 c.toNat))] w 238 0 K) from zmA (fun h => (fun h => show zwp 102 5 [(2, 35), (0, c), (0, s), (0, b), (9, 0), (9, 0)] [(1, zTgt (w 97 c.toNat))] w 238 0 K from zgo_imp zT40_ok (cut := fun pc => Nat.beq pc 5 || Nat.beq pc 13 || Nat.beq pc 25 || Nat.beq pc 28 || Nat.beq pc 42) 400 (show (zNt w ∧ zRd 30 w ∧ (0 ≤ c ∧ c < w 95 0) ∧ 0 ≤ s ∧ s ≤ 1000) ∧ (zwp 102 13 [(2, 35), (0, c), (0, s), (0, b), (1, zTgt (w 97 c.toNat)), (9, 0)] [(1, zLo w 30 c s)] w 238 0 K) from zmA (fun h => (fun h => show zwp 102 13 [(2, 35), (0, c), (0, s), (0, b), (1, zTgt (w 97 c.toNat)), (9, 0)] [(1, zLo w 30 c s)] w 238 0 K from zgo_imp zT40_ok (cut := fun pc => Nat.beq pc 5 || Nat.beq pc 13 || Nat.beq pc 25 || Nat.beq pc 28 || Nat.beq pc 42) 400 (show if zLo w 30 c s < z64 ((zTgt (w 97 c.toNat)) - b) then zwp 102 42 [(9, 0), (9, 0), (9, 0), (9, 0), (9, 0), (9, 0)] [(0, 0)] w 238 0 K else zwp 102 25 [(2, 35), (0, c), (0, s), (0, b), (1, zTgt (w 97 c.toNat)), (9, 0)] [(0, s), (0, c), (2, 35)] w 238 0 K from zmI (fun h => (fun h => show zwp 102 42 [(9, 0), (9, 0), (9, 0), (9, 0), (9, 0), (9, 0)] [(0, 0)] w 238 0 K from zgo_imp zT40_ok (cut := fun pc => Nat.beq pc 5 || Nat.beq pc 13 || Nat.beq pc 25 || Nat.beq pc 28 || Nat.beq pc 42) 400 (show K (0, some (0, 0)) w 238 from h)) h) (fun h => (fun h => show zwp 102 25 [(2, 35), (0, c), (0, s), (0, b), (1, zTgt (w 97 c.toNat)), (9, 0)] [(0, s), (0, c), (2, 35)] w 238 0 K from zgo_imp zT40_ok (cut := fun pc => Nat.beq pc 5 || Nat.beq pc 13 || Nat.beq pc 25 || Nat.beq pc 28 || Nat.beq pc 42) 400 (show (zNt w ∧ zRd 30 w ∧ (0 ≤ c ∧ c < w 95 0) ∧ 0 ≤ s ∧ s ≤ 1000) ∧ (zwp 102 28 [(2, 35), (0, c), (0, s), (0, b), (1, zTgt (w 97 c.toNat)), (9, 0)] [(1, zHi w 30 c s)] w 238 0 K) from zmA (fun h => (fun h => show zwp 102 28 [(2, 35), (0, c), (0, s), (0, b), (1, zTgt (w 97 c.toNat)), (9, 0)] [(1, zHi w 30 c s)] w 238 0 K from zgo_imp zT40_ok (cut := fun pc => Nat.beq pc 5 || Nat.beq pc 13 || Nat.beq pc 25 || Nat.beq pc 28 || Nat.beq pc 42) 400 (show if z64 ((zTgt (w 97 c.toNat)) + b) < zHi w 30 c s then zwp 102 42 [(9, 0), (9, 0), (9, 0), (9, 0), (9, 0), (9, 0)] [(0, 0)] w 238 0 K else zwp 102 42 [(2, 35), (0, c), (0, s), (0, b), (1, zTgt (w 97 c.toNat)), (9, 0)] [(0, 1)] w 238 0 K from zmI (fun h => (fun h => show zwp 102 42 [(9, 0), (9, 0), (9, 0), (9, 0), (9, 0), (9, 0)] [(0, 0)] w 238 0 K from zgo_imp zT40_ok (cut := fun pc => Nat.beq pc 5 || Nat.beq pc 13 || Nat.beq pc 25 || Nat.beq pc 28 || Nat.beq pc 42) 400 (show K (0, some (0, 0)) w 238 from h)) h) (fun h => (fun h => show zwp 102 42 [(2, 35), (0, c), (0, s), (0, b), (1, zTgt (w 97 c.toNat)), (9, 0)] [(0, 1)] w 238 0 K from zgo_imp zT40_ok (cut := fun pc => Nat.beq pc 5 || Nat.beq pc 13 || Nat.beq pc 25 || Nat.beq pc 28 || Nat.beq pc 42) 400 (show K (0, some (0, 1)) w 238 from h)) h) h)) h) h)) h) h)) h) h)) h) h)) ?_
  obtain ⟨hN, hr, hc, hs0, hs1, hb⟩ := hg
  have hn := hN.n
  have hd := hN.deg hc.1 hc.2
  have ht := zTgt_rg hd.2.1 hd.2.2.1
  refine ⟨⟨hN, hc⟩, ⟨hN, hr, hc, hs0, hs1⟩, ?_⟩
  rw [z64_id (x := zTgt (w 97 c.toNat) - b) ⟨by omega, by omega⟩, z64_id (x := zTgt (w 97 c.toNat) + b) ⟨by omega, by omega⟩]
  by_cases q1 : zLo w 30 c s < zTgt (w 97 c.toNat) - b
  · exact ziT q1 (zKe h (if_neg fun q => by have := q.1; omega))
  · refine ziF q1 ⟨⟨hN, hr, hc, hs0, hs1⟩, ?_⟩
    by_cases q2 : zTgt (w 97 c.toNat) + b < zHi w 30 c s
    · exact ziT q2 (zKe h (if_neg fun q => by have := q.2; omega))
    · exact ziF q2 (zKe h (if_pos ⟨by omega, by omega⟩))
noncomputable def zb102 (l0 : List zV) (w : zW) (K : zK) : Prop := cond (zpe (zar l0 0) 35) (zA l0 1 fun c => zA l0 2 fun s => zA l0 3 fun b => (zNt w ∧ zRd 30 w ∧ (0 ≤ c ∧ c < w 95 0) ∧ 0 ≤ s ∧ s ≤ 1000 ∧ 0 ≤ b ∧ b ≤ 2000000000) ∧ (K (0, some (0, (if zWi w 30 c s b then 1 else 0))) (w) 238)) (False)
noncomputable def zT41 : zSum := zsm1 102 [2, 0, 0, 0, 9, 9] zb102 zT40
theorem zT41_ok : zSok zT41 := zsm1_ok zT40_ok fun l0 w K h => by
  unfold zb102 at h
  cases q0 : zpe (zar l0 0) 35 with
  | true =>
    rw [q0, cond_true] at h
    have e : zar l0 0 = 35 := zpe_e q0
    show zcall 102 [(2, zar l0 0), (0, zar l0 1), (0, zar l0 2), (0, zar l0 3), (9, 0), (9, 0)] w 238 K
    rw [e]
    exact zk102_35 (zar l0 1) (zar l0 2) (zar l0 3) w K (zA_e (zA_e (zA_e h)))
  | false =>
  rw [q0, cond_false] at h
  exact h.elim
set_option maxRecDepth 100000 in
theorem zk103_L2 {w : zW} {K : zK} (hN : zNt w) (hr : zRd 30 w) (s b : Int) (hs : 0 ≤ s ∧ s ≤ 1000) (hb : 0 ≤ b ∧ b ≤ 2000000000)  : ∀ (m : Nat) (i : Int), (0 ≤ i) → (i + m = w 95 0) → (K (0, some (0, if zFi (fun c => 0 < w 97 c.toNat ∧ ¬ zWi w 30 c s b) m i = -1 then 1 else 0)) w 238) → zwp 103 2 [(2, 35), (0, s), (0, b), (0, i)] [] w 238 0 K := by
  
  intro m
  induction m with
  | zero =>
    intro i  h1 h2 h
    refine (show (if i < w 4 0 then zif False (0 ≤ i ∧ i < 12) (if ((if 0 < w 6 i.toNat then 1 else 0) : Int) = 0 then zwp 103 2 [(2, 35), (0, s), (0, b), (0, z32 (i + 1))] [] w 238 0 K else (zNt w ∧ zRd 30 w ∧ (0 ≤ i ∧ i < w 95 0) ∧ 0 ≤ s ∧ s ≤ 1000 ∧ 0 ≤ b ∧ b ≤ 2000000000) ∧ (if ((if zWi w 30 i s b then 1 else 0) : Int) = 0 then K (0, some (0, 0)) w 238 else zwp 103 2 [(2, 35), (0, s), (0, b), (0, z32 (i + 1))] [] w 238 0 K)) else K (0, some (0, 1)) w 238) → _ from fun h => show zwp 103 2 [(2, 35), (0, s), (0, b), (0, i)] [] w 238 0 K from zgo_imp zT41_ok (cut := fun pc => Nat.beq pc 2 || Nat.beq pc 17 || Nat.beq pc 21 || Nat.beq pc 31) 400 (show if i < w 4 0 then zwp 103 17 [(2, 35), (0, s), (0, b), (0, i)] [(2, 4)] w 238 0 K else K (0, some (0, 1)) w 238 from zmI (fun h => (fun h => show zwp 103 17 [(2, 35), (0, s), (0, b), (0, i)] [(2, 4)] w 238 0 K from zgo_imp zT41_ok (cut := fun pc => Nat.beq pc 2 || Nat.beq pc 17 || Nat.beq pc 21 || Nat.beq pc 31) 400 (show zif False (0 ≤ i ∧ i < 12) (zwp 103 21 [(2, 35), (0, s), (0, b), (0, i)] [(0, ((if 0 < w 6 i.toNat then 1 else 0) : Int))] w 238 0 K) from zmZ (fun h => (fun h => show zwp 103 21 [(2, 35), (0, s), (0, b), (0, i)] [(0, ((if 0 < w 6 i.toNat then 1 else 0) : Int))] w 238 0 K from zgo_imp zT41_ok (cut := fun pc => Nat.beq pc 2 || Nat.beq pc 17 || Nat.beq pc 21 || Nat.beq pc 31) 400 (show if ((if 0 < w 6 i.toNat then 1 else 0) : Int) = 0 then zwp 103 2 [(2, 35), (0, s), (0, b), (0, z32 (i + 1))] [] w 238 0 K else (zNt w ∧ zRd 30 w ∧ (0 ≤ i ∧ i < w 95 0) ∧ 0 ≤ s ∧ s ≤ 1000 ∧ 0 ≤ b ∧ b ≤ 2000000000) ∧ (zwp 103 31 [(2, 35), (0, s), (0, b), (0, i)] [(0, ((if zWi w 30 i s b then 1 else 0) : Int))] w 238 0 K) from zmI (fun h => h) (fun h => zmA (fun h => (fun h => show zwp 103 31 [(2, 35), (0, s), (0, b), (0, i)] [(0, ((if zWi w 30 i s b then 1 else 0) : Int))] w 238 0 K from zgo_imp zT41_ok (cut := fun pc => Nat.beq pc 2 || Nat.beq pc 17 || Nat.beq pc 21 || Nat.beq pc 31) 400 (show if ((if zWi w 30 i s b then 1 else 0) : Int) = 0 then K (0, some (0, 0)) w 238 else zwp 103 2 [(2, 35), (0, s), (0, b), (0, z32 (i + 1))] [] w 238 0 K from h)) h) h) h)) h) h)) h) (fun h => h) h)) ?_
    have hn := hN.n
    refine ziF (by omega) ?_
    exact h
  | succ m ih =>
    intro i  h1 h2 h
    refine (show (if i < w 4 0 then zif False (0 ≤ i ∧ i < 12) (if ((if 0 < w 6 i.toNat then 1 else 0) : Int) = 0 then zwp 103 2 [(2, 35), (0, s), (0, b), (0, z32 (i + 1))] [] w 238 0 K else (zNt w ∧ zRd 30 w ∧ (0 ≤ i ∧ i < w 95 0) ∧ 0 ≤ s ∧ s ≤ 1000 ∧ 0 ≤ b ∧ b ≤ 2000000000) ∧ (if ((if zWi w 30 i s b then 1 else 0) : Int) = 0 then K (0, some (0, 0)) w 238 else zwp 103 2 [(2, 35), (0, s), (0, b), (0, z32 (i + 1))] [] w 238 0 K)) else K (0, some (0, 1)) w 238) → _ from fun h => show zwp 103 2 [(2, 35), (0, s), (0, b), (0, i)] [] w 238 0 K from zgo_imp zT41_ok (cut := fun pc => Nat.beq pc 2 || Nat.beq pc 17 || Nat.beq pc 21 || Nat.beq pc 31) 400 (show if i < w 4 0 then zwp 103 17 [(2, 35), (0, s), (0, b), (0, i)] [(2, 4)] w 238 0 K else K (0, some (0, 1)) w 238 from zmI (fun h => (fun h => show zwp 103 17 [(2, 35), (0, s), (0, b), (0, i)] [(2, 4)] w 238 0 K from zgo_imp zT41_ok (cut := fun pc => Nat.beq pc 2 || Nat.beq pc 17 || Nat.beq pc 21 || Nat.beq pc 31) 400 (show zif False (0 ≤ i ∧ i < 12) (zwp 103 21 [(2, 35), (0, s), (0, b), (0, i)] [(0, ((if 0 < w 6 i.toNat then 1 else 0) : Int))] w 238 0 K) from zmZ (fun h => (fun h => show zwp 103 21 [(2, 35), (0, s), (0, b), (0, i)] [(0, ((if 0 < w 6 i.toNat then 1 else 0) : Int))] w 238 0 K from zgo_imp zT41_ok (cut := fun pc => Nat.beq pc 2 || Nat.beq pc 17 || Nat.beq pc 21 || Nat.beq pc 31) 400 (show if ((if 0 < w 6 i.toNat then 1 else 0) : Int) = 0 then zwp 103 2 [(2, 35), (0, s), (0, b), (0, z32 (i + 1))] [] w 238 0 K else (zNt w ∧ zRd 30 w ∧ (0 ≤ i ∧ i < w 95 0) ∧ 0 ≤ s ∧ s ≤ 1000 ∧ 0 ≤ b ∧ b ≤ 2000000000) ∧ (zwp 103 31 [(2, 35), (0, s), (0, b), (0, i)] [(0, ((if zWi w 30 i s b then 1 else 0) : Int))] w 238 0 K) from zmI (fun h => h) (fun h => zmA (fun h => (fun h => show zwp 103 31 [(2, 35), (0, s), (0, b), (0, i)] [(0, ((if zWi w 30 i s b then 1 else 0) : Int))] w 238 0 K from zgo_imp zT41_ok (cut := fun pc => Nat.beq pc 2 || Nat.beq pc 17 || Nat.beq pc 21 || Nat.beq pc 31) 400 (show if ((if zWi w 30 i s b then 1 else 0) : Int) = 0 then K (0, some (0, 0)) w 238 else zwp 103 2 [(2, 35), (0, s), (0, b), (0, z32 (i + 1))] [] w 238 0 K from h)) h) h) h)) h) h)) h) (fun h => h) h)) ?_
    have hn := hN.n
    have hd := (hN.deg h1 (by omega)).1
    refine ziT (by omega) (zifI (by omega) ?_)
    rw [z32_id (x := i + 1) ⟨by omega, by omega⟩]
    have e : zFi (fun c => 0 < w 97 c.toNat ∧ ¬ zWi w 30 c s b) (m + 1) i = if 0 < w 97 i.toNat ∧ ¬ zWi w 30 i s b then i else zFi (fun c => 0 < w 97 c.toNat ∧ ¬ zWi w 30 c s b) m (i + 1) := rfl
    by_cases hp : 0 < w 97 i.toNat
    · refine ziF (by omega) ⟨⟨hN, hr, by omega, hs.1, hs.2, hb⟩, ?_⟩
      by_cases hw : zWi w 30 i s b
      · rw [e.trans (if_neg fun q => q.2 hw)] at h
        exact ziF (by rw [if_pos hw]; decide) (ih _ (by omega) (by omega) h)
      · rw [e.trans (if_pos ⟨hp, hw⟩)] at h
        exact ziT (if_neg hw) (zKe h (if_neg (by omega)))
    · rw [e.trans (if_neg fun q => hp q.1)] at h
      exact ziT (by omega) (ih _ (by omega) (by omega) h)
/-! $Solver.areAllWithin -/
set_option maxRecDepth 100000 in
theorem zk103_35 (s b : Int) (w : zW) (K : zK) (h : (zNt w ∧ zRd 30 w ∧ (0 ≤ s ∧ s ≤ 1000) ∧ 0 ≤ b ∧ b ≤ 2000000000) ∧ (K (0, some (0, (if zUc w 30 s b = -1 then 1 else 0))) (w) 238)) : zcall 103 [(2, 35), (0, s), (0, b), (9, 0)] w 238 K := by
  obtain ⟨hg, h⟩ := h
  refine (show (zwp 103 2 [(2, 35), (0, s), (0, b), (0, 0)] [] w 238 0 K) → _ from fun h => show zwp 103 0 [(2, 35), (0, s), (0, b), (9, 0)] [] w 238 0 K from zgo_imp zT41_ok (cut := fun pc => Nat.beq pc 2 || Nat.beq pc 17 || Nat.beq pc 21 || Nat.beq pc 31) 400 (show zwp 103 2 [(2, 35), (0, s), (0, b), (0, 0)] [] w 238 0 K from h)) ?_
  obtain ⟨hN, hr, hs, hb⟩ := hg
  have hn := hN.n
  exact zk103_L2 hN hr s b hs hb (w 95 0).toNat 0 (by omega) (by omega) h
noncomputable def zb103 (l0 : List zV) (w : zW) (K : zK) : Prop := cond (zpe (zar l0 0) 35) (zA l0 1 fun s => zA l0 2 fun b => (zNt w ∧ zRd 30 w ∧ (0 ≤ s ∧ s ≤ 1000) ∧ 0 ≤ b ∧ b ≤ 2000000000) ∧ (K (0, some (0, (if zUc w 30 s b = -1 then 1 else 0))) (w) 238)) (False)
noncomputable def zT42 : zSum := zsm1 103 [2, 0, 0, 9] zb103 zT41
theorem zT42_ok : zSok zT42 := zsm1_ok zT41_ok fun l0 w K h => by
  unfold zb103 at h
  cases q0 : zpe (zar l0 0) 35 with
  | true =>
    rw [q0, cond_true] at h
    have e : zar l0 0 = 35 := zpe_e q0
    show zcall 103 [(2, zar l0 0), (0, zar l0 1), (0, zar l0 2), (9, 0)] w 238 K
    rw [e]
    exact zk103_35 (zar l0 1) (zar l0 2) w K (zA_e (zA_e h))
  | false =>
  rw [q0, cond_false] at h
  exact h.elim

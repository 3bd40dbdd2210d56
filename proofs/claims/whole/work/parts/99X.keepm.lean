/-! ===== the model: methods that keep what was before; undo (written by wip/whole/gen_c.py) ===== -/
theorem zMs_u {b w : zW} (h0 : b 93 0 = 0) (h : ∀ p, p < 93 ∨ 116 ≤ p → b p = w p) : zupd (zMs b w) 93 0 0 = b := by
  rw [zMs_e h]
  exact zu0 h0
theorem zkpm_93 {w : zW} {k : Nat} (hk : k ≠ 31) : zkpm w 93 k = w 93 k := by
  unfold zkpm
  by_cases g : w 93 31 = 5
  · rw [if_pos g, zuat, if_neg hk]
    show (zly (zshf (zupd w 93 31 4) 196) 108 196) 93 k = _
    show zupd w 93 31 4 93 k = _
    rw [zuat, if_neg hk]
  · rw [if_neg g, zuat, if_neg hk]
    rfl
theorem zB0 {w : zW} : zkpm (zupd w 93 0 0) 93 0 = 0 := by
  rw [zkpm_93 (by decide), zuat, if_pos rfl]
theorem zBn {w : zW} {p : Nat} (h1 : p ≠ 93) (h2 : p ≠ 108) : zkpm (zupd w 93 0 0) p = w p := by
  rw [zkpm_ne h1 h2, zune h1]
theorem zB_sb {w : zW} {c : Int} (h : zSb w c) : zSb (zkpm (zupd w 93 0 0)) c := by
  have e3 : zF0 (zkpm (zupd w 93 0 0)) = zF0 w := zF0_fr (zBn (by decide) (by decide))
  unfold zSb
  rw [zBn (p := 97) (by decide) (by decide), zBn (p := 95) (by decide) (by decide), e3]
  exact h
theorem zB_pm {w : zW} (h : zPM w) : zPM (zkpm (zupd w 93 0 0)) := zPM_fr (fun p hp => zBn (by omega) (by omega)) h
theorem zsfm_ne {w : zW} {x y : Int} {p : Nat} (h1 : p ≠ 104) (h2 : p ≠ 105) : zsfm w x y p = w p := zmv_ne h1 h2
/-- undo() of the class -/
def zUnC (w : zW) : zW := if w 37 2 = 0 then w else zpcp (zbkc w) (39 + 6 * ((w 37 1 + 5) % 6).toNat) 29
def zUnM (w : zW) : zW := if w 93 31 = 0 then zupd w 93 0 0 else zunm (zupd w 93 0 0)
theorem zUnC_ne {w : zW} {p : Nat} (h : p < 29 ∨ 75 ≤ p) : zUnC w p = w p := by
  unfold zUnC
  by_cases g : w 37 2 = 0
  · rw [if_pos g]
  · rw [if_neg g, zpcp_ne (by omega)]
    unfold zbkc
    rw [zune (by omega), zune (by omega)]
theorem zunm_ne {w : zW} {p : Nat} (h : p ≠ 93 ∧ p ≠ 98 ∧ (p < 102 ∨ 105 < p)) : zunm w p = w p := by
  unfold zunm zun4
  rw [zune (by omega), zset_ne (by omega), zset_ne (by omega), zset_ne (by omega), zset_ne (by omega), zune (by omega)]
theorem zunm_93 {w : zW} {k : Nat} (hk : k ≠ 31) : zunm w 93 k = w 93 k := by
  unfold zunm zun4
  rw [zune (by decide), zset_ne (by decide), zset_ne (by decide), zset_ne (by decide), zset_ne (by decide), zuat, if_neg hk]
theorem zUnM_ne {w : zW} {p : Nat} (h : p ≠ 93 ∧ p ≠ 98 ∧ (p < 102 ∨ 105 < p)) : zUnM w p = w p := by
  unfold zUnM
  by_cases g : w 93 31 = 0
  · rw [if_pos g, zune h.1]
  · rw [if_neg g, zunm_ne h, zune h.1]
theorem zUnM_0 {w : zW} : zUnM w 93 0 = 0 := by
  unfold zUnM
  by_cases g : w 93 31 = 0
  · rw [if_pos g, zuat, if_pos rfl]
  · rw [if_neg g, zunm_93 (by decide), zuat, if_pos rfl]
/-! Model.setRadius -/
set_option maxRecDepth 100000 in
theorem zk276b (c r : Int) (w : zW) (K : zK) (h : (zNt w ∧ 0 ≤ w 93 31 ∧ w 93 31 ≤ 5) ∧ (if 0 ≤ c ∧ c < w 95 0 then if 1 ≤ r ∧ r ≤ 1000000 then K (0, some (0, w 98 c.toNat)) (zupd (zMs (zupd (zkpm (zupd w 93 0 0)) 98 c.toNat r) w) 93 0 0) 238 else K (0, some (0, 0)) (zupd w 93 0 2) 238 else K (0, some (0, 0)) (zupd w 93 0 1) 238)) : zcall 276 [(2, 93), (0, c), (0, r), (9, 0)] w 238 K := by
  obtain ⟨hg, h⟩ := h
  refine (show (if c < 0 then K (0, some (0, 0)) (zupd w 93 0 1) 238 else if z32 ((w 95 0) - 1) < c then K (0, some (0, 0)) (zupd w 93 0 1) 238 else if r < 1 then K (0, some (0, 0)) (zupd w 93 0 2) 238 else if 1000000 < r then K (0, some (0, 0)) (zupd w 93 0 2) 238 else (0 ≤ (w 93 31) ∧ (w 93 31) ≤ 5) ∧ (zif False (0 ≤ c ∧ c < 36) (zif False (0 ≤ c ∧ c < 36) (K (0, some (0, (zkpm (zupd w 93 0 0)) 98 c.toNat)) (zupd (zkpm (zupd w 93 0 0)) 98 c.toNat r) 238)))) → _ from fun h => show zwp 276 0 [(2, 93), (0, c), (0, r), (9, 0)] [] w 238 0 K from zgo_imp zT253_ok (cut := fun pc => Nat.beq pc 6 || Nat.beq pc 22 || Nat.beq pc 33 || Nat.beq pc 48 || Nat.beq pc 51 || Nat.beq pc 64) 400 (show if c < 0 then zwp 276 6 [(2, 93), (0, c), (0, r), (9, 0)] [(0, 0), (2, 93)] w 238 0 K else if z32 ((w 95 0) - 1) < c then zwp 276 6 [(2, 93), (0, c), (0, r), (9, 0)] [(0, 0), (2, 93)] w 238 0 K else zwp 276 6 [(2, 93), (0, c), (0, r), (9, 0)] [(0, 1), (2, 93)] w 238 0 K from zmI (fun h => (fun h => show zwp 276 6 [(2, 93), (0, c), (0, r), (9, 0)] [(0, 0), (2, 93)] w 238 0 K from zgo_imp zT253_ok (cut := fun pc => Nat.beq pc 6 || Nat.beq pc 22 || Nat.beq pc 33 || Nat.beq pc 48 || Nat.beq pc 51 || Nat.beq pc 64) 400 (show K (0, some (0, 0)) (zupd w 93 0 1) 238 from h)) h) (fun h => zmI (fun h => (fun h => show zwp 276 6 [(2, 93), (0, c), (0, r), (9, 0)] [(0, 0), (2, 93)] w 238 0 K from zgo_imp zT253_ok (cut := fun pc => Nat.beq pc 6 || Nat.beq pc 22 || Nat.beq pc 33 || Nat.beq pc 48 || Nat.beq pc 51 || Nat.beq pc 64) 400 (show K (0, some (0, 0)) (zupd w 93 0 1) 238 from h)) h) (fun h => (fun h => show zwp 276 6 [(2, 93), (0, c), (0, r), (9, 0)] [(0, 1), (2, 93)] w 238 0 K from zgo_imp zT253_ok (cut := fun pc => Nat.beq pc 6 || Nat.beq pc 22 || Nat.beq pc 33 || Nat.beq pc 48 || Nat.beq pc 51 || Nat.beq pc 64) 400 (show if r < 1 then zwp 276 22 [(2, 93), (0, c), (0, r), (9, 0)] [(0, 0), (2, 93)] w 238 0 K else if 1000000 < r then zwp 276 22 [(2, 93), (0, c), (0, r), (9, 0)] [(0, 0), (2, 93)] w 238 0 K else zwp 276 22 [(2, 93), (0, c), (0, r), (9, 0)] [(0, 1), (2, 93)] w 238 0 K from zmI (fun h => (fun h => show zwp 276 22 [(2, 93), (0, c), (0, r), (9, 0)] [(0, 0), (2, 93)] w 238 0 K from zgo_imp zT253_ok (cut := fun pc => Nat.beq pc 6 || Nat.beq pc 22 || Nat.beq pc 33 || Nat.beq pc 48 || Nat.beq pc 51 || Nat.beq pc 64) 400 (show zwp 276 33 [(2, 93), (0, c), (0, r), (9, 0)] [(0, 1), (2, 93)] w 238 0 K from (fun h => show zwp 276 33 [(2, 93), (0, c), (0, r), (9, 0)] [(0, 1), (2, 93)] w 238 0 K from zgo_imp zT253_ok (cut := fun pc => Nat.beq pc 6 || Nat.beq pc 22 || Nat.beq pc 33 || Nat.beq pc 48 || Nat.beq pc 51 || Nat.beq pc 64) 400 (show K (0, some (0, 0)) (zupd w 93 0 2) 238 from h)) h)) h) (fun h => zmI (fun h => (fun h => show zwp 276 22 [(2, 93), (0, c), (0, r), (9, 0)] [(0, 0), (2, 93)] w 238 0 K from zgo_imp zT253_ok (cut := fun pc => Nat.beq pc 6 || Nat.beq pc 22 || Nat.beq pc 33 || Nat.beq pc 48 || Nat.beq pc 51 || Nat.beq pc 64) 400 (show zwp 276 33 [(2, 93), (0, c), (0, r), (9, 0)] [(0, 1), (2, 93)] w 238 0 K from (fun h => show zwp 276 33 [(2, 93), (0, c), (0, r), (9, 0)] [(0, 1), (2, 93)] w 238 0 K from zgo_imp zT253_ok (cut := fun pc => Nat.beq pc 6 || Nat.beq pc 22 || Nat.beq pc 33 || Nat.beq pc 48 || Nat.beq pc 51 || Nat.beq pc 64) 400 (show K (0, some (0, 0)) (zupd w 93 0 2) 238 from h)) h)) h) (fun h => (fun h => show zwp 276 22 [(2, 93), (0, c), (0, r), (9, 0)] [(0, 1), (2, 93)] w 238 0 K from zgo_imp zT253_ok (cut := fun pc => Nat.beq pc 6 || Nat.beq pc 22 || Nat.beq pc 33 || Nat.beq pc 48 || Nat.beq pc 51 || Nat.beq pc 64) 400 (show zwp 276 33 [(2, 93), (0, c), (0, r), (9, 0)] [(0, 0), (2, 93)] w 238 0 K from (fun h => show zwp 276 33 [(2, 93), (0, c), (0, r), (9, 0)] [(0, 0), (2, 93)] w 238 0 K from zgo_imp zT253_ok (cut := fun pc => Nat.beq pc 6 || Nat.beq pc 22 || Nat.beq pc 33 || Nat.beq pc 48 || Nat.beq pc 51 || Nat.beq pc 64) 400 (show zwp 276 48 [(2, 93), (0, c), (0, r), (9, 0)] [(2, 93)] (zupd w 93 0 0) 238 0 K from (fun h => show zwp 276 48 [(2, 93), (0, c), (0, r), (9, 0)] [(2, 93)] (zupd w 93 0 0) 238 0 K from zgo_imp zT253_ok (cut := fun pc => Nat.beq pc 6 || Nat.beq pc 22 || Nat.beq pc 33 || Nat.beq pc 48 || Nat.beq pc 51 || Nat.beq pc 64) 400 (show (0 ≤ (w 93 31) ∧ (w 93 31) ≤ 5) ∧ (zwp 276 51 [(2, 93), (0, c), (0, r), (9, 0)] [] (zkpm (zupd w 93 0 0)) 238 0 K) from zmA (fun h => (fun h => show zwp 276 51 [(2, 93), (0, c), (0, r), (9, 0)] [] (zkpm (zupd w 93 0 0)) 238 0 K from zgo_imp zT253_ok (cut := fun pc => Nat.beq pc 6 || Nat.beq pc 22 || Nat.beq pc 33 || Nat.beq pc 48 || Nat.beq pc 51 || Nat.beq pc 64) 400 (show zif False (0 ≤ c ∧ c < 36) (zwp 276 64 [(2, 93), (0, c), (0, r), (0, (zkpm (zupd w 93 0 0)) 98 c.toNat)] [(0, r), (0, c), (2, 98)] (zkpm (zupd w 93 0 0)) 238 0 K) from zmZ (fun h => (fun h => show zwp 276 64 [(2, 93), (0, c), (0, r), (0, (zkpm (zupd w 93 0 0)) 98 c.toNat)] [(0, r), (0, c), (2, 98)] (zkpm (zupd w 93 0 0)) 238 0 K from zgo_imp zT253_ok (cut := fun pc => Nat.beq pc 6 || Nat.beq pc 22 || Nat.beq pc 33 || Nat.beq pc 48 || Nat.beq pc 51 || Nat.beq pc 64) 400 (show zif False (0 ≤ c ∧ c < 36) (K (0, some (0, (zkpm (zupd w 93 0 0)) 98 c.toNat)) (zupd (zkpm (zupd w 93 0 0)) 98 c.toNat r) 238) from h)) h) h)) h) h)) h)) h)) h) h) h)) h) h) h)) ?_
  obtain ⟨hN, hu⟩ := hg
  have hn := hN.n
  have ez : z32 (w 95 0 - 1) = w 95 0 - 1 := z32_id ⟨by omega, by omega⟩
  rw [ez]
  by_cases hc : 0 ≤ c ∧ c < w 95 0
  · rw [if_pos hc] at h
    refine ziF (by omega) (ziF (by omega) ?_)
    by_cases hr : 1 ≤ r ∧ r ≤ 1000000
    · rw [if_pos hr, zMs_u (by rw [zune (by decide)]; exact zB0) (fun p hp => by rw [zune (by omega), zBn (by omega) (by omega)])] at h
      refine ziF (by omega) (ziF (by omega) ⟨hu, zifI (by omega) (zifI (by omega) ?_)⟩)
      rw [zBn (p := 98) (by decide) (by decide)]
      exact h
    · rw [if_neg hr] at h
      by_cases q : r < 1
      · exact ziT q h
      · exact ziF q (ziT (by omega) h)
  · rw [if_neg hc] at h
    by_cases q : c < 0
    · exact ziT q h
    · exact ziF q (ziT (by omega) h)
noncomputable def zb276b (l0 : List zV) (w : zW) (K : zK) : Prop := cond (zpe (zar l0 0) 93) (zA l0 1 fun c => zA l0 2 fun r => (zNt w ∧ 0 ≤ w 93 31 ∧ w 93 31 ≤ 5) ∧ (if 0 ≤ c ∧ c < w 95 0 then if 1 ≤ r ∧ r ≤ 1000000 then K (0, some (0, w 98 c.toNat)) (zupd (zMs (zupd (zkpm (zupd w 93 0 0)) 98 c.toNat r) w) 93 0 0) 238 else K (0, some (0, 0)) (zupd w 93 0 2) 238 else K (0, some (0, 0)) (zupd w 93 0 1) 238)) False
noncomputable def zT254 : zSum := zsm1 276 [2, 0, 0, 9] zb276b zT253
theorem zT254_ok : zSok zT254 := zsm1_ok zT253_ok fun l0 w K h => by
  unfold zb276b at h
  cases q0 : zpe (zar l0 0) 93 with
  | true =>
    rw [q0, cond_true] at h
    have e : zar l0 0 = 93 := zpe_e q0
    show zcall 276 [(2, zar l0 0), (0, zar l0 1), (0, zar l0 2), (9, 0)] w 238 K
    rw [e]
    exact zk276b (zar l0 1) (zar l0 2) w K (zA_e (zA_e h))
  | false =>
    rw [q0, cond_false] at h
    exact h.elim
/-! Model.solve -/
set_option maxRecDepth 100000 in
theorem zk279b (c : Int) (w : zW) (K : zK) (h : (zNt w ∧ zRd 98 w ∧ 0 ≤ w 93 31 ∧ w 93 31 ≤ 5) ∧ (if 0 ≤ c ∧ c < w 95 0 then if zSb w c then K (0, some (0, zSR (zkpm (zupd w 93 0 0)) 98 c)) (zupd (zMs (zupd (zkpm (zupd w 93 0 0)) 98 c.toNat (zSR (zkpm (zupd w 93 0 0)) 98 c)) w) 93 0 0) 238 else K (0, some (0, 0)) (zupd w 93 0 2) 238 else K (0, some (0, 0)) (zupd w 93 0 1) 238)) : zcall 279 [(2, 93), (0, c)] w 238 K := by
  obtain ⟨hg, h⟩ := h
  refine (show (if c < 0 then K (0, some (0, 0)) (zupd w 93 0 1) 238 else if z32 ((w 95 0) - 1) < c then K (0, some (0, 0)) (zupd w 93 0 1) 238 else (zNt w ∧ 0 ≤ c ∧ c < w 95 0) ∧ (if ((if zSb w c then 1 else 0) : Int) = 0 then K (0, some (0, 0)) (zupd w 93 0 2) 238 else (0 ≤ (w 93 31) ∧ (w 93 31) ≤ 5) ∧ ((zNt (zkpm (zupd w 93 0 0)) ∧ zRd 98 (zkpm (zupd w 93 0 0)) ∧ 0 ≤ c ∧ c < (zkpm (zupd w 93 0 0)) 95 0) ∧ (zif False (0 ≤ c ∧ c < 36) (zif False (0 ≤ c ∧ c < 36) (K (0, some (0, (zupd (zkpm (zupd w 93 0 0)) 98 c.toNat (zSv (fun v => zHq (zkpm (zupd w 93 0 0)) 98 c v 0) (zTgt ((zkpm (zupd w 93 0 0)) 97 c.toNat)))) 98 c.toNat)) (zupd (zkpm (zupd w 93 0 0)) 98 c.toNat (zSv (fun v => zHq (zkpm (zupd w 93 0 0)) 98 c v 0) (zTgt ((zkpm (zupd w 93 0 0)) 97 c.toNat)))) 238)))))) → _ from fun h => show zwp 279 0 [(2, 93), (0, c)] [] w 238 0 K from zgo_imp zT254_ok (cut := fun pc => Nat.beq pc 6 || Nat.beq pc 18 || Nat.beq pc 29 || Nat.beq pc 44 || Nat.beq pc 47 || Nat.beq pc 57) 400 (show if c < 0 then zwp 279 6 [(2, 93), (0, c)] [(0, 0), (2, 93)] w 238 0 K else if z32 ((w 95 0) - 1) < c then zwp 279 6 [(2, 93), (0, c)] [(0, 0), (2, 93)] w 238 0 K else zwp 279 6 [(2, 93), (0, c)] [(0, 1), (2, 93)] w 238 0 K from zmI (fun h => (fun h => show zwp 279 6 [(2, 93), (0, c)] [(0, 0), (2, 93)] w 238 0 K from zgo_imp zT254_ok (cut := fun pc => Nat.beq pc 6 || Nat.beq pc 18 || Nat.beq pc 29 || Nat.beq pc 44 || Nat.beq pc 47 || Nat.beq pc 57) 400 (show K (0, some (0, 0)) (zupd w 93 0 1) 238 from h)) h) (fun h => zmI (fun h => (fun h => show zwp 279 6 [(2, 93), (0, c)] [(0, 0), (2, 93)] w 238 0 K from zgo_imp zT254_ok (cut := fun pc => Nat.beq pc 6 || Nat.beq pc 18 || Nat.beq pc 29 || Nat.beq pc 44 || Nat.beq pc 47 || Nat.beq pc 57) 400 (show K (0, some (0, 0)) (zupd w 93 0 1) 238 from h)) h) (fun h => (fun h => show zwp 279 6 [(2, 93), (0, c)] [(0, 1), (2, 93)] w 238 0 K from zgo_imp zT254_ok (cut := fun pc => Nat.beq pc 6 || Nat.beq pc 18 || Nat.beq pc 29 || Nat.beq pc 44 || Nat.beq pc 47 || Nat.beq pc 57) 400 (show (zNt w ∧ 0 ≤ c ∧ c < w 95 0) ∧ (zwp 279 18 [(2, 93), (0, c)] [(0, ((if zSb w c then 1 else 0) : Int)), (2, 93)] w 238 0 K) from zmA (fun h => (fun h => show zwp 279 18 [(2, 93), (0, c)] [(0, ((if zSb w c then 1 else 0) : Int)), (2, 93)] w 238 0 K from zgo_imp zT254_ok (cut := fun pc => Nat.beq pc 6 || Nat.beq pc 18 || Nat.beq pc 29 || Nat.beq pc 44 || Nat.beq pc 47 || Nat.beq pc 57) 400 (show if ((if zSb w c then 1 else 0) : Int) = 0 then zwp 279 29 [(2, 93), (0, c)] [(0, 1), (2, 93)] w 238 0 K else zwp 279 29 [(2, 93), (0, c)] [(0, 0), (2, 93)] w 238 0 K from zmI (fun h => (fun h => show zwp 279 29 [(2, 93), (0, c)] [(0, 1), (2, 93)] w 238 0 K from zgo_imp zT254_ok (cut := fun pc => Nat.beq pc 6 || Nat.beq pc 18 || Nat.beq pc 29 || Nat.beq pc 44 || Nat.beq pc 47 || Nat.beq pc 57) 400 (show K (0, some (0, 0)) (zupd w 93 0 2) 238 from h)) h) (fun h => (fun h => show zwp 279 29 [(2, 93), (0, c)] [(0, 0), (2, 93)] w 238 0 K from zgo_imp zT254_ok (cut := fun pc => Nat.beq pc 6 || Nat.beq pc 18 || Nat.beq pc 29 || Nat.beq pc 44 || Nat.beq pc 47 || Nat.beq pc 57) 400 (show zwp 279 44 [(2, 93), (0, c)] [(2, 93)] (zupd w 93 0 0) 238 0 K from (fun h => show zwp 279 44 [(2, 93), (0, c)] [(2, 93)] (zupd w 93 0 0) 238 0 K from zgo_imp zT254_ok (cut := fun pc => Nat.beq pc 6 || Nat.beq pc 18 || Nat.beq pc 29 || Nat.beq pc 44 || Nat.beq pc 47 || Nat.beq pc 57) 400 (show (0 ≤ (w 93 31) ∧ (w 93 31) ≤ 5) ∧ (zwp 279 47 [(2, 93), (0, c)] [] (zkpm (zupd w 93 0 0)) 238 0 K) from zmA (fun h => (fun h => show zwp 279 47 [(2, 93), (0, c)] [] (zkpm (zupd w 93 0 0)) 238 0 K from zgo_imp zT254_ok (cut := fun pc => Nat.beq pc 6 || Nat.beq pc 18 || Nat.beq pc 29 || Nat.beq pc 44 || Nat.beq pc 47 || Nat.beq pc 57) 400 (show (zNt (zkpm (zupd w 93 0 0)) ∧ zRd 98 (zkpm (zupd w 93 0 0)) ∧ 0 ≤ c ∧ c < (zkpm (zupd w 93 0 0)) 95 0) ∧ (zwp 279 57 [(2, 93), (0, c)] [(0, zSv (fun v => zHq (zkpm (zupd w 93 0 0)) 98 c v 0) (zTgt ((zkpm (zupd w 93 0 0)) 97 c.toNat))), (0, c), (2, 98)] (zkpm (zupd w 93 0 0)) 238 0 K) from zmA (fun h => (fun h => show zwp 279 57 [(2, 93), (0, c)] [(0, zSv (fun v => zHq (zkpm (zupd w 93 0 0)) 98 c v 0) (zTgt ((zkpm (zupd w 93 0 0)) 97 c.toNat))), (0, c), (2, 98)] (zkpm (zupd w 93 0 0)) 238 0 K from zgo_imp zT254_ok (cut := fun pc => Nat.beq pc 6 || Nat.beq pc 18 || Nat.beq pc 29 || Nat.beq pc 44 || Nat.beq pc 47 || Nat.beq pc 57) 400 (show zif False (0 ≤ c ∧ c < 36) (zif False (0 ≤ c ∧ c < 36) (K (0, some (0, (zupd (zkpm (zupd w 93 0 0)) 98 c.toNat (zSv (fun v => zHq (zkpm (zupd w 93 0 0)) 98 c v 0) (zTgt ((zkpm (zupd w 93 0 0)) 97 c.toNat)))) 98 c.toNat)) (zupd (zkpm (zupd w 93 0 0)) 98 c.toNat (zSv (fun v => zHq (zkpm (zupd w 93 0 0)) 98 c v 0) (zTgt ((zkpm (zupd w 93 0 0)) 97 c.toNat)))) 238)) from h)) h) h)) h) h)) h)) h) h)) h) h)) h) h) h)) ?_
  obtain ⟨hN, hR, hu⟩ := hg
  have hn := hN.n
  have ez : z32 (w 95 0 - 1) = w 95 0 - 1 := z32_id ⟨by omega, by omega⟩
  rw [ez]
  by_cases hc : 0 ≤ c ∧ c < w 95 0
  · rw [if_pos hc] at h
    refine ziF (by omega) (ziF (by omega) ?_)
    refine ⟨⟨hN, hc⟩, ?_⟩
    by_cases hr : zSb w c
    · have eS : zSR (zkpm (zupd w 93 0 0)) 98 c = zSv (fun v => zHq (zkpm (zupd w 93 0 0)) 98 c v 0) (zTgt ((zkpm (zupd w 93 0 0)) 97 c.toNat)) := if_pos (zB_sb hr)
      rw [if_pos hr, eS, zMs_u (by rw [zune (by decide)]; exact zB0) (fun p hp => by rw [zune (by omega), zBn (by omega) (by omega)])] at h
      refine ziF (by rw [if_pos hr]; decide) ⟨hu, ⟨zkpm_nt (zM_nt hN), zkpm_rd hR, hc.1, ?_⟩, zifI (by omega) (zifI (by omega) ?_)⟩
      · rw [zBn (p := 95) (by decide) (by decide)]; exact hc.2
      · rw [zuat, if_pos rfl]
        exact h
    · rw [if_neg hr] at h
      exact ziT (if_neg hr) h
  · rw [if_neg hc] at h
    by_cases q : c < 0
    · exact ziT q h
    · exact ziF q (ziT (by omega) h)
noncomputable def zb279b (l0 : List zV) (w : zW) (K : zK) : Prop := cond (zpe (zar l0 0) 93) (zA l0 1 fun c => (zNt w ∧ zRd 98 w ∧ 0 ≤ w 93 31 ∧ w 93 31 ≤ 5) ∧ (if 0 ≤ c ∧ c < w 95 0 then if zSb w c then K (0, some (0, zSR (zkpm (zupd w 93 0 0)) 98 c)) (zupd (zMs (zupd (zkpm (zupd w 93 0 0)) 98 c.toNat (zSR (zkpm (zupd w 93 0 0)) 98 c)) w) 93 0 0) 238 else K (0, some (0, 0)) (zupd w 93 0 2) 238 else K (0, some (0, 0)) (zupd w 93 0 1) 238)) False
noncomputable def zT255 : zSum := zsm1 279 [2, 0] zb279b zT254
theorem zT255_ok : zSok zT255 := zsm1_ok zT254_ok fun l0 w K h => by
  unfold zb279b at h
  cases q0 : zpe (zar l0 0) 93 with
  | true =>
    rw [q0, cond_true] at h
    have e : zar l0 0 = 93 := zpe_e q0
    show zcall 279 [(2, zar l0 0), (0, zar l0 1)] w 238 K
    rw [e]
    exact zk279b (zar l0 1) w K (zA_e h)
  | false =>
    rw [q0, cond_false] at h
    exact h.elim
/-! Model.sweep -/
set_option maxRecDepth 100000 in
theorem zk282b (w : zW) (K : zK) (h : (zNt w ∧ zRd 98 w ∧ 0 ≤ w 93 31 ∧ w 93 31 ≤ 5) ∧ (K (0, some (0, zSwn 98 (zkpm (zupd w 93 0 0)))) (zupd (zMs (zSwp 98 (zkpm (zupd w 93 0 0))) w) 93 0 0) 238)) : zcall 282 [(2, 93)] w 238 K := by
  obtain ⟨hg, h⟩ := h
  refine (show ((0 ≤ (w 93 31) ∧ (w 93 31) ≤ 5) ∧ ((zNt (zkpm (zupd w 93 0 0)) ∧ zRd 98 (zkpm (zupd w 93 0 0))) ∧ (K (0, some (0, zSwn 98 (zkpm (zupd w 93 0 0)))) (zSwp 98 (zkpm (zupd w 93 0 0))) 238))) → _ from fun h => show zwp 282 0 [(2, 93)] [] w 238 0 K from zgo_imp zT255_ok (cut := fun pc => Nat.beq pc 9 || Nat.beq pc 13) 400 (show (0 ≤ (w 93 31) ∧ (w 93 31) ≤ 5) ∧ (zwp 282 9 [(2, 93)] [] (zkpm (zupd w 93 0 0)) 238 0 K) from zmA (fun h => (fun h => show zwp 282 9 [(2, 93)] [] (zkpm (zupd w 93 0 0)) 238 0 K from zgo_imp zT255_ok (cut := fun pc => Nat.beq pc 9 || Nat.beq pc 13) 400 (show (zNt (zkpm (zupd w 93 0 0)) ∧ zRd 98 (zkpm (zupd w 93 0 0))) ∧ (zwp 282 13 [(2, 93)] [(0, zSwn 98 (zkpm (zupd w 93 0 0)))] (zSwp 98 (zkpm (zupd w 93 0 0))) 238 0 K) from zmA (fun h => (fun h => show zwp 282 13 [(2, 93)] [(0, zSwn 98 (zkpm (zupd w 93 0 0)))] (zSwp 98 (zkpm (zupd w 93 0 0))) 238 0 K from zgo_imp zT255_ok (cut := fun pc => Nat.beq pc 9 || Nat.beq pc 13) 400 (show K (0, some (0, zSwn 98 (zkpm (zupd w 93 0 0)))) (zSwp 98 (zkpm (zupd w 93 0 0))) 238 from h)) h) h)) h) h)) ?_
  obtain ⟨hN, hR, hu⟩ := hg
  rw [zMs_u (by rw [zSwp_ne (by decide)]; exact zB0) (fun p hp => by rw [zSwp_ne (by omega), zBn (by omega) (by omega)])] at h
  exact ⟨hu, ⟨zkpm_nt (zM_nt hN), zkpm_rd hR⟩, h⟩
noncomputable def zb282b (l0 : List zV) (w : zW) (K : zK) : Prop := cond (zpe (zar l0 0) 93) ((zNt w ∧ zRd 98 w ∧ 0 ≤ w 93 31 ∧ w 93 31 ≤ 5) ∧ (K (0, some (0, zSwn 98 (zkpm (zupd w 93 0 0)))) (zupd (zMs (zSwp 98 (zkpm (zupd w 93 0 0))) w) 93 0 0) 238)) False
noncomputable def zT256 : zSum := zsm1 282 [2] zb282b zT255
theorem zT256_ok : zSok zT256 := zsm1_ok zT255_ok fun l0 w K h => by
  unfold zb282b at h
  cases q0 : zpe (zar l0 0) 93 with
  | true =>
    rw [q0, cond_true] at h
    have e : zar l0 0 = 93 := zpe_e q0
    show zcall 282 [(2, zar l0 0)] w 238 K
    rw [e]
    exact zk282b  w K h
  | false =>
    rw [q0, cond_false] at h
    exact h.elim
/-! Model.settle -/
set_option maxRecDepth 100000 in
theorem zk283b (n : Int) (w : zW) (K : zK) (h : (zNt w ∧ zRd 98 w ∧ 0 ≤ w 93 31 ∧ w 93 31 ≤ 5) ∧ (if 1 ≤ n ∧ n ≤ 20 then K (0, some (0, (zStl 98 (n - 1).toNat 1 (zkpm (zupd w 93 0 0))).1)) (zupd (zMs ((zStl 98 (n - 1).toNat 1 (zkpm (zupd w 93 0 0))).2) w) 93 0 0) 238 else K (0, some (0, 0)) (zupd w 93 0 1) 238)) : zcall 283 [(2, 93), (0, n), (9, 0)] w 238 K := by
  obtain ⟨hg, h⟩ := h
  rw [zMs_u (by rw [zStl_ne (by decide)]; exact zB0) (fun p hp => by rw [zStl_ne (by omega), zBn (by omega) (by omega)])] at h
  exact zk283_93 n w K ⟨hg, h⟩
noncomputable def zb283b (l0 : List zV) (w : zW) (K : zK) : Prop := cond (zpe (zar l0 0) 93) (zA l0 1 fun n => (zNt w ∧ zRd 98 w ∧ 0 ≤ w 93 31 ∧ w 93 31 ≤ 5) ∧ (if 1 ≤ n ∧ n ≤ 20 then K (0, some (0, (zStl 98 (n - 1).toNat 1 (zkpm (zupd w 93 0 0))).1)) (zupd (zMs ((zStl 98 (n - 1).toNat 1 (zkpm (zupd w 93 0 0))).2) w) 93 0 0) 238 else K (0, some (0, 0)) (zupd w 93 0 1) 238)) False
noncomputable def zT257 : zSum := zsm1 283 [2, 0, 9] zb283b zT256
theorem zT257_ok : zSok zT257 := zsm1_ok zT256_ok fun l0 w K h => by
  unfold zb283b at h
  cases q0 : zpe (zar l0 0) 93 with
  | true =>
    rw [q0, cond_true] at h
    have e : zar l0 0 = 93 := zpe_e q0
    show zcall 283 [(2, zar l0 0), (0, zar l0 1), (9, 0)] w 238 K
    rw [e]
    exact zk283b (zar l0 1) w K (zA_e h)
  | false =>
    rw [q0, cond_false] at h
    exact h.elim
/-! Model.lay -/
set_option maxRecDepth 100000 in
theorem zk299b (f : Int) (w : zW) (K : zK) (h : (zNt w ∧ zRd 98 w ∧ 0 ≤ w 93 31 ∧ w 93 31 ≤ 5) ∧ (if 0 ≤ f ∧ f < w 96 0 then K (0, some (0, zLam (zkpm (zupd w 93 0 0)) f 102 0)) (zupd (zMs (zLam (zkpm (zupd w 93 0 0)) f) w) 93 0 0) 238 else K (0, some (0, 0)) (zupd w 93 0 1) 238)) : zcall 299 [(2, 93), (0, f)] w 238 K := by
  obtain ⟨hg, h⟩ := h
  refine (show (if f < 0 then K (0, some (0, 0)) (zupd w 93 0 1) 238 else if z32 ((w 96 0) - 1) < f then K (0, some (0, 0)) (zupd w 93 0 1) 238 else (0 ≤ (w 93 31) ∧ (w 93 31) ≤ 5) ∧ ((zNt (zkpm (zupd w 93 0 0)) ∧ zRd 98 (zkpm (zupd w 93 0 0)) ∧ 0 ≤ f ∧ f < (zkpm (zupd w 93 0 0)) 96 0) ∧ (K (0, some (0, (zLam (zkpm (zupd w 93 0 0)) f) 102 0)) (zLam (zkpm (zupd w 93 0 0)) f) 238))) → _ from fun h => show zwp 299 0 [(2, 93), (0, f)] [] w 238 0 K from zgo_imp zT257_ok (cut := fun pc => Nat.beq pc 6 || Nat.beq pc 9 || Nat.beq pc 18 || Nat.beq pc 23) 400 (show if f < 0 then zwp 299 6 [(2, 93), (0, f)] [(0, 0), (2, 93)] w 238 0 K else if z32 ((w 96 0) - 1) < f then zwp 299 6 [(2, 93), (0, f)] [(0, 0), (2, 93)] w 238 0 K else zwp 299 6 [(2, 93), (0, f)] [(0, 1), (2, 93)] w 238 0 K from zmI (fun h => (fun h => show zwp 299 6 [(2, 93), (0, f)] [(0, 0), (2, 93)] w 238 0 K from zgo_imp zT257_ok (cut := fun pc => Nat.beq pc 6 || Nat.beq pc 9 || Nat.beq pc 18 || Nat.beq pc 23) 400 (show zwp 299 9 [(2, 93), (0, f)] [(0, 0)] (zupd w 93 0 1) 238 0 K from (fun h => show zwp 299 9 [(2, 93), (0, f)] [(0, 0)] (zupd w 93 0 1) 238 0 K from zgo_imp zT257_ok (cut := fun pc => Nat.beq pc 6 || Nat.beq pc 9 || Nat.beq pc 18 || Nat.beq pc 23) 400 (show K (0, some (0, 0)) (zupd w 93 0 1) 238 from h)) h)) h) (fun h => zmI (fun h => (fun h => show zwp 299 6 [(2, 93), (0, f)] [(0, 0), (2, 93)] w 238 0 K from zgo_imp zT257_ok (cut := fun pc => Nat.beq pc 6 || Nat.beq pc 9 || Nat.beq pc 18 || Nat.beq pc 23) 400 (show zwp 299 9 [(2, 93), (0, f)] [(0, 0)] (zupd w 93 0 1) 238 0 K from (fun h => show zwp 299 9 [(2, 93), (0, f)] [(0, 0)] (zupd w 93 0 1) 238 0 K from zgo_imp zT257_ok (cut := fun pc => Nat.beq pc 6 || Nat.beq pc 9 || Nat.beq pc 18 || Nat.beq pc 23) 400 (show K (0, some (0, 0)) (zupd w 93 0 1) 238 from h)) h)) h) (fun h => (fun h => show zwp 299 6 [(2, 93), (0, f)] [(0, 1), (2, 93)] w 238 0 K from zgo_imp zT257_ok (cut := fun pc => Nat.beq pc 6 || Nat.beq pc 9 || Nat.beq pc 18 || Nat.beq pc 23) 400 (show zwp 299 9 [(2, 93), (0, f)] [(0, 1)] (zupd w 93 0 0) 238 0 K from (fun h => show zwp 299 9 [(2, 93), (0, f)] [(0, 1)] (zupd w 93 0 0) 238 0 K from zgo_imp zT257_ok (cut := fun pc => Nat.beq pc 6 || Nat.beq pc 9 || Nat.beq pc 18 || Nat.beq pc 23) 400 (show (0 ≤ (w 93 31) ∧ (w 93 31) ≤ 5) ∧ (zwp 299 18 [(2, 93), (0, f)] [] (zkpm (zupd w 93 0 0)) 238 0 K) from zmA (fun h => (fun h => show zwp 299 18 [(2, 93), (0, f)] [] (zkpm (zupd w 93 0 0)) 238 0 K from zgo_imp zT257_ok (cut := fun pc => Nat.beq pc 6 || Nat.beq pc 9 || Nat.beq pc 18 || Nat.beq pc 23) 400 (show (zNt (zkpm (zupd w 93 0 0)) ∧ zRd 98 (zkpm (zupd w 93 0 0)) ∧ 0 ≤ f ∧ f < (zkpm (zupd w 93 0 0)) 96 0) ∧ (zwp 299 23 [(2, 93), (0, f)] [] (zLam (zkpm (zupd w 93 0 0)) f) 238 0 K) from zmA (fun h => (fun h => show zwp 299 23 [(2, 93), (0, f)] [] (zLam (zkpm (zupd w 93 0 0)) f) 238 0 K from zgo_imp zT257_ok (cut := fun pc => Nat.beq pc 6 || Nat.beq pc 9 || Nat.beq pc 18 || Nat.beq pc 23) 400 (show K (0, some (0, (zLam (zkpm (zupd w 93 0 0)) f) 102 0)) (zLam (zkpm (zupd w 93 0 0)) f) 238 from h)) h) h)) h) h)) h)) h) h) h)) ?_
  obtain ⟨hN, hR, hu⟩ := hg
  have hn := hN.n
  have ez : z32 (w 96 0 - 1) = w 96 0 - 1 := z32_id ⟨by omega, by omega⟩
  rw [ez]
  by_cases hc : 0 ≤ f ∧ f < w 96 0
  · rw [if_pos hc] at h
    refine ziF (by omega) (ziF (by omega) ?_)
    rw [zMs_u (by rw [zLam_ne (by decide)]; exact zB0) (fun p hp => by rw [zLam_ne (by omega), zBn (by omega) (by omega)])] at h
    refine ⟨hu, ⟨zkpm_nt (zM_nt hN), zkpm_rd hR, hc.1, ?_⟩, h⟩
    rw [zBn (p := 96) (by decide) (by decide)]; exact hc.2
  · rw [if_neg hc] at h
    by_cases q : f < 0
    · exact ziT q h
    · exact ziF q (ziT (by omega) h)
noncomputable def zb299b (l0 : List zV) (w : zW) (K : zK) : Prop := cond (zpe (zar l0 0) 93) (zA l0 1 fun f => (zNt w ∧ zRd 98 w ∧ 0 ≤ w 93 31 ∧ w 93 31 ≤ 5) ∧ (if 0 ≤ f ∧ f < w 96 0 then K (0, some (0, zLam (zkpm (zupd w 93 0 0)) f 102 0)) (zupd (zMs (zLam (zkpm (zupd w 93 0 0)) f) w) 93 0 0) 238 else K (0, some (0, 0)) (zupd w 93 0 1) 238)) False
noncomputable def zT258 : zSum := zsm1 299 [2, 0] zb299b zT257
theorem zT258_ok : zSok zT258 := zsm1_ok zT257_ok fun l0 w K h => by
  unfold zb299b at h
  cases q0 : zpe (zar l0 0) 93 with
  | true =>
    rw [q0, cond_true] at h
    have e : zar l0 0 = 93 := zpe_e q0
    show zcall 299 [(2, zar l0 0), (0, zar l0 1)] w 238 K
    rw [e]
    exact zk299b (zar l0 1) w K (zA_e h)
  | false =>
    rw [q0, cond_false] at h
    exact h.elim
/-! Model.shift -/
set_option maxRecDepth 100000 in
theorem zk302b (x y : Int) (w : zW) (K : zK) (h : (zPM w ∧ 0 ≤ w 93 31 ∧ w 93 31 ≤ 5) ∧ (if (-1000000 ≤ x ∧ x ≤ 1000000) ∧ -1000000 ≤ y ∧ y ≤ 1000000 then if zFi (fun k => zTf (w 104 (w 103 k.toNat).toNat + x) ∨ zTf (w 105 (w 103 k.toNat).toNat + y)) (w 102 0).toNat 0 = -1 then K (0, some (0, w 102 0)) (zupd (zMs (zsfm (zkpm (zupd w 93 0 0)) x y) w) 93 0 0) 238 else K (0, some (0, 0)) (zupd w 93 0 2) 238 else K (0, some (0, 0)) (zupd w 93 0 1) 238)) : zcall 302 [(2, 93), (0, x), (0, y), (9, 0)] w 238 K := by
  obtain ⟨hg, h⟩ := h
  rw [zMs_u (by rw [zsfm_ne (by decide) (by decide)]; exact zB0) (fun p hp => by rw [zsfm_ne (by omega) (by omega), zBn (by omega) (by omega)])] at h
  exact zk302_93 x y w K ⟨hg, h⟩
noncomputable def zb302b (l0 : List zV) (w : zW) (K : zK) : Prop := cond (zpe (zar l0 0) 93) (zA l0 1 fun x => zA l0 2 fun y => (zPM w ∧ 0 ≤ w 93 31 ∧ w 93 31 ≤ 5) ∧ (if (-1000000 ≤ x ∧ x ≤ 1000000) ∧ -1000000 ≤ y ∧ y ≤ 1000000 then if zFi (fun k => zTf (w 104 (w 103 k.toNat).toNat + x) ∨ zTf (w 105 (w 103 k.toNat).toNat + y)) (w 102 0).toNat 0 = -1 then K (0, some (0, w 102 0)) (zupd (zMs (zsfm (zkpm (zupd w 93 0 0)) x y) w) 93 0 0) 238 else K (0, some (0, 0)) (zupd w 93 0 2) 238 else K (0, some (0, 0)) (zupd w 93 0 1) 238)) False
noncomputable def zT259 : zSum := zsm1 302 [2, 0, 0, 9] zb302b zT258
theorem zT259_ok : zSok zT259 := zsm1_ok zT258_ok fun l0 w K h => by
  unfold zb302b at h
  cases q0 : zpe (zar l0 0) 93 with
  | true =>
    rw [q0, cond_true] at h
    have e : zar l0 0 = 93 := zpe_e q0
    show zcall 302 [(2, zar l0 0), (0, zar l0 1), (0, zar l0 2), (9, 0)] w 238 K
    rw [e]
    exact zk302b (zar l0 1) (zar l0 2) w K (zA_e (zA_e h))
  | false =>
    rw [q0, cond_false] at h
    exact h.elim
/-! Model.turn -/
set_option maxRecDepth 100000 in
theorem zk304b (w : zW) (K : zK) (h : (zPM w ∧ 0 ≤ w 93 31 ∧ w 93 31 ≤ 5) ∧ (K (0, some (0, w 102 0)) (zupd (zMs (ztnm (zkpm (zupd w 93 0 0))) w) 93 0 0) 238)) : zcall 304 [(2, 93)] w 238 K := by
  obtain ⟨hg, h⟩ := h
  refine (show ((0 ≤ (w 93 31) ∧ (w 93 31) ≤ 5) ∧ ((zPM (zkpm (zupd w 93 0 0))) ∧ (K (0, some (0, (ztnm (zkpm (zupd w 93 0 0))) 102 0)) (ztnm (zkpm (zupd w 93 0 0))) 238))) → _ from fun h => show zwp 304 0 [(2, 93)] [] w 238 0 K from zgo_imp zT259_ok (cut := fun pc => Nat.beq pc 9 || Nat.beq pc 13) 400 (show (0 ≤ (w 93 31) ∧ (w 93 31) ≤ 5) ∧ (zwp 304 9 [(2, 93)] [] (zkpm (zupd w 93 0 0)) 238 0 K) from zmA (fun h => (fun h => show zwp 304 9 [(2, 93)] [] (zkpm (zupd w 93 0 0)) 238 0 K from zgo_imp zT259_ok (cut := fun pc => Nat.beq pc 9 || Nat.beq pc 13) 400 (show (zPM (zkpm (zupd w 93 0 0))) ∧ (zwp 304 13 [(2, 93)] [] (ztnm (zkpm (zupd w 93 0 0))) 238 0 K) from zmA (fun h => (fun h => show zwp 304 13 [(2, 93)] [] (ztnm (zkpm (zupd w 93 0 0))) 238 0 K from zgo_imp zT259_ok (cut := fun pc => Nat.beq pc 9 || Nat.beq pc 13) 400 (show K (0, some (0, (ztnm (zkpm (zupd w 93 0 0))) 102 0)) (ztnm (zkpm (zupd w 93 0 0))) 238 from h)) h) h)) h) h)) ?_
  obtain ⟨hP, hu⟩ := hg
  rw [zMs_u (by rw [ztnm_ne (by decide) (by decide)]; exact zB0) (fun p hp => by rw [ztnm_ne (by omega) (by omega), zBn (by omega) (by omega)])] at h
  refine ⟨hu, zB_pm hP, ?_⟩
  rw [ztnm_ne (p := 102) (by decide) (by decide), zBn (p := 102) (by decide) (by decide)]
  exact h
noncomputable def zb304b (l0 : List zV) (w : zW) (K : zK) : Prop := cond (zpe (zar l0 0) 93) ((zPM w ∧ 0 ≤ w 93 31 ∧ w 93 31 ≤ 5) ∧ (K (0, some (0, w 102 0)) (zupd (zMs (ztnm (zkpm (zupd w 93 0 0))) w) 93 0 0) 238)) False
noncomputable def zT260 : zSum := zsm1 304 [2] zb304b zT259
theorem zT260_ok : zSok zT260 := zsm1_ok zT259_ok fun l0 w K h => by
  unfold zb304b at h
  cases q0 : zpe (zar l0 0) 93 with
  | true =>
    rw [q0, cond_true] at h
    have e : zar l0 0 = 93 := zpe_e q0
    show zcall 304 [(2, zar l0 0)] w 238 K
    rw [e]
    exact zk304b  w K h
  | false =>
    rw [q0, cond_false] at h
    exact h.elim
/-! Model.undo -/
set_option maxRecDepth 100000 in
theorem zk275b (w : zW) (K : zK) (h : (0 ≤ w 93 31 ∧ w 93 31 ≤ 5) ∧ (K (0, some (0, (if w 93 31 = 0 then -1 else w 93 31 - 1))) (zupd (zMs (zUnM w) w) 93 0 0) 238)) : zcall 275 [(2, 93), (9, 0), (9, 0)] w 238 K := by
  obtain ⟨hg, h⟩ := h
  rw [zMs_u zUnM_0 (fun p hp => zUnM_ne (by omega))] at h
  exact zk275_93 w K ⟨hg, h⟩
noncomputable def zb275b (l0 : List zV) (w : zW) (K : zK) : Prop := cond (zpe (zar l0 0) 93) ((0 ≤ w 93 31 ∧ w 93 31 ≤ 5) ∧ (K (0, some (0, (if w 93 31 = 0 then -1 else w 93 31 - 1))) (zupd (zMs (zUnM w) w) 93 0 0) 238)) False
noncomputable def zT261 : zSum := zsm1 275 [2, 9, 9] zb275b zT260
theorem zT261_ok : zSok zT261 := zsm1_ok zT260_ok fun l0 w K h => by
  unfold zb275b at h
  cases q0 : zpe (zar l0 0) 93 with
  | true =>
    rw [q0, cond_true] at h
    have e : zar l0 0 = 93 := zpe_e q0
    show zcall 275 [(2, zar l0 0), (9, 0), (9, 0)] w 238 K
    rw [e]
    exact zk275b  w K h
  | false =>
    rw [q0, cond_false] at h
    exact h.elim
/-! .undo -/
set_option maxRecDepth 100000 in
theorem zk176b (w : zW) (K : zK) (h : (zHr w) ∧ (K (0, some (0, (if w 37 2 = 0 then -1 else w 37 2 - 1))) (zCs (zUnC w) w) 238)) : zcall 176 [(2, 0)] w 238 K := by
  obtain ⟨hg, h⟩ := h
  refine (show (if w 37 2 = 0 then K (0, some (0, (-1))) w 238 else ((0 ≤ w 37 1 ∧ w 37 1 < 6) ∧ 0 ≤ w 37 2 ∧ w 37 2 ≤ 5) ∧ (K (0, some (0, (zpcp (zbkc w) (39 + 6 * ((w 37 1 + 5) % 6).toNat) 29) 37 2)) (zpcp (zbkc w) (39 + 6 * ((w 37 1 + 5) % 6).toNat) 29) 238)) → _ from fun h => show zwp 176 0 [(2, 0)] [] w 238 0 K from zgo_imp zT261_ok (cut := fun pc => Nat.beq pc 17 || Nat.beq pc 23) 400 (show if w 37 2 = 0 then K (0, some (0, (-1))) w 238 else zwp 176 17 [(2, 0)] [(2, 0), (2, 37)] w 238 0 K from zmI (fun h => h) (fun h => (fun h => show zwp 176 17 [(2, 0)] [(2, 0), (2, 37)] w 238 0 K from zgo_imp zT261_ok (cut := fun pc => Nat.beq pc 17 || Nat.beq pc 23) 400 (show ((0 ≤ w 37 1 ∧ w 37 1 < 6) ∧ 0 ≤ w 37 2 ∧ w 37 2 ≤ 5) ∧ (zwp 176 23 [(2, 0)] [] (zpcp (zbkc w) (39 + 6 * ((w 37 1 + 5) % 6).toNat) 29) 238 0 K) from zmA (fun h => (fun h => show zwp 176 23 [(2, 0)] [] (zpcp (zbkc w) (39 + 6 * ((w 37 1 + 5) % 6).toNat) 29) 238 0 K from zgo_imp zT261_ok (cut := fun pc => Nat.beq pc 17 || Nat.beq pc 23) 400 (show K (0, some (0, (zpcp (zbkc w) (39 + 6 * ((w 37 1 + 5) % 6).toNat) 29) 37 2)) (zpcp (zbkc w) (39 + 6 * ((w 37 1 + 5) % 6).toNat) 29) 238 from h)) h) h)) h) h)) ?_
  rw [zCs_e (fun p hp => zUnC_ne hp)] at h
  unfold zUnC at h
  have hH := hg
  unfold zHr at hH
  by_cases g : w 37 2 = 0
  · rw [if_pos g, if_pos g] at h
    exact ziT g h
  · rw [if_neg g, if_neg g] at h
    refine ziF g ⟨hH, ?_⟩
    have e : (zpcp (zbkc w) (39 + 6 * ((w 37 1 + 5) % 6).toNat) 29) 37 2 = w 37 2 - 1 := by
      rw [zpcp_ne (by decide)]
      show max (w 37 2 - 1) 0 = _
      omega
    rw [e]
    exact h
noncomputable def zb176b (l0 : List zV) (w : zW) (K : zK) : Prop := cond (zis0 (zar l0 0)) ((zHr w) ∧ (K (0, some (0, (if w 37 2 = 0 then -1 else w 37 2 - 1))) (zCs (zUnC w) w) 238)) False
noncomputable def zT262 : zSum := zsm1 176 [2] zb176b zT261
theorem zT262_ok : zSok zT262 := zsm1_ok zT261_ok fun l0 w K h => by
  unfold zb176b at h
  cases q0 : zis0 (zar l0 0) with
  | true =>
    rw [q0, cond_true] at h
    have e : zar l0 0 = 0 := zis0_e q0
    show zcall 176 [(2, zar l0 0)] w 238 K
    rw [e]
    exact zk176b  w K h
  | false =>
    rw [q0, cond_false] at h
    exact h.elim

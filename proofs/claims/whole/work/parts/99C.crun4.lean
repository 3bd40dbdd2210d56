/-! ===== the class runs a script: the method (written by wip/whole/gen_c.py) ===== -/
noncomputable def zrs1 (w : zW) : zW := zpcp (zupd (zkL 800 (zsc0 w)).2 1 1 0) 29 (39 + 6 * ((zkL 800 (zsc0 w)).2 37 1).toNat)
noncomputable def zrs (w : zW) : Int × zW := zrq 20 (zcf 6000 0 (zrs1 w)).1 0 (zcf 6000 0 (zrs1 w)).2
noncomputable def zrsW (w : zW) : zW := if 0 < (zrs w).1 then zkpc (zrs w).2 else (zrs w).2
def zrsP (v : zW) : Prop := ((0 ≤ v 37 1 ∧ v 37 1 < 6) ∧ 0 ≤ v 37 2 ∧ v 37 2 ≤ 5) ∧ zsG v ∧ zPN v
theorem zrs1_ne {w : zW} (h : zrsP (zkL 800 (zsc0 w)).2) {p : Nat} (hp : p < 37 ∨ 75 ≤ p) (h1 : p ≠ 1) : zrs1 w p = (zkL 800 (zsc0 w)).2 p := by
  have := h.1.1
  unfold zrs1
  rw [zpcp_ne (by omega), zune h1]
theorem zrs1_37 {w : zW} (h : zrsP (zkL 800 (zsc0 w)).2) : zrs1 w 37 = (zkL 800 (zsc0 w)).2 37 := by
  unfold zrs1
  rw [zpcp_ne (by omega), zune (by decide)]
theorem zrs1_nt {w : zW} (h : zrsP (zkL 800 (zsc0 w)).2) : zNt (zrs1 w) := by
  have h37 := h.1.1
  have n1 : zNt (zupd (zkL 800 (zsc0 w)).2 1 1 0) := h.2.2.1
  exact zNt_fr (fun p hp => zpcp_ne (by omega)) n1
theorem zrs1_P {w : zW} (h : zrsP (zkL 800 (zsc0 w)).2) : zrsP (zrs1 w) := by
  refine ⟨by rw [zrs1_37 h]; exact h.1, zsG_fr (fun p hp => zrs1_ne h (by omega) (by omega)) h.2.1, zrs1_nt h, zRd_fr (zrs1_ne h (by decide) (by decide)) (zrs1_ne h (by decide) (by decide)) h.2.2.2.1, ?_⟩
  have hP := h.2.2.2.2
  unfold zPC at hP ⊢
  rw [zrs1_ne h (p := 29) (by decide) (by decide), zrs1_ne h (p := 31) (by decide) (by decide), zrs1_ne h (p := 32) (by decide) (by decide), zrs1_ne h (p := 33) (by decide) (by decide), zrs1_ne h (p := 34) (by decide) (by decide), zrs1_ne h (p := 95) (by decide) (by decide)]
  exact hP
/-! .runScript -/
set_option maxRecDepth 100000 in
theorem zk126_0 (w : zW) (K : zK) (h : ((0 ≤ w 1 1 ∧ w 1 1 ≤ 800) ∧ 0 ≤ w 4 0 ∧ w 4 0 ≤ 12) ∧ (if (zkL 800 (zsc0 w)).1 = 0 then K (2, none) (zupd (zkL 800 (zsc0 w)).2 1 1 0) 238 else (zrsP (zkL 800 (zsc0 w)).2 ∧ K (0, some (0, (zrs w).1)) (zrsW w) 238))) : zcall 126 [(2, 0), (9, 0), (9, 0), (9, 0)] w 238 K := by
  obtain ⟨hp, h⟩ := h
  refine (show (((0 ≤ w 1 1 ∧ w 1 1 ≤ 800) ∧ 0 ≤ w 4 0 ∧ w 4 0 ≤ 12) ∧ (if (zkL 800 (zsc0 w)).1 = 0 then K (2, none) (zupd ((zkL 800 (zsc0 w)).2) 1 1 0) 238 else (0 ≤ ((zkL 800 (zsc0 w)).2) 37 1 ∧ ((zkL 800 (zsc0 w)).2) 37 1 < 6) ∧ (((-1 ≤ (0 : Int) ∧ (0 : Int) ≤ 61) ∧ zcfG (zpcp (zupd ((zkL 800 (zsc0 w)).2) 1 1 0) 29 (39 + 6 * (((zkL 800 (zsc0 w)).2) 37 1).toNat))) ∧ (zwp 126 56 [(2, 0), (0, (zkL 800 (zsc0 w)).1), (0, 0), (0, (zcf 6000 (0 : Int) (zpcp (zupd ((zkL 800 (zsc0 w)).2) 1 1 0) 29 (39 + 6 * (((zkL 800 (zsc0 w)).2) 37 1).toNat))).1)] [] (zfill (zpcp (zupd ((zkL 800 (zsc0 w)).2) 1 1 0) 29 (39 + 6 * (((zkL 800 (zsc0 w)).2) 37 1).toNat)) 27 ((zcf 6000 (0 : Int) (zpcp (zupd ((zkL 800 (zsc0 w)).2) 1 1 0) 29 (39 + 6 * (((zkL 800 (zsc0 w)).2) 37 1).toNat))).2 27)) 238 1 K)))) → _ from fun h => show zwp 126 0 [(2, 0), (9, 0), (9, 0), (9, 0)] [] w 238 1 K from zgo_imp zT240_ok (cut := fun pc => Nat.beq pc 11 || Nat.beq pc 28 || Nat.beq pc 45 || Nat.beq pc 55 || Nat.beq pc 56 || Nat.beq pc 69 || Nat.beq pc 72 || Nat.beq pc 88 || Nat.beq pc 103) 400 (show ((0 ≤ w 1 1 ∧ w 1 1 ≤ 800) ∧ 0 ≤ w 4 0 ∧ w 4 0 ≤ 12) ∧ (zwp 126 11 [(2, 0), (9, 0), (9, 0), (9, 0)] [(0, (zkL 800 (zsc0 w)).1)] ((zkL 800 (zsc0 w)).2) 238 1 K) from zmA (fun h => (fun h => show zwp 126 11 [(2, 0), (9, 0), (9, 0), (9, 0)] [(0, (zkL 800 (zsc0 w)).1)] ((zkL 800 (zsc0 w)).2) 238 1 K from zgo_imp zT240_ok (cut := fun pc => Nat.beq pc 11 || Nat.beq pc 28 || Nat.beq pc 45 || Nat.beq pc 55 || Nat.beq pc 56 || Nat.beq pc 69 || Nat.beq pc 72 || Nat.beq pc 88 || Nat.beq pc 103) 400 (show if (zkL 800 (zsc0 w)).1 = 0 then K (2, none) (zupd ((zkL 800 (zsc0 w)).2) 1 1 0) 238 else (0 ≤ ((zkL 800 (zsc0 w)).2) 37 1 ∧ ((zkL 800 (zsc0 w)).2) 37 1 < 6) ∧ (zwp 126 45 [(2, 0), (0, (zkL 800 (zsc0 w)).1), (9, 0), (9, 0)] [] (zpcp (zupd ((zkL 800 (zsc0 w)).2) 1 1 0) 29 (39 + 6 * (((zkL 800 (zsc0 w)).2) 37 1).toNat)) 238 1 K) from zmI (fun h => h) (fun h => zmA (fun h => (fun h => show zwp 126 45 [(2, 0), (0, (zkL 800 (zsc0 w)).1), (9, 0), (9, 0)] [] (zpcp (zupd ((zkL 800 (zsc0 w)).2) 1 1 0) 29 (39 + 6 * (((zkL 800 (zsc0 w)).2) 37 1).toNat)) 238 1 K from zgo_imp zT240_ok (cut := fun pc => Nat.beq pc 11 || Nat.beq pc 28 || Nat.beq pc 45 || Nat.beq pc 55 || Nat.beq pc 56 || Nat.beq pc 69 || Nat.beq pc 72 || Nat.beq pc 88 || Nat.beq pc 103) 400 (show ((-1 ≤ (0 : Int) ∧ (0 : Int) ≤ 61) ∧ zcfG (zpcp (zupd ((zkL 800 (zsc0 w)).2) 1 1 0) 29 (39 + 6 * (((zkL 800 (zsc0 w)).2) 37 1).toNat))) ∧ (zwp 126 55 [(2, 0), (0, (zkL 800 (zsc0 w)).1), (0, 0), (9, 0)] [(0, (zcf 6000 (0 : Int) (zpcp (zupd ((zkL 800 (zsc0 w)).2) 1 1 0) 29 (39 + 6 * (((zkL 800 (zsc0 w)).2) 37 1).toNat))).1)] (zfill (zpcp (zupd ((zkL 800 (zsc0 w)).2) 1 1 0) 29 (39 + 6 * (((zkL 800 (zsc0 w)).2) 37 1).toNat)) 27 ((zcf 6000 (0 : Int) (zpcp (zupd ((zkL 800 (zsc0 w)).2) 1 1 0) 29 (39 + 6 * (((zkL 800 (zsc0 w)).2) 37 1).toNat))).2 27)) 238 1 K) from zmA (fun h => (fun h => show zwp 126 55 [(2, 0), (0, (zkL 800 (zsc0 w)).1), (0, 0), (9, 0)] [(0, (zcf 6000 (0 : Int) (zpcp (zupd ((zkL 800 (zsc0 w)).2) 1 1 0) 29 (39 + 6 * (((zkL 800 (zsc0 w)).2) 37 1).toNat))).1)] (zfill (zpcp (zupd ((zkL 800 (zsc0 w)).2) 1 1 0) 29 (39 + 6 * (((zkL 800 (zsc0 w)).2) 37 1).toNat)) 27 ((zcf 6000 (0 : Int) (zpcp (zupd ((zkL 800 (zsc0 w)).2) 1 1 0) 29 (39 + 6 * (((zkL 800 (zsc0 w)).2) 37 1).toNat))).2 27)) 238 1 K from zgo_imp zT240_ok (cut := fun pc => Nat.beq pc 11 || Nat.beq pc 28 || Nat.beq pc 45 || Nat.beq pc 55 || Nat.beq pc 56 || Nat.beq pc 69 || Nat.beq pc 72 || Nat.beq pc 88 || Nat.beq pc 103) 400 (show zwp 126 56 [(2, 0), (0, (zkL 800 (zsc0 w)).1), (0, 0), (0, (zcf 6000 (0 : Int) (zpcp (zupd ((zkL 800 (zsc0 w)).2) 1 1 0) 29 (39 + 6 * (((zkL 800 (zsc0 w)).2) 37 1).toNat))).1)] [] (zfill (zpcp (zupd ((zkL 800 (zsc0 w)).2) 1 1 0) 29 (39 + 6 * (((zkL 800 (zsc0 w)).2) 37 1).toNat)) 27 ((zcf 6000 (0 : Int) (zpcp (zupd ((zkL 800 (zsc0 w)).2) 1 1 0) 29 (39 + 6 * (((zkL 800 (zsc0 w)).2) 37 1).toNat))).2 27)) 238 1 K from h)) h) h)) h) h) h)) h) h)) ?_
  refine ⟨hp, ?_⟩
  by_cases g : (zkL 800 (zsc0 w)).1 = 0
  · rw [if_pos g] at h
    exact ziT g h
  · rw [if_neg g] at h
    obtain ⟨hS, h⟩ := h
    have S1 := zrs1_P hS
    refine ziF g ⟨hS.1.1, ⟨by decide, S1.2.1.g⟩, ?_⟩
    show zwp 126 56 [(2, 0), (0, (zkL 800 (zsc0 w)).1), (0, 0), (0, (zcf 6000 0 (zrs1 w)).1)] [] (zfill (zrs1 w) 27 ((zcf 6000 0 (zrs1 w)).2 27)) 238 1 K
    rw [zcf_fill]
    have ne : ∀ p, p ≠ 27 → (zcf 6000 0 (zrs1 w)).2 p = zrs1 w p := fun p hp => zcf_ne hp _ _ _
    refine zk126_L56 20 0 (zcf 6000 0 (zrs1 w)).1 (zcf 6000 0 (zrs1 w)).2 _ (by decide) (by decide) ?_ ?_ ?_ ?_ h
    · rw [ne 37 (by decide)]; exact S1.1
    · exact zsG_fr (fun p hp => ne p (by omega)) S1.2.1
    · exact ⟨zNt_fr (fun p hp => ne p (by omega)) S1.2.2.1, zRd_fr (ne 95 (by decide)) (ne 30 (by decide)) S1.2.2.2.1, zPC_fr (fun p hp => ne p (by omega)) S1.2.2.2.2⟩
    · have s := zcf_spec 6000 0 (zrs1 w) S1.2.1
      rw [ne 23 (by decide), ne 24 (by decide)]
      exact s
noncomputable def zb126 (l0 : List zV) (w : zW) (K : zK) : Prop := cond (zis0 (zar l0 0)) (((0 ≤ w 1 1 ∧ w 1 1 ≤ 800) ∧ 0 ≤ w 4 0 ∧ w 4 0 ≤ 12) ∧ (if (zkL 800 (zsc0 w)).1 = 0 then K (2, none) (zupd (zkL 800 (zsc0 w)).2 1 1 0) 238 else (zrsP (zkL 800 (zsc0 w)).2 ∧ K (0, some (0, (zrs w).1)) (zrsW w) 238))) (False)
noncomputable def zT241 : zSum := zsm1 126 [2, 9, 9, 9] zb126 zT240
theorem zT241_ok : zSok zT241 := zsm1_ok zT240_ok fun l0 w K h => by
  unfold zb126 at h
  cases q0 : zis0 (zar l0 0) with
  | true =>
    rw [q0, cond_true] at h
    have e : zar l0 0 = 0 := zis0_e q0
    show zcall 126 [(2, zar l0 0), (9, 0), (9, 0), (9, 0)] w 238 K
    rw [e]
    exact zk126_0  w K h
  | false =>
  rw [q0, cond_false] at h
  exact h.elim

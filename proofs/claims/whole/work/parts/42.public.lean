/-! ===== public methods with loops: sums, sweeps, slack (written by wip/whole/gen_c.py) ===== -/
theorem zpcp_ne {w : zW} {p q a : Nat} (h : a < q ∨ q + 6 ≤ a) : zpcp w p q a = w a := by
  unfold zpcp
  rw [zune (by omega), zcopy_ne (by omega), zcopy_ne (by omega), zcopy_ne (by omega), zcopy_ne (by omega), zcopy_ne (by omega)]
/-- a packing's places behind the copying -/
theorem zpcp_at {w : zW} {p q t : Nat} (h : p + 6 ≤ q ∨ q + 6 ≤ p) (h1 : 1 ≤ t) (h2 : t ≤ 5) (i : Nat) (hi : i < 12) : zpcp w p q (q + t) i = w (p + t) i := by
  unfold zpcp
  rw [zune (by omega)]
  rcases (show t = 1 ∨ t = 2 ∨ t = 3 ∨ t = 4 ∨ t = 5 by omega) with e | e | e | e | e <;> subst e
  · rw [zcopy_ne (by omega), zcopy_ne (by omega), zcopy_ne (by omega), zcopy_ne (by omega), zcopy_at]; exact if_pos hi
  · rw [zcopy_ne (by omega), zcopy_ne (by omega), zcopy_ne (by omega), zcopy_at]
    show (if i < 12 then _ else _) = _
    rw [if_pos hi, zcopy_ne (by omega)]
  · rw [zcopy_ne (by omega), zcopy_ne (by omega), zcopy_at]
    show (if i < 12 then _ else _) = _
    rw [if_pos hi, zcopy_ne (by omega), zcopy_ne (by omega)]
  · rw [zcopy_ne (by omega), zcopy_at]
    show (if i < 12 then _ else _) = _
    rw [if_pos hi, zcopy_ne (by omega), zcopy_ne (by omega), zcopy_ne (by omega)]
  · rw [zcopy_at]
    show (if i < 12 then _ else _) = _
    rw [if_pos hi, zcopy_ne (by omega), zcopy_ne (by omega), zcopy_ne (by omega), zcopy_ne (by omega)]
theorem zpcp_puts {w : zW} {p q : Nat} : zpcp w p q q 5 = w p 5 := by
  unfold zpcp
  rw [zuat, if_pos rfl]
theorem zpcp_own {w : zW} {p q i : Nat} (hi : i ≠ 5) : zpcp w p q q i = w q i := by
  unfold zpcp
  rw [zuat, if_neg hi, zcopy_ne (by omega), zcopy_ne (by omega), zcopy_ne (by omega), zcopy_ne (by omega), zcopy_ne (by omega)]
/-- note() and keep() -/
def zkC (w : zW) : zW := zkpc (zpcp w 29 (39 + 6 * (w 37 1).toNat))
def zHr (w : zW) : Prop := (0 ≤ w 37 1 ∧ w 37 1 < 6) ∧ 0 ≤ w 37 2 ∧ w 37 2 ≤ 5
theorem zkpc_ne {w : zW} {a : Nat} (h : a ≠ 37) : zkpc w a = w a := by unfold zkpc; rw [zune h, zune h]
theorem zkC_ne {w : zW} (hH : zHr w) {a : Nat} (h : a < 37 ∨ 75 ≤ a) : zkC w a = w a := by
  have := hH.1
  unfold zkC
  rw [zkpc_ne (by omega), zpcp_ne (by omega)]
theorem zkC_nt {w : zW} (hH : zHr w) (h : zNt w) : zNt (zkC w) := zNt_fr (fun p hp => zkC_ne hH (by omega)) h
theorem zRd_fr {w w' : zW} {q : Nat} (e1 : w' 95 = w 95) (e2 : w' q = w q) (h : zRd q w) : zRd q w' := by unfold zRd; rw [e1, e2]; exact h
theorem zkC_rd {w : zW} (hH : zHr w) (h : zRd 30 w) : zRd 30 (zkC w) := zRd_fr (zkC_ne hH (by omega)) (zkC_ne hH (by omega)) h
theorem zkeepI {w : zW} {X : Prop} (hH : zHr w) (h : X) : (0 ≤ w 37 1 ∧ w 37 1 < 6) ∧ (((0 ≤ (zpcp w 29 (39 + 6 * (w 37 1).toNat)) 37 1 ∧ (zpcp w 29 (39 + 6 * (w 37 1).toNat)) 37 1 < 6) ∧ 0 ≤ (zpcp w 29 (39 + 6 * (w 37 1).toNat)) 37 2 ∧ (zpcp w 29 (39 + 6 * (w 37 1).toNat)) 37 2 ≤ 5) ∧ X) := by
  rw [zpcp_ne (a := 37) (by omega)]
  exact ⟨hH.1, hH, h⟩
theorem zkpm_ne {w : zW} {a : Nat} (h1 : a ≠ 93) (h2 : a ≠ 108) : zkpm w a = w a := by
  have f1 : ∀ (u : zW) (x : Nat), zly u 108 x a = u a := fun u x => by funext i; unfold zly zfill; rw [if_neg h2]
  have f2 : ∀ (u : zW) (x : Nat), zshf u x a = u a := fun u x => by funext i; unfold zshf zfill; rw [if_neg h2]
  unfold zkpm
  split
  · rw [zune h1, f1, f2, zune h1]
  · rw [zune h1, f1]
theorem zkpm_nt {w : zW} (h : zNt w) : zNt (zkpm w) := zNt_fr (fun p hp => zkpm_ne (by omega) (by omega)) h
theorem zkpm_rd {w : zW} (h : zRd 98 w) : zRd 98 (zkpm w) := zRd_fr (zkpm_ne (by omega) (by omega)) (zkpm_ne (by omega) (by omega)) h
noncomputable def zWr (w : zW) (q : Nat) : Nat → Int → Int → Int → Int
  | 0, _, b, _ => b
  | m + 1, i, b, g => if 0 < w 97 i.toNat ∧ g < zab (zDf w q i) then zWr w q m (i + 1) i (zab (zDf w q i)) else zWr w q m (i + 1) b g
/-- settling: how many sweeps, and the world behind them -/
noncomputable def zStl (q : Nat) : Nat → Int → zW → Int × zW
  | 0, k, w => (k, zSwp q w)
  | m + 1, k, w => if zSwn q w = 0 then (k, zSwp q w) else zStl q m (k + 1) (zSwp q w)
theorem zSwL_nn (q : Nat) : ∀ (m : Nat) (i : Int) (w : zW), 0 ≤ (zSwL q m i w).2
  | 0, _, _ => Int.le_refl 0
  | m + 1, i, w => by
    have e : zSwL q (m + 1) i w = if zSR w q i = -1 ∨ zSR w q i = w q i.toNat then zSwL q m (i + 1) w else
      ((zSwL q m (i + 1) (zupd w q i.toNat (zSR w q i))).1, 1 + (zSwL q m (i + 1) (zupd w q i.toNat (zSR w q i))).2) := rfl
    rw [e]
    split
    · exact zSwL_nn q m (i + 1) w
    · have := zSwL_nn q m (i + 1) (zupd w q i.toNat (zSR w q i))
      show 0 ≤ 1 + _
      omega
theorem zSwn_nn (q : Nat) (w : zW) : 0 ≤ zSwn q w := zSwL_nn q _ _ w
/-- a circle that a sweep would change -/
abbrev zUs (w : zW) (q : Nat) (c : Int) : Prop := zSb w c ∧ zSR w q c ≠ w q c.toNat
/-- the greatest slack by which all are certain; -1 -/
def zGsP (w : zW) (q : Nat) (b s : Int) : Prop := -1 ≤ s ∧ s ≤ 1000 ∧ (s = -1 ∨ zUc w q s b = -1) ∧ ∀ u, s < u → 0 ≤ u → u ≤ 1000 → zUc w q u b ≠ -1
noncomputable def zGs (w : zW) (q : Nat) (b : Int) : Int := Classical.epsilon (zGsP w q b)
theorem zGs_eq {w : zW} {q : Nat} {b s : Int} (h : zGsP w q b s) : zGs w q b = s := by
  have h2 : zGsP w q b (zGs w q b) := Classical.epsilon_spec ⟨s, h⟩
  obtain ⟨a1, a2, a3, a4⟩ := h
  obtain ⟨b1, b2, b3, b4⟩ := h2
  rcases Int.lt_trichotomy (zGs w q b) s with g | g | g
  · have := b4 s g (by omega) a2
    omega
  · exact g
  · have := a4 _ g (by omega) b2
    omega
theorem zUc_none {w : zW} {q : Nat} {s b : Int} : zUc w q s b = -1 ↔ ∀ c : Int, 0 ≤ c → c < (w 95 0).toNat → 0 < w 97 c.toNat → zWi w q c s b := by
  unfold zUc
  rw [zFi_none (by omega)]
  refine ⟨fun h c c0 c1 hf => ?_, fun h c c0 c1 hc => hc.2 (h c c0 (by omega) hc.1)⟩
  by_cases g : zWi w q c s b
  · exact g
  · exact (h c c0 (by omega) ⟨hf, g⟩).elim
/-- more slack, less certain -/
theorem zUc_mono {w : zW} {q : Nat} {s s' b : Int} (hr : zRd q w) (hs : 0 ≤ s) (h : s ≤ s') (hc : zUc w q s' b = -1) : zUc w q s b = -1 := by
  rw [zUc_none] at hc ⊢
  intro c c0 c1 hf
  have h1 := hr c c0 (by omega)
  obtain ⟨g1, g2⟩ := hc c c0 c1 hf
  have m1 : zLo w q c s' ≤ zLo w q c s := zH_mono (by omega) (by omega) (by omega)
  have m2 : zHi w q c s ≤ zHi w q c s' := zH_mono (by omega) (by omega) (by omega)
  exact ⟨by omega, by omega⟩
noncomputable def zT88 : zSum := zin1 89 400 zT87
theorem zT88_ok : zSok zT88 := zin1_ok zT87_ok
noncomputable def zT89 : zSum := zin1 183 400 zT88
theorem zT89_ok : zSok zT89 := zin1_ok zT88_ok
set_option maxRecDepth 100000 in
theorem zk145_L9 {w : zW} {K : zK} (hN : zNt w) (hr : zRd 30 w)  : ∀ (m : Nat) (i b g : Int) (d3 : zV), (0 ≤ i) → (i + m = w 95 0) → (K (0, some (0, zWr w 30 m i b g)) w 238) → zwp 145 9 [(2, 0), (0, b), (1, g), d3, (0, i)] [] w 238 0 K := by
  
  intro m
  induction m with
  | zero =>
    intro i b g d3 h1 h2 h
    refine (show (if i < w 4 0 then zif False (0 ≤ i ∧ i < 12) (if ((if 0 < w 6 i.toNat then 1 else 0) : Int) = 0 then zwp 145 9 [(2, 0), (0, b), (1, g), (9, 0), (0, z32 (i + 1))] [] w 238 0 K else (zNt w ∧ zRd 30 w ∧ 0 ≤ i ∧ i < w 95 0) ∧ (if g < z64 (max (zDf w 30 i) (-(zDf w 30 i))) then (zNt w ∧ zRd 30 w ∧ 0 ≤ i ∧ i < w 95 0) ∧ (zwp 145 9 [(2, 0), (0, i), (1, z64 (max (zDf w 30 i) (-(zDf w 30 i)))), (9, 0), (0, z32 (i + 1))] [] w 238 0 K) else zwp 145 9 [(2, 0), (0, b), (1, g), (9, 0), (0, z32 (i + 1))] [] w 238 0 K)) else K (0, some (0, b)) w 238) → _ from fun h => show zwp 145 9 [(2, 0), (0, b), (1, g), d3, (0, i)] [] w 238 0 K from zgo_imp zT89_ok (cut := fun pc => Nat.beq pc 9 || Nat.beq pc 15 || Nat.beq pc 30 || Nat.beq pc 42 || Nat.beq pc 59) 400 (show zwp 145 15 [(2, 0), (0, b), (1, g), (9, 0), (0, i)] [(2, 4), (0, i)] w 238 0 K from (fun h => show zwp 145 15 [(2, 0), (0, b), (1, g), (9, 0), (0, i)] [(2, 4), (0, i)] w 238 0 K from zgo_imp zT89_ok (cut := fun pc => Nat.beq pc 9 || Nat.beq pc 15 || Nat.beq pc 30 || Nat.beq pc 42 || Nat.beq pc 59) 400 (show if i < w 4 0 then zif False (0 ≤ i ∧ i < 12) (zwp 145 30 [(2, 0), (0, b), (1, g), (9, 0), (0, i)] [(0, ((if 0 < w 6 i.toNat then 1 else 0) : Int))] w 238 0 K) else K (0, some (0, b)) w 238 from zmI (fun h => zmZ (fun h => (fun h => show zwp 145 30 [(2, 0), (0, b), (1, g), (9, 0), (0, i)] [(0, ((if 0 < w 6 i.toNat then 1 else 0) : Int))] w 238 0 K from zgo_imp zT89_ok (cut := fun pc => Nat.beq pc 9 || Nat.beq pc 15 || Nat.beq pc 30 || Nat.beq pc 42 || Nat.beq pc 59) 400 (show if ((if 0 < w 6 i.toNat then 1 else 0) : Int) = 0 then zwp 145 9 [(2, 0), (0, b), (1, g), (9, 0), (0, z32 (i + 1))] [] w 238 0 K else (zNt w ∧ zRd 30 w ∧ 0 ≤ i ∧ i < w 95 0) ∧ (zwp 145 42 [(2, 0), (0, b), (1, g), (9, 0), (0, i)] [(1, zDf w 30 i)] w 238 0 K) from zmI (fun h => h) (fun h => zmA (fun h => (fun h => show zwp 145 42 [(2, 0), (0, b), (1, g), (9, 0), (0, i)] [(1, zDf w 30 i)] w 238 0 K from zgo_imp zT89_ok (cut := fun pc => Nat.beq pc 9 || Nat.beq pc 15 || Nat.beq pc 30 || Nat.beq pc 42 || Nat.beq pc 59) 400 (show if g < z64 (max (zDf w 30 i) (-(zDf w 30 i))) then (zNt w ∧ zRd 30 w ∧ 0 ≤ i ∧ i < w 95 0) ∧ (zwp 145 59 [(2, 0), (0, b), (1, g), (9, 0), (0, i)] [(1, zDf w 30 i)] w 238 0 K) else zwp 145 9 [(2, 0), (0, b), (1, g), (9, 0), (0, z32 (i + 1))] [] w 238 0 K from zmI (fun h => zmA (fun h => (fun h => show zwp 145 59 [(2, 0), (0, b), (1, g), (9, 0), (0, i)] [(1, zDf w 30 i)] w 238 0 K from zgo_imp zT89_ok (cut := fun pc => Nat.beq pc 9 || Nat.beq pc 15 || Nat.beq pc 30 || Nat.beq pc 42 || Nat.beq pc 59) 400 (show zwp 145 9 [(2, 0), (0, i), (1, z64 (max (zDf w 30 i) (-(zDf w 30 i)))), (9, 0), (0, z32 (i + 1))] [] w 238 0 K from h)) h) h) (fun h => h) h)) h) h) h)) h) h) (fun h => h) h)) h)) ?_
    have hn := hN.n
    exact ziF (by omega) h
  | succ m ih =>
    intro i b g d3 h1 h2 h
    refine (show (if i < w 4 0 then zif False (0 ≤ i ∧ i < 12) (if ((if 0 < w 6 i.toNat then 1 else 0) : Int) = 0 then zwp 145 9 [(2, 0), (0, b), (1, g), (9, 0), (0, z32 (i + 1))] [] w 238 0 K else (zNt w ∧ zRd 30 w ∧ 0 ≤ i ∧ i < w 95 0) ∧ (if g < z64 (max (zDf w 30 i) (-(zDf w 30 i))) then (zNt w ∧ zRd 30 w ∧ 0 ≤ i ∧ i < w 95 0) ∧ (zwp 145 9 [(2, 0), (0, i), (1, z64 (max (zDf w 30 i) (-(zDf w 30 i)))), (9, 0), (0, z32 (i + 1))] [] w 238 0 K) else zwp 145 9 [(2, 0), (0, b), (1, g), (9, 0), (0, z32 (i + 1))] [] w 238 0 K)) else K (0, some (0, b)) w 238) → _ from fun h => show zwp 145 9 [(2, 0), (0, b), (1, g), d3, (0, i)] [] w 238 0 K from zgo_imp zT89_ok (cut := fun pc => Nat.beq pc 9 || Nat.beq pc 15 || Nat.beq pc 30 || Nat.beq pc 42 || Nat.beq pc 59) 400 (show zwp 145 15 [(2, 0), (0, b), (1, g), (9, 0), (0, i)] [(2, 4), (0, i)] w 238 0 K from (fun h => show zwp 145 15 [(2, 0), (0, b), (1, g), (9, 0), (0, i)] [(2, 4), (0, i)] w 238 0 K from zgo_imp zT89_ok (cut := fun pc => Nat.beq pc 9 || Nat.beq pc 15 || Nat.beq pc 30 || Nat.beq pc 42 || Nat.beq pc 59) 400 (show if i < w 4 0 then zif False (0 ≤ i ∧ i < 12) (zwp 145 30 [(2, 0), (0, b), (1, g), (9, 0), (0, i)] [(0, ((if 0 < w 6 i.toNat then 1 else 0) : Int))] w 238 0 K) else K (0, some (0, b)) w 238 from zmI (fun h => zmZ (fun h => (fun h => show zwp 145 30 [(2, 0), (0, b), (1, g), (9, 0), (0, i)] [(0, ((if 0 < w 6 i.toNat then 1 else 0) : Int))] w 238 0 K from zgo_imp zT89_ok (cut := fun pc => Nat.beq pc 9 || Nat.beq pc 15 || Nat.beq pc 30 || Nat.beq pc 42 || Nat.beq pc 59) 400 (show if ((if 0 < w 6 i.toNat then 1 else 0) : Int) = 0 then zwp 145 9 [(2, 0), (0, b), (1, g), (9, 0), (0, z32 (i + 1))] [] w 238 0 K else (zNt w ∧ zRd 30 w ∧ 0 ≤ i ∧ i < w 95 0) ∧ (zwp 145 42 [(2, 0), (0, b), (1, g), (9, 0), (0, i)] [(1, zDf w 30 i)] w 238 0 K) from zmI (fun h => h) (fun h => zmA (fun h => (fun h => show zwp 145 42 [(2, 0), (0, b), (1, g), (9, 0), (0, i)] [(1, zDf w 30 i)] w 238 0 K from zgo_imp zT89_ok (cut := fun pc => Nat.beq pc 9 || Nat.beq pc 15 || Nat.beq pc 30 || Nat.beq pc 42 || Nat.beq pc 59) 400 (show if g < z64 (max (zDf w 30 i) (-(zDf w 30 i))) then (zNt w ∧ zRd 30 w ∧ 0 ≤ i ∧ i < w 95 0) ∧ (zwp 145 59 [(2, 0), (0, b), (1, g), (9, 0), (0, i)] [(1, zDf w 30 i)] w 238 0 K) else zwp 145 9 [(2, 0), (0, b), (1, g), (9, 0), (0, z32 (i + 1))] [] w 238 0 K from zmI (fun h => zmA (fun h => (fun h => show zwp 145 59 [(2, 0), (0, b), (1, g), (9, 0), (0, i)] [(1, zDf w 30 i)] w 238 0 K from zgo_imp zT89_ok (cut := fun pc => Nat.beq pc 9 || Nat.beq pc 15 || Nat.beq pc 30 || Nat.beq pc 42 || Nat.beq pc 59) 400 (show zwp 145 9 [(2, 0), (0, i), (1, z64 (max (zDf w 30 i) (-(zDf w 30 i)))), (9, 0), (0, z32 (i + 1))] [] w 238 0 K from h)) h) h) (fun h => h) h)) h) h) h)) h) h) (fun h => h) h)) h)) ?_
    have hn := hN.n
    have hd := (hN.deg h1 (by omega)).1
    refine ziT (by omega) (zifI (by omega) ?_)
    rw [z32_id (x := i + 1) ⟨by omega, by omega⟩]
    have e : zWr w 30 (m + 1) i b g = if 0 < w 97 i.toNat ∧ g < zab (zDf w 30 i) then zWr w 30 m (i + 1) i (zab (zDf w 30 i)) else zWr w 30 m (i + 1) b g := rfl
    by_cases hp : 0 < w 97 i.toNat
    · refine ziF (by omega) ⟨⟨hN, hr, by omega⟩, ?_⟩
      have hz := zDf_rg hN hr h1 (by omega)
      have ea : z64 (max (zDf w 30 i) (-zDf w 30 i)) = zab (zDf w 30 i) := z64_id ⟨by omega, by omega⟩
      rw [ea]
      by_cases q : g < zab (zDf w 30 i)
      · rw [e.trans (if_pos ⟨hp, q⟩)] at h
        exact ziT q ⟨⟨hN, hr, by omega⟩, ih _ _ _ _ (by omega) (by omega) h⟩
      · rw [e.trans (if_neg fun q2 => q q2.2)] at h
        exact ziF q (ih _ _ _ _ (by omega) (by omega) h)
    · rw [e.trans (if_neg fun q2 => hp q2.1)] at h
      exact ziT (by omega) (ih _ _ _ _ (by omega) (by omega) h)
/-! .worst -/
set_option maxRecDepth 100000 in
theorem zk145_0 (w : zW) (K : zK) (h : (zNt w ∧ zRd 30 w) ∧ (K (0, some (0, zWr w 30 (w 95 0).toNat 0 (-1) (-1))) (w) 238)) : zcall 145 [(2, 0), (9, 0), (9, 0), (9, 0), (9, 0)] w 238 K := by
  obtain ⟨hg, h⟩ := h
  refine (show (zwp 145 9 [(2, 0), (0, (-1)), (1, (-1)), (9, 0), (0, 0)] [] w 238 0 K) → _ from fun h => show zwp 145 0 [(2, 0), (9, 0), (9, 0), (9, 0), (9, 0)] [] w 238 0 K from zgo_imp zT89_ok (cut := fun pc => Nat.beq pc 9 || Nat.beq pc 15 || Nat.beq pc 30 || Nat.beq pc 42 || Nat.beq pc 59) 400 (show zwp 145 9 [(2, 0), (0, (-1)), (1, (-1)), (9, 0), (0, 0)] [] w 238 0 K from h)) ?_
  have hn := hg.1.n
  exact zk145_L9 hg.1 hg.2 (w 95 0).toNat 0 (-1) (-1) _ (by omega) (by omega) h
noncomputable def zb145 (l0 : List zV) (w : zW) (K : zK) : Prop := cond (zis0 (zar l0 0)) ((zNt w ∧ zRd 30 w) ∧ (K (0, some (0, zWr w 30 (w 95 0).toNat 0 (-1) (-1))) (w) 238)) (False)
noncomputable def zT90 : zSum := zsm1 145 [2, 9, 9, 9, 9] zb145 zT89
theorem zT90_ok : zSok zT90 := zsm1_ok zT89_ok fun l0 w K h => by
  unfold zb145 at h
  cases q0 : zis0 (zar l0 0) with
  | true =>
    rw [q0, cond_true] at h
    have e : zar l0 0 = 0 := zis0_e q0
    show zcall 145 [(2, zar l0 0), (9, 0), (9, 0), (9, 0), (9, 0)] w 238 K
    rw [e]
    exact zk145_0  w K h
  | false =>
  rw [q0, cond_false] at h
  exact h.elim
set_option maxRecDepth 100000 in
theorem zk147_L4 {w : zW} {K : zK} (hN : zNt w) (hr : zRd 30 w)  : ∀ (m : Nat) (i s : Int) (d2 : zV), (0 ≤ i) → (i + m = w 95 0) → (0 ≤ s) → (s ≤ i * 1536000000000) → (K (0, some (1, s + zSm (fun c => zHq w 30 c (w 30 c.toNat) 0) m i - 3141592653 * w 96 0)) w 238) → zwp 147 4 [(2, 0), (1, s), d2, (0, i)] [] w 238 0 K := by
  
  intro m
  induction m with
  | zero =>
    intro i s d2 h1 h2 h3 h4 h
    refine (show (if i < w 4 0 then zif False (0 ≤ i ∧ i < 12) ((zNt w ∧ zRd 30 w ∧ (0 ≤ i ∧ i < w 95 0) ∧ (1 ≤ (w 30 i.toNat) ∧ (w 30 i.toNat) ≤ 1001000) ∧ -1000 ≤ (0 : Int) ∧ (0 : Int) ≤ 1000) ∧ (zwp 147 4 [(2, 0), (1, z64 (s + (zH (zF0 w) (w 95 0) (fun a => w 30 a.toNat) i (w 30 i.toNat) (0 : Int)))), (9, 0), (0, z32 (i + 1))] [] w 238 0 K)) else K (0, some (1, z64 (s - (z64 (3141592653 * (w 4 1)))))) w 238) → _ from fun h => show zwp 147 4 [(2, 0), (1, s), d2, (0, i)] [] w 238 0 K from zgo_imp zT90_ok (cut := fun pc => Nat.beq pc 4 || Nat.beq pc 15 || Nat.beq pc 24 || Nat.beq pc 43) 400 (show if i < w 4 0 then zwp 147 15 [(2, 0), (1, s), (9, 0), (0, i)] [] w 238 0 K else zwp 147 43 [(2, 0), (1, s), (9, 0), (0, i)] [(0, w 4 1), (1, 3141592653), (1, s)] w 238 0 K from zmI (fun h => (fun h => show zwp 147 15 [(2, 0), (1, s), (9, 0), (0, i)] [] w 238 0 K from zgo_imp zT90_ok (cut := fun pc => Nat.beq pc 4 || Nat.beq pc 15 || Nat.beq pc 24 || Nat.beq pc 43) 400 (show zif False (0 ≤ i ∧ i < 12) ((zNt w ∧ zRd 30 w ∧ (0 ≤ i ∧ i < w 95 0) ∧ (1 ≤ (w 30 i.toNat) ∧ (w 30 i.toNat) ≤ 1001000) ∧ -1000 ≤ (0 : Int) ∧ (0 : Int) ≤ 1000) ∧ (zwp 147 24 [(2, 0), (1, s), (9, 0), (0, i)] [(1, zH (zF0 w) (w 95 0) (fun a => w 30 a.toNat) i (w 30 i.toNat) (0 : Int)), (1, s)] w 238 0 K)) from zmZ (fun h => zmA (fun h => (fun h => show zwp 147 24 [(2, 0), (1, s), (9, 0), (0, i)] [(1, zH (zF0 w) (w 95 0) (fun a => w 30 a.toNat) i (w 30 i.toNat) (0 : Int)), (1, s)] w 238 0 K from zgo_imp zT90_ok (cut := fun pc => Nat.beq pc 4 || Nat.beq pc 15 || Nat.beq pc 24 || Nat.beq pc 43) 400 (show zwp 147 4 [(2, 0), (1, z64 (s + (zH (zF0 w) (w 95 0) (fun a => w 30 a.toNat) i (w 30 i.toNat) (0 : Int)))), (9, 0), (0, z32 (i + 1))] [] w 238 0 K from h)) h) h) h)) h) (fun h => (fun h => show zwp 147 43 [(2, 0), (1, s), (9, 0), (0, i)] [(0, w 4 1), (1, 3141592653), (1, s)] w 238 0 K from zgo_imp zT90_ok (cut := fun pc => Nat.beq pc 4 || Nat.beq pc 15 || Nat.beq pc 24 || Nat.beq pc 43) 400 (show K (0, some (1, z64 (s - (z64 (3141592653 * (w 4 1)))))) w 238 from h)) h) h)) ?_
    have hn := hN.n
    refine ziF (by omega) ?_
    rw [hn.2.2.2.1, z64_id (x := 3141592653 * w 96 0) ⟨by omega, by omega⟩, z64_id (x := s - 3141592653 * w 96 0) ⟨by omega, by omega⟩]
    exact zKe h (by show s + 0 - _ = _; omega)
  | succ m ih =>
    intro i s d2 h1 h2 h3 h4 h
    refine (show (if i < w 4 0 then zif False (0 ≤ i ∧ i < 12) ((zNt w ∧ zRd 30 w ∧ (0 ≤ i ∧ i < w 95 0) ∧ (1 ≤ (w 30 i.toNat) ∧ (w 30 i.toNat) ≤ 1001000) ∧ -1000 ≤ (0 : Int) ∧ (0 : Int) ≤ 1000) ∧ (zwp 147 4 [(2, 0), (1, z64 (s + (zH (zF0 w) (w 95 0) (fun a => w 30 a.toNat) i (w 30 i.toNat) (0 : Int)))), (9, 0), (0, z32 (i + 1))] [] w 238 0 K)) else K (0, some (1, z64 (s - (z64 (3141592653 * (w 4 1)))))) w 238) → _ from fun h => show zwp 147 4 [(2, 0), (1, s), d2, (0, i)] [] w 238 0 K from zgo_imp zT90_ok (cut := fun pc => Nat.beq pc 4 || Nat.beq pc 15 || Nat.beq pc 24 || Nat.beq pc 43) 400 (show if i < w 4 0 then zwp 147 15 [(2, 0), (1, s), (9, 0), (0, i)] [] w 238 0 K else zwp 147 43 [(2, 0), (1, s), (9, 0), (0, i)] [(0, w 4 1), (1, 3141592653), (1, s)] w 238 0 K from zmI (fun h => (fun h => show zwp 147 15 [(2, 0), (1, s), (9, 0), (0, i)] [] w 238 0 K from zgo_imp zT90_ok (cut := fun pc => Nat.beq pc 4 || Nat.beq pc 15 || Nat.beq pc 24 || Nat.beq pc 43) 400 (show zif False (0 ≤ i ∧ i < 12) ((zNt w ∧ zRd 30 w ∧ (0 ≤ i ∧ i < w 95 0) ∧ (1 ≤ (w 30 i.toNat) ∧ (w 30 i.toNat) ≤ 1001000) ∧ -1000 ≤ (0 : Int) ∧ (0 : Int) ≤ 1000) ∧ (zwp 147 24 [(2, 0), (1, s), (9, 0), (0, i)] [(1, zH (zF0 w) (w 95 0) (fun a => w 30 a.toNat) i (w 30 i.toNat) (0 : Int)), (1, s)] w 238 0 K)) from zmZ (fun h => zmA (fun h => (fun h => show zwp 147 24 [(2, 0), (1, s), (9, 0), (0, i)] [(1, zH (zF0 w) (w 95 0) (fun a => w 30 a.toNat) i (w 30 i.toNat) (0 : Int)), (1, s)] w 238 0 K from zgo_imp zT90_ok (cut := fun pc => Nat.beq pc 4 || Nat.beq pc 15 || Nat.beq pc 24 || Nat.beq pc 43) 400 (show zwp 147 4 [(2, 0), (1, z64 (s + (zH (zF0 w) (w 95 0) (fun a => w 30 a.toNat) i (w 30 i.toNat) (0 : Int)))), (9, 0), (0, z32 (i + 1))] [] w 238 0 K from h)) h) h) h)) h) (fun h => (fun h => show zwp 147 43 [(2, 0), (1, s), (9, 0), (0, i)] [(0, w 4 1), (1, 3141592653), (1, s)] w 238 0 K from zgo_imp zT90_ok (cut := fun pc => Nat.beq pc 4 || Nat.beq pc 15 || Nat.beq pc 24 || Nat.beq pc 43) 400 (show K (0, some (1, z64 (s - (z64 (3141592653 * (w 4 1)))))) w 238 from h)) h) h)) ?_
    have hn := hN.n
    have h5 := hr i h1 (by omega)
    have hz := zHq_rg (own := w 30 i.toNat) (ch := 0) hN hr h1 (by omega) (by omega) (by omega)
    refine ziT (by omega) (zifI (by omega) ⟨⟨hN, hr, by omega, by omega, by omega⟩, ?_⟩)
    have e : z64 (s + zH (zF0 w) (w 95 0) (fun a => w 30 a.toNat) i (w 30 i.toNat) 0) = s + zHq w 30 i (w 30 i.toNat) 0 := z64_id ⟨by unfold zHq at hz; omega, by unfold zHq at hz; omega⟩
    rw [e, z32_id (x := i + 1) ⟨by omega, by omega⟩]
    refine ih _ _ _ (by omega) (by omega) (by omega) (by omega) (zKe h ?_)
    show s + (zHq w 30 i (w 30 i.toNat) 0 + _) - _ = _
    omega
/-! .closure -/
set_option maxRecDepth 100000 in
theorem zk147_0 (w : zW) (K : zK) (h : (zNt w ∧ zRd 30 w) ∧ (K (0, some (1, zSm (fun c => zHq w 30 c (w 30 c.toNat) 0) (w 95 0).toNat 0 - 3141592653 * w 96 0)) (w) 238)) : zcall 147 [(2, 0), (9, 0), (9, 0), (9, 0)] w 238 K := by
  obtain ⟨hg, h⟩ := h
  refine (show (zwp 147 4 [(2, 0), (1, 0), (9, 0), (0, 0)] [] w 238 0 K) → _ from fun h => show zwp 147 0 [(2, 0), (9, 0), (9, 0), (9, 0)] [] w 238 0 K from zgo_imp zT90_ok (cut := fun pc => Nat.beq pc 4 || Nat.beq pc 15 || Nat.beq pc 24 || Nat.beq pc 43) 400 (show zwp 147 4 [(2, 0), (1, 0), (9, 0), (0, 0)] [] w 238 0 K from h)) ?_
  have hn := hg.1.n
  exact zk147_L4 hg.1 hg.2 (w 95 0).toNat 0 0 _ (by omega) (by omega) (by omega) (by omega) (zKe h (by omega))
noncomputable def zb147 (l0 : List zV) (w : zW) (K : zK) : Prop := cond (zis0 (zar l0 0)) ((zNt w ∧ zRd 30 w) ∧ (K (0, some (1, zSm (fun c => zHq w 30 c (w 30 c.toNat) 0) (w 95 0).toNat 0 - 3141592653 * w 96 0)) (w) 238)) (False)
noncomputable def zT91 : zSum := zsm1 147 [2, 9, 9, 9] zb147 zT90
theorem zT91_ok : zSok zT91 := zsm1_ok zT90_ok fun l0 w K h => by
  unfold zb147 at h
  cases q0 : zis0 (zar l0 0) with
  | true =>
    rw [q0, cond_true] at h
    have e : zar l0 0 = 0 := zis0_e q0
    show zcall 147 [(2, zar l0 0), (9, 0), (9, 0), (9, 0)] w 238 K
    rw [e]
    exact zk147_0  w K h
  | false =>
  rw [q0, cond_false] at h
  exact h.elim
set_option maxRecDepth 100000 in
theorem zk152_L42 {K : zK} (n : Int) (hn : n ≤ 20)  : ∀ (m : Nat) (i : Int) (w : zW), (zNt w) → (zRd 30 w) → (1 ≤ i) → (i + m = n) → (K (0, some (0, (zStl 30 m i w).1)) (zStl 30 m i w).2 238) → zwp 152 42 [(2, 0), (0, n), (0, i)] [] w 238 1 K := by
  
  intro m
  induction m with
  | zero =>
    intro i w  hN hr h1 h2 h
    refine (show (if i < n then (zNt w ∧ zRd 30 w) ∧ (if zSwn 30 w = 0 then K (0, some (0, i)) (zSwp 30 w) 238 else zwp 152 42 [(2, 0), (0, n), (0, z32 (i + 1))] [] (zSwp 30 w) 238 1 K) else (zNt w ∧ zRd 30 w) ∧ (K (0, some (0, n)) (zSwp 30 w) 238)) → _ from fun h => show zwp 152 42 [(2, 0), (0, n), (0, i)] [] w 238 1 K from zgo_imp zT91_ok (cut := fun pc => Nat.beq pc 18 || Nat.beq pc 33 || Nat.beq pc 40 || Nat.beq pc 42 || Nat.beq pc 54 || Nat.beq pc 72) 400 (show if i < n then (zNt w ∧ zRd 30 w) ∧ (zwp 152 54 [(2, 0), (0, n), (0, i)] [(0, zSwn 30 w)] (zSwp 30 w) 238 1 K) else (zNt w ∧ zRd 30 w) ∧ (zwp 152 72 [(2, 0), (0, n), (0, i)] [(0, zSwn 30 w)] (zSwp 30 w) 238 1 K) from zmI (fun h => zmA (fun h => (fun h => show zwp 152 54 [(2, 0), (0, n), (0, i)] [(0, zSwn 30 w)] (zSwp 30 w) 238 1 K from zgo_imp zT91_ok (cut := fun pc => Nat.beq pc 18 || Nat.beq pc 33 || Nat.beq pc 40 || Nat.beq pc 42 || Nat.beq pc 54 || Nat.beq pc 72) 400 (show if zSwn 30 w = 0 then K (0, some (0, i)) (zSwp 30 w) 238 else zwp 152 42 [(2, 0), (0, n), (0, z32 (i + 1))] [] (zSwp 30 w) 238 1 K from h)) h) h) (fun h => zmA (fun h => (fun h => show zwp 152 72 [(2, 0), (0, n), (0, i)] [(0, zSwn 30 w)] (zSwp 30 w) 238 1 K from zgo_imp zT91_ok (cut := fun pc => Nat.beq pc 18 || Nat.beq pc 33 || Nat.beq pc 40 || Nat.beq pc 42 || Nat.beq pc 54 || Nat.beq pc 72) 400 (show K (0, some (0, n)) (zSwp 30 w) 238 from h)) h) h) h)) ?_
    refine ziF (by omega) ⟨⟨hN, hr⟩, ?_⟩
    exact zKe h (by show i = n; omega)
  | succ m ih =>
    intro i w  hN hr h1 h2 h
    refine (show (if i < n then (zNt w ∧ zRd 30 w) ∧ (if zSwn 30 w = 0 then K (0, some (0, i)) (zSwp 30 w) 238 else zwp 152 42 [(2, 0), (0, n), (0, z32 (i + 1))] [] (zSwp 30 w) 238 1 K) else (zNt w ∧ zRd 30 w) ∧ (K (0, some (0, n)) (zSwp 30 w) 238)) → _ from fun h => show zwp 152 42 [(2, 0), (0, n), (0, i)] [] w 238 1 K from zgo_imp zT91_ok (cut := fun pc => Nat.beq pc 18 || Nat.beq pc 33 || Nat.beq pc 40 || Nat.beq pc 42 || Nat.beq pc 54 || Nat.beq pc 72) 400 (show if i < n then (zNt w ∧ zRd 30 w) ∧ (zwp 152 54 [(2, 0), (0, n), (0, i)] [(0, zSwn 30 w)] (zSwp 30 w) 238 1 K) else (zNt w ∧ zRd 30 w) ∧ (zwp 152 72 [(2, 0), (0, n), (0, i)] [(0, zSwn 30 w)] (zSwp 30 w) 238 1 K) from zmI (fun h => zmA (fun h => (fun h => show zwp 152 54 [(2, 0), (0, n), (0, i)] [(0, zSwn 30 w)] (zSwp 30 w) 238 1 K from zgo_imp zT91_ok (cut := fun pc => Nat.beq pc 18 || Nat.beq pc 33 || Nat.beq pc 40 || Nat.beq pc 42 || Nat.beq pc 54 || Nat.beq pc 72) 400 (show if zSwn 30 w = 0 then K (0, some (0, i)) (zSwp 30 w) 238 else zwp 152 42 [(2, 0), (0, n), (0, z32 (i + 1))] [] (zSwp 30 w) 238 1 K from h)) h) h) (fun h => zmA (fun h => (fun h => show zwp 152 72 [(2, 0), (0, n), (0, i)] [(0, zSwn 30 w)] (zSwp 30 w) 238 1 K from zgo_imp zT91_ok (cut := fun pc => Nat.beq pc 18 || Nat.beq pc 33 || Nat.beq pc 40 || Nat.beq pc 42 || Nat.beq pc 54 || Nat.beq pc 72) 400 (show K (0, some (0, n)) (zSwp 30 w) 238 from h)) h) h) h)) ?_
    have e : zStl 30 (m + 1) i w = if zSwn 30 w = 0 then (i, zSwp 30 w) else zStl 30 m (i + 1) (zSwp 30 w) := rfl
    rw [e] at h
    rw [z32_id (x := i + 1) ⟨by omega, by omega⟩]
    refine ziT (by omega) ⟨⟨hN, hr⟩, ?_⟩
    by_cases q : zSwn 30 w = 0
    · rw [if_pos q] at h; exact ziT q h
    · rw [if_neg q] at h
      exact ziF q (ih _ _ (zSwp_nt (Or.inl rfl) hN) (zSwp_rd (Or.inl rfl) hr) (by omega) (by omega) h)
/-! .settle -/
set_option maxRecDepth 100000 in
theorem zk152_0 (n : Int) (w : zW) (K : zK) (h : (zNt w ∧ zRd 30 w ∧ zHr w) ∧ (if 1 ≤ n ∧ n ≤ 20 then K (0, some (0, (zStl 30 (n - 1).toNat 1 (zkC w)).1)) ((zStl 30 (n - 1).toNat 1 (zkC w)).2) 238 else K (2, none) (w) 238)) : zcall 152 [(2, 0), (0, n), (9, 0)] w 238 K := by
  obtain ⟨hg, h⟩ := h
  refine (show (if n < 1 then K (2, none) w 238 else if 20 < n then K (2, none) w 238 else (0 ≤ w 37 1 ∧ w 37 1 < 6) ∧ (((0 ≤ (zpcp w 29 (39 + 6 * (w 37 1).toNat)) 37 1 ∧ (zpcp w 29 (39 + 6 * (w 37 1).toNat)) 37 1 < 6) ∧ 0 ≤ (zpcp w 29 (39 + 6 * (w 37 1).toNat)) 37 2 ∧ (zpcp w 29 (39 + 6 * (w 37 1).toNat)) 37 2 ≤ 5) ∧ (zwp 152 42 [(2, 0), (0, n), (0, 1)] [] (zkpc (zpcp w 29 (39 + 6 * (w 37 1).toNat))) 238 1 K))) → _ from fun h => show zwp 152 0 [(2, 0), (0, n), (9, 0)] [] w 238 1 K from zgo_imp zT91_ok (cut := fun pc => Nat.beq pc 18 || Nat.beq pc 33 || Nat.beq pc 40 || Nat.beq pc 42 || Nat.beq pc 54 || Nat.beq pc 72) 400 (show if n < 1 then K (2, none) w 238 else if 20 < n then K (2, none) w 238 else (0 ≤ w 37 1 ∧ w 37 1 < 6) ∧ (zwp 152 33 [(2, 0), (0, n), (9, 0)] [] (zpcp w 29 (39 + 6 * (w 37 1).toNat)) 238 1 K) from zmI (fun h => h) (fun h => zmI (fun h => h) (fun h => zmA (fun h => (fun h => show zwp 152 33 [(2, 0), (0, n), (9, 0)] [] (zpcp w 29 (39 + 6 * (w 37 1).toNat)) 238 1 K from zgo_imp zT91_ok (cut := fun pc => Nat.beq pc 18 || Nat.beq pc 33 || Nat.beq pc 40 || Nat.beq pc 42 || Nat.beq pc 54 || Nat.beq pc 72) 400 (show ((0 ≤ (zpcp w 29 (39 + 6 * (w 37 1).toNat)) 37 1 ∧ (zpcp w 29 (39 + 6 * (w 37 1).toNat)) 37 1 < 6) ∧ 0 ≤ (zpcp w 29 (39 + 6 * (w 37 1).toNat)) 37 2 ∧ (zpcp w 29 (39 + 6 * (w 37 1).toNat)) 37 2 ≤ 5) ∧ (zwp 152 40 [(2, 0), (0, n), (9, 0)] [] (zkpc (zpcp w 29 (39 + 6 * (w 37 1).toNat))) 238 1 K) from zmA (fun h => (fun h => show zwp 152 40 [(2, 0), (0, n), (9, 0)] [] (zkpc (zpcp w 29 (39 + 6 * (w 37 1).toNat))) 238 1 K from zgo_imp zT91_ok (cut := fun pc => Nat.beq pc 18 || Nat.beq pc 33 || Nat.beq pc 40 || Nat.beq pc 42 || Nat.beq pc 54 || Nat.beq pc 72) 400 (show zwp 152 42 [(2, 0), (0, n), (0, 1)] [] (zkpc (zpcp w 29 (39 + 6 * (w 37 1).toNat))) 238 1 K from h)) h) h)) h) h) h) h)) ?_
  obtain ⟨hN, hr, hH⟩ := hg
  by_cases hc : 1 ≤ n ∧ n ≤ 20
  · rw [if_pos hc] at h
    refine ziF (by omega) (ziF (by omega) (zkeepI hH ?_))
    exact zk152_L42 n hc.2 (n - 1).toNat 1 (zkC w) (zkC_nt hH hN) (zkC_rd hH hr) (by omega) (by omega) h
  · rw [if_neg hc] at h
    by_cases q : n < 1
    · exact ziT q h
    · exact ziF q (ziT (by omega) h)
noncomputable def zb152 (l0 : List zV) (w : zW) (K : zK) : Prop := cond (zis0 (zar l0 0)) (zA l0 1 fun n => (zNt w ∧ zRd 30 w ∧ zHr w) ∧ (if 1 ≤ n ∧ n ≤ 20 then K (0, some (0, (zStl 30 (n - 1).toNat 1 (zkC w)).1)) ((zStl 30 (n - 1).toNat 1 (zkC w)).2) 238 else K (2, none) (w) 238)) (False)
noncomputable def zT92 : zSum := zsm1 152 [2, 0, 9] zb152 zT91
theorem zT92_ok : zSok zT92 := zsm1_ok zT91_ok fun l0 w K h => by
  unfold zb152 at h
  cases q0 : zis0 (zar l0 0) with
  | true =>
    rw [q0, cond_true] at h
    have e : zar l0 0 = 0 := zis0_e q0
    show zcall 152 [(2, zar l0 0), (0, zar l0 1), (9, 0)] w 238 K
    rw [e]
    exact zk152_0 (zar l0 1) w K (zA_e h)
  | false =>
  rw [q0, cond_false] at h
  exact h.elim
set_option maxRecDepth 100000 in
theorem zk153_L2 {w : zW} {K : zK} (hN : zNt w) (hr : zRd 30 w)  : ∀ (m : Nat) (i : Int), (0 ≤ i) → (i + m = w 95 0) → (K (0, some (0, if zFi (zUs w 30) m i = -1 then 1 else 0)) w 238) → zwp 153 2 [(2, 0), (0, i)] [] w 238 0 K := by
  
  intro m
  induction m with
  | zero =>
    intro i  h1 h2 h
    refine (show (if i < w 4 0 then (zNt w ∧ 0 ≤ i ∧ i < w 95 0) ∧ (if ((if zSb w i then 1 else 0) : Int) = 0 then zwp 153 2 [(2, 0), (0, z32 (i + 1))] [] w 238 0 K else (zNt w ∧ zRd 30 w ∧ 0 ≤ i ∧ i < w 95 0) ∧ (zif False (0 ≤ i ∧ i < 12) (if zSR w 30 i = w 30 i.toNat then zwp 153 2 [(2, 0), (0, z32 (i + 1))] [] w 238 0 K else K (0, some (0, 0)) w 238))) else K (0, some (0, 1)) w 238) → _ from fun h => show zwp 153 2 [(2, 0), (0, i)] [] w 238 0 K from zgo_imp zT92_ok (cut := fun pc => Nat.beq pc 2 || Nat.beq pc 17 || Nat.beq pc 21 || Nat.beq pc 32 || Nat.beq pc 40) 400 (show if i < w 4 0 then zwp 153 17 [(2, 0), (0, i)] [(2, 35)] w 238 0 K else K (0, some (0, 1)) w 238 from zmI (fun h => (fun h => show zwp 153 17 [(2, 0), (0, i)] [(2, 35)] w 238 0 K from zgo_imp zT92_ok (cut := fun pc => Nat.beq pc 2 || Nat.beq pc 17 || Nat.beq pc 21 || Nat.beq pc 32 || Nat.beq pc 40) 400 (show (zNt w ∧ 0 ≤ i ∧ i < w 95 0) ∧ (zwp 153 21 [(2, 0), (0, i)] [(0, ((if zSb w i then 1 else 0) : Int))] w 238 0 K) from zmA (fun h => (fun h => show zwp 153 21 [(2, 0), (0, i)] [(0, ((if zSb w i then 1 else 0) : Int))] w 238 0 K from zgo_imp zT92_ok (cut := fun pc => Nat.beq pc 2 || Nat.beq pc 17 || Nat.beq pc 21 || Nat.beq pc 32 || Nat.beq pc 40) 400 (show if ((if zSb w i then 1 else 0) : Int) = 0 then zwp 153 2 [(2, 0), (0, z32 (i + 1))] [] w 238 0 K else (zNt w ∧ zRd 30 w ∧ 0 ≤ i ∧ i < w 95 0) ∧ (zwp 153 32 [(2, 0), (0, i)] [(0, zSR w 30 i)] w 238 0 K) from zmI (fun h => h) (fun h => zmA (fun h => (fun h => show zwp 153 32 [(2, 0), (0, i)] [(0, zSR w 30 i)] w 238 0 K from zgo_imp zT92_ok (cut := fun pc => Nat.beq pc 2 || Nat.beq pc 17 || Nat.beq pc 21 || Nat.beq pc 32 || Nat.beq pc 40) 400 (show zif False (0 ≤ i ∧ i < 12) (zwp 153 40 [(2, 0), (0, i)] [(0, w 30 i.toNat), (0, zSR w 30 i)] w 238 0 K) from zmZ (fun h => (fun h => show zwp 153 40 [(2, 0), (0, i)] [(0, w 30 i.toNat), (0, zSR w 30 i)] w 238 0 K from zgo_imp zT92_ok (cut := fun pc => Nat.beq pc 2 || Nat.beq pc 17 || Nat.beq pc 21 || Nat.beq pc 32 || Nat.beq pc 40) 400 (show if zSR w 30 i = w 30 i.toNat then zwp 153 2 [(2, 0), (0, z32 (i + 1))] [] w 238 0 K else K (0, some (0, 0)) w 238 from h)) h) h)) h) h) h)) h) h)) h) (fun h => h) h)) ?_
    have hn := hN.n
    refine ziF (by omega) ?_
    exact h
  | succ m ih =>
    intro i  h1 h2 h
    refine (show (if i < w 4 0 then (zNt w ∧ 0 ≤ i ∧ i < w 95 0) ∧ (if ((if zSb w i then 1 else 0) : Int) = 0 then zwp 153 2 [(2, 0), (0, z32 (i + 1))] [] w 238 0 K else (zNt w ∧ zRd 30 w ∧ 0 ≤ i ∧ i < w 95 0) ∧ (zif False (0 ≤ i ∧ i < 12) (if zSR w 30 i = w 30 i.toNat then zwp 153 2 [(2, 0), (0, z32 (i + 1))] [] w 238 0 K else K (0, some (0, 0)) w 238))) else K (0, some (0, 1)) w 238) → _ from fun h => show zwp 153 2 [(2, 0), (0, i)] [] w 238 0 K from zgo_imp zT92_ok (cut := fun pc => Nat.beq pc 2 || Nat.beq pc 17 || Nat.beq pc 21 || Nat.beq pc 32 || Nat.beq pc 40) 400 (show if i < w 4 0 then zwp 153 17 [(2, 0), (0, i)] [(2, 35)] w 238 0 K else K (0, some (0, 1)) w 238 from zmI (fun h => (fun h => show zwp 153 17 [(2, 0), (0, i)] [(2, 35)] w 238 0 K from zgo_imp zT92_ok (cut := fun pc => Nat.beq pc 2 || Nat.beq pc 17 || Nat.beq pc 21 || Nat.beq pc 32 || Nat.beq pc 40) 400 (show (zNt w ∧ 0 ≤ i ∧ i < w 95 0) ∧ (zwp 153 21 [(2, 0), (0, i)] [(0, ((if zSb w i then 1 else 0) : Int))] w 238 0 K) from zmA (fun h => (fun h => show zwp 153 21 [(2, 0), (0, i)] [(0, ((if zSb w i then 1 else 0) : Int))] w 238 0 K from zgo_imp zT92_ok (cut := fun pc => Nat.beq pc 2 || Nat.beq pc 17 || Nat.beq pc 21 || Nat.beq pc 32 || Nat.beq pc 40) 400 (show if ((if zSb w i then 1 else 0) : Int) = 0 then zwp 153 2 [(2, 0), (0, z32 (i + 1))] [] w 238 0 K else (zNt w ∧ zRd 30 w ∧ 0 ≤ i ∧ i < w 95 0) ∧ (zwp 153 32 [(2, 0), (0, i)] [(0, zSR w 30 i)] w 238 0 K) from zmI (fun h => h) (fun h => zmA (fun h => (fun h => show zwp 153 32 [(2, 0), (0, i)] [(0, zSR w 30 i)] w 238 0 K from zgo_imp zT92_ok (cut := fun pc => Nat.beq pc 2 || Nat.beq pc 17 || Nat.beq pc 21 || Nat.beq pc 32 || Nat.beq pc 40) 400 (show zif False (0 ≤ i ∧ i < 12) (zwp 153 40 [(2, 0), (0, i)] [(0, w 30 i.toNat), (0, zSR w 30 i)] w 238 0 K) from zmZ (fun h => (fun h => show zwp 153 40 [(2, 0), (0, i)] [(0, w 30 i.toNat), (0, zSR w 30 i)] w 238 0 K from zgo_imp zT92_ok (cut := fun pc => Nat.beq pc 2 || Nat.beq pc 17 || Nat.beq pc 21 || Nat.beq pc 32 || Nat.beq pc 40) 400 (show if zSR w 30 i = w 30 i.toNat then zwp 153 2 [(2, 0), (0, z32 (i + 1))] [] w 238 0 K else K (0, some (0, 0)) w 238 from h)) h) h)) h) h) h)) h) h)) h) (fun h => h) h)) ?_
    have hn := hN.n
    rw [z32_id (x := i + 1) ⟨by omega, by omega⟩]
    have e : zFi (zUs w 30) (m + 1) i = if zUs w 30 i then i else zFi (zUs w 30) m (i + 1) := rfl
    refine ziT (by omega) ⟨⟨hN, by omega⟩, ?_⟩
    by_cases hb : zSb w i
    · refine ziF (by rw [if_pos hb]; decide) ⟨⟨hN, hr, by omega⟩, zifI (by omega) ?_⟩
      by_cases q : zSR w 30 i = w 30 i.toNat
      · rw [e.trans (if_neg fun q2 => q2.2 q)] at h
        exact ziT q (ih _ (by omega) (by omega) h)
      · rw [e.trans (if_pos ⟨hb, q⟩)] at h
        exact ziF q (zKe h (if_neg (by omega)))
    · rw [e.trans (if_neg fun q2 => hb q2.1)] at h
      exact ziT (if_neg hb) (ih _ (by omega) (by omega) h)
/-! .isSettled -/
set_option maxRecDepth 100000 in
theorem zk153_0 (w : zW) (K : zK) (h : (zNt w ∧ zRd 30 w) ∧ (K (0, some (0, (if zFi (zUs w 30) (w 95 0).toNat 0 = -1 then 1 else 0))) (w) 238)) : zcall 153 [(2, 0), (9, 0)] w 238 K := by
  obtain ⟨hg, h⟩ := h
  refine (show (zwp 153 2 [(2, 0), (0, 0)] [] w 238 0 K) → _ from fun h => show zwp 153 0 [(2, 0), (9, 0)] [] w 238 0 K from zgo_imp zT92_ok (cut := fun pc => Nat.beq pc 2 || Nat.beq pc 17 || Nat.beq pc 21 || Nat.beq pc 32 || Nat.beq pc 40) 400 (show zwp 153 2 [(2, 0), (0, 0)] [] w 238 0 K from h)) ?_
  have hn := hg.1.n
  exact zk153_L2 hg.1 hg.2 (w 95 0).toNat 0 (by omega) (by omega) h
noncomputable def zb153 (l0 : List zV) (w : zW) (K : zK) : Prop := cond (zis0 (zar l0 0)) ((zNt w ∧ zRd 30 w) ∧ (K (0, some (0, (if zFi (zUs w 30) (w 95 0).toNat 0 = -1 then 1 else 0))) (w) 238)) (False)
noncomputable def zT93 : zSum := zsm1 153 [2, 9] zb153 zT92
theorem zT93_ok : zSok zT93 := zsm1_ok zT92_ok fun l0 w K h => by
  unfold zb153 at h
  cases q0 : zis0 (zar l0 0) with
  | true =>
    rw [q0, cond_true] at h
    have e : zar l0 0 = 0 := zis0_e q0
    show zcall 153 [(2, zar l0 0), (9, 0)] w 238 K
    rw [e]
    exact zk153_0  w K h
  | false =>
  rw [q0, cond_false] at h
  exact h.elim
set_option maxRecDepth 100000 in
theorem zk157_L22 {w : zW} {K : zK} (hN : zNt w) (hr : zRd 30 w) (b : Int) (hb : 0 ≤ b ∧ b ≤ 2000000000)  : ∀ (m : Nat) (i e t : Int) (d5 : zV), (0 ≤ i) → (i + m = 16) → (-1 ≤ e ∧ e < t ∧ t ≤ 1001) → (t - e ≤ ((2 ^ m : Nat) : Int)) → (e = -1 ∨ zUc w 30 e b = -1) → (t = 1001 ∨ zUc w 30 t b ≠ -1) → (K (0, some (0, zGs w 30 b)) w 238) → zwp 157 22 [(2, 0), (0, b), (0, e), (0, t), (0, i), d5] [] w 238 0 K := by
  
  intro m
  induction m with
  | zero =>
    intro i e t d5 h1 h2 h3 h4 h5 h6 h
    refine (show (if i < 16 then if 1 < z32 (t - e) then (zNt w ∧ zRd 30 w ∧ (0 ≤ (z32 (Int.tdiv (z32 (e + t)) 2)) ∧ (z32 (Int.tdiv (z32 (e + t)) 2)) ≤ 1000) ∧ 0 ≤ b ∧ b ≤ 2000000000) ∧ (if ((if zUc w 30 (z32 (Int.tdiv (z32 (e + t)) 2)) b = -1 then 1 else 0) : Int) = 0 then zwp 157 22 [(2, 0), (0, b), (0, e), (0, z32 (Int.tdiv (z32 (e + t)) 2)), (0, z32 (i + 1)), (9, 0)] [] w 238 0 K else zwp 157 22 [(2, 0), (0, b), (0, z32 (Int.tdiv (z32 (e + t)) 2)), (0, t), (0, z32 (i + 1)), (9, 0)] [] w 238 0 K) else K (0, some (0, e)) w 238 else K (0, some (0, e)) w 238) → _ from fun h => show zwp 157 22 [(2, 0), (0, b), (0, e), (0, t), (0, i), d5] [] w 238 0 K from zgo_imp zT93_ok (cut := fun pc => Nat.beq pc 4 || Nat.beq pc 8 || Nat.beq pc 22 || Nat.beq pc 37 || Nat.beq pc 50 || Nat.beq pc 53 || Nat.beq pc 72) 400 (show if i < 16 then if 1 < z32 (t - e) then zwp 157 37 [(2, 0), (0, b), (0, e), (0, t), (0, i), (9, 0)] [(0, e)] w 238 0 K else zwp 157 72 [(9, 0), (9, 0), (0, e), (9, 0), (9, 0), (9, 0)] [(0, e)] w 238 0 K else zwp 157 72 [(9, 0), (9, 0), (0, e), (9, 0), (9, 0), (9, 0)] [(0, e)] w 238 0 K from zmI (fun h => zmI (fun h => (fun h => show zwp 157 37 [(2, 0), (0, b), (0, e), (0, t), (0, i), (9, 0)] [(0, e)] w 238 0 K from zgo_imp zT93_ok (cut := fun pc => Nat.beq pc 4 || Nat.beq pc 8 || Nat.beq pc 22 || Nat.beq pc 37 || Nat.beq pc 50 || Nat.beq pc 53 || Nat.beq pc 72) 400 (show zwp 157 50 [(2, 0), (0, b), (0, e), (0, t), (0, i), (0, z32 (Int.tdiv (z32 (e + t)) 2))] [(0, b), (0, z32 (Int.tdiv (z32 (e + t)) 2)), (2, 35)] w 238 0 K from (fun h => show zwp 157 50 [(2, 0), (0, b), (0, e), (0, t), (0, i), (0, z32 (Int.tdiv (z32 (e + t)) 2))] [(0, b), (0, z32 (Int.tdiv (z32 (e + t)) 2)), (2, 35)] w 238 0 K from zgo_imp zT93_ok (cut := fun pc => Nat.beq pc 4 || Nat.beq pc 8 || Nat.beq pc 22 || Nat.beq pc 37 || Nat.beq pc 50 || Nat.beq pc 53 || Nat.beq pc 72) 400 (show (zNt w ∧ zRd 30 w ∧ (0 ≤ (z32 (Int.tdiv (z32 (e + t)) 2)) ∧ (z32 (Int.tdiv (z32 (e + t)) 2)) ≤ 1000) ∧ 0 ≤ b ∧ b ≤ 2000000000) ∧ (zwp 157 53 [(2, 0), (0, b), (0, e), (0, t), (0, i), (0, z32 (Int.tdiv (z32 (e + t)) 2))] [(0, ((if zUc w 30 (z32 (Int.tdiv (z32 (e + t)) 2)) b = -1 then 1 else 0) : Int))] w 238 0 K) from zmA (fun h => (fun h => show zwp 157 53 [(2, 0), (0, b), (0, e), (0, t), (0, i), (0, z32 (Int.tdiv (z32 (e + t)) 2))] [(0, ((if zUc w 30 (z32 (Int.tdiv (z32 (e + t)) 2)) b = -1 then 1 else 0) : Int))] w 238 0 K from zgo_imp zT93_ok (cut := fun pc => Nat.beq pc 4 || Nat.beq pc 8 || Nat.beq pc 22 || Nat.beq pc 37 || Nat.beq pc 50 || Nat.beq pc 53 || Nat.beq pc 72) 400 (show if ((if zUc w 30 (z32 (Int.tdiv (z32 (e + t)) 2)) b = -1 then 1 else 0) : Int) = 0 then zwp 157 22 [(2, 0), (0, b), (0, e), (0, z32 (Int.tdiv (z32 (e + t)) 2)), (0, z32 (i + 1)), (9, 0)] [] w 238 0 K else zwp 157 22 [(2, 0), (0, b), (0, z32 (Int.tdiv (z32 (e + t)) 2)), (0, t), (0, z32 (i + 1)), (9, 0)] [] w 238 0 K from h)) h) h)) h)) h) (fun h => (fun h => show zwp 157 72 [(9, 0), (9, 0), (0, e), (9, 0), (9, 0), (9, 0)] [(0, e)] w 238 0 K from zgo_imp zT93_ok (cut := fun pc => Nat.beq pc 4 || Nat.beq pc 8 || Nat.beq pc 22 || Nat.beq pc 37 || Nat.beq pc 50 || Nat.beq pc 53 || Nat.beq pc 72) 400 (show K (0, some (0, e)) w 238 from h)) h) h) (fun h => (fun h => show zwp 157 72 [(9, 0), (9, 0), (0, e), (9, 0), (9, 0), (9, 0)] [(0, e)] w 238 0 K from zgo_imp zT93_ok (cut := fun pc => Nat.beq pc 4 || Nat.beq pc 8 || Nat.beq pc 22 || Nat.beq pc 37 || Nat.beq pc 50 || Nat.beq pc 53 || Nat.beq pc 72) 400 (show K (0, some (0, e)) w 238 from h)) h) h)) ?_
    have hp : ((2 ^ 0 : Nat) : Int) = 1 := by decide
    refine ziF (by omega) (zKe h (zGs_eq ⟨by omega, by omega, h5, fun u u0 u1 u2 q => ?_⟩))
    rcases h6 with g | g
    · omega
    · exact g (zUc_mono hr (by omega) (by omega) q)
  | succ m ih =>
    intro i e t d5 h1 h2 h3 h4 h5 h6 h
    refine (show (if i < 16 then if 1 < z32 (t - e) then (zNt w ∧ zRd 30 w ∧ (0 ≤ (z32 (Int.tdiv (z32 (e + t)) 2)) ∧ (z32 (Int.tdiv (z32 (e + t)) 2)) ≤ 1000) ∧ 0 ≤ b ∧ b ≤ 2000000000) ∧ (if ((if zUc w 30 (z32 (Int.tdiv (z32 (e + t)) 2)) b = -1 then 1 else 0) : Int) = 0 then zwp 157 22 [(2, 0), (0, b), (0, e), (0, z32 (Int.tdiv (z32 (e + t)) 2)), (0, z32 (i + 1)), (9, 0)] [] w 238 0 K else zwp 157 22 [(2, 0), (0, b), (0, z32 (Int.tdiv (z32 (e + t)) 2)), (0, t), (0, z32 (i + 1)), (9, 0)] [] w 238 0 K) else K (0, some (0, e)) w 238 else K (0, some (0, e)) w 238) → _ from fun h => show zwp 157 22 [(2, 0), (0, b), (0, e), (0, t), (0, i), d5] [] w 238 0 K from zgo_imp zT93_ok (cut := fun pc => Nat.beq pc 4 || Nat.beq pc 8 || Nat.beq pc 22 || Nat.beq pc 37 || Nat.beq pc 50 || Nat.beq pc 53 || Nat.beq pc 72) 400 (show if i < 16 then if 1 < z32 (t - e) then zwp 157 37 [(2, 0), (0, b), (0, e), (0, t), (0, i), (9, 0)] [(0, e)] w 238 0 K else zwp 157 72 [(9, 0), (9, 0), (0, e), (9, 0), (9, 0), (9, 0)] [(0, e)] w 238 0 K else zwp 157 72 [(9, 0), (9, 0), (0, e), (9, 0), (9, 0), (9, 0)] [(0, e)] w 238 0 K from zmI (fun h => zmI (fun h => (fun h => show zwp 157 37 [(2, 0), (0, b), (0, e), (0, t), (0, i), (9, 0)] [(0, e)] w 238 0 K from zgo_imp zT93_ok (cut := fun pc => Nat.beq pc 4 || Nat.beq pc 8 || Nat.beq pc 22 || Nat.beq pc 37 || Nat.beq pc 50 || Nat.beq pc 53 || Nat.beq pc 72) 400 (show zwp 157 50 [(2, 0), (0, b), (0, e), (0, t), (0, i), (0, z32 (Int.tdiv (z32 (e + t)) 2))] [(0, b), (0, z32 (Int.tdiv (z32 (e + t)) 2)), (2, 35)] w 238 0 K from (fun h => show zwp 157 50 [(2, 0), (0, b), (0, e), (0, t), (0, i), (0, z32 (Int.tdiv (z32 (e + t)) 2))] [(0, b), (0, z32 (Int.tdiv (z32 (e + t)) 2)), (2, 35)] w 238 0 K from zgo_imp zT93_ok (cut := fun pc => Nat.beq pc 4 || Nat.beq pc 8 || Nat.beq pc 22 || Nat.beq pc 37 || Nat.beq pc 50 || Nat.beq pc 53 || Nat.beq pc 72) 400 (show (zNt w ∧ zRd 30 w ∧ (0 ≤ (z32 (Int.tdiv (z32 (e + t)) 2)) ∧ (z32 (Int.tdiv (z32 (e + t)) 2)) ≤ 1000) ∧ 0 ≤ b ∧ b ≤ 2000000000) ∧ (zwp 157 53 [(2, 0), (0, b), (0, e), (0, t), (0, i), (0, z32 (Int.tdiv (z32 (e + t)) 2))] [(0, ((if zUc w 30 (z32 (Int.tdiv (z32 (e + t)) 2)) b = -1 then 1 else 0) : Int))] w 238 0 K) from zmA (fun h => (fun h => show zwp 157 53 [(2, 0), (0, b), (0, e), (0, t), (0, i), (0, z32 (Int.tdiv (z32 (e + t)) 2))] [(0, ((if zUc w 30 (z32 (Int.tdiv (z32 (e + t)) 2)) b = -1 then 1 else 0) : Int))] w 238 0 K from zgo_imp zT93_ok (cut := fun pc => Nat.beq pc 4 || Nat.beq pc 8 || Nat.beq pc 22 || Nat.beq pc 37 || Nat.beq pc 50 || Nat.beq pc 53 || Nat.beq pc 72) 400 (show if ((if zUc w 30 (z32 (Int.tdiv (z32 (e + t)) 2)) b = -1 then 1 else 0) : Int) = 0 then zwp 157 22 [(2, 0), (0, b), (0, e), (0, z32 (Int.tdiv (z32 (e + t)) 2)), (0, z32 (i + 1)), (9, 0)] [] w 238 0 K else zwp 157 22 [(2, 0), (0, b), (0, z32 (Int.tdiv (z32 (e + t)) 2)), (0, t), (0, z32 (i + 1)), (9, 0)] [] w 238 0 K from h)) h) h)) h)) h) (fun h => (fun h => show zwp 157 72 [(9, 0), (9, 0), (0, e), (9, 0), (9, 0), (9, 0)] [(0, e)] w 238 0 K from zgo_imp zT93_ok (cut := fun pc => Nat.beq pc 4 || Nat.beq pc 8 || Nat.beq pc 22 || Nat.beq pc 37 || Nat.beq pc 50 || Nat.beq pc 53 || Nat.beq pc 72) 400 (show K (0, some (0, e)) w 238 from h)) h) h) (fun h => (fun h => show zwp 157 72 [(9, 0), (9, 0), (0, e), (9, 0), (9, 0), (9, 0)] [(0, e)] w 238 0 K from zgo_imp zT93_ok (cut := fun pc => Nat.beq pc 4 || Nat.beq pc 8 || Nat.beq pc 22 || Nat.beq pc 37 || Nat.beq pc 50 || Nat.beq pc 53 || Nat.beq pc 72) 400 (show K (0, some (0, e)) w 238 from h)) h) h)) ?_
    have hp := zpow2 m
    have e1 : z32 (t - e) = t - e := z32_id ⟨by omega, by omega⟩
    rw [e1, z32_id (x := i + 1) ⟨by omega, by omega⟩]
    refine ziT (by omega) ?_
    by_cases q : 1 < t - e
    · have e2 : z32 (Int.tdiv (z32 (e + t)) 2) = (e + t) / 2 := by rw [z32_id (x := e + t) ⟨by omega, by omega⟩, Int.tdiv_eq_ediv_of_nonneg (by omega)]; exact z32_id ⟨by omega, by omega⟩
      simp only [e2]
      refine ziT q ⟨⟨hN, hr, by omega, hb⟩, ?_⟩
      by_cases q2 : zUc w 30 ((e + t) / 2) b = -1
      · exact ziF (by rw [if_pos q2]; decide) (ih _ _ _ _ (by omega) (by omega) (by omega) (by omega) (Or.inr q2) h6 h)
      · exact ziT (if_neg q2) (ih _ _ _ _ (by omega) (by omega) (by omega) (by omega) h5 (Or.inr q2) h)
    · refine ziF q (zKe h (zGs_eq ⟨by omega, by omega, h5, fun u u0 u1 u2 q => ?_⟩))
      rcases h6 with g | g
      · omega
      · exact g (zUc_mono hr (by omega) (by omega) q)
/-! .greatestSlack -/
set_option maxRecDepth 100000 in
theorem zk157_0 (b : Int) (w : zW) (K : zK) (h : (zNt w ∧ zRd 30 w) ∧ (if 0 ≤ b ∧ b ≤ 2000000000 then K (0, some (0, (if zSm (fun c => if 0 < w 97 c.toNat then 1 else 0) (w 95 0).toNat 0 = 0 then -1 else zGs w 30 b))) (w) 238 else K (2, none) (w) 238)) : zcall 157 [(2, 0), (0, b), (9, 0), (9, 0), (9, 0), (9, 0)] w 238 K := by
  obtain ⟨hg, h⟩ := h
  refine (show (if b < 0 then K (2, none) w 238 else if 2000000000 < b then K (2, none) w 238 else (zNt w) ∧ (if zSm (fun c => if 0 < w 97 c.toNat then 1 else 0) (w 95 0).toNat 0 = 0 then K (0, some (0, (-1))) w 238 else zwp 157 22 [(2, 0), (0, b), (0, (-1)), (0, 1001), (0, 0), (9, 0)] [] w 238 0 K)) → _ from fun h => show zwp 157 0 [(2, 0), (0, b), (9, 0), (9, 0), (9, 0), (9, 0)] [] w 238 1 K from zgo_imp zT93_ok (cut := fun pc => Nat.beq pc 4 || Nat.beq pc 8 || Nat.beq pc 22 || Nat.beq pc 37 || Nat.beq pc 50 || Nat.beq pc 53 || Nat.beq pc 72) 400 (show if b < 0 then K (2, none) w 238 else if 2000000000 < b then K (2, none) w 238 else zwp 157 4 [(2, 0), (0, b), (9, 0), (9, 0), (9, 0), (9, 0)] [] w 238 0 K from zmI (fun h => h) (fun h => zmI (fun h => h) (fun h => (fun h => show zwp 157 4 [(2, 0), (0, b), (9, 0), (9, 0), (9, 0), (9, 0)] [] w 238 0 K from zgo_imp zT93_ok (cut := fun pc => Nat.beq pc 4 || Nat.beq pc 8 || Nat.beq pc 22 || Nat.beq pc 37 || Nat.beq pc 50 || Nat.beq pc 53 || Nat.beq pc 72) 400 (show (zNt w) ∧ (zwp 157 8 [(2, 0), (0, b), (9, 0), (9, 0), (9, 0), (9, 0)] [(0, zSm (fun c => if 0 < w 97 c.toNat then 1 else 0) (w 95 0).toNat 0)] w 238 0 K) from zmA (fun h => (fun h => show zwp 157 8 [(2, 0), (0, b), (9, 0), (9, 0), (9, 0), (9, 0)] [(0, zSm (fun c => if 0 < w 97 c.toNat then 1 else 0) (w 95 0).toNat 0)] w 238 0 K from zgo_imp zT93_ok (cut := fun pc => Nat.beq pc 4 || Nat.beq pc 8 || Nat.beq pc 22 || Nat.beq pc 37 || Nat.beq pc 50 || Nat.beq pc 53 || Nat.beq pc 72) 400 (show if zSm (fun c => if 0 < w 97 c.toNat then 1 else 0) (w 95 0).toNat 0 = 0 then K (0, some (0, (-1))) w 238 else zwp 157 22 [(2, 0), (0, b), (0, (-1)), (0, 1001), (0, 0), (9, 0)] [] w 238 0 K from h)) h) h)) h) h) h)) ?_
  obtain ⟨hN, hr⟩ := hg
  by_cases hc : 0 ≤ b ∧ b ≤ 2000000000
  · rw [if_pos hc] at h
    refine ziF (by omega) (ziF (by omega) ⟨hN, ?_⟩)
    by_cases q : zSm (fun c => if 0 < w 97 c.toNat then 1 else 0) (w 95 0).toNat 0 = 0
    · exact ziT q (zKe h (if_pos q))
    · refine ziF q (zk157_L22 hN hr b hc 16 0 (-1) 1001 _ (by omega) (by omega) (by omega) (by decide) (Or.inl rfl) (Or.inl rfl) (zKe h (if_neg q)))
  · rw [if_neg hc] at h
    by_cases q : b < 0
    · exact ziT q h
    · exact ziF q (ziT (by omega) h)
noncomputable def zb157 (l0 : List zV) (w : zW) (K : zK) : Prop := cond (zis0 (zar l0 0)) (zA l0 1 fun b => (zNt w ∧ zRd 30 w) ∧ (if 0 ≤ b ∧ b ≤ 2000000000 then K (0, some (0, (if zSm (fun c => if 0 < w 97 c.toNat then 1 else 0) (w 95 0).toNat 0 = 0 then -1 else zGs w 30 b))) (w) 238 else K (2, none) (w) 238)) (False)
noncomputable def zT94 : zSum := zsm1 157 [2, 0, 9, 9, 9, 9] zb157 zT93
theorem zT94_ok : zSok zT94 := zsm1_ok zT93_ok fun l0 w K h => by
  unfold zb157 at h
  cases q0 : zis0 (zar l0 0) with
  | true =>
    rw [q0, cond_true] at h
    have e : zar l0 0 = 0 := zis0_e q0
    show zcall 157 [(2, zar l0 0), (0, zar l0 1), (9, 0), (9, 0), (9, 0), (9, 0)] w 238 K
    rw [e]
    exact zk157_0 (zar l0 1) w K (zA_e h)
  | false =>
  rw [q0, cond_false] at h
  exact h.elim

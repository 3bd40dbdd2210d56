/-! ===== the class: methods that keep what was before (written by wip/whole/gen_c.py) ===== -/
/-- the class's packing and history of a, the rest of w -/
def zCs (a w : zW) : zW := fun p => cond (Nat.ble 29 p && Nat.blt p 75) (a p) (w p)
/-- the model's places of b, the rest of w -/
def zMs (b w : zW) : zW := fun p => cond (Nat.ble 93 p && Nat.blt p 116) (b p) (w p)
/-- the class's places of a, the rest of w -/
def zCt (a w : zW) : zW := fun p => cond (Nat.blt p 93) (a p) (w p)
theorem zCs_e {a w : zW} (h : ∀ p, p < 29 ∨ 75 ≤ p → a p = w p) : zCs a w = a := by
  funext p
  unfold zCs
  cases q : (Nat.ble 29 p && Nat.blt p 75) with
  | true => rfl
  | false =>
    refine (h p ?_).symm
    rcases Nat.lt_or_ge p 29 with r | r
    · exact Or.inl r
    · rcases Nat.lt_or_ge p 75 with s | s
      · rw [Nat.ble_eq_true_of_le r, Nat.blt_eq.mpr s] at q
        cases q
      · exact Or.inr s
theorem zMs_e {b w : zW} (h : ∀ p, p < 93 ∨ 116 ≤ p → b p = w p) : zMs b w = b := by
  funext p
  unfold zMs
  cases q : (Nat.ble 93 p && Nat.blt p 116) with
  | true => rfl
  | false =>
    refine (h p ?_).symm
    rcases Nat.lt_or_ge p 93 with r | r
    · exact Or.inl r
    · rcases Nat.lt_or_ge p 116 with s | s
      · rw [Nat.ble_eq_true_of_le r, Nat.blt_eq.mpr s] at q
        cases q
      · exact Or.inr s
theorem zCt_e {a w : zW} (h : ∀ p, 93 ≤ p → a p = w p) : zCt a w = a := by
  funext p
  unfold zCt
  cases q : Nat.blt p 93 with
  | true => rfl
  | false =>
    refine (h p ?_).symm
    rcases Nat.lt_or_ge p 93 with r | r
    · rw [Nat.blt_eq.mpr r] at q
      cases q
    · exact r
theorem zu0 {v : zW} {x : Int} (h : v 93 0 = x) : zupd v 93 0 x = v := by
  funext p k
  unfold zupd
  by_cases g : p = 93
  · rw [if_pos g]
    by_cases g2 : k = 0
    · rw [if_pos g2, g, g2, h]
    · rw [if_neg g2]
  · rw [if_neg g]
theorem zStl_ne {q p : Nat} (hp : p ≠ q) : ∀ (m : Nat) (i : Int) (w : zW), (zStl q m i w).2 p = w p := by
  intro m
  induction m with
  | zero => exact fun i w => zSwp_ne hp
  | succ m ih =>
    intro i w
    have e : zStl q (m + 1) i w = if zSwn q w = 0 then (i, zSwp q w) else zStl q m (i + 1) (zSwp q w) := rfl
    rw [e]
    by_cases g : zSwn q w = 0
    · rw [if_pos g]; exact zSwp_ne hp
    · rw [if_neg g, ih, zSwp_ne hp]
theorem zkC_30 {w : zW} (hH : zHr w) {p : Nat} (h : p < 37) : (zkpc (zpcp w 29 (39 + 6 * (w 37 1).toNat))) p = w p := zkC_ne hH (Or.inl h)
theorem zkC_pc {w : zW} (hH : zHr w) (h : zPC w) : zPC (zkC w) := by
  unfold zPC at h ⊢
  rw [zkC_ne hH (a := 29) (by decide), zkC_ne hH (a := 31) (by decide), zkC_ne hH (a := 32) (by decide), zkC_ne hH (a := 33) (by decide), zkC_ne hH (a := 34) (by decide), zkC_ne hH (a := 95) (by decide)]
  exact h
noncomputable def zT245 : zSum := zin1 180 400 zT244
theorem zT245_ok : zSok zT245 := zin1_ok zT244_ok
noncomputable def zT246 : zSum := zin1 184 400 zT245
theorem zT246_ok : zSok zT246 := zin1_ok zT245_ok
/-! .setRadius -/
set_option maxRecDepth 100000 in
theorem zk148b (c r : Int) (w : zW) (K : zK) (h : (zNt w ∧ zHr w) ∧ (if 0 ≤ c ∧ c < w 95 0 then if 1 ≤ r ∧ r ≤ 1000000 then K (0, some (0, w 30 c.toNat)) (zCs (zupd (zkC w) 30 c.toNat r) w) 238 else K (2, none) w 238 else K (3, none) w 238)) : zcall 148 [(2, 0), (0, c), (0, r), (9, 0)] w 238 K := by
  obtain ⟨hg, h⟩ := h
  refine (show (if c < 0 then K (3, none) w 238 else if c < w 4 0 then if r < 1 then K (2, none) w 238 else if 1000000 < r then K (2, none) w 238 else (0 ≤ w 37 1 ∧ w 37 1 < 6) ∧ (((0 ≤ (zpcp w 29 (39 + 6 * (w 37 1).toNat)) 37 1 ∧ (zpcp w 29 (39 + 6 * (w 37 1).toNat)) 37 1 < 6) ∧ 0 ≤ (zpcp w 29 (39 + 6 * (w 37 1).toNat)) 37 2 ∧ (zpcp w 29 (39 + 6 * (w 37 1).toNat)) 37 2 ≤ 5) ∧ (zif False (0 ≤ c ∧ c < 12) (if c < 0 then K (0, some (0, (zkpc (zpcp w 29 (39 + 6 * (w 37 1).toNat))) 30 c.toNat)) (zkpc (zpcp w 29 (39 + 6 * (w 37 1).toNat))) 238 else if c < 12 then zif False (0 ≤ c ∧ c < 12) (K (0, some (0, (zkpc (zpcp w 29 (39 + 6 * (w 37 1).toNat))) 30 c.toNat)) (zupd (zkpc (zpcp w 29 (39 + 6 * (w 37 1).toNat))) 30 c.toNat r) 238) else K (0, some (0, (zkpc (zpcp w 29 (39 + 6 * (w 37 1).toNat))) 30 c.toNat)) (zkpc (zpcp w 29 (39 + 6 * (w 37 1).toNat))) 238))) else K (3, none) w 238) → _ from fun h => show zwp 148 0 [(2, 0), (0, c), (0, r), (9, 0)] [] w 238 2 K from zgo_imp zT246_ok (cut := fun pc => Nat.beq pc 5 || Nat.beq pc 24 || Nat.beq pc 39 || Nat.beq pc 46 || Nat.beq pc 54 || Nat.beq pc 64) 400 (show if c < 0 then K (3, none) w 238 else if c < w 4 0 then zwp 148 5 [(2, 0), (0, c), (0, r), (9, 0)] [] w 238 1 K else K (3, none) w 238 from zmI (fun h => h) (fun h => zmI (fun h => (fun h => show zwp 148 5 [(2, 0), (0, c), (0, r), (9, 0)] [] w 238 1 K from zgo_imp zT246_ok (cut := fun pc => Nat.beq pc 5 || Nat.beq pc 24 || Nat.beq pc 39 || Nat.beq pc 46 || Nat.beq pc 54 || Nat.beq pc 64) 400 (show if r < 1 then K (2, none) w 238 else if 1000000 < r then K (2, none) w 238 else (0 ≤ w 37 1 ∧ w 37 1 < 6) ∧ (zwp 148 39 [(2, 0), (0, c), (0, r), (9, 0)] [] (zpcp w 29 (39 + 6 * (w 37 1).toNat)) 238 1 K) from zmI (fun h => h) (fun h => zmI (fun h => h) (fun h => zmA (fun h => (fun h => show zwp 148 39 [(2, 0), (0, c), (0, r), (9, 0)] [] (zpcp w 29 (39 + 6 * (w 37 1).toNat)) 238 1 K from zgo_imp zT246_ok (cut := fun pc => Nat.beq pc 5 || Nat.beq pc 24 || Nat.beq pc 39 || Nat.beq pc 46 || Nat.beq pc 54 || Nat.beq pc 64) 400 (show ((0 ≤ (zpcp w 29 (39 + 6 * (w 37 1).toNat)) 37 1 ∧ (zpcp w 29 (39 + 6 * (w 37 1).toNat)) 37 1 < 6) ∧ 0 ≤ (zpcp w 29 (39 + 6 * (w 37 1).toNat)) 37 2 ∧ (zpcp w 29 (39 + 6 * (w 37 1).toNat)) 37 2 ≤ 5) ∧ (zwp 148 46 [(2, 0), (0, c), (0, r), (9, 0)] [] (zkpc (zpcp w 29 (39 + 6 * (w 37 1).toNat))) 238 1 K) from zmA (fun h => (fun h => show zwp 148 46 [(2, 0), (0, c), (0, r), (9, 0)] [] (zkpc (zpcp w 29 (39 + 6 * (w 37 1).toNat))) 238 1 K from zgo_imp zT246_ok (cut := fun pc => Nat.beq pc 5 || Nat.beq pc 24 || Nat.beq pc 39 || Nat.beq pc 46 || Nat.beq pc 54 || Nat.beq pc 64) 400 (show zif False (0 ≤ c ∧ c < 12) (zwp 148 54 [(2, 0), (0, c), (0, r), (9, 0)] [(0, (zkpc (zpcp w 29 (39 + 6 * (w 37 1).toNat))) 30 c.toNat)] (zkpc (zpcp w 29 (39 + 6 * (w 37 1).toNat))) 238 1 K) from zmZ (fun h => (fun h => show zwp 148 54 [(2, 0), (0, c), (0, r), (9, 0)] [(0, (zkpc (zpcp w 29 (39 + 6 * (w 37 1).toNat))) 30 c.toNat)] (zkpc (zpcp w 29 (39 + 6 * (w 37 1).toNat))) 238 1 K from zgo_imp zT246_ok (cut := fun pc => Nat.beq pc 5 || Nat.beq pc 24 || Nat.beq pc 39 || Nat.beq pc 46 || Nat.beq pc 54 || Nat.beq pc 64) 400 (show if c < 0 then zwp 148 64 [(2, 0), (0, c), (0, r), (0, (zkpc (zpcp w 29 (39 + 6 * (w 37 1).toNat))) 30 c.toNat)] [] (zkpc (zpcp w 29 (39 + 6 * (w 37 1).toNat))) 238 1 K else if c < 12 then zif False (0 ≤ c ∧ c < 12) (zwp 148 64 [(2, 0), (0, c), (0, r), (0, (zkpc (zpcp w 29 (39 + 6 * (w 37 1).toNat))) 30 c.toNat)] [] (zupd (zkpc (zpcp w 29 (39 + 6 * (w 37 1).toNat))) 30 c.toNat r) 238 1 K) else zwp 148 64 [(2, 0), (0, c), (0, r), (0, (zkpc (zpcp w 29 (39 + 6 * (w 37 1).toNat))) 30 c.toNat)] [] (zkpc (zpcp w 29 (39 + 6 * (w 37 1).toNat))) 238 1 K from zmI (fun h => (fun h => show zwp 148 64 [(2, 0), (0, c), (0, r), (0, (zkpc (zpcp w 29 (39 + 6 * (w 37 1).toNat))) 30 c.toNat)] [] (zkpc (zpcp w 29 (39 + 6 * (w 37 1).toNat))) 238 1 K from zgo_imp zT246_ok (cut := fun pc => Nat.beq pc 5 || Nat.beq pc 24 || Nat.beq pc 39 || Nat.beq pc 46 || Nat.beq pc 54 || Nat.beq pc 64) 400 (show K (0, some (0, (zkpc (zpcp w 29 (39 + 6 * (w 37 1).toNat))) 30 c.toNat)) (zkpc (zpcp w 29 (39 + 6 * (w 37 1).toNat))) 238 from h)) h) (fun h => zmI (fun h => zmZ (fun h => (fun h => show zwp 148 64 [(2, 0), (0, c), (0, r), (0, (zkpc (zpcp w 29 (39 + 6 * (w 37 1).toNat))) 30 c.toNat)] [] (zupd (zkpc (zpcp w 29 (39 + 6 * (w 37 1).toNat))) 30 c.toNat r) 238 1 K from zgo_imp zT246_ok (cut := fun pc => Nat.beq pc 5 || Nat.beq pc 24 || Nat.beq pc 39 || Nat.beq pc 46 || Nat.beq pc 54 || Nat.beq pc 64) 400 (show K (0, some (0, (zkpc (zpcp w 29 (39 + 6 * (w 37 1).toNat))) 30 c.toNat)) (zupd (zkpc (zpcp w 29 (39 + 6 * (w 37 1).toNat))) 30 c.toNat r) 238 from h)) h) h) (fun h => (fun h => show zwp 148 64 [(2, 0), (0, c), (0, r), (0, (zkpc (zpcp w 29 (39 + 6 * (w 37 1).toNat))) 30 c.toNat)] [] (zkpc (zpcp w 29 (39 + 6 * (w 37 1).toNat))) 238 1 K from zgo_imp zT246_ok (cut := fun pc => Nat.beq pc 5 || Nat.beq pc 24 || Nat.beq pc 39 || Nat.beq pc 46 || Nat.beq pc 54 || Nat.beq pc 64) 400 (show K (0, some (0, (zkpc (zpcp w 29 (39 + 6 * (w 37 1).toNat))) 30 c.toNat)) (zkpc (zpcp w 29 (39 + 6 * (w 37 1).toNat))) 238 from h)) h) h) h)) h) h)) h) h)) h) h) h) h)) h) (fun h => h) h) h)) ?_
  obtain ⟨hN, hH⟩ := hg
  have hn := hN.n
  by_cases hc : 0 ≤ c ∧ c < w 95 0
  · rw [if_pos hc] at h
    refine ziF (by omega) (ziT (by omega) ?_)
    by_cases hr : 1 ≤ r ∧ r ≤ 1000000
    · rw [if_pos hr, zCs_e (fun p hp => by rw [zune (by omega), zkC_ne hH (by omega)])] at h
      refine ziF (by omega) (ziF (by omega) (zkeepI hH ?_))
      rw [zkC_30 hH (p := 30) (by decide)]
      exact zifI (by omega) (ziF (by omega) (ziT (by omega) (zifI (by omega) h)))
    · rw [if_neg hr] at h
      by_cases q : r < 1
      · exact ziT q h
      · exact ziF q (ziT (by omega) h)
  · rw [if_neg hc] at h
    by_cases q : c < 0
    · exact ziT q h
    · exact ziF q (ziF (by omega) h)
noncomputable def zb148b (l0 : List zV) (w : zW) (K : zK) : Prop := cond (zis0 (zar l0 0)) (zA l0 1 fun c => zA l0 2 fun r => (zNt w ∧ zHr w) ∧ (if 0 ≤ c ∧ c < w 95 0 then if 1 ≤ r ∧ r ≤ 1000000 then K (0, some (0, w 30 c.toNat)) (zCs (zupd (zkC w) 30 c.toNat r) w) 238 else K (2, none) w 238 else K (3, none) w 238)) False
noncomputable def zT247 : zSum := zsm1 148 [2, 0, 0, 9] zb148b zT246
theorem zT247_ok : zSok zT247 := zsm1_ok zT246_ok fun l0 w K h => by
  unfold zb148b at h
  cases q0 : zis0 (zar l0 0) with
  | true =>
    rw [q0, cond_true] at h
    have e : zar l0 0 = 0 := zis0_e q0
    show zcall 148 [(2, zar l0 0), (0, zar l0 1), (0, zar l0 2), (9, 0)] w 238 K
    rw [e]
    exact zk148b (zar l0 1) (zar l0 2) w K (zA_e (zA_e h))
  | false =>
    rw [q0, cond_false] at h
    exact h.elim
/-! .solve -/
set_option maxRecDepth 100000 in
theorem zk149b (c : Int) (w : zW) (K : zK) (h : (zNt w ∧ zRd 30 w ∧ zHr w) ∧ (if 0 ≤ c ∧ c < w 95 0 then if zSb w c then K (0, some (0, zSR (zkC w) 30 c)) (zCs (zupd (zkC w) 30 c.toNat (zSR (zkC w) 30 c)) w) 238 else K (1, none) w 238 else K (3, none) w 238)) : zcall 149 [(2, 0), (0, c)] w 238 K := by
  obtain ⟨hg, h⟩ := h
  refine (show (if c < 0 then K (3, none) w 238 else if c < w 4 0 then (zNt w ∧ 0 ≤ c ∧ c < w 95 0) ∧ (if ((if zSb w c then 1 else 0) : Int) = 0 then K (1, none) w 238 else (0 ≤ w 37 1 ∧ w 37 1 < 6) ∧ (((0 ≤ (zpcp w 29 (39 + 6 * (w 37 1).toNat)) 37 1 ∧ (zpcp w 29 (39 + 6 * (w 37 1).toNat)) 37 1 < 6) ∧ 0 ≤ (zpcp w 29 (39 + 6 * (w 37 1).toNat)) 37 2 ∧ (zpcp w 29 (39 + 6 * (w 37 1).toNat)) 37 2 ≤ 5) ∧ ((zNt (zkpc (zpcp w 29 (39 + 6 * (w 37 1).toNat))) ∧ zRd 30 (zkpc (zpcp w 29 (39 + 6 * (w 37 1).toNat))) ∧ 0 ≤ c ∧ c < (zkpc (zpcp w 29 (39 + 6 * (w 37 1).toNat))) 95 0) ∧ (if c < 0 then zif False (0 ≤ c ∧ c < 12) (K (0, some (0, (zkpc (zpcp w 29 (39 + 6 * (w 37 1).toNat))) 30 c.toNat)) (zkpc (zpcp w 29 (39 + 6 * (w 37 1).toNat))) 238) else if c < 12 then zif False (0 ≤ c ∧ c < 12) (zif False (0 ≤ c ∧ c < 12) (K (0, some (0, (zupd (zkpc (zpcp w 29 (39 + 6 * (w 37 1).toNat))) 30 c.toNat (zSR (zkpc (zpcp w 29 (39 + 6 * (w 37 1).toNat))) 30 c)) 30 c.toNat)) (zupd (zkpc (zpcp w 29 (39 + 6 * (w 37 1).toNat))) 30 c.toNat (zSR (zkpc (zpcp w 29 (39 + 6 * (w 37 1).toNat))) 30 c)) 238)) else zif False (0 ≤ c ∧ c < 12) (K (0, some (0, (zkpc (zpcp w 29 (39 + 6 * (w 37 1).toNat))) 30 c.toNat)) (zkpc (zpcp w 29 (39 + 6 * (w 37 1).toNat))) 238))))) else K (3, none) w 238) → _ from fun h => show zwp 149 0 [(2, 0), (0, c)] [] w 238 2 K from zgo_imp zT247_ok (cut := fun pc => Nat.beq pc 5 || Nat.beq pc 13 || Nat.beq pc 32 || Nat.beq pc 38 || Nat.beq pc 45 || Nat.beq pc 58 || Nat.beq pc 61 || Nat.beq pc 69) 400 (show if c < 0 then K (3, none) w 238 else if c < w 4 0 then zwp 149 5 [(2, 0), (0, c)] [] w 238 1 K else K (3, none) w 238 from zmI (fun h => h) (fun h => zmI (fun h => (fun h => show zwp 149 5 [(2, 0), (0, c)] [] w 238 1 K from zgo_imp zT247_ok (cut := fun pc => Nat.beq pc 5 || Nat.beq pc 13 || Nat.beq pc 32 || Nat.beq pc 38 || Nat.beq pc 45 || Nat.beq pc 58 || Nat.beq pc 61 || Nat.beq pc 69) 400 (show (zNt w ∧ 0 ≤ c ∧ c < w 95 0) ∧ (zwp 149 13 [(2, 0), (0, c)] [(0, ((if zSb w c then 1 else 0) : Int))] w 238 1 K) from zmA (fun h => (fun h => show zwp 149 13 [(2, 0), (0, c)] [(0, ((if zSb w c then 1 else 0) : Int))] w 238 1 K from zgo_imp zT247_ok (cut := fun pc => Nat.beq pc 5 || Nat.beq pc 13 || Nat.beq pc 32 || Nat.beq pc 38 || Nat.beq pc 45 || Nat.beq pc 58 || Nat.beq pc 61 || Nat.beq pc 69) 400 (show if ((if zSb w c then 1 else 0) : Int) = 0 then K (1, none) w 238 else zwp 149 32 [(2, 0), (0, c)] [(2, 0), (2, 37)] w 238 1 K from zmI (fun h => h) (fun h => (fun h => show zwp 149 32 [(2, 0), (0, c)] [(2, 0), (2, 37)] w 238 1 K from zgo_imp zT247_ok (cut := fun pc => Nat.beq pc 5 || Nat.beq pc 13 || Nat.beq pc 32 || Nat.beq pc 38 || Nat.beq pc 45 || Nat.beq pc 58 || Nat.beq pc 61 || Nat.beq pc 69) 400 (show (0 ≤ w 37 1 ∧ w 37 1 < 6) ∧ (zwp 149 38 [(2, 0), (0, c)] [] (zpcp w 29 (39 + 6 * (w 37 1).toNat)) 238 1 K) from zmA (fun h => (fun h => show zwp 149 38 [(2, 0), (0, c)] [] (zpcp w 29 (39 + 6 * (w 37 1).toNat)) 238 1 K from zgo_imp zT247_ok (cut := fun pc => Nat.beq pc 5 || Nat.beq pc 13 || Nat.beq pc 32 || Nat.beq pc 38 || Nat.beq pc 45 || Nat.beq pc 58 || Nat.beq pc 61 || Nat.beq pc 69) 400 (show ((0 ≤ (zpcp w 29 (39 + 6 * (w 37 1).toNat)) 37 1 ∧ (zpcp w 29 (39 + 6 * (w 37 1).toNat)) 37 1 < 6) ∧ 0 ≤ (zpcp w 29 (39 + 6 * (w 37 1).toNat)) 37 2 ∧ (zpcp w 29 (39 + 6 * (w 37 1).toNat)) 37 2 ≤ 5) ∧ (zwp 149 45 [(2, 0), (0, c)] [] (zkpc (zpcp w 29 (39 + 6 * (w 37 1).toNat))) 238 1 K) from zmA (fun h => (fun h => show zwp 149 45 [(2, 0), (0, c)] [] (zkpc (zpcp w 29 (39 + 6 * (w 37 1).toNat))) 238 1 K from zgo_imp zT247_ok (cut := fun pc => Nat.beq pc 5 || Nat.beq pc 13 || Nat.beq pc 32 || Nat.beq pc 38 || Nat.beq pc 45 || Nat.beq pc 58 || Nat.beq pc 61 || Nat.beq pc 69) 400 (show (zNt (zkpc (zpcp w 29 (39 + 6 * (w 37 1).toNat))) ∧ zRd 30 (zkpc (zpcp w 29 (39 + 6 * (w 37 1).toNat))) ∧ 0 ≤ c ∧ c < (zkpc (zpcp w 29 (39 + 6 * (w 37 1).toNat))) 95 0) ∧ (zwp 149 58 [(2, 0), (0, c)] [(0, zSR (zkpc (zpcp w 29 (39 + 6 * (w 37 1).toNat))) 30 c), (0, c), (2, 29)] (zkpc (zpcp w 29 (39 + 6 * (w 37 1).toNat))) 238 1 K) from zmA (fun h => (fun h => show zwp 149 58 [(2, 0), (0, c)] [(0, zSR (zkpc (zpcp w 29 (39 + 6 * (w 37 1).toNat))) 30 c), (0, c), (2, 29)] (zkpc (zpcp w 29 (39 + 6 * (w 37 1).toNat))) 238 1 K from zgo_imp zT247_ok (cut := fun pc => Nat.beq pc 5 || Nat.beq pc 13 || Nat.beq pc 32 || Nat.beq pc 38 || Nat.beq pc 45 || Nat.beq pc 58 || Nat.beq pc 61 || Nat.beq pc 69) 400 (show if c < 0 then zwp 149 61 [(2, 0), (0, c)] [] (zkpc (zpcp w 29 (39 + 6 * (w 37 1).toNat))) 238 1 K else if c < 12 then zif False (0 ≤ c ∧ c < 12) (zwp 149 61 [(2, 0), (0, c)] [] (zupd (zkpc (zpcp w 29 (39 + 6 * (w 37 1).toNat))) 30 c.toNat (zSR (zkpc (zpcp w 29 (39 + 6 * (w 37 1).toNat))) 30 c)) 238 1 K) else zwp 149 61 [(2, 0), (0, c)] [] (zkpc (zpcp w 29 (39 + 6 * (w 37 1).toNat))) 238 1 K from zmI (fun h => (fun h => show zwp 149 61 [(2, 0), (0, c)] [] (zkpc (zpcp w 29 (39 + 6 * (w 37 1).toNat))) 238 1 K from zgo_imp zT247_ok (cut := fun pc => Nat.beq pc 5 || Nat.beq pc 13 || Nat.beq pc 32 || Nat.beq pc 38 || Nat.beq pc 45 || Nat.beq pc 58 || Nat.beq pc 61 || Nat.beq pc 69) 400 (show zif False (0 ≤ c ∧ c < 12) (zwp 149 69 [(2, 0), (0, c)] [(0, (zkpc (zpcp w 29 (39 + 6 * (w 37 1).toNat))) 30 c.toNat)] (zkpc (zpcp w 29 (39 + 6 * (w 37 1).toNat))) 238 1 K) from zmZ (fun h => (fun h => show zwp 149 69 [(2, 0), (0, c)] [(0, (zkpc (zpcp w 29 (39 + 6 * (w 37 1).toNat))) 30 c.toNat)] (zkpc (zpcp w 29 (39 + 6 * (w 37 1).toNat))) 238 1 K from zgo_imp zT247_ok (cut := fun pc => Nat.beq pc 5 || Nat.beq pc 13 || Nat.beq pc 32 || Nat.beq pc 38 || Nat.beq pc 45 || Nat.beq pc 58 || Nat.beq pc 61 || Nat.beq pc 69) 400 (show K (0, some (0, (zkpc (zpcp w 29 (39 + 6 * (w 37 1).toNat))) 30 c.toNat)) (zkpc (zpcp w 29 (39 + 6 * (w 37 1).toNat))) 238 from h)) h) h)) h) (fun h => zmI (fun h => zmZ (fun h => (fun h => show zwp 149 61 [(2, 0), (0, c)] [] (zupd (zkpc (zpcp w 29 (39 + 6 * (w 37 1).toNat))) 30 c.toNat (zSR (zkpc (zpcp w 29 (39 + 6 * (w 37 1).toNat))) 30 c)) 238 1 K from zgo_imp zT247_ok (cut := fun pc => Nat.beq pc 5 || Nat.beq pc 13 || Nat.beq pc 32 || Nat.beq pc 38 || Nat.beq pc 45 || Nat.beq pc 58 || Nat.beq pc 61 || Nat.beq pc 69) 400 (show zif False (0 ≤ c ∧ c < 12) (zwp 149 69 [(2, 0), (0, c)] [(0, (zupd (zkpc (zpcp w 29 (39 + 6 * (w 37 1).toNat))) 30 c.toNat (zSR (zkpc (zpcp w 29 (39 + 6 * (w 37 1).toNat))) 30 c)) 30 c.toNat)] (zupd (zkpc (zpcp w 29 (39 + 6 * (w 37 1).toNat))) 30 c.toNat (zSR (zkpc (zpcp w 29 (39 + 6 * (w 37 1).toNat))) 30 c)) 238 1 K) from zmZ (fun h => (fun h => show zwp 149 69 [(2, 0), (0, c)] [(0, (zupd (zkpc (zpcp w 29 (39 + 6 * (w 37 1).toNat))) 30 c.toNat (zSR (zkpc (zpcp w 29 (39 + 6 * (w 37 1).toNat))) 30 c)) 30 c.toNat)] (zupd (zkpc (zpcp w 29 (39 + 6 * (w 37 1).toNat))) 30 c.toNat (zSR (zkpc (zpcp w 29 (39 + 6 * (w 37 1).toNat))) 30 c)) 238 1 K from zgo_imp zT247_ok (cut := fun pc => Nat.beq pc 5 || Nat.beq pc 13 || Nat.beq pc 32 || Nat.beq pc 38 || Nat.beq pc 45 || Nat.beq pc 58 || Nat.beq pc 61 || Nat.beq pc 69) 400 (show K (0, some (0, (zupd (zkpc (zpcp w 29 (39 + 6 * (w 37 1).toNat))) 30 c.toNat (zSR (zkpc (zpcp w 29 (39 + 6 * (w 37 1).toNat))) 30 c)) 30 c.toNat)) (zupd (zkpc (zpcp w 29 (39 + 6 * (w 37 1).toNat))) 30 c.toNat (zSR (zkpc (zpcp w 29 (39 + 6 * (w 37 1).toNat))) 30 c)) 238 from h)) h) h)) h) h) (fun h => (fun h => show zwp 149 61 [(2, 0), (0, c)] [] (zkpc (zpcp w 29 (39 + 6 * (w 37 1).toNat))) 238 1 K from zgo_imp zT247_ok (cut := fun pc => Nat.beq pc 5 || Nat.beq pc 13 || Nat.beq pc 32 || Nat.beq pc 38 || Nat.beq pc 45 || Nat.beq pc 58 || Nat.beq pc 61 || Nat.beq pc 69) 400 (show zif False (0 ≤ c ∧ c < 12) (zwp 149 69 [(2, 0), (0, c)] [(0, (zkpc (zpcp w 29 (39 + 6 * (w 37 1).toNat))) 30 c.toNat)] (zkpc (zpcp w 29 (39 + 6 * (w 37 1).toNat))) 238 1 K) from zmZ (fun h => (fun h => show zwp 149 69 [(2, 0), (0, c)] [(0, (zkpc (zpcp w 29 (39 + 6 * (w 37 1).toNat))) 30 c.toNat)] (zkpc (zpcp w 29 (39 + 6 * (w 37 1).toNat))) 238 1 K from zgo_imp zT247_ok (cut := fun pc => Nat.beq pc 5 || Nat.beq pc 13 || Nat.beq pc 32 || Nat.beq pc 38 || Nat.beq pc 45 || Nat.beq pc 58 || Nat.beq pc 61 || Nat.beq pc 69) 400 (show K (0, some (0, (zkpc (zpcp w 29 (39 + 6 * (w 37 1).toNat))) 30 c.toNat)) (zkpc (zpcp w 29 (39 + 6 * (w 37 1).toNat))) 238 from h)) h) h)) h) h) h)) h) h)) h) h)) h) h)) h) h)) h) h)) h) (fun h => h) h) h)) ?_
  obtain ⟨hN, hR, hH⟩ := hg
  have hn := hN.n
  by_cases hc : 0 ≤ c ∧ c < w 95 0
  · rw [if_pos hc] at h
    refine ziF (by omega) (ziT (by omega) ⟨⟨hN, hc⟩, ?_⟩)
    by_cases hr : zSb w c
    · rw [if_pos hr, zCs_e (fun p hp => by rw [zune (by omega), zkC_ne hH (by omega)])] at h
      refine ziF (by rw [if_pos hr]; decide) (zkeepI hH ⟨⟨zkC_nt hH hN, zkC_rd hH hR, hc.1, ?_⟩, ?_⟩)
      · have e : (zkpc (zpcp w 29 (39 + 6 * (w 37 1).toNat))) 95 = w 95 := zkC_ne hH (by omega)
        rw [e]; exact hc.2
      · refine ziF (by omega) (ziT (by omega) (zifI (by omega) (zifI (by omega) ?_)))
        rw [zuat, if_pos rfl]
        exact h
    · rw [if_neg hr] at h
      exact ziT (if_neg hr) h
  · rw [if_neg hc] at h
    by_cases q : c < 0
    · exact ziT q h
    · exact ziF q (ziF (by omega) h)
noncomputable def zb149b (l0 : List zV) (w : zW) (K : zK) : Prop := cond (zis0 (zar l0 0)) (zA l0 1 fun c => (zNt w ∧ zRd 30 w ∧ zHr w) ∧ (if 0 ≤ c ∧ c < w 95 0 then if zSb w c then K (0, some (0, zSR (zkC w) 30 c)) (zCs (zupd (zkC w) 30 c.toNat (zSR (zkC w) 30 c)) w) 238 else K (1, none) w 238 else K (3, none) w 238)) False
noncomputable def zT248 : zSum := zsm1 149 [2, 0] zb149b zT247
theorem zT248_ok : zSok zT248 := zsm1_ok zT247_ok fun l0 w K h => by
  unfold zb149b at h
  cases q0 : zis0 (zar l0 0) with
  | true =>
    rw [q0, cond_true] at h
    have e : zar l0 0 = 0 := zis0_e q0
    show zcall 149 [(2, zar l0 0), (0, zar l0 1)] w 238 K
    rw [e]
    exact zk149b (zar l0 1) w K (zA_e h)
  | false =>
    rw [q0, cond_false] at h
    exact h.elim
/-! .sweep -/
set_option maxRecDepth 100000 in
theorem zk151b (w : zW) (K : zK) (h : (zNt w ∧ zRd 30 w ∧ zHr w) ∧ (K (0, some (0, zSwn 30 (zkC w))) (zCs (zSwp 30 (zkC w)) w) 238)) : zcall 151 [(2, 0)] w 238 K := by
  obtain ⟨hg, h⟩ := h
  refine (show ((0 ≤ w 37 1 ∧ w 37 1 < 6) ∧ (((0 ≤ (zpcp w 29 (39 + 6 * (w 37 1).toNat)) 37 1 ∧ (zpcp w 29 (39 + 6 * (w 37 1).toNat)) 37 1 < 6) ∧ 0 ≤ (zpcp w 29 (39 + 6 * (w 37 1).toNat)) 37 2 ∧ (zpcp w 29 (39 + 6 * (w 37 1).toNat)) 37 2 ≤ 5) ∧ ((zNt (zkpc (zpcp w 29 (39 + 6 * (w 37 1).toNat))) ∧ zRd 30 (zkpc (zpcp w 29 (39 + 6 * (w 37 1).toNat)))) ∧ (K (0, some (0, zSwn 30 (zkpc (zpcp w 29 (39 + 6 * (w 37 1).toNat))))) (zSwp 30 (zkpc (zpcp w 29 (39 + 6 * (w 37 1).toNat)))) 238)))) → _ from fun h => show zwp 151 0 [(2, 0)] [] w 238 0 K from zgo_imp zT248_ok (cut := fun pc => Nat.beq pc 11 || Nat.beq pc 18 || Nat.beq pc 25) 400 (show (0 ≤ w 37 1 ∧ w 37 1 < 6) ∧ (zwp 151 11 [(2, 0)] [] (zpcp w 29 (39 + 6 * (w 37 1).toNat)) 238 0 K) from zmA (fun h => (fun h => show zwp 151 11 [(2, 0)] [] (zpcp w 29 (39 + 6 * (w 37 1).toNat)) 238 0 K from zgo_imp zT248_ok (cut := fun pc => Nat.beq pc 11 || Nat.beq pc 18 || Nat.beq pc 25) 400 (show ((0 ≤ (zpcp w 29 (39 + 6 * (w 37 1).toNat)) 37 1 ∧ (zpcp w 29 (39 + 6 * (w 37 1).toNat)) 37 1 < 6) ∧ 0 ≤ (zpcp w 29 (39 + 6 * (w 37 1).toNat)) 37 2 ∧ (zpcp w 29 (39 + 6 * (w 37 1).toNat)) 37 2 ≤ 5) ∧ (zwp 151 18 [(2, 0)] [] (zkpc (zpcp w 29 (39 + 6 * (w 37 1).toNat))) 238 0 K) from zmA (fun h => (fun h => show zwp 151 18 [(2, 0)] [] (zkpc (zpcp w 29 (39 + 6 * (w 37 1).toNat))) 238 0 K from zgo_imp zT248_ok (cut := fun pc => Nat.beq pc 11 || Nat.beq pc 18 || Nat.beq pc 25) 400 (show (zNt (zkpc (zpcp w 29 (39 + 6 * (w 37 1).toNat))) ∧ zRd 30 (zkpc (zpcp w 29 (39 + 6 * (w 37 1).toNat)))) ∧ (zwp 151 25 [(2, 0)] [(0, zSwn 30 (zkpc (zpcp w 29 (39 + 6 * (w 37 1).toNat))))] (zSwp 30 (zkpc (zpcp w 29 (39 + 6 * (w 37 1).toNat)))) 238 0 K) from zmA (fun h => (fun h => show zwp 151 25 [(2, 0)] [(0, zSwn 30 (zkpc (zpcp w 29 (39 + 6 * (w 37 1).toNat))))] (zSwp 30 (zkpc (zpcp w 29 (39 + 6 * (w 37 1).toNat)))) 238 0 K from zgo_imp zT248_ok (cut := fun pc => Nat.beq pc 11 || Nat.beq pc 18 || Nat.beq pc 25) 400 (show K (0, some (0, zSwn 30 (zkpc (zpcp w 29 (39 + 6 * (w 37 1).toNat))))) (zSwp 30 (zkpc (zpcp w 29 (39 + 6 * (w 37 1).toNat)))) 238 from h)) h) h)) h) h)) h) h)) ?_
  obtain ⟨hN, hR, hH⟩ := hg
  rw [zCs_e (fun p hp => by rw [zSwp_ne (by omega), zkC_ne hH (by omega)])] at h
  exact zkeepI hH ⟨⟨zkC_nt hH hN, zkC_rd hH hR⟩, h⟩
noncomputable def zb151b (l0 : List zV) (w : zW) (K : zK) : Prop := cond (zis0 (zar l0 0)) ((zNt w ∧ zRd 30 w ∧ zHr w) ∧ (K (0, some (0, zSwn 30 (zkC w))) (zCs (zSwp 30 (zkC w)) w) 238)) False
noncomputable def zT249 : zSum := zsm1 151 [2] zb151b zT248
theorem zT249_ok : zSok zT249 := zsm1_ok zT248_ok fun l0 w K h => by
  unfold zb151b at h
  cases q0 : zis0 (zar l0 0) with
  | true =>
    rw [q0, cond_true] at h
    have e : zar l0 0 = 0 := zis0_e q0
    show zcall 151 [(2, zar l0 0)] w 238 K
    rw [e]
    exact zk151b  w K h
  | false =>
    rw [q0, cond_false] at h
    exact h.elim
/-! .settle -/
set_option maxRecDepth 100000 in
theorem zk152b (n : Int) (w : zW) (K : zK) (h : (zNt w ∧ zRd 30 w ∧ zHr w) ∧ (if 1 ≤ n ∧ n ≤ 20 then K (0, some (0, (zStl 30 (n - 1).toNat 1 (zkC w)).1)) (zCs ((zStl 30 (n - 1).toNat 1 (zkC w)).2) w) 238 else K (2, none) w 238)) : zcall 152 [(2, 0), (0, n), (9, 0)] w 238 K := by
  obtain ⟨hg, h⟩ := h
  rw [zCs_e (fun p hp => by rw [zStl_ne (by omega), zkC_ne hg.2.2 (by omega)])] at h
  exact zk152_0 n w K ⟨hg, h⟩
noncomputable def zb152b (l0 : List zV) (w : zW) (K : zK) : Prop := cond (zis0 (zar l0 0)) (zA l0 1 fun n => (zNt w ∧ zRd 30 w ∧ zHr w) ∧ (if 1 ≤ n ∧ n ≤ 20 then K (0, some (0, (zStl 30 (n - 1).toNat 1 (zkC w)).1)) (zCs ((zStl 30 (n - 1).toNat 1 (zkC w)).2) w) 238 else K (2, none) w 238)) False
noncomputable def zT250 : zSum := zsm1 152 [2, 0, 9] zb152b zT249
theorem zT250_ok : zSok zT250 := zsm1_ok zT249_ok fun l0 w K h => by
  unfold zb152b at h
  cases q0 : zis0 (zar l0 0) with
  | true =>
    rw [q0, cond_true] at h
    have e : zar l0 0 = 0 := zis0_e q0
    show zcall 152 [(2, zar l0 0), (0, zar l0 1), (9, 0)] w 238 K
    rw [e]
    exact zk152b (zar l0 1) w K (zA_e h)
  | false =>
    rw [q0, cond_false] at h
    exact h.elim
/-! .lay -/
set_option maxRecDepth 100000 in
theorem zk158b (f : Int) (w : zW) (K : zK) (h : (zNt w ∧ zRd 30 w ∧ zHr w) ∧ (if 0 ≤ f ∧ f < w 96 0 then K (0, some (0, zLa (zkC w) f 29 5)) (zCs (zLa (zkC w) f) w) 238 else K (3, none) w 238)) : zcall 158 [(2, 0), (0, f)] w 238 K := by
  obtain ⟨hg, h⟩ := h
  refine (show (if f < 0 then K (3, none) w 238 else if f < w 4 1 then (0 ≤ w 37 1 ∧ w 37 1 < 6) ∧ (((0 ≤ (zpcp w 29 (39 + 6 * (w 37 1).toNat)) 37 1 ∧ (zpcp w 29 (39 + 6 * (w 37 1).toNat)) 37 1 < 6) ∧ 0 ≤ (zpcp w 29 (39 + 6 * (w 37 1).toNat)) 37 2 ∧ (zpcp w 29 (39 + 6 * (w 37 1).toNat)) 37 2 ≤ 5) ∧ ((zNt (zkpc (zpcp w 29 (39 + 6 * (w 37 1).toNat))) ∧ zRd 30 (zkpc (zpcp w 29 (39 + 6 * (w 37 1).toNat))) ∧ 0 ≤ f ∧ f < (zkpc (zpcp w 29 (39 + 6 * (w 37 1).toNat))) 96 0) ∧ (K (0, some (0, (zLa (zkpc (zpcp w 29 (39 + 6 * (w 37 1).toNat))) f) 29 5)) (zLa (zkpc (zpcp w 29 (39 + 6 * (w 37 1).toNat))) f) 238))) else K (3, none) w 238) → _ from fun h => show zwp 158 0 [(2, 0), (0, f)] [] w 238 1 K from zgo_imp zT250_ok (cut := fun pc => Nat.beq pc 5 || Nat.beq pc 16 || Nat.beq pc 23 || Nat.beq pc 31) 400 (show if f < 0 then K (3, none) w 238 else if f < w 4 1 then zwp 158 5 [(2, 0), (0, f)] [] w 238 0 K else K (3, none) w 238 from zmI (fun h => h) (fun h => zmI (fun h => (fun h => show zwp 158 5 [(2, 0), (0, f)] [] w 238 0 K from zgo_imp zT250_ok (cut := fun pc => Nat.beq pc 5 || Nat.beq pc 16 || Nat.beq pc 23 || Nat.beq pc 31) 400 (show (0 ≤ w 37 1 ∧ w 37 1 < 6) ∧ (zwp 158 16 [(2, 0), (0, f)] [] (zpcp w 29 (39 + 6 * (w 37 1).toNat)) 238 0 K) from zmA (fun h => (fun h => show zwp 158 16 [(2, 0), (0, f)] [] (zpcp w 29 (39 + 6 * (w 37 1).toNat)) 238 0 K from zgo_imp zT250_ok (cut := fun pc => Nat.beq pc 5 || Nat.beq pc 16 || Nat.beq pc 23 || Nat.beq pc 31) 400 (show ((0 ≤ (zpcp w 29 (39 + 6 * (w 37 1).toNat)) 37 1 ∧ (zpcp w 29 (39 + 6 * (w 37 1).toNat)) 37 1 < 6) ∧ 0 ≤ (zpcp w 29 (39 + 6 * (w 37 1).toNat)) 37 2 ∧ (zpcp w 29 (39 + 6 * (w 37 1).toNat)) 37 2 ≤ 5) ∧ (zwp 158 23 [(2, 0), (0, f)] [] (zkpc (zpcp w 29 (39 + 6 * (w 37 1).toNat))) 238 0 K) from zmA (fun h => (fun h => show zwp 158 23 [(2, 0), (0, f)] [] (zkpc (zpcp w 29 (39 + 6 * (w 37 1).toNat))) 238 0 K from zgo_imp zT250_ok (cut := fun pc => Nat.beq pc 5 || Nat.beq pc 16 || Nat.beq pc 23 || Nat.beq pc 31) 400 (show (zNt (zkpc (zpcp w 29 (39 + 6 * (w 37 1).toNat))) ∧ zRd 30 (zkpc (zpcp w 29 (39 + 6 * (w 37 1).toNat))) ∧ 0 ≤ f ∧ f < (zkpc (zpcp w 29 (39 + 6 * (w 37 1).toNat))) 96 0) ∧ (zwp 158 31 [(2, 0), (0, f)] [] (zLa (zkpc (zpcp w 29 (39 + 6 * (w 37 1).toNat))) f) 238 0 K) from zmA (fun h => (fun h => show zwp 158 31 [(2, 0), (0, f)] [] (zLa (zkpc (zpcp w 29 (39 + 6 * (w 37 1).toNat))) f) 238 0 K from zgo_imp zT250_ok (cut := fun pc => Nat.beq pc 5 || Nat.beq pc 16 || Nat.beq pc 23 || Nat.beq pc 31) 400 (show K (0, some (0, (zLa (zkpc (zpcp w 29 (39 + 6 * (w 37 1).toNat))) f) 29 5)) (zLa (zkpc (zpcp w 29 (39 + 6 * (w 37 1).toNat))) f) 238 from h)) h) h)) h) h)) h) h)) h) (fun h => h) h) h)) ?_
  obtain ⟨hN, hR, hH⟩ := hg
  have hn := hN.n
  by_cases hc : 0 ≤ f ∧ f < w 96 0
  · rw [if_pos hc, zCs_e (fun p hp => by rw [zLa_ne (by omega), zkC_ne hH (by omega)])] at h
    have e : (zkpc (zpcp w 29 (39 + 6 * (w 37 1).toNat))) 96 = w 96 := zkC_ne hH (by omega)
    exact ziF (by omega) (ziT (by omega) (zkeepI hH ⟨⟨zkC_nt hH hN, zkC_rd hH hR, hc.1, by rw [e]; exact hc.2⟩, h⟩))
  · rw [if_neg hc] at h
    by_cases q : f < 0
    · exact ziT q h
    · exact ziF q (ziF (by omega) h)
noncomputable def zb158b (l0 : List zV) (w : zW) (K : zK) : Prop := cond (zis0 (zar l0 0)) (zA l0 1 fun f => (zNt w ∧ zRd 30 w ∧ zHr w) ∧ (if 0 ≤ f ∧ f < w 96 0 then K (0, some (0, zLa (zkC w) f 29 5)) (zCs (zLa (zkC w) f) w) 238 else K (3, none) w 238)) False
noncomputable def zT251 : zSum := zsm1 158 [2, 0] zb158b zT250
theorem zT251_ok : zSok zT251 := zsm1_ok zT250_ok fun l0 w K h => by
  unfold zb158b at h
  cases q0 : zis0 (zar l0 0) with
  | true =>
    rw [q0, cond_true] at h
    have e : zar l0 0 = 0 := zis0_e q0
    show zcall 158 [(2, zar l0 0), (0, zar l0 1)] w 238 K
    rw [e]
    exact zk158b (zar l0 1) w K (zA_e h)
  | false =>
    rw [q0, cond_false] at h
    exact h.elim
/-! .shift -/
set_option maxRecDepth 100000 in
theorem zk169b (x y : Int) (w : zW) (K : zK) (h : (zPC w ∧ zHr w) ∧ (if (-1000000 ≤ x ∧ x ≤ 1000000) ∧ -1000000 ≤ y ∧ y ≤ 1000000 then if zFi (fun c => w 33 c.toNat = 1 ∧ (zTf (w 31 c.toNat + x) ∨ zTf (w 32 c.toNat + y))) 12 0 = -1 then K (0, some (0, w 29 5)) (zCs (zsft (zkC w) x y 12) w) 238 else K (1, none) w 238 else K (2, none) w 238)) : zcall 169 [(2, 0), (0, x), (0, y)] w 238 K := by
  obtain ⟨hg, h⟩ := h
  refine (show (if x < (-1000000) then K (2, none) w 238 else if 1000000 < x then K (2, none) w 238 else if y < (-1000000) then K (2, none) w 238 else if 1000000 < y then K (2, none) w 238 else (zPC w ∧ (-1000000 ≤ x ∧ x ≤ 1000000) ∧ -1000000 ≤ y ∧ y ≤ 1000000) ∧ (if ((if zFi (fun c => w 33 c.toNat = 1 ∧ (zTf (w 31 c.toNat + x) ∨ zTf (w 32 c.toNat + y))) 12 0 = -1 then 1 else 0) : Int) = 0 then K (1, none) w 238 else (0 ≤ w 37 1 ∧ w 37 1 < 6) ∧ (((0 ≤ (zpcp w 29 (39 + 6 * (w 37 1).toNat)) 37 1 ∧ (zpcp w 29 (39 + 6 * (w 37 1).toNat)) 37 1 < 6) ∧ 0 ≤ (zpcp w 29 (39 + 6 * (w 37 1).toNat)) 37 2 ∧ (zpcp w 29 (39 + 6 * (w 37 1).toNat)) 37 2 ≤ 5) ∧ ((zPC (zkpc (zpcp w 29 (39 + 6 * (w 37 1).toNat))) ∧ (-1000000 ≤ x ∧ x ≤ 1000000) ∧ -1000000 ≤ y ∧ y ≤ 1000000) ∧ (K (0, some (0, (zkpc (zpcp w 29 (39 + 6 * (w 37 1).toNat))) 29 5)) (zsft (zkpc (zpcp w 29 (39 + 6 * (w 37 1).toNat))) x y 12) 238))))) → _ from fun h => show zwp 169 0 [(2, 0), (0, x), (0, y)] [] w 238 1 K from zgo_imp zT251_ok (cut := fun pc => Nat.beq pc 21 || Nat.beq pc 40 || Nat.beq pc 48 || Nat.beq pc 67 || Nat.beq pc 73 || Nat.beq pc 80 || Nat.beq pc 89) 400 (show if x < (-1000000) then K (2, none) w 238 else if 1000000 < x then K (2, none) w 238 else if y < (-1000000) then K (2, none) w 238 else zwp 169 21 [(2, 0), (0, x), (0, y)] [] w 238 1 K from zmI (fun h => h) (fun h => zmI (fun h => h) (fun h => zmI (fun h => h) (fun h => (fun h => show zwp 169 21 [(2, 0), (0, x), (0, y)] [] w 238 1 K from zgo_imp zT251_ok (cut := fun pc => Nat.beq pc 21 || Nat.beq pc 40 || Nat.beq pc 48 || Nat.beq pc 67 || Nat.beq pc 73 || Nat.beq pc 80 || Nat.beq pc 89) 400 (show if 1000000 < y then K (2, none) w 238 else zwp 169 40 [(2, 0), (0, x), (0, y)] [(2, 0)] w 238 1 K from zmI (fun h => h) (fun h => (fun h => show zwp 169 40 [(2, 0), (0, x), (0, y)] [(2, 0)] w 238 1 K from zgo_imp zT251_ok (cut := fun pc => Nat.beq pc 21 || Nat.beq pc 40 || Nat.beq pc 48 || Nat.beq pc 67 || Nat.beq pc 73 || Nat.beq pc 80 || Nat.beq pc 89) 400 (show (zPC w ∧ (-1000000 ≤ x ∧ x ≤ 1000000) ∧ -1000000 ≤ y ∧ y ≤ 1000000) ∧ (zwp 169 48 [(2, 0), (0, x), (0, y)] [(0, ((if zFi (fun c => w 33 c.toNat = 1 ∧ (zTf (w 31 c.toNat + x) ∨ zTf (w 32 c.toNat + y))) 12 0 = -1 then 1 else 0) : Int))] w 238 1 K) from zmA (fun h => (fun h => show zwp 169 48 [(2, 0), (0, x), (0, y)] [(0, ((if zFi (fun c => w 33 c.toNat = 1 ∧ (zTf (w 31 c.toNat + x) ∨ zTf (w 32 c.toNat + y))) 12 0 = -1 then 1 else 0) : Int))] w 238 1 K from zgo_imp zT251_ok (cut := fun pc => Nat.beq pc 21 || Nat.beq pc 40 || Nat.beq pc 48 || Nat.beq pc 67 || Nat.beq pc 73 || Nat.beq pc 80 || Nat.beq pc 89) 400 (show if ((if zFi (fun c => w 33 c.toNat = 1 ∧ (zTf (w 31 c.toNat + x) ∨ zTf (w 32 c.toNat + y))) 12 0 = -1 then 1 else 0) : Int) = 0 then K (1, none) w 238 else zwp 169 67 [(2, 0), (0, x), (0, y)] [(2, 0), (2, 37)] w 238 1 K from zmI (fun h => h) (fun h => (fun h => show zwp 169 67 [(2, 0), (0, x), (0, y)] [(2, 0), (2, 37)] w 238 1 K from zgo_imp zT251_ok (cut := fun pc => Nat.beq pc 21 || Nat.beq pc 40 || Nat.beq pc 48 || Nat.beq pc 67 || Nat.beq pc 73 || Nat.beq pc 80 || Nat.beq pc 89) 400 (show (0 ≤ w 37 1 ∧ w 37 1 < 6) ∧ (zwp 169 73 [(2, 0), (0, x), (0, y)] [] (zpcp w 29 (39 + 6 * (w 37 1).toNat)) 238 1 K) from zmA (fun h => (fun h => show zwp 169 73 [(2, 0), (0, x), (0, y)] [] (zpcp w 29 (39 + 6 * (w 37 1).toNat)) 238 1 K from zgo_imp zT251_ok (cut := fun pc => Nat.beq pc 21 || Nat.beq pc 40 || Nat.beq pc 48 || Nat.beq pc 67 || Nat.beq pc 73 || Nat.beq pc 80 || Nat.beq pc 89) 400 (show ((0 ≤ (zpcp w 29 (39 + 6 * (w 37 1).toNat)) 37 1 ∧ (zpcp w 29 (39 + 6 * (w 37 1).toNat)) 37 1 < 6) ∧ 0 ≤ (zpcp w 29 (39 + 6 * (w 37 1).toNat)) 37 2 ∧ (zpcp w 29 (39 + 6 * (w 37 1).toNat)) 37 2 ≤ 5) ∧ (zwp 169 80 [(2, 0), (0, x), (0, y)] [] (zkpc (zpcp w 29 (39 + 6 * (w 37 1).toNat))) 238 1 K) from zmA (fun h => (fun h => show zwp 169 80 [(2, 0), (0, x), (0, y)] [] (zkpc (zpcp w 29 (39 + 6 * (w 37 1).toNat))) 238 1 K from zgo_imp zT251_ok (cut := fun pc => Nat.beq pc 21 || Nat.beq pc 40 || Nat.beq pc 48 || Nat.beq pc 67 || Nat.beq pc 73 || Nat.beq pc 80 || Nat.beq pc 89) 400 (show (zPC (zkpc (zpcp w 29 (39 + 6 * (w 37 1).toNat))) ∧ (-1000000 ≤ x ∧ x ≤ 1000000) ∧ -1000000 ≤ y ∧ y ≤ 1000000) ∧ (zwp 169 89 [(2, 0), (0, x), (0, y)] [] (zsft (zkpc (zpcp w 29 (39 + 6 * (w 37 1).toNat))) x y 12) 238 1 K) from zmA (fun h => (fun h => show zwp 169 89 [(2, 0), (0, x), (0, y)] [] (zsft (zkpc (zpcp w 29 (39 + 6 * (w 37 1).toNat))) x y 12) 238 1 K from zgo_imp zT251_ok (cut := fun pc => Nat.beq pc 21 || Nat.beq pc 40 || Nat.beq pc 48 || Nat.beq pc 67 || Nat.beq pc 73 || Nat.beq pc 80 || Nat.beq pc 89) 400 (show K (0, some (0, (zkpc (zpcp w 29 (39 + 6 * (w 37 1).toNat))) 29 5)) (zsft (zkpc (zpcp w 29 (39 + 6 * (w 37 1).toNat))) x y 12) 238 from h)) h) h)) h) h)) h) h)) h) h)) h) h)) h) h)) h) h) h) h)) ?_
  obtain ⟨hP, hH⟩ := hg
  by_cases hc : (-1000000 ≤ x ∧ x ≤ 1000000) ∧ -1000000 ≤ y ∧ y ≤ 1000000
  · rw [if_pos hc] at h
    refine ziF (by omega) (ziF (by omega) (ziF (by omega) (ziF (by omega) ⟨⟨hP, hc⟩, ?_⟩)))
    by_cases hr : zFi (fun c => w 33 c.toNat = 1 ∧ (zTf (w 31 c.toNat + x) ∨ zTf (w 32 c.toNat + y))) 12 0 = -1
    · rw [if_pos hr, zCs_e (fun p hp => by unfold zsft; rw [zset_ne (by omega), zset_ne (by omega), zkC_ne hH (by omega)])] at h
      refine ziF (by rw [if_pos hr]; decide) (zkeepI hH ⟨⟨zkC_pc hH hP, hc⟩, ?_⟩)
      rw [zkC_30 hH (p := 29) (by decide)]
      exact h
    · rw [if_neg hr] at h
      exact ziT (if_neg hr) h
  · rw [if_neg hc] at h
    by_cases q1 : x < -1000000
    · exact ziT q1 h
    · refine ziF q1 ?_
      by_cases q2 : 1000000 < x
      · exact ziT q2 h
      · refine ziF q2 ?_
        by_cases q3 : y < -1000000
        · exact ziT q3 h
        · exact ziF q3 (ziT (by omega) h)
noncomputable def zb169b (l0 : List zV) (w : zW) (K : zK) : Prop := cond (zis0 (zar l0 0)) (zA l0 1 fun x => zA l0 2 fun y => (zPC w ∧ zHr w) ∧ (if (-1000000 ≤ x ∧ x ≤ 1000000) ∧ -1000000 ≤ y ∧ y ≤ 1000000 then if zFi (fun c => w 33 c.toNat = 1 ∧ (zTf (w 31 c.toNat + x) ∨ zTf (w 32 c.toNat + y))) 12 0 = -1 then K (0, some (0, w 29 5)) (zCs (zsft (zkC w) x y 12) w) 238 else K (1, none) w 238 else K (2, none) w 238)) False
noncomputable def zT252 : zSum := zsm1 169 [2, 0, 0] zb169b zT251
theorem zT252_ok : zSok zT252 := zsm1_ok zT251_ok fun l0 w K h => by
  unfold zb169b at h
  cases q0 : zis0 (zar l0 0) with
  | true =>
    rw [q0, cond_true] at h
    have e : zar l0 0 = 0 := zis0_e q0
    show zcall 169 [(2, zar l0 0), (0, zar l0 1), (0, zar l0 2)] w 238 K
    rw [e]
    exact zk169b (zar l0 1) (zar l0 2) w K (zA_e (zA_e h))
  | false =>
    rw [q0, cond_false] at h
    exact h.elim
/-! .turn -/
set_option maxRecDepth 100000 in
theorem zk170b (w : zW) (K : zK) (h : (zPC w ∧ zHr w) ∧ (K (0, some (0, w 29 5)) (zCs (ztn (zkC w) 12) w) 238)) : zcall 170 [(2, 0)] w 238 K := by
  obtain ⟨hg, h⟩ := h
  refine (show ((0 ≤ w 37 1 ∧ w 37 1 < 6) ∧ (((0 ≤ (zpcp w 29 (39 + 6 * (w 37 1).toNat)) 37 1 ∧ (zpcp w 29 (39 + 6 * (w 37 1).toNat)) 37 1 < 6) ∧ 0 ≤ (zpcp w 29 (39 + 6 * (w 37 1).toNat)) 37 2 ∧ (zpcp w 29 (39 + 6 * (w 37 1).toNat)) 37 2 ≤ 5) ∧ ((zPC (zkpc (zpcp w 29 (39 + 6 * (w 37 1).toNat)))) ∧ (K (0, some (0, (zkpc (zpcp w 29 (39 + 6 * (w 37 1).toNat))) 29 5)) (ztn (zkpc (zpcp w 29 (39 + 6 * (w 37 1).toNat))) 12) 238)))) → _ from fun h => show zwp 170 0 [(2, 0)] [] w 238 0 K from zgo_imp zT252_ok (cut := fun pc => Nat.beq pc 11 || Nat.beq pc 18 || Nat.beq pc 25) 400 (show (0 ≤ w 37 1 ∧ w 37 1 < 6) ∧ (zwp 170 11 [(2, 0)] [] (zpcp w 29 (39 + 6 * (w 37 1).toNat)) 238 0 K) from zmA (fun h => (fun h => show zwp 170 11 [(2, 0)] [] (zpcp w 29 (39 + 6 * (w 37 1).toNat)) 238 0 K from zgo_imp zT252_ok (cut := fun pc => Nat.beq pc 11 || Nat.beq pc 18 || Nat.beq pc 25) 400 (show ((0 ≤ (zpcp w 29 (39 + 6 * (w 37 1).toNat)) 37 1 ∧ (zpcp w 29 (39 + 6 * (w 37 1).toNat)) 37 1 < 6) ∧ 0 ≤ (zpcp w 29 (39 + 6 * (w 37 1).toNat)) 37 2 ∧ (zpcp w 29 (39 + 6 * (w 37 1).toNat)) 37 2 ≤ 5) ∧ (zwp 170 18 [(2, 0)] [] (zkpc (zpcp w 29 (39 + 6 * (w 37 1).toNat))) 238 0 K) from zmA (fun h => (fun h => show zwp 170 18 [(2, 0)] [] (zkpc (zpcp w 29 (39 + 6 * (w 37 1).toNat))) 238 0 K from zgo_imp zT252_ok (cut := fun pc => Nat.beq pc 11 || Nat.beq pc 18 || Nat.beq pc 25) 400 (show (zPC (zkpc (zpcp w 29 (39 + 6 * (w 37 1).toNat)))) ∧ (zwp 170 25 [(2, 0)] [] (ztn (zkpc (zpcp w 29 (39 + 6 * (w 37 1).toNat))) 12) 238 0 K) from zmA (fun h => (fun h => show zwp 170 25 [(2, 0)] [] (ztn (zkpc (zpcp w 29 (39 + 6 * (w 37 1).toNat))) 12) 238 0 K from zgo_imp zT252_ok (cut := fun pc => Nat.beq pc 11 || Nat.beq pc 18 || Nat.beq pc 25) 400 (show K (0, some (0, (zkpc (zpcp w 29 (39 + 6 * (w 37 1).toNat))) 29 5)) (ztn (zkpc (zpcp w 29 (39 + 6 * (w 37 1).toNat))) 12) 238 from h)) h) h)) h) h)) h) h)) ?_
  obtain ⟨hP, hH⟩ := hg
  rw [zCs_e (fun p hp => by rw [ztn_ne (by omega) (by omega), zkC_ne hH (by omega)])] at h
  refine zkeepI hH ⟨zkC_pc hH hP, ?_⟩
  rw [zkC_30 hH (p := 29) (by decide)]
  exact h
noncomputable def zb170b (l0 : List zV) (w : zW) (K : zK) : Prop := cond (zis0 (zar l0 0)) ((zPC w ∧ zHr w) ∧ (K (0, some (0, w 29 5)) (zCs (ztn (zkC w) 12) w) 238)) False
noncomputable def zT253 : zSum := zsm1 170 [2] zb170b zT252
theorem zT253_ok : zSok zT253 := zsm1_ok zT252_ok fun l0 w K h => by
  unfold zb170b at h
  cases q0 : zis0 (zar l0 0) with
  | true =>
    rw [q0, cond_true] at h
    have e : zar l0 0 = 0 := zis0_e q0
    show zcall 170 [(2, zar l0 0)] w 238 K
    rw [e]
    exact zk170b  w K h
  | false =>
    rw [q0, cond_false] at h
    exact h.elim

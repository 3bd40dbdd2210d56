/-! ===== the class reads a net (written by wip/whole/gen_c.py) ===== -/
def zsf (w : zW) (x : Int) : zW := zfill w 19 fun j => if j < 144 then x else w 19 j
def zsi (w : zW) (x i : Int) : zW := zfill w 19 fun j => if (j : Int) < i then x else w 19 j
theorem zsi_0 (w : zW) (x : Int) : zsi w x 0 = w := by
  refine (congrArg (zfill w 19) (funext fun k => ?_)).trans (zfill_self w 19)
  exact if_neg (by omega)
theorem zsi_up {w : zW} {x i : Int} (i0 : 0 ≤ i) : zupd (zsi w x i) 19 i.toNat x = zsi w x (i + 1) := by
  funext q k
  by_cases e : q = 19
  · rw [e]
    show (if k = i.toNat then x else if (k : Int) < i then x else w 19 k) = if (k : Int) < i + 1 then x else w 19 k
    by_cases e2 : k = i.toNat
    · rw [if_pos e2, if_pos (by omega)]
    · rw [if_neg e2]
      by_cases e3 : (k : Int) < i
      · rw [if_pos e3, if_pos (by omega)]
      · rw [if_neg e3, if_neg (by omega)]
  · unfold zsi
    rw [zune e, zfill_no e, zfill_no e]
theorem zsi_e (w : zW) (x : Int) : zsi w x 144 = zsf w x := by
  refine congrArg (zfill w 19) (funext fun k => ?_)
  show (if (k : Int) < 144 then x else w 19 k) = if k < 144 then x else w 19 k
  by_cases e : k < 144
  · rw [if_pos e, if_pos (by omega)]
  · rw [if_neg e, if_neg (by omega)]
set_option maxRecDepth 100000 in
theorem zk348_L5 {w : zW} {K : zK} (x : Int)  : ∀ (m : Nat) (i : Int), (0 ≤ i) → (i + m = 144) → (K (0, none) (zsf w x) 238) → zwp 348 5 [(2, 19), (0, x), (0, i), (0, 144)] [] (zsi w x i) 238 0 K := by
  
  intro m
  induction m with
  | zero =>
    intro i  h1 h2 h
    refine (show (if i < 144 then zif False (0 ≤ i ∧ i < 144) (zwp 348 5 [(2, 19), (0, x), (0, z32 (i + 1)), (0, 144)] [] (zupd (zsi w x i) 19 i.toNat x) 238 0 K) else K (0, none) (zsi w x i) 238) → _ from fun h => show zwp 348 5 [(2, 19), (0, x), (0, i), (0, 144)] [] (zsi w x i) 238 0 K from zgo_imp zT202_ok (cut := fun pc => Nat.beq pc 5 || Nat.beq pc 11) 400 (show if i < 144 then zwp 348 11 [(2, 19), (0, x), (0, i), (0, 144)] [(2, 19)] (zsi w x i) 238 0 K else K (0, none) (zsi w x i) 238 from zmI (fun h => (fun h => show zwp 348 11 [(2, 19), (0, x), (0, i), (0, 144)] [(2, 19)] (zsi w x i) 238 0 K from zgo_imp zT202_ok (cut := fun pc => Nat.beq pc 5 || Nat.beq pc 11) 400 (show zif False (0 ≤ i ∧ i < 144) (zwp 348 5 [(2, 19), (0, x), (0, z32 (i + 1)), (0, 144)] [] (zupd (zsi w x i) 19 i.toNat x) 238 0 K) from h)) h) (fun h => h) h)) ?_
    rw [show i = 144 by omega, zsi_e]
    exact ziF (by decide) h
  | succ m ih =>
    intro i  h1 h2 h
    refine (show (if i < 144 then zif False (0 ≤ i ∧ i < 144) (zwp 348 5 [(2, 19), (0, x), (0, z32 (i + 1)), (0, 144)] [] (zupd (zsi w x i) 19 i.toNat x) 238 0 K) else K (0, none) (zsi w x i) 238) → _ from fun h => show zwp 348 5 [(2, 19), (0, x), (0, i), (0, 144)] [] (zsi w x i) 238 0 K from zgo_imp zT202_ok (cut := fun pc => Nat.beq pc 5 || Nat.beq pc 11) 400 (show if i < 144 then zwp 348 11 [(2, 19), (0, x), (0, i), (0, 144)] [(2, 19)] (zsi w x i) 238 0 K else K (0, none) (zsi w x i) 238 from zmI (fun h => (fun h => show zwp 348 11 [(2, 19), (0, x), (0, i), (0, 144)] [(2, 19)] (zsi w x i) 238 0 K from zgo_imp zT202_ok (cut := fun pc => Nat.beq pc 5 || Nat.beq pc 11) 400 (show zif False (0 ≤ i ∧ i < 144) (zwp 348 5 [(2, 19), (0, x), (0, z32 (i + 1)), (0, 144)] [] (zupd (zsi w x i) 19 i.toNat x) 238 0 K) from h)) h) (fun h => h) h)) ?_
    rw [z32_id (x := i + 1) ⟨by omega, by omega⟩, zsi_up h1]
    exact ziT (by omega) (zifI (by omega) (ih (i + 1) (by omega) (by omega) h))
/-! java/util/Arrays.fill -/
set_option maxRecDepth 100000 in
theorem zk348_19 (x : Int) (w : zW) (K : zK) (h : K (0, none) (zsf w x) 238) : zcall 348 [(2, 19), (0, x), (9, 0), (9, 0)] w 238 K := by
  refine (show (zwp 348 5 [(2, 19), (0, x), (0, 0), (0, 144)] [] w 238 0 K) → _ from fun h => show zwp 348 0 [(2, 19), (0, x), (9, 0), (9, 0)] [] w 238 0 K from zgo_imp zT202_ok (cut := fun pc => Nat.beq pc 5 || Nat.beq pc 11) 400 (show zwp 348 5 [(2, 19), (0, x), (0, 0), (0, 144)] [] w 238 0 K from h)) ?_
  have := zk348_L5 (w := w) (K := K) x 144 0 (by decide) (by decide) h
  rw [zsi_0] at this
  exact this
noncomputable def zb348 (l0 : List zV) (w : zW) (K : zK) : Prop := cond (zpe (zar l0 0) 19) (zA l0 1 fun x => K (0, none) (zsf w x) 238) (False)
noncomputable def zT203 : zSum := zsm1 348 [2, 0, 9, 9] zb348 zT202
theorem zT203_ok : zSok zT203 := zsm1_ok zT202_ok fun l0 w K h => by
  unfold zb348 at h
  cases q0 : zpe (zar l0 0) 19 with
  | true =>
    rw [q0, cond_true] at h
    have e : zar l0 0 = 19 := zpe_e q0
    show zcall 348 [(2, zar l0 0), (0, zar l0 1), (9, 0), (9, 0)] w 238 K
    rw [e]
    exact zk348_19 (zar l0 1) w K (zA_e h)
  | false =>
  rw [q0, cond_false] at h
  exact h.elim
noncomputable def zT204 : zSum := zin1 22 400 zT203
theorem zT204_ok : zSok zT204 := zin1_ok zT203_ok
noncomputable def zT205 : zSum := zin1 108 400 zT204
theorem zT205_ok : zSok zT205 := zin1_ok zT204_ok
noncomputable def zT206 : zSum := zin1 23 400 zT205
theorem zT206_ok : zSok zT206 := zin1_ok zT205_ok
noncomputable def zT207 : zSum := zin1 5 400 zT206
theorem zT207_ok : zSok zT207 := zin1_ok zT206_ok
def zbgf (w : zW) (c : Int) (k : Nat) : Int := if (k : Int) < c then (if 0 < w 7 k then w 7 k else w 4 2) else w 30 k
def zbeg (w : zW) : zW := zclr (zfill w 30 (zbgf w 12))
theorem zbg_0 (w : zW) : zfill w 30 (zbgf w 0) = w := by
  refine (congrArg (zfill w 30) (funext fun k => ?_)).trans (zfill_self w 30)
  exact if_neg (by omega)
theorem zbg_up {w : zW} {c : Int} (c0 : 0 ≤ c) : zupd (zfill w 30 (zbgf w c)) 30 c.toNat (if 0 < w 7 c.toNat then w 7 c.toNat else w 4 2) = zfill w 30 (zbgf w (c + 1)) := by
  funext q k
  by_cases e : q = 30
  · rw [e]
    show (if k = c.toNat then (if 0 < w 7 c.toNat then w 7 c.toNat else w 4 2) else zbgf w c k) = zbgf w (c + 1) k
    unfold zbgf
    by_cases e2 : k = c.toNat
    · rw [if_pos e2, if_pos (show (k : Int) < c + 1 by omega), e2]
    · rw [if_neg e2]
      by_cases e3 : (k : Int) < c
      · rw [if_pos e3, if_pos (show (k : Int) < c + 1 by omega)]
      · rw [if_neg e3, if_neg (show ¬ (k : Int) < c + 1 by omega)]
  · rw [zune e, zfill_no e, zfill_no e]
set_option maxRecDepth 100000 in
theorem zk52_L2 {w : zW} {K : zK}   : ∀ (m : Nat) (c : Int), (0 ≤ c) → (c + m = 12) → (K (0, none) (zbeg w) 238) → zwp 52 2 [(2, 29), (2, 4), (0, c)] [] (zfill w 30 (zbgf w c)) 238 0 K := by
  
  intro m
  induction m with
  | zero =>
    intro c  h1 h2 h
    refine (show (if c < 12 then zif False (0 ≤ c ∧ c < 12) (zif False (0 ≤ c ∧ c < 12) (zwp 52 2 [(2, 29), (2, 4), (0, z32 (c + 1))] [] (zupd (zfill w 30 (zbgf w c)) 30 c.toNat ((if 0 < w 7 c.toNat then w 7 c.toNat else (w 4 2)) : Int)) 238 0 K)) else K (0, none) (zclr (zfill w 30 (zbgf w c))) 238) → _ from fun h => show zwp 52 2 [(2, 29), (2, 4), (0, c)] [] (zfill w 30 (zbgf w c)) 238 0 K from zgo_imp zT207_ok (cut := fun pc => Nat.beq pc 2 || Nat.beq pc 14 || Nat.beq pc 18 || Nat.beq pc 29) 400 (show if c < 12 then zwp 52 14 [(2, 29), (2, 4), (0, c)] [(2, 4), (0, c), (2, 30)] (zfill w 30 (zbgf w c)) 238 0 K else zwp 52 29 [(2, 29), (2, 4), (0, c)] [] (zclr (zfill w 30 (zbgf w c))) 238 0 K from zmI (fun h => (fun h => show zwp 52 14 [(2, 29), (2, 4), (0, c)] [(2, 4), (0, c), (2, 30)] (zfill w 30 (zbgf w c)) 238 0 K from zgo_imp zT207_ok (cut := fun pc => Nat.beq pc 2 || Nat.beq pc 14 || Nat.beq pc 18 || Nat.beq pc 29) 400 (show zif False (0 ≤ c ∧ c < 12) (zwp 52 18 [(2, 29), (2, 4), (0, c)] [(0, ((if 0 < w 7 c.toNat then w 7 c.toNat else (w 4 2)) : Int)), (0, c), (2, 30)] (zfill w 30 (zbgf w c)) 238 0 K) from zmZ (fun h => (fun h => show zwp 52 18 [(2, 29), (2, 4), (0, c)] [(0, ((if 0 < w 7 c.toNat then w 7 c.toNat else (w 4 2)) : Int)), (0, c), (2, 30)] (zfill w 30 (zbgf w c)) 238 0 K from zgo_imp zT207_ok (cut := fun pc => Nat.beq pc 2 || Nat.beq pc 14 || Nat.beq pc 18 || Nat.beq pc 29) 400 (show zif False (0 ≤ c ∧ c < 12) (zwp 52 2 [(2, 29), (2, 4), (0, z32 (c + 1))] [] (zupd (zfill w 30 (zbgf w c)) 30 c.toNat ((if 0 < w 7 c.toNat then w 7 c.toNat else (w 4 2)) : Int)) 238 0 K) from h)) h) h)) h) (fun h => (fun h => show zwp 52 29 [(2, 29), (2, 4), (0, c)] [] (zclr (zfill w 30 (zbgf w c))) 238 0 K from zgo_imp zT207_ok (cut := fun pc => Nat.beq pc 2 || Nat.beq pc 14 || Nat.beq pc 18 || Nat.beq pc 29) 400 (show K (0, none) (zclr (zfill w 30 (zbgf w c))) 238 from h)) h) h)) ?_
    rw [show c = 12 by omega]
    exact ziF (by decide) h
  | succ m ih =>
    intro c  h1 h2 h
    refine (show (if c < 12 then zif False (0 ≤ c ∧ c < 12) (zif False (0 ≤ c ∧ c < 12) (zwp 52 2 [(2, 29), (2, 4), (0, z32 (c + 1))] [] (zupd (zfill w 30 (zbgf w c)) 30 c.toNat ((if 0 < w 7 c.toNat then w 7 c.toNat else (w 4 2)) : Int)) 238 0 K)) else K (0, none) (zclr (zfill w 30 (zbgf w c))) 238) → _ from fun h => show zwp 52 2 [(2, 29), (2, 4), (0, c)] [] (zfill w 30 (zbgf w c)) 238 0 K from zgo_imp zT207_ok (cut := fun pc => Nat.beq pc 2 || Nat.beq pc 14 || Nat.beq pc 18 || Nat.beq pc 29) 400 (show if c < 12 then zwp 52 14 [(2, 29), (2, 4), (0, c)] [(2, 4), (0, c), (2, 30)] (zfill w 30 (zbgf w c)) 238 0 K else zwp 52 29 [(2, 29), (2, 4), (0, c)] [] (zclr (zfill w 30 (zbgf w c))) 238 0 K from zmI (fun h => (fun h => show zwp 52 14 [(2, 29), (2, 4), (0, c)] [(2, 4), (0, c), (2, 30)] (zfill w 30 (zbgf w c)) 238 0 K from zgo_imp zT207_ok (cut := fun pc => Nat.beq pc 2 || Nat.beq pc 14 || Nat.beq pc 18 || Nat.beq pc 29) 400 (show zif False (0 ≤ c ∧ c < 12) (zwp 52 18 [(2, 29), (2, 4), (0, c)] [(0, ((if 0 < w 7 c.toNat then w 7 c.toNat else (w 4 2)) : Int)), (0, c), (2, 30)] (zfill w 30 (zbgf w c)) 238 0 K) from zmZ (fun h => (fun h => show zwp 52 18 [(2, 29), (2, 4), (0, c)] [(0, ((if 0 < w 7 c.toNat then w 7 c.toNat else (w 4 2)) : Int)), (0, c), (2, 30)] (zfill w 30 (zbgf w c)) 238 0 K from zgo_imp zT207_ok (cut := fun pc => Nat.beq pc 2 || Nat.beq pc 14 || Nat.beq pc 18 || Nat.beq pc 29) 400 (show zif False (0 ≤ c ∧ c < 12) (zwp 52 2 [(2, 29), (2, 4), (0, z32 (c + 1))] [] (zupd (zfill w 30 (zbgf w c)) 30 c.toNat ((if 0 < w 7 c.toNat then w 7 c.toNat else (w 4 2)) : Int)) 238 0 K) from h)) h) h)) h) (fun h => (fun h => show zwp 52 29 [(2, 29), (2, 4), (0, c)] [] (zclr (zfill w 30 (zbgf w c))) 238 0 K from zgo_imp zT207_ok (cut := fun pc => Nat.beq pc 2 || Nat.beq pc 14 || Nat.beq pc 18 || Nat.beq pc 29) 400 (show K (0, none) (zclr (zfill w 30 (zbgf w c))) 238 from h)) h) h)) ?_
    rw [z32_id (x := c + 1) ⟨by omega, by omega⟩]
    refine ziT (by omega) (zifI (by omega) (zifI (by omega) ?_))
    rw [zbg_up h1]
    exact ih (c + 1) (by omega) (by omega) h
set_option maxRecDepth 100000 in
theorem zk52_29 (w : zW) (K : zK) (h : K (0, none) (zbeg w) 238) : zcall 52 [(2, 29), (2, 4), (9, 0)] w 238 K := by
  refine (show (zwp 52 2 [(2, 29), (2, 4), (0, 0)] [] w 238 0 K) → _ from fun h => show zwp 52 0 [(2, 29), (2, 4), (9, 0)] [] w 238 0 K from zgo_imp zT207_ok (cut := fun pc => Nat.beq pc 2 || Nat.beq pc 14 || Nat.beq pc 18 || Nat.beq pc 29) 400 (show zwp 52 2 [(2, 29), (2, 4), (0, 0)] [] w 238 0 K from h)) ?_
  have := zk52_L2 (w := w) (K := K) 12 0 (by decide) (by decide) h
  rw [zbg_0] at this
  exact this
noncomputable def zb52 (l0 : List zV) (w : zW) (K : zK) : Prop := cond (zpe (zar l0 0) 29) (cond (zpe (zar l0 1) 4) (K (0, none) (zbeg w) 238) False) False
noncomputable def zT208 : zSum := zsm1 52 [2, 2, 9] zb52 zT207
theorem zT208_ok : zSok zT208 := zsm1_ok zT207_ok fun l0 w K h => by
  unfold zb52 at h
  cases q0 : zpe (zar l0 0) 29 with
  | false => rw [q0, cond_false] at h; exact h.elim
  | true =>
    rw [q0, cond_true] at h
    cases q1 : zpe (zar l0 1) 4 with
    | false => rw [q1, cond_false] at h; exact h.elim
    | true =>
      rw [q1, cond_true] at h
      have e0 : zar l0 0 = 29 := zpe_e q0
      have e1 : zar l0 1 = 4 := zpe_e q1
      show zcall 52 [(2, zar l0 0), (2, zar l0 1), (9, 0)] w 238 K
      rw [e0, e1]
      exact zk52_29 w K h
/-! $Net.arrange -/
set_option maxRecDepth 100000 in
theorem zk40_14 (w : zW) (K : zK) (h : (zCT w) ∧ ((∀ v : zW, ((∀ p : Nat, p ≠ 20 → p ≠ 21 → p ≠ 22 → v p = w p) ∧ (zFi (fun c => zLn (zTC w) (w 14 0) c ≠ zNb (zTC w) (w 14 0) c) (w 14 0).toNat 0 = -1 → ∀ d, 0 ≤ d → d < w 14 0 → zRf (zTC w) (w 14 0) v d)) → (K (0, some (0, (if zFi (fun c => zLn (zTC w) (w 14 0) c ≠ zNb (zTC w) (w 14 0) c) (w 14 0).toNat 0 = -1 then 1 else 0))) (v) 238)))) : zcall 40 [(2, 14), (9, 0)] w 238 K := by
  obtain ⟨hg, h⟩ := h
  refine (show (zwp 40 2 [(2, 14), (0, 0)] [] w 238 0 K) → _ from fun h => show zwp 40 0 [(2, 14), (9, 0)] [] w 238 0 K from zgo_imp zT208_ok (cut := fun pc => Nat.beq pc 2 || Nat.beq pc 15) 400 (show zwp 40 2 [(2, 14), (0, 0)] [] w 238 0 K from h)) ?_
  have hn := hg.1
  refine zk40_L2 (zTC w) (w 14 0) (w 14 0).toNat 0 w hg rfl rfl (by decide) (by omega) (fun d d0 d1 => by omega) ?_
  by_cases g : zFi (fun c => zLn (zTC w) (w 14 0) c ≠ zNb (zTC w) (w 14 0) c) (w 14 0).toNat 0 = -1
  · rw [if_pos g]
    rw [if_pos g] at h
    exact fun v f1 f2 => h v ⟨f1, fun _ => f2⟩
  · rw [if_neg g]
    rw [if_neg g] at h
    exact fun v f1 => h v ⟨f1, fun q => (g q).elim⟩
noncomputable def zb40 (l0 : List zV) (w : zW) (K : zK) : Prop := cond (zpe (zar l0 0) 14) ((zCT w) ∧ ((∀ v : zW, ((∀ p : Nat, p ≠ 20 → p ≠ 21 → p ≠ 22 → v p = w p) ∧ (zFi (fun c => zLn (zTC w) (w 14 0) c ≠ zNb (zTC w) (w 14 0) c) (w 14 0).toNat 0 = -1 → ∀ d, 0 ≤ d → d < w 14 0 → zRf (zTC w) (w 14 0) v d)) → (K (0, some (0, (if zFi (fun c => zLn (zTC w) (w 14 0) c ≠ zNb (zTC w) (w 14 0) c) (w 14 0).toNat 0 = -1 then 1 else 0))) (v) 238)))) (False)
noncomputable def zT209 : zSum := zsm1 40 [2, 9] zb40 zT208
theorem zT209_ok : zSok zT209 := zsm1_ok zT208_ok fun l0 w K h => by
  unfold zb40 at h
  cases q0 : zpe (zar l0 0) 14 with
  | true =>
    rw [q0, cond_true] at h
    have e : zar l0 0 = 14 := zpe_e q0
    show zcall 40 [(2, zar l0 0), (9, 0)] w 238 K
    rw [e]
    exact zk40_14  w K h
  | false =>
  rw [q0, cond_false] at h
  exact h.elim
/-- the class, about to read a net's first statement -/
def zcl0 (w : zW) : zW := zad (zupd (zupd (zupd (zupd (zupd (zsf (zupd (zupd (zupd w 14 0 0) 14 1 0) 14 2 1000) (-1)) 13 2 0) 13 3 0) 3 7 0) 3 8 (-1)) 3 3 0)
abbrev zAll (w : zW) : Prop := zFi (fun c => zLn (zTC w) (w 14 0) c ≠ zNb (zTC w) (w 14 0) c) (w 14 0).toNat 0 = -1
def zRows (w v : zW) : Prop := (∀ p : Nat, p ≠ 20 → p ≠ 21 → p ≠ 22 → v p = w p) ∧ (zAll w → ∀ d, 0 ≤ d → d < w 14 0 → zRf (zTC w) (w 14 0) v d)
set_option maxRecDepth 100000 in
theorem zk46_B81 {w : zW} {K : zK}  (hC : zCT w) (d1 : zV) (h : ∀ v : zW, zRows w v → if zAll w then K (0, some (0, 1)) v 238 else K (0, some (0, 0)) (zfl v 6) 238) : zwp 46 81 [(2, 13), d1] [] w 238 0 K := by
  revert h
  intro h
  refine (show ((zCT w) ∧ (∀ v5 : zW, ((∀ p : Nat, p ≠ 20 → p ≠ 21 → p ≠ 22 → v5 p = w p) ∧ (zFi (fun c => zLn (zTC w) (w 14 0) c ≠ zNb (zTC w) (w 14 0) c) (w 14 0).toNat 0 = -1 → ∀ d, 0 ≤ d → d < w 14 0 → zRf (zTC w) (w 14 0) v5 d)) → (if ((if zFi (fun c => zLn (zTC w) (w 14 0) c ≠ zNb (zTC w) (w 14 0) c) (w 14 0).toNat 0 = -1 then 1 else 0) : Int) = 0 then K (0, some (0, 0)) (zupd (zupd v5 3 7 6) 3 8 (v5 3 2)) 238 else K (0, some (0, 1)) v5 238))) → _ from fun h => show zwp 46 81 [(2, 13), d1] [] w 238 0 K from zgo_imp zT209_ok (cut := fun pc => Nat.beq pc 7 || Nat.beq pc 24 || Nat.beq pc 41 || Nat.beq pc 48 || Nat.beq pc 60 || Nat.beq pc 75 || Nat.beq pc 88 || Nat.beq pc 100) 400 (show (zCT w) ∧ (∀ v5 : zW, ((∀ p : Nat, p ≠ 20 → p ≠ 21 → p ≠ 22 → v5 p = w p) ∧ (zFi (fun c => zLn (zTC w) (w 14 0) c ≠ zNb (zTC w) (w 14 0) c) (w 14 0).toNat 0 = -1 → ∀ d, 0 ≤ d → d < w 14 0 → zRf (zTC w) (w 14 0) v5 d)) → (zwp 46 88 [(2, 13), (9, 0)] [(0, ((if zFi (fun c => zLn (zTC w) (w 14 0) c ≠ zNb (zTC w) (w 14 0) c) (w 14 0).toNat 0 = -1 then 1 else 0) : Int))] v5 238 0 K)) from zmA (fun h => fun v5 hq => (fun h => (fun h => show zwp 46 88 [(2, 13), (9, 0)] [(0, ((if zFi (fun c => zLn (zTC w) (w 14 0) c ≠ zNb (zTC w) (w 14 0) c) (w 14 0).toNat 0 = -1 then 1 else 0) : Int))] v5 238 0 K from zgo_imp zT209_ok (cut := fun pc => Nat.beq pc 7 || Nat.beq pc 24 || Nat.beq pc 41 || Nat.beq pc 48 || Nat.beq pc 60 || Nat.beq pc 75 || Nat.beq pc 88 || Nat.beq pc 100) 400 (show if ((if zFi (fun c => zLn (zTC w) (w 14 0) c ≠ zNb (zTC w) (w 14 0) c) (w 14 0).toNat 0 = -1 then 1 else 0) : Int) = 0 then zwp 46 100 [(2, 13), (9, 0)] [(0, 0)] (zupd (zupd v5 3 7 6) 3 8 (v5 3 2)) 238 0 K else K (0, some (0, 1)) v5 238 from zmI (fun h => (fun h => show zwp 46 100 [(2, 13), (9, 0)] [(0, 0)] (zupd (zupd v5 3 7 6) 3 8 (v5 3 2)) 238 0 K from zgo_imp zT209_ok (cut := fun pc => Nat.beq pc 7 || Nat.beq pc 24 || Nat.beq pc 41 || Nat.beq pc 48 || Nat.beq pc 60 || Nat.beq pc 75 || Nat.beq pc 88 || Nat.beq pc 100) 400 (show K (0, some (0, 0)) (zupd (zupd v5 3 7 6) 3 8 (v5 3 2)) 238 from h)) h) (fun h => h) h)) h) (h v5 hq)) h)) ?_
  refine ⟨hC, fun v hv => ?_⟩
  have h2 := h v hv
  by_cases g : zAll w
  · rw [if_pos g] at h2
    exact ziF (by rw [if_pos g]; decide) h2
  · rw [if_neg g] at h2
    exact ziT (if_neg g) h2
/-! $NetReader.read -/
set_option maxRecDepth 100000 in
theorem zk46_13 (w : zW) (K : zK) (h : (((0 ≤ w 1 1 ∧ w 1 1 ≤ 800) ∧ zRp 800 (zcl0 w)) ∧ ((zRL 800 (zcl0 w)).1 ≠ 0 → zCT (zRL 800 (zcl0 w)).2)) ∧ (if (zRL 800 (zcl0 w)).1 = 0 then K (0, some (0, 0)) (zRL 800 (zcl0 w)).2 238 else ∀ v : zW, zRows (zRL 800 (zcl0 w)).2 v → (if zAll (zRL 800 (zcl0 w)).2 then K (0, some (0, 1)) v 238 else K (0, some (0, 0)) (zfl v 6) 238))) : zcall 46 [(2, 13), (9, 0)] w 238 K := by
  obtain ⟨⟨⟨hn, hp⟩, hC⟩, h⟩ := h
  refine (show (((0 ≤ (w 1 1) ∧ (w 1 1) ≤ 800) ∧ 0 ≤ (0 : Int) ∧ (0 : Int) ≤ (w 1 1)) ∧ (zwp 46 26 [(2, 13), (0, 0)] [] (zad (zupd (zupd (zupd (zupd (zupd (zsf (zupd (zupd (zupd w 14 0 0) 14 1 0) 14 2 1000) ((-1) : Int)) 13 2 0) 13 3 0) 3 7 0) 3 8 (-1)) 3 3 0)) 238 0 K)) → _ from fun h => show zwp 46 0 [(2, 13), (9, 0)] [] w 238 0 K from zgo_imp zT209_ok (cut := fun pc => Nat.beq pc 7 || Nat.beq pc 24 || Nat.beq pc 26 || Nat.beq pc 41 || Nat.beq pc 48 || Nat.beq pc 60 || Nat.beq pc 75 || Nat.beq pc 88 || Nat.beq pc 100) 400 (show zwp 46 7 [(2, 13), (9, 0)] [] (zsf (zupd (zupd (zupd w 14 0 0) 14 1 0) 14 2 1000) ((-1) : Int)) 238 0 K from (fun h => show zwp 46 7 [(2, 13), (9, 0)] [] (zsf (zupd (zupd (zupd w 14 0 0) 14 1 0) 14 2 1000) ((-1) : Int)) 238 0 K from zgo_imp zT209_ok (cut := fun pc => Nat.beq pc 7 || Nat.beq pc 24 || Nat.beq pc 26 || Nat.beq pc 41 || Nat.beq pc 48 || Nat.beq pc 60 || Nat.beq pc 75 || Nat.beq pc 88 || Nat.beq pc 100) 400 (show ((0 ≤ (w 1 1) ∧ (w 1 1) ≤ 800) ∧ 0 ≤ (0 : Int) ∧ (0 : Int) ≤ (w 1 1)) ∧ (zwp 46 24 [(2, 13), (9, 0)] [] (zad (zupd (zupd (zupd (zupd (zupd (zsf (zupd (zupd (zupd w 14 0 0) 14 1 0) 14 2 1000) ((-1) : Int)) 13 2 0) 13 3 0) 3 7 0) 3 8 (-1)) 3 3 0)) 238 0 K) from zmA (fun h => (fun h => show zwp 46 24 [(2, 13), (9, 0)] [] (zad (zupd (zupd (zupd (zupd (zupd (zsf (zupd (zupd (zupd w 14 0 0) 14 1 0) 14 2 1000) ((-1) : Int)) 13 2 0) 13 3 0) 3 7 0) 3 8 (-1)) 3 3 0)) 238 0 K from zgo_imp zT209_ok (cut := fun pc => Nat.beq pc 7 || Nat.beq pc 24 || Nat.beq pc 26 || Nat.beq pc 41 || Nat.beq pc 48 || Nat.beq pc 60 || Nat.beq pc 75 || Nat.beq pc 88 || Nat.beq pc 100) 400 (show zwp 46 26 [(2, 13), (0, 0)] [] (zad (zupd (zupd (zupd (zupd (zupd (zsf (zupd (zupd (zupd w 14 0 0) 14 1 0) 14 2 1000) ((-1) : Int)) 13 2 0) 13 3 0) 3 7 0) 3 8 (-1)) 3 3 0)) 238 0 K from h)) h) h)) h)) ?_
  refine ⟨⟨hn, by decide, hn.1⟩, ?_⟩
  refine zk46_L26 800 0 (zcl0 w) (by decide) (by decide) hp ?_
  by_cases g : (zRL 800 (zcl0 w)).1 = 0
  · rw [if_pos g] at h ⊢
    exact h
  · rw [if_neg g] at h ⊢
    exact fun d1 => zk46_B81 (hC g) d1 h
noncomputable def zb46 (l0 : List zV) (w : zW) (K : zK) : Prop := cond (zpe (zar l0 0) 13) ((((0 ≤ w 1 1 ∧ w 1 1 ≤ 800) ∧ zRp 800 (zcl0 w)) ∧ ((zRL 800 (zcl0 w)).1 ≠ 0 → zCT (zRL 800 (zcl0 w)).2)) ∧ (if (zRL 800 (zcl0 w)).1 = 0 then K (0, some (0, 0)) (zRL 800 (zcl0 w)).2 238 else ∀ v : zW, zRows (zRL 800 (zcl0 w)).2 v → (if zAll (zRL 800 (zcl0 w)).2 then K (0, some (0, 1)) v 238 else K (0, some (0, 0)) (zfl v 6) 238))) (False)
noncomputable def zT210 : zSum := zsm1 46 [2, 9] zb46 zT209
theorem zT210_ok : zSok zT210 := zsm1_ok zT209_ok fun l0 w K h => by
  unfold zb46 at h
  cases q0 : zpe (zar l0 0) 13 with
  | true =>
    rw [q0, cond_true] at h
    have e : zar l0 0 = 13 := zpe_e q0
    show zcall 46 [(2, zar l0 0), (9, 0)] w 238 K
    rw [e]
    exact zk46_13  w K h
  | false =>
  rw [q0, cond_false] at h
  exact h.elim
def zrdB (w : zW) : zW := zupd (zbeg w) 37 2 0
def zcpN (v : zW) : zW := zcopy (zcopy (zcopy (zcopy (zcopy (zcopy (zcopy (zcopy (zupd (zupd (zupd (zupd v 1 1 0) 4 0 ((zupd v 1 1 0) 14 0)) 4 1 ((zupd v 1 1 0) 14 1)) 4 2 ((zupd v 1 1 0) 14 2)) 15 5 12) 16 6 12) 17 7 12) 18 8 60) 19 9 144) 20 10 144) 21 11 12) 22 12 12
def zrdN (v : zW) : zW := zrdB (zcpN v)
set_option maxRecDepth 100000 in
theorem zk125_B44 {w : zW} {K : zK}   (h : K (0, some (0, w 13 2)) (zrdB w) 238) : zwp 125 44 [(2, 0), (0, 1)] [] w 238 1 K := by
  revert h
  intro h
  refine (show (K (0, some (0, w 13 2)) (zupd (zbeg w) 37 2 0) 238) → _ from fun h => show zwp 125 44 [(2, 0), (0, 1)] [] w 238 1 K from zgo_imp zT210_ok (cut := fun pc => Nat.beq pc 7 || Nat.beq pc 24 || Nat.beq pc 44 || Nat.beq pc 55 || Nat.beq pc 62) 400 (show zwp 125 55 [(2, 0), (0, 1)] [] (zbeg w) 238 1 K from (fun h => show zwp 125 55 [(2, 0), (0, 1)] [] (zbeg w) 238 1 K from zgo_imp zT210_ok (cut := fun pc => Nat.beq pc 7 || Nat.beq pc 24 || Nat.beq pc 44 || Nat.beq pc 55 || Nat.beq pc 62) 400 (show zwp 125 62 [(2, 0), (0, 1)] [] (zupd (zbeg w) 37 2 0) 238 1 K from (fun h => show zwp 125 62 [(2, 0), (0, 1)] [] (zupd (zbeg w) 37 2 0) 238 1 K from zgo_imp zT210_ok (cut := fun pc => Nat.beq pc 7 || Nat.beq pc 24 || Nat.beq pc 44 || Nat.beq pc 55 || Nat.beq pc 62) 400 (show K (0, some (0, w 13 2)) (zupd (zbeg w) 37 2 0) 238 from h)) h)) h)) ?_
  exact h
/-! .readNet -/
set_option maxRecDepth 100000 in
theorem zk125_0 (w : zW) (K : zK) (h : (((0 ≤ w 1 1 ∧ w 1 1 ≤ 800) ∧ zRp 800 (zcl0 w)) ∧ ((zRL 800 (zcl0 w)).1 ≠ 0 → zCT (zRL 800 (zcl0 w)).2)) ∧ (if (zRL 800 (zcl0 w)).1 = 0 then K (2, none) (zupd (zRL 800 (zcl0 w)).2 1 1 0) 238 else ∀ v : zW, zRows (zRL 800 (zcl0 w)).2 v → (if zAll (zRL 800 (zcl0 w)).2 then K (0, some (0, v 13 2)) (zrdN v) 238 else K (2, none) (zupd (zfl v 6) 1 1 0) 238))) : zcall 125 [(2, 0), (9, 0)] w 238 K := by
  obtain ⟨hp, h⟩ := h
  refine (show ((((0 ≤ w 1 1 ∧ w 1 1 ≤ 800) ∧ zRp 800 (zcl0 w)) ∧ ((zRL 800 (zcl0 w)).1 ≠ 0 → zCT (zRL 800 (zcl0 w)).2)) ∧ (if (zRL 800 (zcl0 w)).1 = 0 then K (2, none) (zupd ((zRL 800 (zcl0 w)).2) 1 1 0) 238 else ∀ v7 : zW, (zRows (zRL 800 (zcl0 w)).2 v7) → (if zAll (zRL 800 (zcl0 w)).2 then zwp 125 44 [(2, 0), (0, 1)] [] (zcopy (zcopy (zcopy (zcopy (zcopy (zcopy (zcopy (zcopy (zupd (zupd (zupd (zupd v7 1 1 0) 4 0 (v7 14 0)) 4 1 (v7 14 1)) 4 2 (v7 14 2)) 15 5 12) 16 6 12) 17 7 12) 18 8 60) 19 9 144) 20 10 144) 21 11 12) 22 12 12) 238 1 K else K (2, none) (zupd (zfl v7 6) 1 1 0) 238))) → _ from fun h => show zwp 125 0 [(2, 0), (9, 0)] [] w 238 1 K from zgo_imp zT210_ok (cut := fun pc => Nat.beq pc 7 || Nat.beq pc 24 || Nat.beq pc 44 || Nat.beq pc 55 || Nat.beq pc 62) 400 (show (((0 ≤ w 1 1 ∧ w 1 1 ≤ 800) ∧ zRp 800 (zcl0 w)) ∧ ((zRL 800 (zcl0 w)).1 ≠ 0 → zCT (zRL 800 (zcl0 w)).2)) ∧ (if (zRL 800 (zcl0 w)).1 = 0 then zwp 125 7 [(2, 0), (9, 0)] [(0, 0)] ((zRL 800 (zcl0 w)).2) 238 1 K else ∀ v7 : zW, (zRows (zRL 800 (zcl0 w)).2 v7) → (if zAll (zRL 800 (zcl0 w)).2 then zwp 125 7 [(2, 0), (9, 0)] [(0, 1)] v7 238 1 K else zwp 125 7 [(2, 0), (9, 0)] [(0, 0)] (zfl v7 6) 238 1 K)) from zmA (fun h => zmI (fun h => (fun h => show zwp 125 7 [(2, 0), (9, 0)] [(0, 0)] ((zRL 800 (zcl0 w)).2) 238 1 K from zgo_imp zT210_ok (cut := fun pc => Nat.beq pc 7 || Nat.beq pc 24 || Nat.beq pc 44 || Nat.beq pc 55 || Nat.beq pc 62) 400 (show K (2, none) (zupd ((zRL 800 (zcl0 w)).2) 1 1 0) 238 from h)) h) (fun h => fun v7 hq => (fun h => zmI (fun h => (fun h => show zwp 125 7 [(2, 0), (9, 0)] [(0, 1)] v7 238 1 K from zgo_imp zT210_ok (cut := fun pc => Nat.beq pc 7 || Nat.beq pc 24 || Nat.beq pc 44 || Nat.beq pc 55 || Nat.beq pc 62) 400 (show zwp 125 44 [(2, 0), (0, 1)] [] (zcopy (zcopy (zcopy (zcopy (zcopy (zcopy (zcopy (zcopy (zupd (zupd (zupd (zupd v7 1 1 0) 4 0 (v7 14 0)) 4 1 (v7 14 1)) 4 2 (v7 14 2)) 15 5 12) 16 6 12) 17 7 12) 18 8 60) 19 9 144) 20 10 144) 21 11 12) 22 12 12) 238 1 K from h)) h) (fun h => (fun h => show zwp 125 7 [(2, 0), (9, 0)] [(0, 0)] (zfl v7 6) 238 1 K from zgo_imp zT210_ok (cut := fun pc => Nat.beq pc 7 || Nat.beq pc 24 || Nat.beq pc 44 || Nat.beq pc 55 || Nat.beq pc 62) 400 (show K (2, none) (zupd (zfl v7 6) 1 1 0) 238 from h)) h) h) (h v7 hq)) h) h)) ?_
  refine ⟨hp, ?_⟩
  by_cases g : (zRL 800 (zcl0 w)).1 = 0
  · rw [if_pos g] at h
    exact ziT g h
  · rw [if_neg g] at h
    refine ziF g fun v hv => ?_
    have h2 := h v hv
    by_cases g2 : zAll (zRL 800 (zcl0 w)).2
    · rw [if_pos g2] at h2
      exact ziT g2 (zk125_B44 (w := zcpN v) h2)
    · rw [if_neg g2] at h2
      exact ziF g2 h2
noncomputable def zb125 (l0 : List zV) (w : zW) (K : zK) : Prop := cond (zis0 (zar l0 0)) ((((0 ≤ w 1 1 ∧ w 1 1 ≤ 800) ∧ zRp 800 (zcl0 w)) ∧ ((zRL 800 (zcl0 w)).1 ≠ 0 → zCT (zRL 800 (zcl0 w)).2)) ∧ (if (zRL 800 (zcl0 w)).1 = 0 then K (2, none) (zupd (zRL 800 (zcl0 w)).2 1 1 0) 238 else ∀ v : zW, zRows (zRL 800 (zcl0 w)).2 v → (if zAll (zRL 800 (zcl0 w)).2 then K (0, some (0, v 13 2)) (zrdN v) 238 else K (2, none) (zupd (zfl v 6) 1 1 0) 238))) (False)
noncomputable def zT211 : zSum := zsm1 125 [2, 9] zb125 zT210
theorem zT211_ok : zSok zT211 := zsm1_ok zT210_ok fun l0 w K h => by
  unfold zb125 at h
  cases q0 : zis0 (zar l0 0) with
  | true =>
    rw [q0, cond_true] at h
    have e : zar l0 0 = 0 := zis0_e q0
    show zcall 125 [(2, zar l0 0), (9, 0)] w 238 K
    rw [e]
    exact zk125_0  w K h
  | false =>
  rw [q0, cond_false] at h
  exact h.elim

/-! ===== the solver (written by wip/whole/gen_c.py) ===== -/
def zTgt (d : Int) : Int := d * 6283185307 / 360
def zab (x : Int) : Int := max x (-x)
noncomputable def zHq (w : zW) (q : Nat) (c own ch : Int) : Int := zH (zF0 w) (w 95 0) (fun a => w q a.toNat) c own ch
noncomputable def zDf (w : zW) (q : Nat) (c : Int) : Int := zTgt (w 97 c.toNat) - zHq w q c (w q c.toNat) 0
noncomputable def zUn (w : zW) (q : Nat) : Int := zSm (fun c => if 0 < w 97 c.toNat then zab (zDf w q c) else 0) (w 95 0).toNat 0
abbrev zSb (w : zW) (c : Int) : Prop := 0 < w 97 c.toNat ∧ 0 < zNb (zF0 w) (w 95 0) c
noncomputable def zSR (w : zW) (q : Nat) (c : Int) : Int := if zSb w c then zSv (fun v => zHq w q c v 0) (zTgt (w 97 c.toNat)) else -1
/-- a sweep from a circle on: the world behind it and how many changed -/
noncomputable def zSwL (q : Nat) : Nat → Int → zW → zW × Int
  | 0, _, w => (w, 0)
  | m + 1, i, w => if zSR w q i = -1 ∨ zSR w q i = w q i.toNat then zSwL q m (i + 1) w else
      ((zSwL q m (i + 1) (zupd w q i.toNat (zSR w q i))).1, 1 + (zSwL q m (i + 1) (zupd w q i.toNat (zSR w q i))).2)
noncomputable def zSwp (q : Nat) (w : zW) : zW := (zSwL q (w 95 0).toNat 0 w).1
noncomputable def zSwn (q : Nat) (w : zW) : Int := (zSwL q (w 95 0).toNat 0 w).2
noncomputable def zCm (q : Nat) (b : Int) : Nat → zW → zW
  | 0, w => w
  | m + 1, w => if b < zUn w q then zCm q b m (zSwp q w) else w
noncomputable def zLo (w : zW) (q : Nat) (c s : Int) : Int := zHq w q c (w q c.toNat + s) (-s)
noncomputable def zHi (w : zW) (q : Nat) (c s : Int) : Int := zHq w q c (max 1 (w q c.toNat - s)) s
abbrev zWi (w : zW) (q : Nat) (c s b : Int) : Prop := zTgt (w 97 c.toNat) - b ≤ zLo w q c s ∧ zHi w q c s ≤ zTgt (w 97 c.toNat) + b
/-- the first free circle that is not certain -/
noncomputable def zUc (w : zW) (q : Nat) (s b : Int) : Int := zFi (fun c => 0 < w 97 c.toNat ∧ ¬ zWi w q c s b) (w 95 0).toNat 0
theorem zTgt_rg {d : Int} (h0 : 0 ≤ d) (h1 : d ≤ 1800) : 0 ≤ zTgt d ∧ zTgt d ≤ 31415926535 := by unfold zTgt; omega
theorem zHq_rg {w : zW} {q : Nat} {c own ch : Int} (hN : zNt w) (hr : zRd q w) (c0 : 0 ≤ c) (c1 : c < w 95 0) (ho : 1 ≤ own ∧ own ≤ 2000000) (hc : -1000 ≤ ch ∧ ch ≤ 1000) : 0 ≤ zHq w q c own ch ∧ zHq w q c own ch ≤ 1536000000000 :=
  zH_rg hN.tab c0 (by have := hN.n; omega) hr ho hc
theorem zDf_rg {w : zW} {q : Nat} {c : Int} (hN : zNt w) (hr : zRd q w) (c0 : 0 ≤ c) (c1 : c < w 95 0) : -1536000000000 ≤ zDf w q c ∧ zDf w q c ≤ 31415926535 := by
  have h1 := hr c c0 c1
  have h2 := zHq_rg (own := w q c.toNat) (ch := 0) hN hr c0 c1 (by omega) (by omega)
  have h3 := hN.deg c0 c1
  have h4 := zTgt_rg h3.2.1 h3.2.2.1
  unfold zDf
  omega
theorem zSv_rg {f : Int → Int} {tg : Int} (h : ∃ v, zSvP f tg v) : 1 ≤ zSv f tg ∧ zSv f tg ≤ 1000000 := by
  have h2 : zSvP f tg (zSv f tg) := Classical.epsilon_spec h
  exact ⟨h2.1, h2.2.1⟩
/-! $Solver.targetOf -/
set_option maxRecDepth 100000 in
theorem zk92_35 (c : Int) (w : zW) (K : zK) (h : (zNt w ∧ 0 ≤ c ∧ c < w 95 0) ∧ (K (0, some (1, zTgt (w 97 c.toNat))) (w) 238)) : zcall 92 [(2, 35), (0, c)] w 238 K := by
  obtain ⟨hg, h⟩ := h
  refine (show (zif False (0 ≤ c ∧ c < 12) (K (0, some (1, z64 (Int.tdiv (z64 ((w 6 c.toNat) * 6283185307)) 360))) w 238)) → _ from fun h => show zwp 92 0 [(2, 35), (0, c)] [] w 238 0 K from zgo_imp zT29_ok (cut := fun pc => Nat.beq pc 8) 400 (show zif False (0 ≤ c ∧ c < 12) (zwp 92 8 [(2, 35), (0, c)] [(0, w 6 c.toNat)] w 238 0 K) from zmZ (fun h => (fun h => show zwp 92 8 [(2, 35), (0, c)] [(0, w 6 c.toNat)] w 238 0 K from zgo_imp zT29_ok (cut := fun pc => Nat.beq pc 8) 400 (show K (0, some (1, z64 (Int.tdiv (z64 ((w 6 c.toNat) * 6283185307)) 360))) w 238 from h)) h) h)) ?_
  obtain ⟨hN, hc⟩ := hg
  obtain ⟨d1, d2, d3, _⟩ := hN.deg hc.1 hc.2
  have hn := hN.n
  have h4 := zTgt_rg d2 d3
  refine zifI (by omega) ?_
  rw [d1, z64_id (x := w 97 c.toNat * 6283185307) ⟨by omega, by omega⟩, Int.tdiv_eq_ediv_of_nonneg (by omega)]
  rw [z64_id (x := w 97 c.toNat * 6283185307 / 360) (by unfold zTgt at h4; exact ⟨by omega, by omega⟩)]
  exact h
noncomputable def zb92 (l0 : List zV) (w : zW) (K : zK) : Prop := cond (zpe (zar l0 0) 35) (zA l0 1 fun c => (zNt w ∧ 0 ≤ c ∧ c < w 95 0) ∧ (K (0, some (1, zTgt (w 97 c.toNat))) (w) 238)) (False)
noncomputable def zT30 : zSum := zsm1 92 [2, 0] zb92 zT29
theorem zT30_ok : zSok zT30 := zsm1_ok zT29_ok fun l0 w K h => by
  unfold zb92 at h
  cases q0 : zpe (zar l0 0) 35 with
  | true =>
    rw [q0, cond_true] at h
    have e : zar l0 0 = 35 := zpe_e q0
    show zcall 92 [(2, zar l0 0), (0, zar l0 1)] w 238 K
    rw [e]
    exact zk92_35 (zar l0 1) w K (zA_e h)
  | false =>
  rw [q0, cond_false] at h
  exact h.elim
/-! $Solver.defectOf -/
set_option maxRecDepth 100000 in
theorem zk93_35 (c : Int) (w : zW) (K : zK) (h : (zNt w ∧ zRd 30 w ∧ 0 ≤ c ∧ c < w 95 0) ∧ (K (0, some (1, zDf w 30 c)) (w) 238)) : zcall 93 [(2, 35), (0, c)] w 238 K := by
  obtain ⟨hg, h⟩ := h
  refine (show ((zNt w ∧ 0 ≤ c ∧ c < w 95 0) ∧ (zif False (0 ≤ c ∧ c < 12) ((zNt w ∧ zRd 30 w ∧ (0 ≤ c ∧ c < w 95 0) ∧ (1 ≤ (w 30 c.toNat) ∧ (w 30 c.toNat) ≤ 1001000) ∧ -1000 ≤ (0 : Int) ∧ (0 : Int) ≤ 1000) ∧ (K (0, some (1, z64 ((zTgt (w 97 c.toNat)) - (zH (zF0 w) (w 95 0) (fun a => w 30 a.toNat) c (w 30 c.toNat) (0 : Int))))) w 238)))) → _ from fun h => show zwp 93 0 [(2, 35), (0, c)] [] w 238 0 K from zgo_imp zT30_ok (cut := fun pc => Nat.beq pc 5 || Nat.beq pc 15 || Nat.beq pc 19) 400 (show (zNt w ∧ 0 ≤ c ∧ c < w 95 0) ∧ (zwp 93 5 [(2, 35), (0, c)] [(1, zTgt (w 97 c.toNat))] w 238 0 K) from zmA (fun h => (fun h => show zwp 93 5 [(2, 35), (0, c)] [(1, zTgt (w 97 c.toNat))] w 238 0 K from zgo_imp zT30_ok (cut := fun pc => Nat.beq pc 5 || Nat.beq pc 15 || Nat.beq pc 19) 400 (show zif False (0 ≤ c ∧ c < 12) (zwp 93 15 [(2, 35), (0, c)] [(0, w 30 c.toNat), (0, c), (2, 35), (1, zTgt (w 97 c.toNat))] w 238 0 K) from zmZ (fun h => (fun h => show zwp 93 15 [(2, 35), (0, c)] [(0, w 30 c.toNat), (0, c), (2, 35), (1, zTgt (w 97 c.toNat))] w 238 0 K from zgo_imp zT30_ok (cut := fun pc => Nat.beq pc 5 || Nat.beq pc 15 || Nat.beq pc 19) 400 (show (zNt w ∧ zRd 30 w ∧ (0 ≤ c ∧ c < w 95 0) ∧ (1 ≤ (w 30 c.toNat) ∧ (w 30 c.toNat) ≤ 1001000) ∧ -1000 ≤ (0 : Int) ∧ (0 : Int) ≤ 1000) ∧ (zwp 93 19 [(2, 35), (0, c)] [(1, zH (zF0 w) (w 95 0) (fun a => w 30 a.toNat) c (w 30 c.toNat) (0 : Int)), (1, zTgt (w 97 c.toNat))] w 238 0 K) from zmA (fun h => (fun h => show zwp 93 19 [(2, 35), (0, c)] [(1, zH (zF0 w) (w 95 0) (fun a => w 30 a.toNat) c (w 30 c.toNat) (0 : Int)), (1, zTgt (w 97 c.toNat))] w 238 0 K from zgo_imp zT30_ok (cut := fun pc => Nat.beq pc 5 || Nat.beq pc 15 || Nat.beq pc 19) 400 (show K (0, some (1, z64 ((zTgt (w 97 c.toNat)) - (zH (zF0 w) (w 95 0) (fun a => w 30 a.toNat) c (w 30 c.toNat) (0 : Int))))) w 238 from h)) h) h)) h) h)) h) h)) ?_
  obtain ⟨hN, hr, hc⟩ := hg
  have hn := hN.n
  have h1 := hr c hc.1 hc.2
  have hd := zDf_rg hN hr hc.1 hc.2
  refine ⟨⟨hN, hc⟩, zifI (by omega) ⟨⟨hN, hr, hc, by omega, by omega⟩, ?_⟩⟩
  rw [z64_id (by unfold zDf zHq at hd; exact ⟨by omega, by omega⟩)]
  exact h
noncomputable def zb93 (l0 : List zV) (w : zW) (K : zK) : Prop := cond (zpe (zar l0 0) 35) (zA l0 1 fun c => (zNt w ∧ zRd 30 w ∧ 0 ≤ c ∧ c < w 95 0) ∧ (K (0, some (1, zDf w 30 c)) (w) 238)) (False)
noncomputable def zT31 : zSum := zsm1 93 [2, 0] zb93 zT30
theorem zT31_ok : zSok zT31 := zsm1_ok zT30_ok fun l0 w K h => by
  unfold zb93 at h
  cases q0 : zpe (zar l0 0) 35 with
  | true =>
    rw [q0, cond_true] at h
    have e : zar l0 0 = 35 := zpe_e q0
    show zcall 93 [(2, zar l0 0), (0, zar l0 1)] w 238 K
    rw [e]
    exact zk93_35 (zar l0 1) w K (zA_e h)
  | false =>
  rw [q0, cond_false] at h
  exact h.elim
set_option maxRecDepth 100000 in
theorem zk94_L4 {w : zW} {K : zK} (hN : zNt w) (hr : zRd 30 w)  : ∀ (m : Nat) (i s : Int) (d2 : zV), (0 ≤ i) → (i + m = w 95 0) → (0 ≤ s) → (s ≤ i * 1536000000000) → (K (0, some (1, s + zSm (fun c => if 0 < w 97 c.toNat then zab (zDf w 30 c) else 0) m i)) w 238) → zwp 94 4 [(2, 35), (1, s), d2, (0, i)] [] w 238 0 K := by
  
  intro m
  induction m with
  | zero =>
    intro i s d2 h1 h2 h3 h4 h
    refine (show (if i < w 4 0 then zif False (0 ≤ i ∧ i < 12) (if ((if 0 < w 6 i.toNat then 1 else 0) : Int) = 0 then zwp 94 4 [(2, 35), (1, s), (9, 0), (0, z32 (i + 1))] [] w 238 0 K else (zNt w ∧ zRd 30 w ∧ 0 ≤ i ∧ i < w 95 0) ∧ (zwp 94 4 [(2, 35), (1, z64 (s + (z64 (max (zDf w 30 i) (-(zDf w 30 i)))))), (9, 0), (0, z32 (i + 1))] [] w 238 0 K)) else K (0, some (1, s)) w 238) → _ from fun h => show zwp 94 4 [(2, 35), (1, s), d2, (0, i)] [] w 238 0 K from zgo_imp zT31_ok (cut := fun pc => Nat.beq pc 4 || Nat.beq pc 15 || Nat.beq pc 23 || Nat.beq pc 32) 400 (show if i < w 4 0 then zwp 94 15 [(2, 35), (1, s), (9, 0), (0, i)] [] w 238 0 K else K (0, some (1, s)) w 238 from zmI (fun h => (fun h => show zwp 94 15 [(2, 35), (1, s), (9, 0), (0, i)] [] w 238 0 K from zgo_imp zT31_ok (cut := fun pc => Nat.beq pc 4 || Nat.beq pc 15 || Nat.beq pc 23 || Nat.beq pc 32) 400 (show zif False (0 ≤ i ∧ i < 12) (zwp 94 23 [(2, 35), (1, s), (9, 0), (0, i)] [(0, ((if 0 < w 6 i.toNat then 1 else 0) : Int))] w 238 0 K) from zmZ (fun h => (fun h => show zwp 94 23 [(2, 35), (1, s), (9, 0), (0, i)] [(0, ((if 0 < w 6 i.toNat then 1 else 0) : Int))] w 238 0 K from zgo_imp zT31_ok (cut := fun pc => Nat.beq pc 4 || Nat.beq pc 15 || Nat.beq pc 23 || Nat.beq pc 32) 400 (show if ((if 0 < w 6 i.toNat then 1 else 0) : Int) = 0 then zwp 94 4 [(2, 35), (1, s), (9, 0), (0, z32 (i + 1))] [] w 238 0 K else (zNt w ∧ zRd 30 w ∧ 0 ≤ i ∧ i < w 95 0) ∧ (zwp 94 32 [(2, 35), (1, s), (9, 0), (0, i)] [(1, zDf w 30 i), (1, s)] w 238 0 K) from zmI (fun h => h) (fun h => zmA (fun h => (fun h => show zwp 94 32 [(2, 35), (1, s), (9, 0), (0, i)] [(1, zDf w 30 i), (1, s)] w 238 0 K from zgo_imp zT31_ok (cut := fun pc => Nat.beq pc 4 || Nat.beq pc 15 || Nat.beq pc 23 || Nat.beq pc 32) 400 (show zwp 94 4 [(2, 35), (1, z64 (s + (z64 (max (zDf w 30 i) (-(zDf w 30 i)))))), (9, 0), (0, z32 (i + 1))] [] w 238 0 K from h)) h) h) h)) h) h)) h) (fun h => h) h)) ?_
    have hn := hN.n
    refine ziF (by omega) ?_
    exact zKe h (by show s + 0 = s; omega)
  | succ m ih =>
    intro i s d2 h1 h2 h3 h4 h
    refine (show (if i < w 4 0 then zif False (0 ≤ i ∧ i < 12) (if ((if 0 < w 6 i.toNat then 1 else 0) : Int) = 0 then zwp 94 4 [(2, 35), (1, s), (9, 0), (0, z32 (i + 1))] [] w 238 0 K else (zNt w ∧ zRd 30 w ∧ 0 ≤ i ∧ i < w 95 0) ∧ (zwp 94 4 [(2, 35), (1, z64 (s + (z64 (max (zDf w 30 i) (-(zDf w 30 i)))))), (9, 0), (0, z32 (i + 1))] [] w 238 0 K)) else K (0, some (1, s)) w 238) → _ from fun h => show zwp 94 4 [(2, 35), (1, s), d2, (0, i)] [] w 238 0 K from zgo_imp zT31_ok (cut := fun pc => Nat.beq pc 4 || Nat.beq pc 15 || Nat.beq pc 23 || Nat.beq pc 32) 400 (show if i < w 4 0 then zwp 94 15 [(2, 35), (1, s), (9, 0), (0, i)] [] w 238 0 K else K (0, some (1, s)) w 238 from zmI (fun h => (fun h => show zwp 94 15 [(2, 35), (1, s), (9, 0), (0, i)] [] w 238 0 K from zgo_imp zT31_ok (cut := fun pc => Nat.beq pc 4 || Nat.beq pc 15 || Nat.beq pc 23 || Nat.beq pc 32) 400 (show zif False (0 ≤ i ∧ i < 12) (zwp 94 23 [(2, 35), (1, s), (9, 0), (0, i)] [(0, ((if 0 < w 6 i.toNat then 1 else 0) : Int))] w 238 0 K) from zmZ (fun h => (fun h => show zwp 94 23 [(2, 35), (1, s), (9, 0), (0, i)] [(0, ((if 0 < w 6 i.toNat then 1 else 0) : Int))] w 238 0 K from zgo_imp zT31_ok (cut := fun pc => Nat.beq pc 4 || Nat.beq pc 15 || Nat.beq pc 23 || Nat.beq pc 32) 400 (show if ((if 0 < w 6 i.toNat then 1 else 0) : Int) = 0 then zwp 94 4 [(2, 35), (1, s), (9, 0), (0, z32 (i + 1))] [] w 238 0 K else (zNt w ∧ zRd 30 w ∧ 0 ≤ i ∧ i < w 95 0) ∧ (zwp 94 32 [(2, 35), (1, s), (9, 0), (0, i)] [(1, zDf w 30 i), (1, s)] w 238 0 K) from zmI (fun h => h) (fun h => zmA (fun h => (fun h => show zwp 94 32 [(2, 35), (1, s), (9, 0), (0, i)] [(1, zDf w 30 i), (1, s)] w 238 0 K from zgo_imp zT31_ok (cut := fun pc => Nat.beq pc 4 || Nat.beq pc 15 || Nat.beq pc 23 || Nat.beq pc 32) 400 (show zwp 94 4 [(2, 35), (1, z64 (s + (z64 (max (zDf w 30 i) (-(zDf w 30 i)))))), (9, 0), (0, z32 (i + 1))] [] w 238 0 K from h)) h) h) h)) h) h)) h) (fun h => h) h)) ?_
    have hn := hN.n
    have hd := (hN.deg h1 (by omega)).1
    refine ziT (by omega) (zifI (by omega) ?_)
    rw [z32_id (x := i + 1) ⟨by omega, by omega⟩]
    by_cases hp : 0 < w 97 i.toNat
    · refine ziF (by omega) ⟨⟨hN, hr, by omega⟩, ?_⟩
      have hz := zDf_rg hN hr h1 (by omega)
      rw [z64_id (x := max (zDf w 30 i) (-zDf w 30 i)) ⟨by omega, by omega⟩, z64_id (x := s + max (zDf w 30 i) (-zDf w 30 i)) ⟨by omega, by omega⟩]
      refine ih _ _ _ (by omega) (by omega) (by omega) (by omega) (zKe h ?_)
      show s + ((if 0 < w 97 i.toNat then max (zDf w 30 i) (-zDf w 30 i) else 0) + _) = _
      rw [if_pos hp]; omega
    · refine ziT (by omega) ?_
      refine ih _ _ _ (by omega) (by omega) (by omega) (by omega) (zKe h ?_)
      show s + ((if 0 < w 97 i.toNat then max (zDf w 30 i) (-zDf w 30 i) else 0) + _) = _
      rw [if_neg hp]; omega
/-! $Solver.allDefects -/
set_option maxRecDepth 100000 in
theorem zk94_35 (w : zW) (K : zK) (h : (zNt w ∧ zRd 30 w) ∧ (K (0, some (1, zUn w 30)) (w) 238)) : zcall 94 [(2, 35), (9, 0), (9, 0), (9, 0)] w 238 K := by
  obtain ⟨hg, h⟩ := h
  refine (show (zwp 94 4 [(2, 35), (1, 0), (9, 0), (0, 0)] [] w 238 0 K) → _ from fun h => show zwp 94 0 [(2, 35), (9, 0), (9, 0), (9, 0)] [] w 238 0 K from zgo_imp zT31_ok (cut := fun pc => Nat.beq pc 4 || Nat.beq pc 15 || Nat.beq pc 23 || Nat.beq pc 32) 400 (show zwp 94 4 [(2, 35), (1, 0), (9, 0), (0, 0)] [] w 238 0 K from h)) ?_
  have hn := hg.1.n
  exact zk94_L4 hg.1 hg.2 (w 95 0).toNat 0 0 _ (by omega) (by omega) (by omega) (by omega) (zKe h (by unfold zUn; omega))
noncomputable def zb94 (l0 : List zV) (w : zW) (K : zK) : Prop := cond (zpe (zar l0 0) 35) ((zNt w ∧ zRd 30 w) ∧ (K (0, some (1, zUn w 30)) (w) 238)) (False)
noncomputable def zT32 : zSum := zsm1 94 [2, 9, 9, 9] zb94 zT31
theorem zT32_ok : zSok zT32 := zsm1_ok zT31_ok fun l0 w K h => by
  unfold zb94 at h
  cases q0 : zpe (zar l0 0) 35 with
  | true =>
    rw [q0, cond_true] at h
    have e : zar l0 0 = 35 := zpe_e q0
    show zcall 94 [(2, zar l0 0), (9, 0), (9, 0), (9, 0)] w 238 K
    rw [e]
    exact zk94_35  w K h
  | false =>
  rw [q0, cond_false] at h
  exact h.elim
/-! $Solver.isSolvable -/
set_option maxRecDepth 100000 in
theorem zk95_35 (c : Int) (w : zW) (K : zK) (h : (zNt w ∧ 0 ≤ c ∧ c < w 95 0) ∧ (K (0, some (0, (if zSb w c then 1 else 0))) (w) 238)) : zcall 95 [(2, 35), (0, c)] w 238 K := by
  obtain ⟨hg, h⟩ := h
  refine (show (zif False (0 ≤ c ∧ c < 12) (if ((if 0 < w 6 c.toNat then 1 else 0) : Int) = 0 then K (0, some (0, 0)) w 238 else zif False (0 ≤ c ∧ c < 12) (if 0 < w 11 c.toNat then K (0, some (0, 1)) w 238 else K (0, some (0, 0)) w 238))) → _ from fun h => show zwp 95 0 [(2, 35), (0, c)] [] w 238 0 K from zgo_imp zT32_ok (cut := fun pc => Nat.beq pc 8 || Nat.beq pc 19) 400 (show zif False (0 ≤ c ∧ c < 12) (zwp 95 8 [(2, 35), (0, c)] [(0, ((if 0 < w 6 c.toNat then 1 else 0) : Int))] w 238 0 K) from zmZ (fun h => (fun h => show zwp 95 8 [(2, 35), (0, c)] [(0, ((if 0 < w 6 c.toNat then 1 else 0) : Int))] w 238 0 K from zgo_imp zT32_ok (cut := fun pc => Nat.beq pc 8 || Nat.beq pc 19) 400 (show if ((if 0 < w 6 c.toNat then 1 else 0) : Int) = 0 then K (0, some (0, 0)) w 238 else zif False (0 ≤ c ∧ c < 12) (zwp 95 19 [(2, 35), (0, c)] [(0, w 11 c.toNat)] w 238 0 K) from zmI (fun h => h) (fun h => zmZ (fun h => (fun h => show zwp 95 19 [(2, 35), (0, c)] [(0, w 11 c.toNat)] w 238 0 K from zgo_imp zT32_ok (cut := fun pc => Nat.beq pc 8 || Nat.beq pc 19) 400 (show if 0 < w 11 c.toNat then K (0, some (0, 1)) w 238 else K (0, some (0, 0)) w 238 from h)) h) h) h)) h) h)) ?_
  obtain ⟨hN, hc⟩ := hg
  have hn := hN.n
  have hd := (hN.deg hc.1 hc.2).1
  have hq := (hN.row hc.1 hc.2).1
  refine zifI (by omega) ?_
  by_cases hp : 0 < w 97 c.toNat
  · refine ziF (by omega) (zifI (by omega) ?_)
    by_cases h2 : 0 < zNb (zF0 w) (w 95 0) c
    · refine ziT (by omega) (zKe h (if_pos ⟨hp, h2⟩))
    · refine ziF (by omega) (zKe h (if_neg fun q => h2 q.2))
  · refine ziT (by omega) (zKe h (if_neg fun q => hp q.1))
noncomputable def zb95 (l0 : List zV) (w : zW) (K : zK) : Prop := cond (zpe (zar l0 0) 35) (zA l0 1 fun c => (zNt w ∧ 0 ≤ c ∧ c < w 95 0) ∧ (K (0, some (0, (if zSb w c then 1 else 0))) (w) 238)) (False)
noncomputable def zT33 : zSum := zsm1 95 [2, 0] zb95 zT32
theorem zT33_ok : zSok zT33 := zsm1_ok zT32_ok fun l0 w K h => by
  unfold zb95 at h
  cases q0 : zpe (zar l0 0) 35 with
  | true =>
    rw [q0, cond_true] at h
    have e : zar l0 0 = 35 := zpe_e q0
    show zcall 95 [(2, zar l0 0), (0, zar l0 1)] w 238 K
    rw [e]
    exact zk95_35 (zar l0 1) w K (zA_e h)
  | false =>
  rw [q0, cond_false] at h
  exact h.elim
/-- how far the search is: before the first step, upwards, downwards, halving -/
def zPh (m : Nat) (i e t x s : Int) : Prop :=
  (i = 0 ∧ e = 0 ∧ t = 1000001 ∧ 1 ≤ x ∧ x ≤ 1000000 ∧ s = 1) ∨
  (1 ≤ i ∧ t = 1000001 ∧ 0 < e ∧ (s ≤ 2 * e ∨ e = 1000000) ∧ x = min 1000000 (e + s / 2)) ∨
  (1 ≤ i ∧ e = 0 ∧ (t ≤ 1000001 - s / 2 ∨ t = 1) ∧ x = max 1 (t - s / 2)) ∨
  (0 < e ∧ t ≤ 1000000 ∧ x = (e + t) / 2 ∧ t - e ≤ ((2 ^ m : Nat) : Int))
/-- one step: what was tried becomes the lower or the upper end -/
theorem zPh_in {m : Nat} {i e t x s : Int} (hi : i + m = 62) (i0 : 0 ≤ i) (h0 : 0 ≤ e) (h1 : t ≤ 1000001) (hg : 1 < t - e) (hs : s = ((2 ^ i.toNat : Nat) : Int)) (h : zPh m i e t x s) : e < x ∧ x < t ∧ 1 ≤ x ∧ x ≤ 1000000 := by
  have := zpow_pos i.toNat
  rcases h with ⟨a, b, c, d, e, f⟩ | ⟨a, b, c, d, e⟩ | ⟨a, b, c, d⟩ | ⟨a, b, c, d⟩
  · omega
  · have : 1 ≤ s / 2 := by
      have e1 : i.toNat = (i.toNat - 1) + 1 := by omega
      have e2 := zpow2 (i.toNat - 1)
      rw [← e1] at e2
      have := zpow_pos (i.toNat - 1)
      omega
    omega
  · have : 1 ≤ s / 2 := by
      have e1 : i.toNat = (i.toNat - 1) + 1 := by omega
      have e2 := zpow2 (i.toNat - 1)
      rw [← e1] at e2
      have := zpow_pos (i.toNat - 1)
      omega
    omega
  · omega
theorem zPh_s {m : Nat} {i e t x s : Int} (hi : i + ((m + 1 : Nat) : Int) = 62) (i0 : 0 ≤ i) (h0 : 0 ≤ e) (h1 : t ≤ 1000001) (hg : 1 < t - e) (hs : s = ((2 ^ i.toNat : Nat) : Int)) (h : zPh (m + 1) i e t x s) :
    (zPh m (i + 1) x t (if 1000000 < t then min 1000000 (x + s) else (x + t) / 2) (s * 2) ∧ zPh m (i + 1) e x (if e = 0 then max 1 (x - s) else (e + x) / 2) (s * 2)) := by
  obtain ⟨g1, g2, g3, g4⟩ := zPh_in (m := m + 1) hi i0 h0 h1 hg hs h
  have hp := zpow_pos i.toNat
  have hp2 := zpow2 m
  have hb : i ≤ 20 → 2097152 ≤ ((2 ^ m : Nat) : Int) := fun hi2 => by
    have : ((2 ^ 21 : Nat) : Int) ≤ ((2 ^ m : Nat) : Int) := zpow_le (by omega)
    have h2 : (2 ^ 21 : Nat) = 2097152 := by decide
    omega
  have hs2 : s ≤ 2000000 → i ≤ 20 := fun q => by
    have := zpow20 (i := i.toNat) hs q
    omega
  have hev : 1 ≤ i → s = 2 * (s / 2) := fun q => by
    have e1 : i.toNat = (i.toNat - 1) + 1 := by omega
    have e2 := zpow2 (i.toNat - 1)
    rw [← e1] at e2
    omega
  rcases h with ⟨a, b, c, d, e', f⟩ | ⟨a, b, c, d, e'⟩ | ⟨a, b, c, d⟩ | ⟨a, b, c, d⟩
  · refine ⟨Or.inr (Or.inl ⟨by omega, c, by omega, by omega, ?_⟩), Or.inr (Or.inr (Or.inl ⟨by omega, b, by omega, ?_⟩))⟩
    · rw [if_pos (by omega)]; omega
    · rw [if_pos b]; omega
  · refine ⟨Or.inr (Or.inl ⟨by omega, b, by omega, by omega, ?_⟩), Or.inr (Or.inr (Or.inr ⟨c, by omega, ?_, ?_⟩))⟩
    · rw [if_pos (by omega)]; omega
    · rw [if_neg (by omega)]
    · have := hb (hs2 (by omega)); omega
  · refine ⟨Or.inr (Or.inr (Or.inr ⟨by omega, by omega, ?_, ?_⟩)), Or.inr (Or.inr (Or.inl ⟨by omega, b, by omega, ?_⟩))⟩
    · rw [if_neg (by omega)]
    · have := hb (hs2 (by omega)); omega
    · rw [if_pos b]; omega
  · refine ⟨Or.inr (Or.inr (Or.inr ⟨by omega, b, ?_, by omega⟩)), Or.inr (Or.inr (Or.inr ⟨a, by omega, ?_, by omega⟩))⟩
    · rw [if_neg (by omega)]
    · rw [if_neg (by omega)]
theorem zPh_0 {e t x s : Int} (h0 : 0 ≤ e) (h1 : e < t) (h2 : t ≤ 1000001) (hs : s = ((2 ^ 62 : Nat) : Int)) (h : zPh 0 62 e t x s) : t - e ≤ 1 := by
  have hp : ((2 ^ 62 : Nat) : Int) = 4611686018427387904 := by decide
  have h00 : ((2 ^ 0 : Nat) : Int) = 1 := by decide
  rcases h with ⟨a, b, c, d, e', f⟩ | ⟨a, b, c, d, e'⟩ | ⟨a, b, c, d⟩ | ⟨a, b, c, d⟩ <;> omega
set_option maxRecDepth 100000 in
theorem zk96_L39 {w : zW} {K : zK} (hN : zNt w) (hr : zRd 30 w) (c tg : Int) (hc : 0 ≤ c ∧ c < w 95 0)  : ∀ (m : Nat) (i e t x s : Int) (d3 d8 : zV), (0 ≤ i) → (i + m = 62) → (0 ≤ e ∧ e < t ∧ t ≤ 1000001) → (s = ((2 ^ i.toNat : Nat) : Int)) → (zPh m i e t x s) → (e = 0 ∨ tg ≤ zHq w 30 c e 0) → (t = 1000001 ∨ zHq w 30 c t 0 < tg) → (∀ v, zSvP (fun v => zHq w 30 c v 0) tg v → K (0, some (0, v)) w 238) → zwp 96 39 [(2, 35), (0, c), (1, tg), d3, (0, e), (0, t), (0, x), (1, s), d8, (0, i)] [] w 238 0 K := by
  
  intro m
  induction m with
  | zero =>
    intro i e t x s d3 d8 h1 h2 h3 h4 h5 h6 h7 h
    refine (show (if i < 62 then if 1 < z32 (t - e) then (zNt w ∧ zRd 30 w ∧ (0 ≤ c ∧ c < w 95 0) ∧ (1 ≤ x ∧ x ≤ 1001000) ∧ -1000 ≤ (0 : Int) ∧ (0 : Int) ≤ 1000) ∧ (if zH (zF0 w) (w 95 0) (fun a => w 30 a.toNat) c x (0 : Int) < tg then if 1000000 < x then zwp 96 39 [(2, 35), (0, c), (1, tg), (9, 0), (0, e), (0, x), (0, z32 (min 1000000 (z64 (e + s)))), (1, z64 (s * 2)), (9, 0), (0, z32 (i + 1))] [] w 238 0 K else if e = 0 then zwp 96 39 [(2, 35), (0, c), (1, tg), (9, 0), (0, e), (0, x), (0, z32 (max 1 (z64 (x - s)))), (1, z64 (s * 2)), (9, 0), (0, z32 (i + 1))] [] w 238 0 K else zwp 96 39 [(2, 35), (0, c), (1, tg), (9, 0), (0, e), (0, x), (0, z32 (Int.tdiv (z32 (e + x)) 2)), (1, z64 (s * 2)), (9, 0), (0, z32 (i + 1))] [] w 238 0 K else if 1000000 < t then zwp 96 39 [(2, 35), (0, c), (1, tg), (9, 0), (0, x), (0, t), (0, z32 (min 1000000 (z64 (x + s)))), (1, z64 (s * 2)), (9, 0), (0, z32 (i + 1))] [] w 238 0 K else if x = 0 then zwp 96 39 [(2, 35), (0, c), (1, tg), (9, 0), (0, x), (0, t), (0, z32 (max 1 (z64 (t - s)))), (1, z64 (s * 2)), (9, 0), (0, z32 (i + 1))] [] w 238 0 K else zwp 96 39 [(2, 35), (0, c), (1, tg), (9, 0), (0, x), (0, t), (0, z32 (Int.tdiv (z32 (x + t)) 2)), (1, z64 (s * 2)), (9, 0), (0, z32 (i + 1))] [] w 238 0 K) else K (0, some (0, max 1 e)) w 238 else K (0, some (0, max 1 e)) w 238) → _ from fun h => show zwp 96 39 [(2, 35), (0, c), (1, tg), d3, (0, e), (0, t), (0, x), (1, s), d8, (0, i)] [] w 238 0 K from zgo_imp zT33_ok (cut := fun pc => Nat.beq pc 5 || Nat.beq pc 15 || Nat.beq pc 31 || Nat.beq pc 39 || Nat.beq pc 48 || Nat.beq pc 63 || Nat.beq pc 81 || Nat.beq pc 99 || Nat.beq pc 116 || Nat.beq pc 132 || Nat.beq pc 151) 400 (show if i < 62 then zwp 96 48 [(2, 35), (0, c), (1, tg), (9, 0), (0, e), (0, t), (0, x), (1, s), (9, 0), (0, i)] [(0, t)] w 238 0 K else zwp 96 151 [(9, 0), (9, 0), (9, 0), (9, 0), (0, e), (9, 0), (9, 0), (9, 0), (9, 0), (9, 0)] [(0, e), (0, 1)] w 238 0 K from zmI (fun h => (fun h => show zwp 96 48 [(2, 35), (0, c), (1, tg), (9, 0), (0, e), (0, t), (0, x), (1, s), (9, 0), (0, i)] [(0, t)] w 238 0 K from zgo_imp zT33_ok (cut := fun pc => Nat.beq pc 5 || Nat.beq pc 15 || Nat.beq pc 31 || Nat.beq pc 39 || Nat.beq pc 48 || Nat.beq pc 63 || Nat.beq pc 81 || Nat.beq pc 99 || Nat.beq pc 116 || Nat.beq pc 132 || Nat.beq pc 151) 400 (show if 1 < z32 (t - e) then (zNt w ∧ zRd 30 w ∧ (0 ≤ c ∧ c < w 95 0) ∧ (1 ≤ x ∧ x ≤ 1001000) ∧ -1000 ≤ (0 : Int) ∧ (0 : Int) ≤ 1000) ∧ (zwp 96 63 [(2, 35), (0, c), (1, tg), (9, 0), (0, e), (0, t), (0, x), (1, s), (9, 0), (0, i)] [(1, zH (zF0 w) (w 95 0) (fun a => w 30 a.toNat) c x (0 : Int))] w 238 0 K) else zwp 96 151 [(9, 0), (9, 0), (9, 0), (9, 0), (0, e), (9, 0), (9, 0), (9, 0), (9, 0), (9, 0)] [(0, e), (0, 1)] w 238 0 K from zmI (fun h => zmA (fun h => (fun h => show zwp 96 63 [(2, 35), (0, c), (1, tg), (9, 0), (0, e), (0, t), (0, x), (1, s), (9, 0), (0, i)] [(1, zH (zF0 w) (w 95 0) (fun a => w 30 a.toNat) c x (0 : Int))] w 238 0 K from zgo_imp zT33_ok (cut := fun pc => Nat.beq pc 5 || Nat.beq pc 15 || Nat.beq pc 31 || Nat.beq pc 39 || Nat.beq pc 48 || Nat.beq pc 63 || Nat.beq pc 81 || Nat.beq pc 99 || Nat.beq pc 116 || Nat.beq pc 132 || Nat.beq pc 151) 400 (show if zH (zF0 w) (w 95 0) (fun a => w 30 a.toNat) c x (0 : Int) < tg then zwp 96 81 [(2, 35), (0, c), (1, tg), (9, 0), (0, e), (0, x), (9, 0), (1, s), (9, 0), (0, i)] [(0, x)] w 238 0 K else zwp 96 81 [(2, 35), (0, c), (1, tg), (9, 0), (0, x), (0, t), (9, 0), (1, s), (9, 0), (0, i)] [(0, t)] w 238 0 K from zmI (fun h => (fun h => show zwp 96 81 [(2, 35), (0, c), (1, tg), (9, 0), (0, e), (0, x), (9, 0), (1, s), (9, 0), (0, i)] [(0, x)] w 238 0 K from zgo_imp zT33_ok (cut := fun pc => Nat.beq pc 5 || Nat.beq pc 15 || Nat.beq pc 31 || Nat.beq pc 39 || Nat.beq pc 48 || Nat.beq pc 63 || Nat.beq pc 81 || Nat.beq pc 99 || Nat.beq pc 116 || Nat.beq pc 132 || Nat.beq pc 151) 400 (show if 1000000 < x then zwp 96 99 [(2, 35), (0, c), (1, tg), (9, 0), (0, e), (0, x), (9, 0), (1, s), (9, 0), (0, i)] [(0, z32 (min 1000000 (z64 (e + s))))] w 238 0 K else if e = 0 then zwp 96 116 [(2, 35), (0, c), (1, tg), (9, 0), (0, e), (0, x), (9, 0), (1, s), (9, 0), (0, i)] [(1, z64 (x - s)), (1, 1)] w 238 0 K else zwp 96 132 [(2, 35), (0, c), (1, tg), (9, 0), (0, e), (0, x), (9, 0), (1, s), (9, 0), (0, i)] [(0, z32 (Int.tdiv (z32 (e + x)) 2))] w 238 0 K from zmI (fun h => (fun h => show zwp 96 99 [(2, 35), (0, c), (1, tg), (9, 0), (0, e), (0, x), (9, 0), (1, s), (9, 0), (0, i)] [(0, z32 (min 1000000 (z64 (e + s))))] w 238 0 K from zgo_imp zT33_ok (cut := fun pc => Nat.beq pc 5 || Nat.beq pc 15 || Nat.beq pc 31 || Nat.beq pc 39 || Nat.beq pc 48 || Nat.beq pc 63 || Nat.beq pc 81 || Nat.beq pc 99 || Nat.beq pc 116 || Nat.beq pc 132 || Nat.beq pc 151) 400 (show zwp 96 39 [(2, 35), (0, c), (1, tg), (9, 0), (0, e), (0, x), (0, z32 (min 1000000 (z64 (e + s)))), (1, z64 (s * 2)), (9, 0), (0, z32 (i + 1))] [] w 238 0 K from h)) h) (fun h => zmI (fun h => (fun h => show zwp 96 116 [(2, 35), (0, c), (1, tg), (9, 0), (0, e), (0, x), (9, 0), (1, s), (9, 0), (0, i)] [(1, z64 (x - s)), (1, 1)] w 238 0 K from zgo_imp zT33_ok (cut := fun pc => Nat.beq pc 5 || Nat.beq pc 15 || Nat.beq pc 31 || Nat.beq pc 39 || Nat.beq pc 48 || Nat.beq pc 63 || Nat.beq pc 81 || Nat.beq pc 99 || Nat.beq pc 116 || Nat.beq pc 132 || Nat.beq pc 151) 400 (show zwp 96 39 [(2, 35), (0, c), (1, tg), (9, 0), (0, e), (0, x), (0, z32 (max 1 (z64 (x - s)))), (1, z64 (s * 2)), (9, 0), (0, z32 (i + 1))] [] w 238 0 K from h)) h) (fun h => (fun h => show zwp 96 132 [(2, 35), (0, c), (1, tg), (9, 0), (0, e), (0, x), (9, 0), (1, s), (9, 0), (0, i)] [(0, z32 (Int.tdiv (z32 (e + x)) 2))] w 238 0 K from zgo_imp zT33_ok (cut := fun pc => Nat.beq pc 5 || Nat.beq pc 15 || Nat.beq pc 31 || Nat.beq pc 39 || Nat.beq pc 48 || Nat.beq pc 63 || Nat.beq pc 81 || Nat.beq pc 99 || Nat.beq pc 116 || Nat.beq pc 132 || Nat.beq pc 151) 400 (show zwp 96 39 [(2, 35), (0, c), (1, tg), (9, 0), (0, e), (0, x), (0, z32 (Int.tdiv (z32 (e + x)) 2)), (1, z64 (s * 2)), (9, 0), (0, z32 (i + 1))] [] w 238 0 K from h)) h) h) h)) h) (fun h => (fun h => show zwp 96 81 [(2, 35), (0, c), (1, tg), (9, 0), (0, x), (0, t), (9, 0), (1, s), (9, 0), (0, i)] [(0, t)] w 238 0 K from zgo_imp zT33_ok (cut := fun pc => Nat.beq pc 5 || Nat.beq pc 15 || Nat.beq pc 31 || Nat.beq pc 39 || Nat.beq pc 48 || Nat.beq pc 63 || Nat.beq pc 81 || Nat.beq pc 99 || Nat.beq pc 116 || Nat.beq pc 132 || Nat.beq pc 151) 400 (show if 1000000 < t then zwp 96 99 [(2, 35), (0, c), (1, tg), (9, 0), (0, x), (0, t), (9, 0), (1, s), (9, 0), (0, i)] [(0, z32 (min 1000000 (z64 (x + s))))] w 238 0 K else if x = 0 then zwp 96 116 [(2, 35), (0, c), (1, tg), (9, 0), (0, x), (0, t), (9, 0), (1, s), (9, 0), (0, i)] [(1, z64 (t - s)), (1, 1)] w 238 0 K else zwp 96 132 [(2, 35), (0, c), (1, tg), (9, 0), (0, x), (0, t), (9, 0), (1, s), (9, 0), (0, i)] [(0, z32 (Int.tdiv (z32 (x + t)) 2))] w 238 0 K from zmI (fun h => (fun h => show zwp 96 99 [(2, 35), (0, c), (1, tg), (9, 0), (0, x), (0, t), (9, 0), (1, s), (9, 0), (0, i)] [(0, z32 (min 1000000 (z64 (x + s))))] w 238 0 K from zgo_imp zT33_ok (cut := fun pc => Nat.beq pc 5 || Nat.beq pc 15 || Nat.beq pc 31 || Nat.beq pc 39 || Nat.beq pc 48 || Nat.beq pc 63 || Nat.beq pc 81 || Nat.beq pc 99 || Nat.beq pc 116 || Nat.beq pc 132 || Nat.beq pc 151) 400 (show zwp 96 39 [(2, 35), (0, c), (1, tg), (9, 0), (0, x), (0, t), (0, z32 (min 1000000 (z64 (x + s)))), (1, z64 (s * 2)), (9, 0), (0, z32 (i + 1))] [] w 238 0 K from h)) h) (fun h => zmI (fun h => (fun h => show zwp 96 116 [(2, 35), (0, c), (1, tg), (9, 0), (0, x), (0, t), (9, 0), (1, s), (9, 0), (0, i)] [(1, z64 (t - s)), (1, 1)] w 238 0 K from zgo_imp zT33_ok (cut := fun pc => Nat.beq pc 5 || Nat.beq pc 15 || Nat.beq pc 31 || Nat.beq pc 39 || Nat.beq pc 48 || Nat.beq pc 63 || Nat.beq pc 81 || Nat.beq pc 99 || Nat.beq pc 116 || Nat.beq pc 132 || Nat.beq pc 151) 400 (show zwp 96 39 [(2, 35), (0, c), (1, tg), (9, 0), (0, x), (0, t), (0, z32 (max 1 (z64 (t - s)))), (1, z64 (s * 2)), (9, 0), (0, z32 (i + 1))] [] w 238 0 K from h)) h) (fun h => (fun h => show zwp 96 132 [(2, 35), (0, c), (1, tg), (9, 0), (0, x), (0, t), (9, 0), (1, s), (9, 0), (0, i)] [(0, z32 (Int.tdiv (z32 (x + t)) 2))] w 238 0 K from zgo_imp zT33_ok (cut := fun pc => Nat.beq pc 5 || Nat.beq pc 15 || Nat.beq pc 31 || Nat.beq pc 39 || Nat.beq pc 48 || Nat.beq pc 63 || Nat.beq pc 81 || Nat.beq pc 99 || Nat.beq pc 116 || Nat.beq pc 132 || Nat.beq pc 151) 400 (show zwp 96 39 [(2, 35), (0, c), (1, tg), (9, 0), (0, x), (0, t), (0, z32 (Int.tdiv (z32 (x + t)) 2)), (1, z64 (s * 2)), (9, 0), (0, z32 (i + 1))] [] w 238 0 K from h)) h) h) h)) h) h)) h) h) (fun h => (fun h => show zwp 96 151 [(9, 0), (9, 0), (9, 0), (9, 0), (0, e), (9, 0), (9, 0), (9, 0), (9, 0), (9, 0)] [(0, e), (0, 1)] w 238 0 K from zgo_imp zT33_ok (cut := fun pc => Nat.beq pc 5 || Nat.beq pc 15 || Nat.beq pc 31 || Nat.beq pc 39 || Nat.beq pc 48 || Nat.beq pc 63 || Nat.beq pc 81 || Nat.beq pc 99 || Nat.beq pc 116 || Nat.beq pc 132 || Nat.beq pc 151) 400 (show K (0, some (0, max 1 e)) w 238 from h)) h) h)) h) (fun h => (fun h => show zwp 96 151 [(9, 0), (9, 0), (9, 0), (9, 0), (0, e), (9, 0), (9, 0), (9, 0), (9, 0), (9, 0)] [(0, e), (0, 1)] w 238 0 K from zgo_imp zT33_ok (cut := fun pc => Nat.beq pc 5 || Nat.beq pc 15 || Nat.beq pc 31 || Nat.beq pc 39 || Nat.beq pc 48 || Nat.beq pc 63 || Nat.beq pc 81 || Nat.beq pc 99 || Nat.beq pc 116 || Nat.beq pc 132 || Nat.beq pc 151) 400 (show K (0, some (0, max 1 e)) w 238 from h)) h) h)) ?_
    have hi : i = 62 := by omega
    subst hi
    have := zPh_0 h3.1 h3.2.1 h3.2.2 h4 h5
    refine ziF (by omega) ?_
    exact h _ (zSvP_end (t := t) (fun u v hu huv => zH_mono hu huv (by omega)) h3.1 (by omega) h6 h7 (by omega))
  | succ m ih =>
    intro i e t x s d3 d8 h1 h2 h3 h4 h5 h6 h7 h
    refine (show (if i < 62 then if 1 < z32 (t - e) then (zNt w ∧ zRd 30 w ∧ (0 ≤ c ∧ c < w 95 0) ∧ (1 ≤ x ∧ x ≤ 1001000) ∧ -1000 ≤ (0 : Int) ∧ (0 : Int) ≤ 1000) ∧ (if zH (zF0 w) (w 95 0) (fun a => w 30 a.toNat) c x (0 : Int) < tg then if 1000000 < x then zwp 96 39 [(2, 35), (0, c), (1, tg), (9, 0), (0, e), (0, x), (0, z32 (min 1000000 (z64 (e + s)))), (1, z64 (s * 2)), (9, 0), (0, z32 (i + 1))] [] w 238 0 K else if e = 0 then zwp 96 39 [(2, 35), (0, c), (1, tg), (9, 0), (0, e), (0, x), (0, z32 (max 1 (z64 (x - s)))), (1, z64 (s * 2)), (9, 0), (0, z32 (i + 1))] [] w 238 0 K else zwp 96 39 [(2, 35), (0, c), (1, tg), (9, 0), (0, e), (0, x), (0, z32 (Int.tdiv (z32 (e + x)) 2)), (1, z64 (s * 2)), (9, 0), (0, z32 (i + 1))] [] w 238 0 K else if 1000000 < t then zwp 96 39 [(2, 35), (0, c), (1, tg), (9, 0), (0, x), (0, t), (0, z32 (min 1000000 (z64 (x + s)))), (1, z64 (s * 2)), (9, 0), (0, z32 (i + 1))] [] w 238 0 K else if x = 0 then zwp 96 39 [(2, 35), (0, c), (1, tg), (9, 0), (0, x), (0, t), (0, z32 (max 1 (z64 (t - s)))), (1, z64 (s * 2)), (9, 0), (0, z32 (i + 1))] [] w 238 0 K else zwp 96 39 [(2, 35), (0, c), (1, tg), (9, 0), (0, x), (0, t), (0, z32 (Int.tdiv (z32 (x + t)) 2)), (1, z64 (s * 2)), (9, 0), (0, z32 (i + 1))] [] w 238 0 K) else K (0, some (0, max 1 e)) w 238 else K (0, some (0, max 1 e)) w 238) → _ from fun h => show zwp 96 39 [(2, 35), (0, c), (1, tg), d3, (0, e), (0, t), (0, x), (1, s), d8, (0, i)] [] w 238 0 K from zgo_imp zT33_ok (cut := fun pc => Nat.beq pc 5 || Nat.beq pc 15 || Nat.beq pc 31 || Nat.beq pc 39 || Nat.beq pc 48 || Nat.beq pc 63 || Nat.beq pc 81 || Nat.beq pc 99 || Nat.beq pc 116 || Nat.beq pc 132 || Nat.beq pc 151) 400 (show if i < 62 then zwp 96 48 [(2, 35), (0, c), (1, tg), (9, 0), (0, e), (0, t), (0, x), (1, s), (9, 0), (0, i)] [(0, t)] w 238 0 K else zwp 96 151 [(9, 0), (9, 0), (9, 0), (9, 0), (0, e), (9, 0), (9, 0), (9, 0), (9, 0), (9, 0)] [(0, e), (0, 1)] w 238 0 K from zmI (fun h => (fun h => show zwp 96 48 [(2, 35), (0, c), (1, tg), (9, 0), (0, e), (0, t), (0, x), (1, s), (9, 0), (0, i)] [(0, t)] w 238 0 K from zgo_imp zT33_ok (cut := fun pc => Nat.beq pc 5 || Nat.beq pc 15 || Nat.beq pc 31 || Nat.beq pc 39 || Nat.beq pc 48 || Nat.beq pc 63 || Nat.beq pc 81 || Nat.beq pc 99 || Nat.beq pc 116 || Nat.beq pc 132 || Nat.beq pc 151) 400 (show if 1 < z32 (t - e) then (zNt w ∧ zRd 30 w ∧ (0 ≤ c ∧ c < w 95 0) ∧ (1 ≤ x ∧ x ≤ 1001000) ∧ -1000 ≤ (0 : Int) ∧ (0 : Int) ≤ 1000) ∧ (zwp 96 63 [(2, 35), (0, c), (1, tg), (9, 0), (0, e), (0, t), (0, x), (1, s), (9, 0), (0, i)] [(1, zH (zF0 w) (w 95 0) (fun a => w 30 a.toNat) c x (0 : Int))] w 238 0 K) else zwp 96 151 [(9, 0), (9, 0), (9, 0), (9, 0), (0, e), (9, 0), (9, 0), (9, 0), (9, 0), (9, 0)] [(0, e), (0, 1)] w 238 0 K from zmI (fun h => zmA (fun h => (fun h => show zwp 96 63 [(2, 35), (0, c), (1, tg), (9, 0), (0, e), (0, t), (0, x), (1, s), (9, 0), (0, i)] [(1, zH (zF0 w) (w 95 0) (fun a => w 30 a.toNat) c x (0 : Int))] w 238 0 K from zgo_imp zT33_ok (cut := fun pc => Nat.beq pc 5 || Nat.beq pc 15 || Nat.beq pc 31 || Nat.beq pc 39 || Nat.beq pc 48 || Nat.beq pc 63 || Nat.beq pc 81 || Nat.beq pc 99 || Nat.beq pc 116 || Nat.beq pc 132 || Nat.beq pc 151) 400 (show if zH (zF0 w) (w 95 0) (fun a => w 30 a.toNat) c x (0 : Int) < tg then zwp 96 81 [(2, 35), (0, c), (1, tg), (9, 0), (0, e), (0, x), (9, 0), (1, s), (9, 0), (0, i)] [(0, x)] w 238 0 K else zwp 96 81 [(2, 35), (0, c), (1, tg), (9, 0), (0, x), (0, t), (9, 0), (1, s), (9, 0), (0, i)] [(0, t)] w 238 0 K from zmI (fun h => (fun h => show zwp 96 81 [(2, 35), (0, c), (1, tg), (9, 0), (0, e), (0, x), (9, 0), (1, s), (9, 0), (0, i)] [(0, x)] w 238 0 K from zgo_imp zT33_ok (cut := fun pc => Nat.beq pc 5 || Nat.beq pc 15 || Nat.beq pc 31 || Nat.beq pc 39 || Nat.beq pc 48 || Nat.beq pc 63 || Nat.beq pc 81 || Nat.beq pc 99 || Nat.beq pc 116 || Nat.beq pc 132 || Nat.beq pc 151) 400 (show if 1000000 < x then zwp 96 99 [(2, 35), (0, c), (1, tg), (9, 0), (0, e), (0, x), (9, 0), (1, s), (9, 0), (0, i)] [(0, z32 (min 1000000 (z64 (e + s))))] w 238 0 K else if e = 0 then zwp 96 116 [(2, 35), (0, c), (1, tg), (9, 0), (0, e), (0, x), (9, 0), (1, s), (9, 0), (0, i)] [(1, z64 (x - s)), (1, 1)] w 238 0 K else zwp 96 132 [(2, 35), (0, c), (1, tg), (9, 0), (0, e), (0, x), (9, 0), (1, s), (9, 0), (0, i)] [(0, z32 (Int.tdiv (z32 (e + x)) 2))] w 238 0 K from zmI (fun h => (fun h => show zwp 96 99 [(2, 35), (0, c), (1, tg), (9, 0), (0, e), (0, x), (9, 0), (1, s), (9, 0), (0, i)] [(0, z32 (min 1000000 (z64 (e + s))))] w 238 0 K from zgo_imp zT33_ok (cut := fun pc => Nat.beq pc 5 || Nat.beq pc 15 || Nat.beq pc 31 || Nat.beq pc 39 || Nat.beq pc 48 || Nat.beq pc 63 || Nat.beq pc 81 || Nat.beq pc 99 || Nat.beq pc 116 || Nat.beq pc 132 || Nat.beq pc 151) 400 (show zwp 96 39 [(2, 35), (0, c), (1, tg), (9, 0), (0, e), (0, x), (0, z32 (min 1000000 (z64 (e + s)))), (1, z64 (s * 2)), (9, 0), (0, z32 (i + 1))] [] w 238 0 K from h)) h) (fun h => zmI (fun h => (fun h => show zwp 96 116 [(2, 35), (0, c), (1, tg), (9, 0), (0, e), (0, x), (9, 0), (1, s), (9, 0), (0, i)] [(1, z64 (x - s)), (1, 1)] w 238 0 K from zgo_imp zT33_ok (cut := fun pc => Nat.beq pc 5 || Nat.beq pc 15 || Nat.beq pc 31 || Nat.beq pc 39 || Nat.beq pc 48 || Nat.beq pc 63 || Nat.beq pc 81 || Nat.beq pc 99 || Nat.beq pc 116 || Nat.beq pc 132 || Nat.beq pc 151) 400 (show zwp 96 39 [(2, 35), (0, c), (1, tg), (9, 0), (0, e), (0, x), (0, z32 (max 1 (z64 (x - s)))), (1, z64 (s * 2)), (9, 0), (0, z32 (i + 1))] [] w 238 0 K from h)) h) (fun h => (fun h => show zwp 96 132 [(2, 35), (0, c), (1, tg), (9, 0), (0, e), (0, x), (9, 0), (1, s), (9, 0), (0, i)] [(0, z32 (Int.tdiv (z32 (e + x)) 2))] w 238 0 K from zgo_imp zT33_ok (cut := fun pc => Nat.beq pc 5 || Nat.beq pc 15 || Nat.beq pc 31 || Nat.beq pc 39 || Nat.beq pc 48 || Nat.beq pc 63 || Nat.beq pc 81 || Nat.beq pc 99 || Nat.beq pc 116 || Nat.beq pc 132 || Nat.beq pc 151) 400 (show zwp 96 39 [(2, 35), (0, c), (1, tg), (9, 0), (0, e), (0, x), (0, z32 (Int.tdiv (z32 (e + x)) 2)), (1, z64 (s * 2)), (9, 0), (0, z32 (i + 1))] [] w 238 0 K from h)) h) h) h)) h) (fun h => (fun h => show zwp 96 81 [(2, 35), (0, c), (1, tg), (9, 0), (0, x), (0, t), (9, 0), (1, s), (9, 0), (0, i)] [(0, t)] w 238 0 K from zgo_imp zT33_ok (cut := fun pc => Nat.beq pc 5 || Nat.beq pc 15 || Nat.beq pc 31 || Nat.beq pc 39 || Nat.beq pc 48 || Nat.beq pc 63 || Nat.beq pc 81 || Nat.beq pc 99 || Nat.beq pc 116 || Nat.beq pc 132 || Nat.beq pc 151) 400 (show if 1000000 < t then zwp 96 99 [(2, 35), (0, c), (1, tg), (9, 0), (0, x), (0, t), (9, 0), (1, s), (9, 0), (0, i)] [(0, z32 (min 1000000 (z64 (x + s))))] w 238 0 K else if x = 0 then zwp 96 116 [(2, 35), (0, c), (1, tg), (9, 0), (0, x), (0, t), (9, 0), (1, s), (9, 0), (0, i)] [(1, z64 (t - s)), (1, 1)] w 238 0 K else zwp 96 132 [(2, 35), (0, c), (1, tg), (9, 0), (0, x), (0, t), (9, 0), (1, s), (9, 0), (0, i)] [(0, z32 (Int.tdiv (z32 (x + t)) 2))] w 238 0 K from zmI (fun h => (fun h => show zwp 96 99 [(2, 35), (0, c), (1, tg), (9, 0), (0, x), (0, t), (9, 0), (1, s), (9, 0), (0, i)] [(0, z32 (min 1000000 (z64 (x + s))))] w 238 0 K from zgo_imp zT33_ok (cut := fun pc => Nat.beq pc 5 || Nat.beq pc 15 || Nat.beq pc 31 || Nat.beq pc 39 || Nat.beq pc 48 || Nat.beq pc 63 || Nat.beq pc 81 || Nat.beq pc 99 || Nat.beq pc 116 || Nat.beq pc 132 || Nat.beq pc 151) 400 (show zwp 96 39 [(2, 35), (0, c), (1, tg), (9, 0), (0, x), (0, t), (0, z32 (min 1000000 (z64 (x + s)))), (1, z64 (s * 2)), (9, 0), (0, z32 (i + 1))] [] w 238 0 K from h)) h) (fun h => zmI (fun h => (fun h => show zwp 96 116 [(2, 35), (0, c), (1, tg), (9, 0), (0, x), (0, t), (9, 0), (1, s), (9, 0), (0, i)] [(1, z64 (t - s)), (1, 1)] w 238 0 K from zgo_imp zT33_ok (cut := fun pc => Nat.beq pc 5 || Nat.beq pc 15 || Nat.beq pc 31 || Nat.beq pc 39 || Nat.beq pc 48 || Nat.beq pc 63 || Nat.beq pc 81 || Nat.beq pc 99 || Nat.beq pc 116 || Nat.beq pc 132 || Nat.beq pc 151) 400 (show zwp 96 39 [(2, 35), (0, c), (1, tg), (9, 0), (0, x), (0, t), (0, z32 (max 1 (z64 (t - s)))), (1, z64 (s * 2)), (9, 0), (0, z32 (i + 1))] [] w 238 0 K from h)) h) (fun h => (fun h => show zwp 96 132 [(2, 35), (0, c), (1, tg), (9, 0), (0, x), (0, t), (9, 0), (1, s), (9, 0), (0, i)] [(0, z32 (Int.tdiv (z32 (x + t)) 2))] w 238 0 K from zgo_imp zT33_ok (cut := fun pc => Nat.beq pc 5 || Nat.beq pc 15 || Nat.beq pc 31 || Nat.beq pc 39 || Nat.beq pc 48 || Nat.beq pc 63 || Nat.beq pc 81 || Nat.beq pc 99 || Nat.beq pc 116 || Nat.beq pc 132 || Nat.beq pc 151) 400 (show zwp 96 39 [(2, 35), (0, c), (1, tg), (9, 0), (0, x), (0, t), (0, z32 (Int.tdiv (z32 (x + t)) 2)), (1, z64 (s * 2)), (9, 0), (0, z32 (i + 1))] [] w 238 0 K from h)) h) h) h)) h) h)) h) h) (fun h => (fun h => show zwp 96 151 [(9, 0), (9, 0), (9, 0), (9, 0), (0, e), (9, 0), (9, 0), (9, 0), (9, 0), (9, 0)] [(0, e), (0, 1)] w 238 0 K from zgo_imp zT33_ok (cut := fun pc => Nat.beq pc 5 || Nat.beq pc 15 || Nat.beq pc 31 || Nat.beq pc 39 || Nat.beq pc 48 || Nat.beq pc 63 || Nat.beq pc 81 || Nat.beq pc 99 || Nat.beq pc 116 || Nat.beq pc 132 || Nat.beq pc 151) 400 (show K (0, some (0, max 1 e)) w 238 from h)) h) h)) h) (fun h => (fun h => show zwp 96 151 [(9, 0), (9, 0), (9, 0), (9, 0), (0, e), (9, 0), (9, 0), (9, 0), (9, 0), (9, 0)] [(0, e), (0, 1)] w 238 0 K from zgo_imp zT33_ok (cut := fun pc => Nat.beq pc 5 || Nat.beq pc 15 || Nat.beq pc 31 || Nat.beq pc 39 || Nat.beq pc 48 || Nat.beq pc 63 || Nat.beq pc 81 || Nat.beq pc 99 || Nat.beq pc 116 || Nat.beq pc 132 || Nat.beq pc 151) 400 (show K (0, some (0, max 1 e)) w 238 from h)) h) h)) ?_
    refine ziT (by omega) ?_
    have e1 : z32 (t - e) = t - e := z32_id ⟨by omega, by omega⟩
    by_cases hg : 1 < t - e
    · refine ziT (by omega) ?_
      obtain ⟨g1, g2, g3, g4⟩ := zPh_in (m := m + 1) h2 h1 h3.1 h3.2.2 hg h4 h5
      obtain ⟨p1, p2⟩ := zPh_s h2 h1 h3.1 h3.2.2 hg h4 h5
      have hs0 := zpow_pos i.toNat
      have hs1 : s ≤ ((2 ^ 61 : Nat) : Int) := by rw [h4]; exact zpow_le (by omega)
      have hp : ((2 ^ 61 : Nat) : Int) = 2305843009213693952 := by decide
      have hs3 : s * 2 = ((2 ^ (i + 1).toNat : Nat) : Int) := by
        rw [show (i + 1).toNat = i.toNat + 1 by omega, zpow2, h4, Int.mul_comm]
      refine ⟨⟨hN, hr, hc, by omega, by omega⟩, ?_⟩
      rw [z32_id (x := i + 1) ⟨by omega, by omega⟩, z64_id (x := s * 2) ⟨by omega, by omega⟩]
      by_cases hz : zHq w 30 c x 0 < tg
      · refine ziT hz ?_
        refine ziF (by omega) ?_
        by_cases he : e = 0
        · refine ziT he ?_
          rw [if_pos he] at p2
          rw [z64_id (x := x - s) ⟨by omega, by omega⟩, z32_id (x := max 1 (x - s)) ⟨by omega, by omega⟩]
          exact ih _ _ _ _ _ _ _ (by omega) (by omega) (by omega) hs3 p2 h6 (Or.inr hz) h
        · refine ziF he ?_
          rw [if_neg he] at p2
          rw [z32_id (x := e + x) ⟨by omega, by omega⟩, Int.tdiv_eq_ediv_of_nonneg (by omega), z32_id (x := (e + x) / 2) ⟨by omega, by omega⟩]
          exact ih _ _ _ _ _ _ _ (by omega) (by omega) (by omega) hs3 p2 h6 (Or.inr hz) h
      · refine ziF hz ?_
        by_cases ht : 1000000 < t
        · refine ziT ht ?_
          rw [if_pos ht] at p1
          rw [z64_id (x := x + s) ⟨by omega, by omega⟩, z32_id (x := min 1000000 (x + s)) ⟨by omega, by omega⟩]
          exact ih _ _ _ _ _ _ _ (by omega) (by omega) (by omega) hs3 p1 (Or.inr (by omega)) h7 h
        · refine ziF ht ?_
          refine ziF (by omega) ?_
          rw [if_neg ht] at p1
          rw [z32_id (x := x + t) ⟨by omega, by omega⟩, Int.tdiv_eq_ediv_of_nonneg (by omega), z32_id (x := (x + t) / 2) ⟨by omega, by omega⟩]
          exact ih _ _ _ _ _ _ _ (by omega) (by omega) (by omega) hs3 p1 (Or.inr (by omega)) h7 h
    · refine ziF (by omega) ?_
      exact h _ (zSvP_end (t := t) (fun u v hu huv => zH_mono hu huv (by omega)) h3.1 (by omega) h6 h7 (by omega))
/-! $Solver.solvedRadius -/
set_option maxRecDepth 100000 in
theorem zk96_35 (c : Int) (w : zW) (K : zK) (h : (zNt w ∧ zRd 30 w ∧ 0 ≤ c ∧ c < w 95 0) ∧ (K (0, some (0, zSR w 30 c)) (w) 238)) : zcall 96 [(2, 35), (0, c), (9, 0), (9, 0), (9, 0), (9, 0), (9, 0), (9, 0), (9, 0), (9, 0)] w 238 K := by
  obtain ⟨hg, h⟩ := h
  refine (show ((zNt w ∧ 0 ≤ c ∧ c < w 95 0) ∧ (if ((if zSb w c then 1 else 0) : Int) = 0 then K (0, some (0, (-1))) w 238 else (zNt w ∧ 0 ≤ c ∧ c < w 95 0) ∧ (zif False (0 ≤ c ∧ c < 12) (zwp 96 39 [(2, 35), (0, c), (1, zTgt (w 97 c.toNat)), (9, 0), (0, 0), (0, 1000001), (0, w 30 c.toNat), (1, 1), (9, 0), (0, 0)] [] w 238 0 K)))) → _ from fun h => show zwp 96 0 [(2, 35), (0, c), (9, 0), (9, 0), (9, 0), (9, 0), (9, 0), (9, 0), (9, 0), (9, 0)] [] w 238 0 K from zgo_imp zT33_ok (cut := fun pc => Nat.beq pc 5 || Nat.beq pc 15 || Nat.beq pc 31 || Nat.beq pc 39 || Nat.beq pc 48 || Nat.beq pc 63 || Nat.beq pc 81 || Nat.beq pc 99 || Nat.beq pc 116 || Nat.beq pc 132 || Nat.beq pc 151) 400 (show (zNt w ∧ 0 ≤ c ∧ c < w 95 0) ∧ (zwp 96 5 [(2, 35), (0, c), (9, 0), (9, 0), (9, 0), (9, 0), (9, 0), (9, 0), (9, 0), (9, 0)] [(0, ((if zSb w c then 1 else 0) : Int))] w 238 0 K) from zmA (fun h => (fun h => show zwp 96 5 [(2, 35), (0, c), (9, 0), (9, 0), (9, 0), (9, 0), (9, 0), (9, 0), (9, 0), (9, 0)] [(0, ((if zSb w c then 1 else 0) : Int))] w 238 0 K from zgo_imp zT33_ok (cut := fun pc => Nat.beq pc 5 || Nat.beq pc 15 || Nat.beq pc 31 || Nat.beq pc 39 || Nat.beq pc 48 || Nat.beq pc 63 || Nat.beq pc 81 || Nat.beq pc 99 || Nat.beq pc 116 || Nat.beq pc 132 || Nat.beq pc 151) 400 (show if ((if zSb w c then 1 else 0) : Int) = 0 then K (0, some (0, (-1))) w 238 else (zNt w ∧ 0 ≤ c ∧ c < w 95 0) ∧ (zwp 96 15 [(2, 35), (0, c), (9, 0), (9, 0), (9, 0), (9, 0), (9, 0), (9, 0), (9, 0), (9, 0)] [(1, zTgt (w 97 c.toNat))] w 238 0 K) from zmI (fun h => h) (fun h => zmA (fun h => (fun h => show zwp 96 15 [(2, 35), (0, c), (9, 0), (9, 0), (9, 0), (9, 0), (9, 0), (9, 0), (9, 0), (9, 0)] [(1, zTgt (w 97 c.toNat))] w 238 0 K from zgo_imp zT33_ok (cut := fun pc => Nat.beq pc 5 || Nat.beq pc 15 || Nat.beq pc 31 || Nat.beq pc 39 || Nat.beq pc 48 || Nat.beq pc 63 || Nat.beq pc 81 || Nat.beq pc 99 || Nat.beq pc 116 || Nat.beq pc 132 || Nat.beq pc 151) 400 (show zif False (0 ≤ c ∧ c < 12) (zwp 96 31 [(2, 35), (0, c), (1, zTgt (w 97 c.toNat)), (9, 0), (0, 0), (0, 1000001), (9, 0), (9, 0), (9, 0), (9, 0)] [(0, w 30 c.toNat)] w 238 0 K) from zmZ (fun h => (fun h => show zwp 96 31 [(2, 35), (0, c), (1, zTgt (w 97 c.toNat)), (9, 0), (0, 0), (0, 1000001), (9, 0), (9, 0), (9, 0), (9, 0)] [(0, w 30 c.toNat)] w 238 0 K from zgo_imp zT33_ok (cut := fun pc => Nat.beq pc 5 || Nat.beq pc 15 || Nat.beq pc 31 || Nat.beq pc 39 || Nat.beq pc 48 || Nat.beq pc 63 || Nat.beq pc 81 || Nat.beq pc 99 || Nat.beq pc 116 || Nat.beq pc 132 || Nat.beq pc 151) 400 (show zwp 96 39 [(2, 35), (0, c), (1, zTgt (w 97 c.toNat)), (9, 0), (0, 0), (0, 1000001), (0, w 30 c.toNat), (1, 1), (9, 0), (0, 0)] [] w 238 0 K from h)) h) h)) h) h) h)) h) h)) ?_
  obtain ⟨hN, hr, hc⟩ := hg
  have hn := hN.n
  have h1 := hr c hc.1 hc.2
  refine ⟨⟨hN, hc⟩, ?_⟩
  by_cases hb : zSb w c
  · refine ziF (by rw [if_pos hb]; decide) ⟨⟨hN, hc⟩, zifI (by omega) ?_⟩
    refine zk96_L39 hN hr c _ hc 62 0 0 1000001 _ 1 _ _ (by omega) (by omega) (by omega) (by decide) (Or.inl ⟨rfl, rfl, rfl, by omega, by omega, rfl⟩) (Or.inl rfl) (Or.inl rfl) fun v hv => ?_
    refine zKe h ?_
    unfold zSR
    rw [if_pos hb]
    exact zSv_eq hv
  · refine ziT (if_neg hb) (zKe h (if_neg hb))
noncomputable def zb96 (l0 : List zV) (w : zW) (K : zK) : Prop := cond (zpe (zar l0 0) 35) (zA l0 1 fun c => (zNt w ∧ zRd 30 w ∧ 0 ≤ c ∧ c < w 95 0) ∧ (K (0, some (0, zSR w 30 c)) (w) 238)) (False)
noncomputable def zT34 : zSum := zsm1 96 [2, 0, 9, 9, 9, 9, 9, 9, 9, 9] zb96 zT33
theorem zT34_ok : zSok zT34 := zsm1_ok zT33_ok fun l0 w K h => by
  unfold zb96 at h
  cases q0 : zpe (zar l0 0) 35 with
  | true =>
    rw [q0, cond_true] at h
    have e : zar l0 0 = 35 := zpe_e q0
    show zcall 96 [(2, zar l0 0), (0, zar l0 1), (9, 0), (9, 0), (9, 0), (9, 0), (9, 0), (9, 0), (9, 0), (9, 0)] w 238 K
    rw [e]
    exact zk96_35 (zar l0 1) w K (zA_e h)
  | false =>
  rw [q0, cond_false] at h
  exact h.elim

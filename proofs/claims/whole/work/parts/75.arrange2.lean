/-! ===== the class arranges the rows: one row, all (written by wip/whole/gen_c.py) ===== -/
def zRkf (w : zW) (c i : Int) (k : Nat) : Int := if 12 * c ≤ k ∧ (k : Int) < 12 * c + i then zrw (zTC w) (w 14 0) c (k - 12 * c) else w 20 k
def zRk (w : zW) (c i : Int) : zW := zfill w 20 (zRkf w c i)
theorem zRk_0 (w : zW) (c : Int) : zRk w c 0 = w := by
  refine (congrArg (zfill w 20) (funext fun k => ?_)).trans (zfill_self w 20)
  exact if_neg (by omega)
theorem zRk_up {w : zW} {c i : Int} (c0 : 0 ≤ c) (i0 : 0 ≤ i) : zupd (zRk w c i) 20 (12 * c + i).toNat (zrw (zTC w) (w 14 0) c i) = zRk w c (i + 1) := by
  funext q k
  unfold zupd zRk zfill
  by_cases e : q = 20
  · rw [if_pos e, if_pos e, if_pos e]
    unfold zRkf
    by_cases e2 : k = (12 * c + i).toNat
    · rw [if_pos e2, if_pos (by omega), show (k : Int) - 12 * c = i by omega]
    · rw [if_neg e2]
      by_cases e3 : 12 * c ≤ k ∧ (k : Int) < 12 * c + i
      · rw [if_pos e3, if_pos (by omega)]
      · rw [if_neg e3, if_neg (by omega)]
  · rw [if_neg e, if_neg e, if_neg e]
/-- a circle's row, arranged -/
def zRg (T : Int → Int → Int) (n c : Int) : Int := if zFs T n c = -1 then 0 else if T (zFs T n c) c = -1 then 0 else 1
def zAw (w : zW) (c : Int) : zW := zupd (zRk (zupd w 22 c.toNat (zRg (zTC w) (w 14 0) c)) c (zLn (zTC w) (w 14 0) c)) 21 c.toNat (zLn (zTC w) (w 14 0) c)
def zRf (T : Int → Int → Int) (n : Int) (v : zW) (d : Int) : Prop := v 21 d.toNat = zLn T n d ∧ v 22 d.toNat = zRg T n d ∧ ∀ i, 0 ≤ i → i < zLn T n d → v 20 (12 * d + i).toNat = zrw T n d i
theorem zLn_rg {T : Int → Int → Int} {n : Int} (hT : zTab T n) {c : Int} (hc : 0 ≤ c ∧ c < 12) : 0 ≤ zLn T n c ∧ zLn T n c ≤ 12 := by
  by_cases g : zFs T n c = -1
  · rw [show zLn T n c = 0 from if_pos g]; omega
  · have := (zLn_ok hT hc g).1
    omega
theorem zAw_ne {w : zW} {c : Int} {p : Nat} (h : p ≠ 20) (h1 : p ≠ 21) (h2 : p ≠ 22) : zAw w c p = w p := by
  unfold zAw zRk
  rw [zune h1, zfill_no h, zune h2]
theorem zAw_c {w : zW} (hT : zTab (zTC w) (w 14 0)) {c : Int} (hc : 0 ≤ c ∧ c < 12) : zRf (zTC w) (w 14 0) (zAw w c) c := by
  have l := zLn_rg hT hc
  refine ⟨zupd_i _ _ _ _, zupd_i w 22 _ _, fun i i0 i1 => ?_⟩
  show (if 12 * c ≤ ((12 * c + i).toNat : Int) ∧ ((12 * c + i).toNat : Int) < 12 * c + zLn (zTC w) (w 14 0) c then zrw (zTC w) (w 14 0) c (((12 * c + i).toNat : Int) - 12 * c) else w 20 (12 * c + i).toNat) = _
  rw [if_pos (by omega), show ((12 * c + i).toNat : Int) - 12 * c = i by omega]
theorem zAw_d {w : zW} (hT : zTab (zTC w) (w 14 0)) {c : Int} (hc : 0 ≤ c ∧ c < 12) {T : Int → Int → Int} {n d : Int} (d0 : 0 ≤ d) (d1 : d < 12) (hd : d ≠ c) (l : zLn T n d ≤ 12) (h : zRf T n w d) : zRf T n (zAw w c) d := by
  have lc := zLn_rg hT hc
  refine ⟨?_, ?_, fun i i0 i1 => ?_⟩
  · show (if d.toNat = c.toNat then _ else w 21 d.toNat) = _
    rw [if_neg (by omega)]; exact h.1
  · show (if d.toNat = c.toNat then _ else w 22 d.toNat) = _
    rw [if_neg (by omega)]; exact h.2.1
  · show (if 12 * c ≤ ((12 * d + i).toNat : Int) ∧ ((12 * d + i).toNat : Int) < 12 * c + zLn (zTC w) (w 14 0) c then _ else w 20 (12 * d + i).toNat) = _
    rw [if_neg (by omega)]; exact h.2.2 i i0 i1
set_option maxRecDepth 100000 in
theorem zk41_L40 {w : zW} {K : zK} (c : Int) (hC : zCT w) (hc : 0 ≤ c ∧ c < 12)  : ∀ (m : Nat) (i x : Int), (0 ≤ i) → (i + m = zLn (zTC w) (w 14 0) c) → (x = if i < zLn (zTC w) (w 14 0) c then zrw (zTC w) (w 14 0) c i else -1) → (∀ d2 d4 d5 : zV, zwp 41 94 [(2, 14), (0, c), d2, (0, zLn (zTC w) (w 14 0) c), d4, d5] [] (zRk w c (zLn (zTC w) (w 14 0) c)) 238 0 K) → zwp 41 40 [(2, 14), (0, c), (0, zFs (zTC w) (w 14 0) c), (0, i), (0, x), (0, i)] [] (zRk w c i) 238 0 K := by
  
  intro m
  induction m with
  | zero =>
    intro i x  h1 h2 hx h
    refine (show (if i < 12 then if x = (-1) then zwp 41 94 [(2, 14), (0, c), (0, zFs (zTC w) (w 14 0) c), (0, i), (0, x), (0, i)] [] (zRk w c i) 238 0 K else zif False (0 ≤ z32 ((z32 (c * 12)) + i) ∧ z32 ((z32 (c * 12)) + i) < 144) ((zCT w ∧ (0 ≤ c ∧ c < 12) ∧ 0 ≤ x ∧ x < 12) ∧ (if zTC w c x = zFs (zTC w) (w 14 0) c then zwp 41 40 [(2, 14), (0, c), (0, zFs (zTC w) (w 14 0) c), (0, z32 (i + 1)), (0, (-1)), (0, z32 (i + 1))] [] (zupd (zRk w c i) 20 (z32 ((z32 (c * 12)) + i)).toNat x) 238 0 K else zwp 41 40 [(2, 14), (0, c), (0, zFs (zTC w) (w 14 0) c), (0, z32 (i + 1)), (0, zTC w c x), (0, z32 (i + 1))] [] (zupd (zRk w c i) 20 (z32 ((z32 (c * 12)) + i)).toNat x) 238 0 K)) else zwp 41 94 [(2, 14), (0, c), (0, zFs (zTC w) (w 14 0) c), (0, i), (0, x), (0, i)] [] (zRk w c i) 238 0 K) → _ from fun h => show zwp 41 40 [(2, 14), (0, c), (0, zFs (zTC w) (w 14 0) c), (0, i), (0, x), (0, i)] [] (zRk w c i) 238 0 K from zgo_imp zT201_ok (cut := fun pc => Nat.beq pc 5 || Nat.beq pc 18 || Nat.beq pc 22 || Nat.beq pc 35 || Nat.beq pc 40 || Nat.beq pc 53 || Nat.beq pc 67 || Nat.beq pc 77 || Nat.beq pc 94 || Nat.beq pc 95 || Nat.beq pc 107) 400 (show if i < 12 then if x = (-1) then zwp 41 94 [(2, 14), (0, c), (0, zFs (zTC w) (w 14 0) c), (0, i), (0, x), (0, i)] [] (zRk w c i) 238 0 K else zwp 41 53 [(2, 14), (0, c), (0, zFs (zTC w) (w 14 0) c), (0, i), (0, x), (0, i)] [] (zRk w c i) 238 0 K else zwp 41 94 [(2, 14), (0, c), (0, zFs (zTC w) (w 14 0) c), (0, i), (0, x), (0, i)] [] (zRk w c i) 238 0 K from zmI (fun h => zmI (fun h => h) (fun h => (fun h => show zwp 41 53 [(2, 14), (0, c), (0, zFs (zTC w) (w 14 0) c), (0, i), (0, x), (0, i)] [] (zRk w c i) 238 0 K from zgo_imp zT201_ok (cut := fun pc => Nat.beq pc 5 || Nat.beq pc 18 || Nat.beq pc 22 || Nat.beq pc 35 || Nat.beq pc 40 || Nat.beq pc 53 || Nat.beq pc 67 || Nat.beq pc 77 || Nat.beq pc 94 || Nat.beq pc 95 || Nat.beq pc 107) 400 (show zif False (0 ≤ z32 ((z32 (c * 12)) + i) ∧ z32 ((z32 (c * 12)) + i) < 144) (zwp 41 67 [(2, 14), (0, c), (0, zFs (zTC w) (w 14 0) c), (0, i), (0, x), (0, i)] [] (zupd (zRk w c i) 20 (z32 ((z32 (c * 12)) + i)).toNat x) 238 0 K) from zmZ (fun h => (fun h => show zwp 41 67 [(2, 14), (0, c), (0, zFs (zTC w) (w 14 0) c), (0, i), (0, x), (0, i)] [] (zupd (zRk w c i) 20 (z32 ((z32 (c * 12)) + i)).toNat x) 238 0 K from zgo_imp zT201_ok (cut := fun pc => Nat.beq pc 5 || Nat.beq pc 18 || Nat.beq pc 22 || Nat.beq pc 35 || Nat.beq pc 40 || Nat.beq pc 53 || Nat.beq pc 67 || Nat.beq pc 77 || Nat.beq pc 94 || Nat.beq pc 95 || Nat.beq pc 107) 400 (show (zCT w ∧ (0 ≤ c ∧ c < 12) ∧ 0 ≤ x ∧ x < 12) ∧ (zwp 41 77 [(2, 14), (0, c), (0, zFs (zTC w) (w 14 0) c), (0, z32 (i + 1)), (0, x), (0, i)] [(0, zTC w c x)] (zupd (zRk w c i) 20 (z32 ((z32 (c * 12)) + i)).toNat x) 238 0 K) from zmA (fun h => (fun h => show zwp 41 77 [(2, 14), (0, c), (0, zFs (zTC w) (w 14 0) c), (0, z32 (i + 1)), (0, x), (0, i)] [(0, zTC w c x)] (zupd (zRk w c i) 20 (z32 ((z32 (c * 12)) + i)).toNat x) 238 0 K from zgo_imp zT201_ok (cut := fun pc => Nat.beq pc 5 || Nat.beq pc 18 || Nat.beq pc 22 || Nat.beq pc 35 || Nat.beq pc 40 || Nat.beq pc 53 || Nat.beq pc 67 || Nat.beq pc 77 || Nat.beq pc 94 || Nat.beq pc 95 || Nat.beq pc 107) 400 (show if zTC w c x = zFs (zTC w) (w 14 0) c then zwp 41 40 [(2, 14), (0, c), (0, zFs (zTC w) (w 14 0) c), (0, z32 (i + 1)), (0, (-1)), (0, z32 (i + 1))] [] (zupd (zRk w c i) 20 (z32 ((z32 (c * 12)) + i)).toNat x) 238 0 K else zwp 41 40 [(2, 14), (0, c), (0, zFs (zTC w) (w 14 0) c), (0, z32 (i + 1)), (0, zTC w c x), (0, z32 (i + 1))] [] (zupd (zRk w c i) 20 (z32 ((z32 (c * 12)) + i)).toNat x) 238 0 K from h)) h) h)) h) h)) h) h) (fun h => h) h)) ?_
    have hn := hC.1
    have l := zLn_rg hC.2.2.2 hc
    have ei : i = zLn (zTC w) (w 14 0) c := by omega
    rw [if_neg (by omega)] at hx
    rw [hx]
    by_cases g : i < 12
    · refine ziT g (ziT rfl ?_)
      rw [ei]
      exact h _ _ _
    · refine ziF g ?_
      rw [ei]
      exact h _ _ _
  | succ m ih =>
    intro i x  h1 h2 hx h
    refine (show (if i < 12 then if x = (-1) then zwp 41 94 [(2, 14), (0, c), (0, zFs (zTC w) (w 14 0) c), (0, i), (0, x), (0, i)] [] (zRk w c i) 238 0 K else zif False (0 ≤ z32 ((z32 (c * 12)) + i) ∧ z32 ((z32 (c * 12)) + i) < 144) ((zCT w ∧ (0 ≤ c ∧ c < 12) ∧ 0 ≤ x ∧ x < 12) ∧ (if zTC w c x = zFs (zTC w) (w 14 0) c then zwp 41 40 [(2, 14), (0, c), (0, zFs (zTC w) (w 14 0) c), (0, z32 (i + 1)), (0, (-1)), (0, z32 (i + 1))] [] (zupd (zRk w c i) 20 (z32 ((z32 (c * 12)) + i)).toNat x) 238 0 K else zwp 41 40 [(2, 14), (0, c), (0, zFs (zTC w) (w 14 0) c), (0, z32 (i + 1)), (0, zTC w c x), (0, z32 (i + 1))] [] (zupd (zRk w c i) 20 (z32 ((z32 (c * 12)) + i)).toNat x) 238 0 K)) else zwp 41 94 [(2, 14), (0, c), (0, zFs (zTC w) (w 14 0) c), (0, i), (0, x), (0, i)] [] (zRk w c i) 238 0 K) → _ from fun h => show zwp 41 40 [(2, 14), (0, c), (0, zFs (zTC w) (w 14 0) c), (0, i), (0, x), (0, i)] [] (zRk w c i) 238 0 K from zgo_imp zT201_ok (cut := fun pc => Nat.beq pc 5 || Nat.beq pc 18 || Nat.beq pc 22 || Nat.beq pc 35 || Nat.beq pc 40 || Nat.beq pc 53 || Nat.beq pc 67 || Nat.beq pc 77 || Nat.beq pc 94 || Nat.beq pc 95 || Nat.beq pc 107) 400 (show if i < 12 then if x = (-1) then zwp 41 94 [(2, 14), (0, c), (0, zFs (zTC w) (w 14 0) c), (0, i), (0, x), (0, i)] [] (zRk w c i) 238 0 K else zwp 41 53 [(2, 14), (0, c), (0, zFs (zTC w) (w 14 0) c), (0, i), (0, x), (0, i)] [] (zRk w c i) 238 0 K else zwp 41 94 [(2, 14), (0, c), (0, zFs (zTC w) (w 14 0) c), (0, i), (0, x), (0, i)] [] (zRk w c i) 238 0 K from zmI (fun h => zmI (fun h => h) (fun h => (fun h => show zwp 41 53 [(2, 14), (0, c), (0, zFs (zTC w) (w 14 0) c), (0, i), (0, x), (0, i)] [] (zRk w c i) 238 0 K from zgo_imp zT201_ok (cut := fun pc => Nat.beq pc 5 || Nat.beq pc 18 || Nat.beq pc 22 || Nat.beq pc 35 || Nat.beq pc 40 || Nat.beq pc 53 || Nat.beq pc 67 || Nat.beq pc 77 || Nat.beq pc 94 || Nat.beq pc 95 || Nat.beq pc 107) 400 (show zif False (0 ≤ z32 ((z32 (c * 12)) + i) ∧ z32 ((z32 (c * 12)) + i) < 144) (zwp 41 67 [(2, 14), (0, c), (0, zFs (zTC w) (w 14 0) c), (0, i), (0, x), (0, i)] [] (zupd (zRk w c i) 20 (z32 ((z32 (c * 12)) + i)).toNat x) 238 0 K) from zmZ (fun h => (fun h => show zwp 41 67 [(2, 14), (0, c), (0, zFs (zTC w) (w 14 0) c), (0, i), (0, x), (0, i)] [] (zupd (zRk w c i) 20 (z32 ((z32 (c * 12)) + i)).toNat x) 238 0 K from zgo_imp zT201_ok (cut := fun pc => Nat.beq pc 5 || Nat.beq pc 18 || Nat.beq pc 22 || Nat.beq pc 35 || Nat.beq pc 40 || Nat.beq pc 53 || Nat.beq pc 67 || Nat.beq pc 77 || Nat.beq pc 94 || Nat.beq pc 95 || Nat.beq pc 107) 400 (show (zCT w ∧ (0 ≤ c ∧ c < 12) ∧ 0 ≤ x ∧ x < 12) ∧ (zwp 41 77 [(2, 14), (0, c), (0, zFs (zTC w) (w 14 0) c), (0, z32 (i + 1)), (0, x), (0, i)] [(0, zTC w c x)] (zupd (zRk w c i) 20 (z32 ((z32 (c * 12)) + i)).toNat x) 238 0 K) from zmA (fun h => (fun h => show zwp 41 77 [(2, 14), (0, c), (0, zFs (zTC w) (w 14 0) c), (0, z32 (i + 1)), (0, x), (0, i)] [(0, zTC w c x)] (zupd (zRk w c i) 20 (z32 ((z32 (c * 12)) + i)).toNat x) 238 0 K from zgo_imp zT201_ok (cut := fun pc => Nat.beq pc 5 || Nat.beq pc 18 || Nat.beq pc 22 || Nat.beq pc 35 || Nat.beq pc 40 || Nat.beq pc 53 || Nat.beq pc 67 || Nat.beq pc 77 || Nat.beq pc 94 || Nat.beq pc 95 || Nat.beq pc 107) 400 (show if zTC w c x = zFs (zTC w) (w 14 0) c then zwp 41 40 [(2, 14), (0, c), (0, zFs (zTC w) (w 14 0) c), (0, z32 (i + 1)), (0, (-1)), (0, z32 (i + 1))] [] (zupd (zRk w c i) 20 (z32 ((z32 (c * 12)) + i)).toNat x) 238 0 K else zwp 41 40 [(2, 14), (0, c), (0, zFs (zTC w) (w 14 0) c), (0, z32 (i + 1)), (0, zTC w c x), (0, z32 (i + 1))] [] (zupd (zRk w c i) 20 (z32 ((z32 (c * 12)) + i)).toNat x) 238 0 K from h)) h) h)) h) h)) h) h) (fun h => h) h)) ?_
    have hn := hC.1
    have l := zLn_rg hC.2.2.2 hc
    have hf : zFs (zTC w) (w 14 0) c ≠ -1 := fun g => by
      have : zLn (zTC w) (w 14 0) c = 0 := if_pos g
      omega
    obtain ⟨l1, l2, l3⟩ := zLn_ok hC.2.2.2 hc hf
    have fr : 0 ≤ zFs (zTC w) (w 14 0) c ∧ zFs (zTC w) (w 14 0) c < w 14 0 := by
      rcases zFs_c hC.2.2.2 hc with q | q
      · exact (hf q.1).elim
      · exact q.1
    rw [if_pos (by omega)] at hx
    have r := zrw_rg hC.2.2.2 hc fr i.toNat (fun j j0 j1 => (l3 j j0 (by omega)).1)
    rw [show ((i.toNat : Nat) : Int) = i by omega] at r
    have es := zrw_succ (zTC w) (w 14 0) c i h1
    rw [hx, z32_id (x := c * 12) ⟨by omega, by omega⟩, z32_id (x := c * 12 + i) ⟨by omega, by omega⟩, z32_id (x := i + 1) ⟨by omega, by omega⟩, show c * 12 + i = 12 * c + i by omega, zRk_up hc.1 h1]
    refine ziT (by omega) (ziF (by omega) (zifI (by omega) ⟨⟨hC, hc, ⟨r.1, by omega⟩⟩, ?_⟩))
    rw [← es]
    have fin : ∀ y : Int, (y = if i + 1 < zLn (zTC w) (w 14 0) c then zrw (zTC w) (w 14 0) c (i + 1) else -1) → zwp 41 40 [(2, 14), (0, c), (0, zFs (zTC w) (w 14 0) c), (0, i + 1), (0, y), (0, i + 1)] [] (zRk w c (i + 1)) 238 0 K := fun y hy => ih (i + 1) y (by omega) (by omega) hy h
    by_cases g : i + 1 < zLn (zTC w) (w 14 0) c
    · have l4 := l3 (i + 1) (by omega) g
      exact ziF l4.2 (fin _ (by rw [if_pos g]))
    · have ei : i + 1 = zLn (zTC w) (w 14 0) c := by omega
      rw [← ei] at l2
      rcases l2 with q | q
      · rw [q]
        exact ziF (fun z => hf z.symm) (fin _ (by rw [if_neg g]))
      · exact ziT q (fin _ (by rw [if_neg g]))
set_option maxRecDepth 100000 in
theorem zk41_B94 {w : zW} {K : zK} (c l : Int) (hC : zCT w) (hc : 0 ≤ c ∧ c < 12) (d2 d4 d5 : zV) (h : K (0, some (0, if l = zNb (zTC w) (w 14 0) c then 1 else 0)) (zupd w 21 c.toNat l) 238) : zwp 41 94 [(2, 14), (0, c), d2, (0, l), d4, d5] [] w 238 0 K := by
  revert h
  intro h
  refine (show (zif False (0 ≤ c ∧ c < 12) ((zCT w ∧ 0 ≤ c ∧ c < 12) ∧ (if l = zNb (zTC w) ((w 14 0)) c then K (0, some (0, 1)) (zupd w 21 c.toNat l) 238 else K (0, some (0, 0)) (zupd w 21 c.toNat l) 238))) → _ from fun h => show zwp 41 94 [(2, 14), (0, c), d2, (0, l), d4, d5] [] w 238 0 K from zgo_imp zT201_ok (cut := fun pc => Nat.beq pc 5 || Nat.beq pc 18 || Nat.beq pc 22 || Nat.beq pc 35 || Nat.beq pc 53 || Nat.beq pc 67 || Nat.beq pc 77 || Nat.beq pc 95 || Nat.beq pc 107) 400 (show zwp 41 95 [(2, 14), (0, c), (9, 0), (0, l), (9, 0), (9, 0)] [(2, 14)] w 238 0 K from (fun h => show zwp 41 95 [(2, 14), (0, c), (9, 0), (0, l), (9, 0), (9, 0)] [(2, 14)] w 238 0 K from zgo_imp zT201_ok (cut := fun pc => Nat.beq pc 5 || Nat.beq pc 18 || Nat.beq pc 22 || Nat.beq pc 35 || Nat.beq pc 53 || Nat.beq pc 67 || Nat.beq pc 77 || Nat.beq pc 95 || Nat.beq pc 107) 400 (show zif False (0 ≤ c ∧ c < 12) ((zCT w ∧ 0 ≤ c ∧ c < 12) ∧ (zwp 41 107 [(2, 14), (0, c), (9, 0), (0, l), (9, 0), (9, 0)] [(0, zNb (zTC w) ((w 14 0)) c), (0, l)] (zupd w 21 c.toNat l) 238 0 K)) from zmZ (fun h => zmA (fun h => (fun h => show zwp 41 107 [(2, 14), (0, c), (9, 0), (0, l), (9, 0), (9, 0)] [(0, zNb (zTC w) ((w 14 0)) c), (0, l)] (zupd w 21 c.toNat l) 238 0 K from zgo_imp zT201_ok (cut := fun pc => Nat.beq pc 5 || Nat.beq pc 18 || Nat.beq pc 22 || Nat.beq pc 35 || Nat.beq pc 53 || Nat.beq pc 67 || Nat.beq pc 77 || Nat.beq pc 95 || Nat.beq pc 107) 400 (show if l = zNb (zTC w) ((w 14 0)) c then K (0, some (0, 1)) (zupd w 21 c.toNat l) 238 else K (0, some (0, 0)) (zupd w 21 c.toNat l) 238 from h)) h) h) h)) h)) ?_
  refine zifI (by omega) ⟨⟨zCT_fr rfl rfl rfl hC, hc⟩, ?_⟩
  by_cases g : l = zNb (zTC w) (w 14 0) c
  · rw [if_pos g] at h
    exact ziT g h
  · rw [if_neg g] at h
    exact ziF g h
/-! $Net.arrangeRow -/
set_option maxRecDepth 100000 in
theorem zk41_14 (c : Int) (w : zW) (K : zK) (h : (zCT w ∧ 0 ≤ c ∧ c < 12) ∧ (K (0, some (0, (if zLn (zTC w) (w 14 0) c = zNb (zTC w) (w 14 0) c then 1 else 0))) (zAw w c) 238)) : zcall 41 [(2, 14), (0, c), (9, 0), (9, 0), (9, 0), (9, 0)] w 238 K := by
  obtain ⟨hg, h⟩ := h
  refine (show ((zCT w ∧ 0 ≤ c ∧ c < 12) ∧ (if zFs (zTC w) (w 14 0) c = (-1) then zif False (0 ≤ c ∧ c < 12) (zwp 41 40 [(2, 14), (0, c), (0, zFs (zTC w) (w 14 0) c), (0, 0), (0, zFs (zTC w) (w 14 0) c), (0, 0)] [] (zupd w 22 c.toNat 0) 238 0 K) else zif False ((0 ≤ (zFs (zTC w) (w 14 0) c) ∧ (zFs (zTC w) (w 14 0) c) < 12) ∧ (0 ≤ c ∧ c < 12)) (if w 19 (12 * (zFs (zTC w) (w 14 0) c) + c).toNat = (-1) then zif False (0 ≤ c ∧ c < 12) (zwp 41 40 [(2, 14), (0, c), (0, zFs (zTC w) (w 14 0) c), (0, 0), (0, zFs (zTC w) (w 14 0) c), (0, 0)] [] (zupd w 22 c.toNat 0) 238 0 K) else zif False (0 ≤ c ∧ c < 12) (zwp 41 40 [(2, 14), (0, c), (0, zFs (zTC w) (w 14 0) c), (0, 0), (0, zFs (zTC w) (w 14 0) c), (0, 0)] [] (zupd w 22 c.toNat 1) 238 0 K)))) → _ from fun h => show zwp 41 0 [(2, 14), (0, c), (9, 0), (9, 0), (9, 0), (9, 0)] [] w 238 0 K from zgo_imp zT201_ok (cut := fun pc => Nat.beq pc 5 || Nat.beq pc 18 || Nat.beq pc 22 || Nat.beq pc 35 || Nat.beq pc 40 || Nat.beq pc 53 || Nat.beq pc 67 || Nat.beq pc 77 || Nat.beq pc 95 || Nat.beq pc 107) 400 (show (zCT w ∧ 0 ≤ c ∧ c < 12) ∧ (zwp 41 5 [(2, 14), (0, c), (9, 0), (9, 0), (9, 0), (9, 0)] [(0, zFs (zTC w) (w 14 0) c)] w 238 0 K) from zmA (fun h => (fun h => show zwp 41 5 [(2, 14), (0, c), (9, 0), (9, 0), (9, 0), (9, 0)] [(0, zFs (zTC w) (w 14 0) c)] w 238 0 K from zgo_imp zT201_ok (cut := fun pc => Nat.beq pc 5 || Nat.beq pc 18 || Nat.beq pc 22 || Nat.beq pc 35 || Nat.beq pc 40 || Nat.beq pc 53 || Nat.beq pc 67 || Nat.beq pc 77 || Nat.beq pc 95 || Nat.beq pc 107) 400 (show if zFs (zTC w) (w 14 0) c = (-1) then zif False (0 ≤ c ∧ c < 12) (zwp 41 35 [(2, 14), (0, c), (0, zFs (zTC w) (w 14 0) c), (0, 0), (9, 0), (9, 0)] [(0, zFs (zTC w) (w 14 0) c)] (zupd w 22 c.toNat 0) 238 0 K) else zwp 41 18 [(2, 14), (0, c), (0, zFs (zTC w) (w 14 0) c), (9, 0), (9, 0), (9, 0)] [(0, zFs (zTC w) (w 14 0) c), (2, 14), (0, c), (2, 22)] w 238 0 K from zmI (fun h => zmZ (fun h => (fun h => show zwp 41 35 [(2, 14), (0, c), (0, zFs (zTC w) (w 14 0) c), (0, 0), (9, 0), (9, 0)] [(0, zFs (zTC w) (w 14 0) c)] (zupd w 22 c.toNat 0) 238 0 K from zgo_imp zT201_ok (cut := fun pc => Nat.beq pc 5 || Nat.beq pc 18 || Nat.beq pc 22 || Nat.beq pc 35 || Nat.beq pc 40 || Nat.beq pc 53 || Nat.beq pc 67 || Nat.beq pc 77 || Nat.beq pc 95 || Nat.beq pc 107) 400 (show zwp 41 40 [(2, 14), (0, c), (0, zFs (zTC w) (w 14 0) c), (0, 0), (0, zFs (zTC w) (w 14 0) c), (0, 0)] [] (zupd w 22 c.toNat 0) 238 0 K from h)) h) h) (fun h => (fun h => show zwp 41 18 [(2, 14), (0, c), (0, zFs (zTC w) (w 14 0) c), (9, 0), (9, 0), (9, 0)] [(0, zFs (zTC w) (w 14 0) c), (2, 14), (0, c), (2, 22)] w 238 0 K from zgo_imp zT201_ok (cut := fun pc => Nat.beq pc 5 || Nat.beq pc 18 || Nat.beq pc 22 || Nat.beq pc 35 || Nat.beq pc 40 || Nat.beq pc 53 || Nat.beq pc 67 || Nat.beq pc 77 || Nat.beq pc 95 || Nat.beq pc 107) 400 (show zif False ((0 ≤ (zFs (zTC w) (w 14 0) c) ∧ (zFs (zTC w) (w 14 0) c) < 12) ∧ (0 ≤ c ∧ c < 12)) (zwp 41 22 [(2, 14), (0, c), (0, zFs (zTC w) (w 14 0) c), (9, 0), (9, 0), (9, 0)] [(0, w 19 (12 * (zFs (zTC w) (w 14 0) c) + c).toNat), (0, c), (2, 22)] w 238 0 K) from zmZ (fun h => (fun h => show zwp 41 22 [(2, 14), (0, c), (0, zFs (zTC w) (w 14 0) c), (9, 0), (9, 0), (9, 0)] [(0, w 19 (12 * (zFs (zTC w) (w 14 0) c) + c).toNat), (0, c), (2, 22)] w 238 0 K from zgo_imp zT201_ok (cut := fun pc => Nat.beq pc 5 || Nat.beq pc 18 || Nat.beq pc 22 || Nat.beq pc 35 || Nat.beq pc 40 || Nat.beq pc 53 || Nat.beq pc 67 || Nat.beq pc 77 || Nat.beq pc 95 || Nat.beq pc 107) 400 (show if w 19 (12 * (zFs (zTC w) (w 14 0) c) + c).toNat = (-1) then zif False (0 ≤ c ∧ c < 12) (zwp 41 35 [(2, 14), (0, c), (0, zFs (zTC w) (w 14 0) c), (0, 0), (9, 0), (9, 0)] [(0, zFs (zTC w) (w 14 0) c)] (zupd w 22 c.toNat 0) 238 0 K) else zif False (0 ≤ c ∧ c < 12) (zwp 41 35 [(2, 14), (0, c), (0, zFs (zTC w) (w 14 0) c), (0, 0), (9, 0), (9, 0)] [(0, zFs (zTC w) (w 14 0) c)] (zupd w 22 c.toNat 1) 238 0 K) from zmI (fun h => zmZ (fun h => (fun h => show zwp 41 35 [(2, 14), (0, c), (0, zFs (zTC w) (w 14 0) c), (0, 0), (9, 0), (9, 0)] [(0, zFs (zTC w) (w 14 0) c)] (zupd w 22 c.toNat 0) 238 0 K from zgo_imp zT201_ok (cut := fun pc => Nat.beq pc 5 || Nat.beq pc 18 || Nat.beq pc 22 || Nat.beq pc 35 || Nat.beq pc 40 || Nat.beq pc 53 || Nat.beq pc 67 || Nat.beq pc 77 || Nat.beq pc 95 || Nat.beq pc 107) 400 (show zwp 41 40 [(2, 14), (0, c), (0, zFs (zTC w) (w 14 0) c), (0, 0), (0, zFs (zTC w) (w 14 0) c), (0, 0)] [] (zupd w 22 c.toNat 0) 238 0 K from h)) h) h) (fun h => zmZ (fun h => (fun h => show zwp 41 35 [(2, 14), (0, c), (0, zFs (zTC w) (w 14 0) c), (0, 0), (9, 0), (9, 0)] [(0, zFs (zTC w) (w 14 0) c)] (zupd w 22 c.toNat 1) 238 0 K from zgo_imp zT201_ok (cut := fun pc => Nat.beq pc 5 || Nat.beq pc 18 || Nat.beq pc 22 || Nat.beq pc 35 || Nat.beq pc 40 || Nat.beq pc 53 || Nat.beq pc 67 || Nat.beq pc 77 || Nat.beq pc 95 || Nat.beq pc 107) 400 (show zwp 41 40 [(2, 14), (0, c), (0, zFs (zTC w) (w 14 0) c), (0, 0), (0, zFs (zTC w) (w 14 0) c), (0, 0)] [] (zupd w 22 c.toNat 1) 238 0 K from h)) h) h) h)) h) h)) h) h)) h) h)) ?_
  obtain ⟨hC, hc⟩ := hg
  have hn := hC.1
  have fin : ∀ r : Int, r = zRg (zTC w) (w 14 0) c → zwp 41 40 [(2, 14), (0, c), (0, zFs (zTC w) (w 14 0) c), (0, 0), (0, zFs (zTC w) (w 14 0) c), (0, 0)] [] (zupd w 22 c.toNat r) 238 0 K := fun r hr => by
    have := zk41_L40 (w := zupd w 22 c.toNat r) (K := K) c (zCT_fr rfl rfl rfl hC) hc (zLn (zTC w) (w 14 0) c).toNat 0 (zFs (zTC w) (w 14 0) c) (by decide) (by have := zLn_rg hC.2.2.2 hc; show (0 : Int) + _ = zLn (zTC w) (w 14 0) c; omega) (by
      show zFs (zTC w) (w 14 0) c = if 0 < zLn (zTC w) (w 14 0) c then zFs (zTC w) (w 14 0) c else -1
      by_cases g : zFs (zTC w) (w 14 0) c = -1
      · have e0 : zLn (zTC w) (w 14 0) c = 0 := if_pos g
        rw [if_neg (by omega)]; exact g
      · have := (zLn_ok hC.2.2.2 hc g).1
        rw [if_pos (by omega)]) fun d2 d4 d5 => by
      refine zk41_B94 (w := zRk (zupd w 22 c.toNat r) c (zLn (zTC w) (w 14 0) c)) c (zLn (zTC w) (w 14 0) c) (zCT_fr rfl rfl rfl hC) hc d2 d4 d5 ?_
      rw [hr]
      exact h
    rw [zRk_0] at this
    exact this
  refine ⟨⟨hC, hc⟩, ?_⟩
  by_cases g : zFs (zTC w) (w 14 0) c = -1
  · refine ziT g (zifI (by omega) (fin 0 ?_))
    unfold zRg; rw [if_pos g]
  · have fr : 0 ≤ zFs (zTC w) (w 14 0) c ∧ zFs (zTC w) (w 14 0) c < w 14 0 := by
      rcases zFs_c hC.2.2.2 hc with q | q
      · exact (g q.1).elim
      · exact q.1
    have si := (hC.2.2.1 (zFs (zTC w) (w 14 0) c) c fr.1 (by omega) hc.1 hc.2).2.2
    refine ziF g (zifI (by omega) ?_)
    by_cases g2 : w 19 (12 * zFs (zTC w) (w 14 0) c + c).toNat = -1
    · refine ziT g2 (zifI (by omega) (fin 0 ?_))
      unfold zRg; rw [if_neg g, if_pos (si.mp g2)]
    · refine ziF g2 (zifI (by omega) (fin 1 ?_))
      unfold zRg; rw [if_neg g, if_neg fun q => g2 (si.mpr q)]
noncomputable def zb41 (l0 : List zV) (w : zW) (K : zK) : Prop := cond (zpe (zar l0 0) 14) (zA l0 1 fun c => (zCT w ∧ 0 ≤ c ∧ c < 12) ∧ (K (0, some (0, (if zLn (zTC w) (w 14 0) c = zNb (zTC w) (w 14 0) c then 1 else 0))) (zAw w c) 238)) (False)
noncomputable def zT202 : zSum := zsm1 41 [2, 0, 9, 9, 9, 9] zb41 zT201
theorem zT202_ok : zSok zT202 := zsm1_ok zT201_ok fun l0 w K h => by
  unfold zb41 at h
  cases q0 : zpe (zar l0 0) 14 with
  | true =>
    rw [q0, cond_true] at h
    have e : zar l0 0 = 14 := zpe_e q0
    show zcall 41 [(2, zar l0 0), (0, zar l0 1), (9, 0), (9, 0), (9, 0), (9, 0)] w 238 K
    rw [e]
    exact zk41_14 (zar l0 1) w K (zA_e h)
  | false =>
  rw [q0, cond_false] at h
  exact h.elim
set_option maxRecDepth 100000 in
theorem zk40_L2 {K : zK} (T : Int → Int → Int) (n : Int)  : ∀ (m : Nat) (c : Int) (w : zW), (zCT w) → (zTC w = T) → (w 14 0 = n) → (0 ≤ c) → (c + m = n) → (∀ d, 0 ≤ d → d < c → zRf T n w d) → (if zFi (fun c => zLn T n c ≠ zNb T n c) m c = -1 then (∀ v : zW, (∀ p : Nat, p ≠ 20 → p ≠ 21 → p ≠ 22 → v p = w p) → (∀ d, 0 ≤ d → d < n → zRf T n v d) → K (0, some (0, 1)) v 238) else ∀ v : zW, (∀ p : Nat, p ≠ 20 → p ≠ 21 → p ≠ 22 → v p = w p) → K (0, some (0, 0)) v 238) → zwp 40 2 [(2, 14), (0, c)] [] w 238 0 K := by
  
  intro m
  induction m with
  | zero =>
    intro c w  hC hT hn h1 h2 h3 h
    refine (show (if c < w 14 0 then (zCT w ∧ 0 ≤ c ∧ c < 12) ∧ (if ((if zLn (zTC w) (w 14 0) c = zNb (zTC w) (w 14 0) c then 1 else 0) : Int) = 0 then K (0, some (0, 0)) (zAw w c) 238 else zwp 40 2 [(2, 14), (0, z32 (c + 1))] [] (zAw w c) 238 0 K) else K (0, some (0, 1)) w 238) → _ from fun h => show zwp 40 2 [(2, 14), (0, c)] [] w 238 0 K from zgo_imp zT202_ok (cut := fun pc => Nat.beq pc 2 || Nat.beq pc 15) 400 (show if c < w 14 0 then (zCT w ∧ 0 ≤ c ∧ c < 12) ∧ (zwp 40 15 [(2, 14), (0, c)] [(0, ((if zLn (zTC w) (w 14 0) c = zNb (zTC w) (w 14 0) c then 1 else 0) : Int))] (zAw w c) 238 0 K) else K (0, some (0, 1)) w 238 from zmI (fun h => zmA (fun h => (fun h => show zwp 40 15 [(2, 14), (0, c)] [(0, ((if zLn (zTC w) (w 14 0) c = zNb (zTC w) (w 14 0) c then 1 else 0) : Int))] (zAw w c) 238 0 K from zgo_imp zT202_ok (cut := fun pc => Nat.beq pc 2 || Nat.beq pc 15) 400 (show if ((if zLn (zTC w) (w 14 0) c = zNb (zTC w) (w 14 0) c then 1 else 0) : Int) = 0 then K (0, some (0, 0)) (zAw w c) 238 else zwp 40 2 [(2, 14), (0, z32 (c + 1))] [] (zAw w c) 238 0 K from h)) h) h) (fun h => h) h)) ?_
    rw [if_pos (show zFi (fun c => zLn T n c ≠ zNb T n c) 0 c = -1 from rfl)] at h
    exact ziF (by omega) (h w (fun _ _ _ _ => rfl) fun d d0 d1 => h3 d d0 (by omega))
  | succ m ih =>
    intro c w  hC hT hn h1 h2 h3 h
    refine (show (if c < w 14 0 then (zCT w ∧ 0 ≤ c ∧ c < 12) ∧ (if ((if zLn (zTC w) (w 14 0) c = zNb (zTC w) (w 14 0) c then 1 else 0) : Int) = 0 then K (0, some (0, 0)) (zAw w c) 238 else zwp 40 2 [(2, 14), (0, z32 (c + 1))] [] (zAw w c) 238 0 K) else K (0, some (0, 1)) w 238) → _ from fun h => show zwp 40 2 [(2, 14), (0, c)] [] w 238 0 K from zgo_imp zT202_ok (cut := fun pc => Nat.beq pc 2 || Nat.beq pc 15) 400 (show if c < w 14 0 then (zCT w ∧ 0 ≤ c ∧ c < 12) ∧ (zwp 40 15 [(2, 14), (0, c)] [(0, ((if zLn (zTC w) (w 14 0) c = zNb (zTC w) (w 14 0) c then 1 else 0) : Int))] (zAw w c) 238 0 K) else K (0, some (0, 1)) w 238 from zmI (fun h => zmA (fun h => (fun h => show zwp 40 15 [(2, 14), (0, c)] [(0, ((if zLn (zTC w) (w 14 0) c = zNb (zTC w) (w 14 0) c then 1 else 0) : Int))] (zAw w c) 238 0 K from zgo_imp zT202_ok (cut := fun pc => Nat.beq pc 2 || Nat.beq pc 15) 400 (show if ((if zLn (zTC w) (w 14 0) c = zNb (zTC w) (w 14 0) c then 1 else 0) : Int) = 0 then K (0, some (0, 0)) (zAw w c) 238 else zwp 40 2 [(2, 14), (0, z32 (c + 1))] [] (zAw w c) 238 0 K from h)) h) h) (fun h => h) h)) ?_
    have hm := hC.1
    have hTb := hC.2.2.2
    have e : zFi (fun c => zLn T n c ≠ zNb T n c) (m + 1) c = if zLn T n c ≠ zNb T n c then c else zFi (fun c => zLn T n c ≠ zNb T n c) m (c + 1) := rfl
    rw [z32_id (x := c + 1) ⟨by omega, by omega⟩, hT, hn]
    refine ziT (by omega) ⟨⟨hC, by omega⟩, ?_⟩
    by_cases g : zLn T n c = zNb T n c
    · have e1 : zFi (fun c => zLn T n c ≠ zNb T n c) (m + 1) c = zFi (fun c => zLn T n c ≠ zNb T n c) m (c + 1) := e.trans (if_neg fun q => q g)
      rw [e1] at h
      refine ziF (by rw [if_pos g]; decide) ?_
      have a20 : ∀ p : Nat, p ≠ 20 → p ≠ 21 → p ≠ 22 → zAw w c p = w p := fun p p0 p1 p2 => zAw_ne p0 p1 p2
      have e14 := a20 14 (by decide) (by decide) (by decide)
      have eT : zTC (zAw w c) = T := (zTC_fr (a20 18 (by decide) (by decide) (by decide)) (a20 19 (by decide) (by decide) (by decide))).trans hT
      refine ih (c + 1) (zAw w c) (zCT_fr e14 (a20 18 (by decide) (by decide) (by decide)) (a20 19 (by decide) (by decide) (by decide)) hC) eT (by rw [e14]; exact hn) (by omega) (by omega) (fun d d0 d1 => ?_) ?_
      · by_cases q : d = c
        · rw [q]
          have := zAw_c hTb (c := c) (by omega)
          rw [hT, hn] at this
          exact this
        · refine zAw_d hTb (by omega) d0 (by omega) q ?_ (h3 d d0 (by omega))
          rw [hT, hn] at hTb
          exact (zLn_rg hTb ⟨d0, by omega⟩).2
      · by_cases q : zFi (fun c => zLn T n c ≠ zNb T n c) m (c + 1) = -1
        · rw [if_pos q] at h ⊢
          exact fun v f1 f2 => h v (fun p p0 p1 p2 => (f1 p p0 p1 p2).trans (a20 p p0 p1 p2)) f2
        · rw [if_neg q] at h ⊢
          exact fun v f1 => h v fun p p0 p1 p2 => (f1 p p0 p1 p2).trans (a20 p p0 p1 p2)
    · have e1 : zFi (fun c => zLn T n c ≠ zNb T n c) (m + 1) c = c := e.trans (if_pos g)
      rw [e1, if_neg (by omega)] at h
      refine ziT (if_neg g) (h _ fun p p0 p1 p2 => zAw_ne p0 p1 p2)

/-! ===== what can be undone (written by wip/whole/gen_c.py) ===== -/
/-- a packing's places, copied -/
def zpcp (w : zW) (p q : Nat) : zW := zupd (zcopy (zcopy (zcopy (zcopy (zcopy w (p + 1) (q + 1) 12) (p + 2) (q + 2) 12) (p + 3) (q + 3) 12) (p + 4) (q + 4) 12) (p + 5) (q + 5) 12) q 5 (w p 5)
def zkpc (w : zW) : zW := zupd (zupd w 37 1 ((w 37 1 + 1) % 6)) 37 2 (min (w 37 2 + 1) 5)
def zbkc (w : zW) : zW := zupd (zupd w 37 1 ((w 37 1 + 5) % 6)) 37 2 (max (w 37 2 - 1) 0)
/-- what the model lays into a row -/
def zpk (w : zW) (j : Nat) : Int := if j < 12 then w 98 j else if j < 24 then w 103 (j - 12) else if j < 36 then w 104 (j - 24) else if j < 48 then w 105 (j - 36) else w 102 0
def zlyc (w : zW) (r x c : Nat) : zW := zfill w r fun i => if x ≤ i ∧ i < x + 48 ∧ (i - x) % 12 < c then zpk w (i - x) else w r i
def zly (w : zW) (r x : Nat) : zW := zfill w r fun i => if x ≤ i ∧ i < x + 49 then zpk w (i - x) else w r i
theorem zpk_0 {w : zW} {c : Nat} (h : c < 12) : zpk w c = w 98 c := by unfold zpk; rw [if_pos h]
theorem zpk_1 {w : zW} {c : Nat} (h : c < 12) : zpk w (12 + c) = w 103 c := by unfold zpk; rw [if_neg (by omega), if_pos (by omega), show 12 + c - 12 = c by omega]
theorem zpk_2 {w : zW} {c : Nat} (h : c < 12) : zpk w (24 + c) = w 104 c := by unfold zpk; rw [if_neg (by omega), if_neg (by omega), if_pos (by omega), show 24 + c - 24 = c by omega]
theorem zpk_3 {w : zW} {c : Nat} (h : c < 12) : zpk w (36 + c) = w 105 c := by unfold zpk; rw [if_neg (by omega), if_neg (by omega), if_neg (by omega), if_pos (by omega), show 36 + c - 36 = c by omega]
theorem zpk_4 {w : zW} : zpk w 48 = w 102 0 := by unfold zpk; rw [if_neg (by omega), if_neg (by omega), if_neg (by omega), if_neg (by omega)]
theorem zly_step {w : zW} {r x c : Nat} (hc : c < 12) : zupd (zupd (zupd (zupd (zlyc w r x c) r (x + c) (w 98 c)) r (x + 12 + c) (w 103 c)) r (x + 24 + c) (w 104 c)) r (x + 36 + c) (w 105 c) = zlyc w r x (c + 1) := by
  funext a i
  by_cases ha : a = r
  · subst ha
    simp only [zupd, zlyc, zfill, eq_self, ite_true]
    by_cases h3 : i = x + 36 + c
    · rw [if_pos h3, if_pos (by omega), show i - x = 36 + c by omega, zpk_3 hc]
    · rw [if_neg h3]
      by_cases h2 : i = x + 24 + c
      · rw [if_pos h2, if_pos (by omega), show i - x = 24 + c by omega, zpk_2 hc]
      · rw [if_neg h2]
        by_cases h1 : i = x + 12 + c
        · rw [if_pos h1, if_pos (by omega), show i - x = 12 + c by omega, zpk_1 hc]
        · rw [if_neg h1]
          by_cases h0 : i = x + c
          · rw [if_pos h0, if_pos (by omega), show i - x = c by omega, zpk_0 hc]
          · rw [if_neg h0]
            by_cases q : x ≤ i ∧ i < x + 48 ∧ (i - x) % 12 < c
            · rw [if_pos q, if_pos (by omega)]
            · rw [if_neg q, if_neg (by omega)]
  · simp only [zupd, zlyc, zfill, if_neg ha]
theorem zly_end {w : zW} {r x : Nat} : zupd (zlyc w r x 12) r (x + 48) (w 102 0) = zly w r x := by
  funext a i
  by_cases ha : a = r
  · subst ha
    simp only [zupd, zlyc, zly, zfill, eq_self, ite_true]
    by_cases h3 : i = x + 48
    · rw [if_pos h3, if_pos (by omega), show i - x = 48 by omega, zpk_4]
    · rw [if_neg h3]
      by_cases q : x ≤ i ∧ i < x + 48 ∧ (i - x) % 12 < 12
      · rw [if_pos q, if_pos (by omega)]
      · rw [if_neg q, if_neg (by omega)]
  · simp only [zupd, zlyc, zly, zfill, if_neg ha]
theorem zly_0 {w : zW} {r x : Nat} : zlyc w r x 0 = w := by
  funext a i
  by_cases ha : a = r
  · subst ha
    simp only [zlyc, zfill, eq_self, ite_true]
    rw [if_neg (by omega)]
  · simp only [zlyc, zfill, if_neg ha]
/-- the oldest one is forgotten -/
def zshf (w : zW) (k : Nat) : zW := zfill w 108 fun i => if i < k then w 108 (i + 49) else w 108 i
theorem zshf_step {w : zW} {k : Nat} : zupd (zshf w k) 108 k (w 108 (k + 49)) = zshf w (k + 1) := by
  funext a i
  by_cases ha : a = 108
  · subst ha
    simp only [zupd, zshf, zfill, eq_self, ite_true]
    by_cases h3 : i = k
    · rw [if_pos h3, if_pos (by omega), h3]
    · rw [if_neg h3]
      by_cases q : i < k
      · rw [if_pos q, if_pos (by omega)]
      · rw [if_neg q, if_neg (by omega)]
  · simp only [zupd, zshf, zfill, if_neg ha]
theorem zshf_0 {w : zW} : zshf w 0 = w := by
  funext a i
  by_cases ha : a = 108
  · subst ha
    simp only [zshf, zfill, eq_self, ite_true]
    rw [if_neg (by omega)]
  · simp only [zshf, zfill, if_neg ha]
/-- keeps() -/
def zkpm (w : zW) : zW := if w 93 31 = 5 then zupd (zly (zshf (zupd w 93 31 4) 196) 108 196) 93 31 5 else zupd (zly w 108 (49 * (w 93 31).toNat)) 93 31 (w 93 31 + 1)
/-- undo() of the model: rows brought back -/
def zset (w : zW) (p n : Nat) (f : Nat → Int) : zW := zfill w p fun i => if i < n then f i else w p i
theorem zset_step {w : zW} {p n : Nat} {f : Nat → Int} : zupd (zset w p n f) p n (f n) = zset w p (n + 1) f := by
  funext a i
  by_cases ha : a = p
  · subst ha
    simp only [zupd, zset, zfill, eq_self, ite_true]
    by_cases h3 : i = n
    · rw [if_pos h3, if_pos (by omega), h3]
    · rw [if_neg h3]
      by_cases q : i < n
      · rw [if_pos q, if_pos (by omega)]
      · rw [if_neg q, if_neg (by omega)]
  · simp only [zupd, zset, zfill, if_neg ha]
theorem zset_skip {w : zW} {p n : Nat} {f : Nat → Int} (h : f n = w p n) : zset w p (n + 1) f = zset w p n f := by
  funext a i
  by_cases ha : a = p
  · subst ha
    simp only [zset, zfill, eq_self, ite_true]
    by_cases h3 : i = n
    · rw [if_pos (by omega), if_neg (by omega), h3, h]
    · by_cases q : i < n
      · rw [if_pos (by omega), if_pos q]
      · rw [if_neg (by omega), if_neg q]
  · simp only [zset, zfill, if_neg ha]
theorem zset_comm {w : zW} {p q n j : Nat} {f : Nat → Int} {x : Int} (h : q ≠ p) : zupd (zset w p n f) q j x = zset (zupd w q j x) p n f := by
  funext a i
  by_cases ha : a = p
  · subst ha
    have : ¬ a = q := fun e => h e.symm
    simp only [zupd, zset, zfill, eq_self, ite_true, if_neg this]
  · by_cases hq : a = q
    · subst hq
      simp only [zupd, zset, zfill, eq_self, ite_true, if_neg ha]
    · simp only [zupd, zset, zfill, if_neg ha, if_neg hq]
theorem zset_0 {w : zW} {p : Nat} {f : Nat → Int} : zset w p 0 f = w := by
  funext a i
  by_cases ha : a = p
  · subst ha
    simp only [zset, zfill, eq_self, ite_true]
    rw [if_neg (by omega)]
  · simp only [zset, zfill, if_neg ha]
def zun4 (w : zW) (x c : Nat) : zW := zset (zset (zset (zset w 98 c fun i => w 108 (x + i)) 103 c fun i => w 108 (x + 12 + i)) 104 c fun i => w 108 (x + 24 + i)) 105 c fun i => w 108 (x + 36 + i)
theorem zun4_step {w : zW} {x c : Nat} : zupd (zupd (zupd (zupd (zun4 w x c) 98 c (w 108 (x + c))) 103 c (w 108 (x + 12 + c))) 104 c (w 108 (x + 24 + c))) 105 c (w 108 (x + 36 + c)) = zun4 w x (c + 1) := by
  unfold zun4
  rw [zset_comm (p := 105) (q := 98) (by decide), zset_comm (p := 104) (q := 98) (by decide), zset_comm (p := 103) (q := 98) (by decide), zset_step (f := fun i => w 108 (x + i)), zset_comm (p := 105) (q := 103) (by decide), zset_comm (p := 104) (q := 103) (by decide), zset_step (f := fun i => w 108 (x + 12 + i)), zset_comm (p := 105) (q := 104) (by decide), zset_step (f := fun i => w 108 (x + 24 + i)), zset_step (f := fun i => w 108 (x + 36 + i))]
theorem zun4_0 {w : zW} {x : Nat} : zun4 w x 0 = w := by unfold zun4; rw [zset_0, zset_0, zset_0, zset_0]
def zunm (w : zW) : zW := zupd (zun4 (zupd w 93 31 (w 93 31 - 1)) (49 * (w 93 31 - 1).toNat) 12) 102 0 (w 108 (49 * (w 93 31 - 1).toNat + 48))
noncomputable def zT79 : zSum := zin1 1 400 zT78
theorem zT79_ok : zSok zT79 := zin1_ok zT78_ok
noncomputable def zT80 : zSum := zin1 53 400 zT79
theorem zT80_ok : zSok zT80 := zin1_ok zT79_ok
noncomputable def zT81 : zSum := zin1 5 400 zT80
theorem zT81_ok : zSok zT81 := zin1_ok zT80_ok
/-! $History.note -/
set_option maxRecDepth 100000 in
theorem zk2 (w : zW) (K : zK) (h : (0 ≤ w 37 1 ∧ w 37 1 < 6) ∧ K (0, none) (zpcp w 29 (39 + 6 * (w 37 1).toNat)) 238) : zcall 2 [(2, 37), (2, 29), (9, 0)] w 238 K := by
  obtain ⟨hg, h⟩ := h
  refine (show (zwp 2 5 [(2, 37), (2, 29), (9, 0)] [(0, w 37 1), (2, 37)] w 238 0 K) → _ from fun h => show zwp 2 0 [(2, 37), (2, 29), (9, 0)] [] w 238 0 K from zgo_imp zT81_ok (cut := fun pc => Nat.beq pc 5 || Nat.beq pc 8 || Nat.beq pc 18) 400 (show zwp 2 5 [(2, 37), (2, 29), (9, 0)] [(0, w 37 1), (2, 37)] w 238 0 K from h)) ?_
  have hc : w 37 1 = 0 ∨ w 37 1 = 1 ∨ w 37 1 = 2 ∨ w 37 1 = 3 ∨ w 37 1 = 4 ∨ w 37 1 = 5 := by omega
  rcases hc with q | q | q | q | q | q
  · skip
    rw [q] at h ⊢
    refine (show (K (0, none) (zupd (zcopy (zcopy (zcopy (zcopy (zcopy w 30 40 12) 31 41 12) 32 42 12) 33 43 12) 34 44 12) 39 5 (w 29 5)) 238) → _ from fun h => show zwp 2 5 [(2, 37), (2, 29), (9, 0)] [(0, 0), (2, 37)] w 238 0 K from zgo_imp zT81_ok (cut := fun pc => Nat.beq pc 8 || Nat.beq pc 18) 400 (show zwp 2 8 [(2, 37), (2, 29), (9, 0)] [(2, 39)] w 238 0 K from (fun h => show zwp 2 8 [(2, 37), (2, 29), (9, 0)] [(2, 39)] w 238 0 K from zgo_imp zT81_ok (cut := fun pc => Nat.beq pc 8 || Nat.beq pc 18) 400 (show zwp 2 18 [(2, 37), (2, 29), (2, 39)] [] (zupd (zcopy (zcopy (zcopy (zcopy (zcopy w 30 40 12) 31 41 12) 32 42 12) 33 43 12) 34 44 12) 39 5 (w 29 5)) 238 0 K from (fun h => show zwp 2 18 [(2, 37), (2, 29), (2, 39)] [] (zupd (zcopy (zcopy (zcopy (zcopy (zcopy w 30 40 12) 31 41 12) 32 42 12) 33 43 12) 34 44 12) 39 5 (w 29 5)) 238 0 K from zgo_imp zT81_ok (cut := fun pc => Nat.beq pc 8 || Nat.beq pc 18) 400 (show K (0, none) (zupd (zcopy (zcopy (zcopy (zcopy (zcopy w 30 40 12) 31 41 12) 32 42 12) 33 43 12) 34 44 12) 39 5 (w 29 5)) 238 from h)) h)) h)) ?_
    exact h
  · skip
    rw [q] at h ⊢
    refine (show (K (0, none) (zupd (zcopy (zcopy (zcopy (zcopy (zcopy w 30 46 12) 31 47 12) 32 48 12) 33 49 12) 34 50 12) 45 5 (w 29 5)) 238) → _ from fun h => show zwp 2 5 [(2, 37), (2, 29), (9, 0)] [(0, 1), (2, 37)] w 238 0 K from zgo_imp zT81_ok (cut := fun pc => Nat.beq pc 8 || Nat.beq pc 18) 400 (show zwp 2 8 [(2, 37), (2, 29), (9, 0)] [(2, 45)] w 238 0 K from (fun h => show zwp 2 8 [(2, 37), (2, 29), (9, 0)] [(2, 45)] w 238 0 K from zgo_imp zT81_ok (cut := fun pc => Nat.beq pc 8 || Nat.beq pc 18) 400 (show zwp 2 18 [(2, 37), (2, 29), (2, 45)] [] (zupd (zcopy (zcopy (zcopy (zcopy (zcopy w 30 46 12) 31 47 12) 32 48 12) 33 49 12) 34 50 12) 45 5 (w 29 5)) 238 0 K from (fun h => show zwp 2 18 [(2, 37), (2, 29), (2, 45)] [] (zupd (zcopy (zcopy (zcopy (zcopy (zcopy w 30 46 12) 31 47 12) 32 48 12) 33 49 12) 34 50 12) 45 5 (w 29 5)) 238 0 K from zgo_imp zT81_ok (cut := fun pc => Nat.beq pc 8 || Nat.beq pc 18) 400 (show K (0, none) (zupd (zcopy (zcopy (zcopy (zcopy (zcopy w 30 46 12) 31 47 12) 32 48 12) 33 49 12) 34 50 12) 45 5 (w 29 5)) 238 from h)) h)) h)) ?_
    exact h
  · skip
    rw [q] at h ⊢
    refine (show (K (0, none) (zupd (zcopy (zcopy (zcopy (zcopy (zcopy w 30 52 12) 31 53 12) 32 54 12) 33 55 12) 34 56 12) 51 5 (w 29 5)) 238) → _ from fun h => show zwp 2 5 [(2, 37), (2, 29), (9, 0)] [(0, 2), (2, 37)] w 238 0 K from zgo_imp zT81_ok (cut := fun pc => Nat.beq pc 8 || Nat.beq pc 18) 400 (show zwp 2 8 [(2, 37), (2, 29), (9, 0)] [(2, 51)] w 238 0 K from (fun h => show zwp 2 8 [(2, 37), (2, 29), (9, 0)] [(2, 51)] w 238 0 K from zgo_imp zT81_ok (cut := fun pc => Nat.beq pc 8 || Nat.beq pc 18) 400 (show zwp 2 18 [(2, 37), (2, 29), (2, 51)] [] (zupd (zcopy (zcopy (zcopy (zcopy (zcopy w 30 52 12) 31 53 12) 32 54 12) 33 55 12) 34 56 12) 51 5 (w 29 5)) 238 0 K from (fun h => show zwp 2 18 [(2, 37), (2, 29), (2, 51)] [] (zupd (zcopy (zcopy (zcopy (zcopy (zcopy w 30 52 12) 31 53 12) 32 54 12) 33 55 12) 34 56 12) 51 5 (w 29 5)) 238 0 K from zgo_imp zT81_ok (cut := fun pc => Nat.beq pc 8 || Nat.beq pc 18) 400 (show K (0, none) (zupd (zcopy (zcopy (zcopy (zcopy (zcopy w 30 52 12) 31 53 12) 32 54 12) 33 55 12) 34 56 12) 51 5 (w 29 5)) 238 from h)) h)) h)) ?_
    exact h
  · skip
    rw [q] at h ⊢
    refine (show (K (0, none) (zupd (zcopy (zcopy (zcopy (zcopy (zcopy w 30 58 12) 31 59 12) 32 60 12) 33 61 12) 34 62 12) 57 5 (w 29 5)) 238) → _ from fun h => show zwp 2 5 [(2, 37), (2, 29), (9, 0)] [(0, 3), (2, 37)] w 238 0 K from zgo_imp zT81_ok (cut := fun pc => Nat.beq pc 8 || Nat.beq pc 18) 400 (show zwp 2 8 [(2, 37), (2, 29), (9, 0)] [(2, 57)] w 238 0 K from (fun h => show zwp 2 8 [(2, 37), (2, 29), (9, 0)] [(2, 57)] w 238 0 K from zgo_imp zT81_ok (cut := fun pc => Nat.beq pc 8 || Nat.beq pc 18) 400 (show zwp 2 18 [(2, 37), (2, 29), (2, 57)] [] (zupd (zcopy (zcopy (zcopy (zcopy (zcopy w 30 58 12) 31 59 12) 32 60 12) 33 61 12) 34 62 12) 57 5 (w 29 5)) 238 0 K from (fun h => show zwp 2 18 [(2, 37), (2, 29), (2, 57)] [] (zupd (zcopy (zcopy (zcopy (zcopy (zcopy w 30 58 12) 31 59 12) 32 60 12) 33 61 12) 34 62 12) 57 5 (w 29 5)) 238 0 K from zgo_imp zT81_ok (cut := fun pc => Nat.beq pc 8 || Nat.beq pc 18) 400 (show K (0, none) (zupd (zcopy (zcopy (zcopy (zcopy (zcopy w 30 58 12) 31 59 12) 32 60 12) 33 61 12) 34 62 12) 57 5 (w 29 5)) 238 from h)) h)) h)) ?_
    exact h
  · skip
    rw [q] at h ⊢
    refine (show (K (0, none) (zupd (zcopy (zcopy (zcopy (zcopy (zcopy w 30 64 12) 31 65 12) 32 66 12) 33 67 12) 34 68 12) 63 5 (w 29 5)) 238) → _ from fun h => show zwp 2 5 [(2, 37), (2, 29), (9, 0)] [(0, 4), (2, 37)] w 238 0 K from zgo_imp zT81_ok (cut := fun pc => Nat.beq pc 8 || Nat.beq pc 18) 400 (show zwp 2 8 [(2, 37), (2, 29), (9, 0)] [(2, 63)] w 238 0 K from (fun h => show zwp 2 8 [(2, 37), (2, 29), (9, 0)] [(2, 63)] w 238 0 K from zgo_imp zT81_ok (cut := fun pc => Nat.beq pc 8 || Nat.beq pc 18) 400 (show zwp 2 18 [(2, 37), (2, 29), (2, 63)] [] (zupd (zcopy (zcopy (zcopy (zcopy (zcopy w 30 64 12) 31 65 12) 32 66 12) 33 67 12) 34 68 12) 63 5 (w 29 5)) 238 0 K from (fun h => show zwp 2 18 [(2, 37), (2, 29), (2, 63)] [] (zupd (zcopy (zcopy (zcopy (zcopy (zcopy w 30 64 12) 31 65 12) 32 66 12) 33 67 12) 34 68 12) 63 5 (w 29 5)) 238 0 K from zgo_imp zT81_ok (cut := fun pc => Nat.beq pc 8 || Nat.beq pc 18) 400 (show K (0, none) (zupd (zcopy (zcopy (zcopy (zcopy (zcopy w 30 64 12) 31 65 12) 32 66 12) 33 67 12) 34 68 12) 63 5 (w 29 5)) 238 from h)) h)) h)) ?_
    exact h
  · skip
    rw [q] at h ⊢
    refine (show (K (0, none) (zupd (zcopy (zcopy (zcopy (zcopy (zcopy w 30 70 12) 31 71 12) 32 72 12) 33 73 12) 34 74 12) 69 5 (w 29 5)) 238) → _ from fun h => show zwp 2 5 [(2, 37), (2, 29), (9, 0)] [(0, 5), (2, 37)] w 238 0 K from zgo_imp zT81_ok (cut := fun pc => Nat.beq pc 8 || Nat.beq pc 18) 400 (show zwp 2 8 [(2, 37), (2, 29), (9, 0)] [(2, 69)] w 238 0 K from (fun h => show zwp 2 8 [(2, 37), (2, 29), (9, 0)] [(2, 69)] w 238 0 K from zgo_imp zT81_ok (cut := fun pc => Nat.beq pc 8 || Nat.beq pc 18) 400 (show zwp 2 18 [(2, 37), (2, 29), (2, 69)] [] (zupd (zcopy (zcopy (zcopy (zcopy (zcopy w 30 70 12) 31 71 12) 32 72 12) 33 73 12) 34 74 12) 69 5 (w 29 5)) 238 0 K from (fun h => show zwp 2 18 [(2, 37), (2, 29), (2, 69)] [] (zupd (zcopy (zcopy (zcopy (zcopy (zcopy w 30 70 12) 31 71 12) 32 72 12) 33 73 12) 34 74 12) 69 5 (w 29 5)) 238 0 K from zgo_imp zT81_ok (cut := fun pc => Nat.beq pc 8 || Nat.beq pc 18) 400 (show K (0, none) (zupd (zcopy (zcopy (zcopy (zcopy (zcopy w 30 70 12) 31 71 12) 32 72 12) 33 73 12) 34 74 12) 69 5 (w 29 5)) 238 from h)) h)) h)) ?_
    exact h
noncomputable def zb2 (l0 : List zV) (w : zW) (K : zK) : Prop := cond (zpe (zar l0 0) 37 && zpe (zar l0 1) 29) ((0 ≤ w 37 1 ∧ w 37 1 < 6) ∧ K (0, none) (zpcp w 29 (39 + 6 * (w 37 1).toNat)) 238) False
noncomputable def zT82 : zSum := zsm1 2 [2, 2, 9] zb2 zT81
theorem zT82_ok : zSok zT82 := zsm1_ok zT81_ok fun l0 w K h => by
  unfold zb2 at h
  cases q0 : (zpe (zar l0 0) 37 && zpe (zar l0 1) 29) with
  | true =>
    rw [q0, cond_true] at h
    simp only [Bool.and_eq_true] at q0
    show zcall 2 [(2, zar l0 0), (2, zar l0 1), (9, 0)] w 238 K
    rw [zpe_e q0.1, zpe_e q0.2]
    exact zk2 w K h
  | false =>
    rw [q0, cond_false] at h
    exact h.elim
/-! $History.keep -/
set_option maxRecDepth 100000 in
theorem zk3_37 (w : zW) (K : zK) (h : ((0 ≤ w 37 1 ∧ w 37 1 < 6) ∧ 0 ≤ w 37 2 ∧ w 37 2 ≤ 5) ∧ (K (0, none) (zkpc w) 238)) : zcall 3 [(2, 37)] w 238 K := by
  obtain ⟨hg, h⟩ := h
  refine (show (K (0, none) (zupd (zupd w 37 1 (z32 (Int.tmod (z32 ((w 37 1) + 1)) 6))) 37 2 (min (z32 ((w 37 2) + 1)) 5)) 238) → _ from fun h => show zwp 3 0 [(2, 37)] [] w 238 0 K from zgo_imp zT82_ok (cut := fun pc => Nat.beq pc 14) 400 (show zwp 3 14 [(2, 37)] [(2, 37)] (zupd w 37 1 (z32 (Int.tmod (z32 ((w 37 1) + 1)) 6))) 238 0 K from (fun h => show zwp 3 14 [(2, 37)] [(2, 37)] (zupd w 37 1 (z32 (Int.tmod (z32 ((w 37 1) + 1)) 6))) 238 0 K from zgo_imp zT82_ok (cut := fun pc => Nat.beq pc 14) 400 (show K (0, none) (zupd (zupd w 37 1 (z32 (Int.tmod (z32 ((w 37 1) + 1)) 6))) 37 2 (min (z32 ((w 37 2) + 1)) 5)) 238 from h)) h)) ?_
  have e1 : z32 (Int.tmod (z32 (w 37 1 + 1)) 6) = (w 37 1 + 1) % 6 := by rw [z32_id (x := w 37 1 + 1) ⟨by omega, by omega⟩, Int.tmod_eq_emod_of_nonneg (by omega)]; exact z32_id ⟨by omega, by omega⟩
  have e2 : z32 (w 37 2 + 1) = w 37 2 + 1 := z32_id ⟨by omega, by omega⟩
  rw [e1, e2]
  exact h
noncomputable def zb3 (l0 : List zV) (w : zW) (K : zK) : Prop := cond (zpe (zar l0 0) 37) (((0 ≤ w 37 1 ∧ w 37 1 < 6) ∧ 0 ≤ w 37 2 ∧ w 37 2 ≤ 5) ∧ (K (0, none) (zkpc w) 238)) (False)
noncomputable def zT83 : zSum := zsm1 3 [2] zb3 zT82
theorem zT83_ok : zSok zT83 := zsm1_ok zT82_ok fun l0 w K h => by
  unfold zb3 at h
  cases q0 : zpe (zar l0 0) 37 with
  | true =>
    rw [q0, cond_true] at h
    have e : zar l0 0 = 37 := zpe_e q0
    show zcall 3 [(2, zar l0 0)] w 238 K
    rw [e]
    exact zk3_37  w K h
  | false =>
  rw [q0, cond_false] at h
  exact h.elim
/-! $History.bringBack -/
set_option maxRecDepth 100000 in
theorem zk4 (w : zW) (K : zK) (h : ((0 ≤ w 37 1 ∧ w 37 1 < 6) ∧ 0 ≤ w 37 2 ∧ w 37 2 ≤ 5) ∧ K (0, none) (zpcp (zbkc w) (39 + 6 * ((w 37 1 + 5) % 6).toNat) 29) 238) : zcall 4 [(2, 37), (2, 29), (9, 0)] w 238 K := by
  obtain ⟨hg, h⟩ := h
  refine (show (zwp 4 35 [(2, 37), (2, 29), (9, 0)] [(0, z32 (Int.tmod (z32 ((z32 ((w 37 1) + 6)) - 1)) 6)), (2, 37)] (zupd (zupd w 37 1 (z32 (Int.tmod (z32 ((z32 ((w 37 1) + 6)) - 1)) 6))) 37 2 (max (z32 ((w 37 2) - 1)) 0)) 238 0 K) → _ from fun h => show zwp 4 0 [(2, 37), (2, 29), (9, 0)] [] w 238 0 K from zgo_imp zT83_ok (cut := fun pc => Nat.beq pc 13 || Nat.beq pc 30 || Nat.beq pc 35 || Nat.beq pc 38 || Nat.beq pc 48) 400 (show zwp 4 13 [(2, 37), (2, 29), (9, 0)] [(0, z32 (Int.tmod (z32 ((z32 ((w 37 1) + 6)) - 1)) 6)), (2, 37)] w 238 0 K from (fun h => show zwp 4 13 [(2, 37), (2, 29), (9, 0)] [(0, z32 (Int.tmod (z32 ((z32 ((w 37 1) + 6)) - 1)) 6)), (2, 37)] w 238 0 K from zgo_imp zT83_ok (cut := fun pc => Nat.beq pc 13 || Nat.beq pc 30 || Nat.beq pc 35 || Nat.beq pc 38 || Nat.beq pc 48) 400 (show zwp 4 30 [(2, 37), (2, 29), (9, 0)] [] (zupd (zupd w 37 1 (z32 (Int.tmod (z32 ((z32 ((w 37 1) + 6)) - 1)) 6))) 37 2 (max (z32 ((w 37 2) - 1)) 0)) 238 0 K from (fun h => show zwp 4 30 [(2, 37), (2, 29), (9, 0)] [] (zupd (zupd w 37 1 (z32 (Int.tmod (z32 ((z32 ((w 37 1) + 6)) - 1)) 6))) 37 2 (max (z32 ((w 37 2) - 1)) 0)) 238 0 K from zgo_imp zT83_ok (cut := fun pc => Nat.beq pc 13 || Nat.beq pc 30 || Nat.beq pc 35 || Nat.beq pc 38 || Nat.beq pc 48) 400 (show zwp 4 35 [(2, 37), (2, 29), (9, 0)] [(0, z32 (Int.tmod (z32 ((z32 ((w 37 1) + 6)) - 1)) 6)), (2, 37)] (zupd (zupd w 37 1 (z32 (Int.tmod (z32 ((z32 ((w 37 1) + 6)) - 1)) 6))) 37 2 (max (z32 ((w 37 2) - 1)) 0)) 238 0 K from h)) h)) h)) ?_
  have e0 : z32 (z32 (w 37 1 + 6) - 1) = w 37 1 + 5 := by rw [z32_id (x := w 37 1 + 6) ⟨by omega, by omega⟩, z32_id ⟨by omega, by omega⟩]; omega
  have e1 : z32 (Int.tmod (z32 (z32 (w 37 1 + 6) - 1)) 6) = (w 37 1 + 5) % 6 := by rw [e0, Int.tmod_eq_emod_of_nonneg (by omega)]; exact z32_id ⟨by omega, by omega⟩
  have e2 : z32 (w 37 2 - 1) = w 37 2 - 1 := z32_id ⟨by omega, by omega⟩
  rw [e1, e2]
  show zwp 4 35 [(2, 37), (2, 29), (9, 0)] [(0, (w 37 1 + 5) % 6), (2, 37)] (zbkc w) 238 0 K
  have hc : (w 37 1 + 5) % 6 = 0 ∨ (w 37 1 + 5) % 6 = 1 ∨ (w 37 1 + 5) % 6 = 2 ∨ (w 37 1 + 5) % 6 = 3 ∨ (w 37 1 + 5) % 6 = 4 ∨ (w 37 1 + 5) % 6 = 5 := by omega
  rcases hc with q | q | q | q | q | q
  · skip
    rw [q] at h ⊢
    refine (show (K (0, none) (zupd (zcopy (zcopy (zcopy (zcopy (zcopy (zbkc w) 40 30 12) 41 31 12) 42 32 12) 43 33 12) 44 34 12) 29 5 (w 39 5)) 238) → _ from fun h => show zwp 4 35 [(2, 37), (2, 29), (9, 0)] [(0, 0), (2, 37)] (zbkc w) 238 0 K from zgo_imp zT83_ok (cut := fun pc => Nat.beq pc 13 || Nat.beq pc 30 || Nat.beq pc 38 || Nat.beq pc 48) 400 (show zwp 4 38 [(2, 37), (2, 29), (9, 0)] [(2, 39)] (zbkc w) 238 0 K from (fun h => show zwp 4 38 [(2, 37), (2, 29), (9, 0)] [(2, 39)] (zbkc w) 238 0 K from zgo_imp zT83_ok (cut := fun pc => Nat.beq pc 13 || Nat.beq pc 30 || Nat.beq pc 38 || Nat.beq pc 48) 400 (show zwp 4 48 [(2, 37), (2, 29), (2, 39)] [] (zupd (zcopy (zcopy (zcopy (zcopy (zcopy (zbkc w) 40 30 12) 41 31 12) 42 32 12) 43 33 12) 44 34 12) 29 5 (w 39 5)) 238 0 K from (fun h => show zwp 4 48 [(2, 37), (2, 29), (2, 39)] [] (zupd (zcopy (zcopy (zcopy (zcopy (zcopy (zbkc w) 40 30 12) 41 31 12) 42 32 12) 43 33 12) 44 34 12) 29 5 (w 39 5)) 238 0 K from zgo_imp zT83_ok (cut := fun pc => Nat.beq pc 13 || Nat.beq pc 30 || Nat.beq pc 38 || Nat.beq pc 48) 400 (show K (0, none) (zupd (zcopy (zcopy (zcopy (zcopy (zcopy (zbkc w) 40 30 12) 41 31 12) 42 32 12) 43 33 12) 44 34 12) 29 5 (w 39 5)) 238 from h)) h)) h)) ?_
    exact h
  · skip
    rw [q] at h ⊢
    refine (show (K (0, none) (zupd (zcopy (zcopy (zcopy (zcopy (zcopy (zbkc w) 46 30 12) 47 31 12) 48 32 12) 49 33 12) 50 34 12) 29 5 (w 45 5)) 238) → _ from fun h => show zwp 4 35 [(2, 37), (2, 29), (9, 0)] [(0, 1), (2, 37)] (zbkc w) 238 0 K from zgo_imp zT83_ok (cut := fun pc => Nat.beq pc 13 || Nat.beq pc 30 || Nat.beq pc 38 || Nat.beq pc 48) 400 (show zwp 4 38 [(2, 37), (2, 29), (9, 0)] [(2, 45)] (zbkc w) 238 0 K from (fun h => show zwp 4 38 [(2, 37), (2, 29), (9, 0)] [(2, 45)] (zbkc w) 238 0 K from zgo_imp zT83_ok (cut := fun pc => Nat.beq pc 13 || Nat.beq pc 30 || Nat.beq pc 38 || Nat.beq pc 48) 400 (show zwp 4 48 [(2, 37), (2, 29), (2, 45)] [] (zupd (zcopy (zcopy (zcopy (zcopy (zcopy (zbkc w) 46 30 12) 47 31 12) 48 32 12) 49 33 12) 50 34 12) 29 5 (w 45 5)) 238 0 K from (fun h => show zwp 4 48 [(2, 37), (2, 29), (2, 45)] [] (zupd (zcopy (zcopy (zcopy (zcopy (zcopy (zbkc w) 46 30 12) 47 31 12) 48 32 12) 49 33 12) 50 34 12) 29 5 (w 45 5)) 238 0 K from zgo_imp zT83_ok (cut := fun pc => Nat.beq pc 13 || Nat.beq pc 30 || Nat.beq pc 38 || Nat.beq pc 48) 400 (show K (0, none) (zupd (zcopy (zcopy (zcopy (zcopy (zcopy (zbkc w) 46 30 12) 47 31 12) 48 32 12) 49 33 12) 50 34 12) 29 5 (w 45 5)) 238 from h)) h)) h)) ?_
    exact h
  · skip
    rw [q] at h ⊢
    refine (show (K (0, none) (zupd (zcopy (zcopy (zcopy (zcopy (zcopy (zbkc w) 52 30 12) 53 31 12) 54 32 12) 55 33 12) 56 34 12) 29 5 (w 51 5)) 238) → _ from fun h => show zwp 4 35 [(2, 37), (2, 29), (9, 0)] [(0, 2), (2, 37)] (zbkc w) 238 0 K from zgo_imp zT83_ok (cut := fun pc => Nat.beq pc 13 || Nat.beq pc 30 || Nat.beq pc 38 || Nat.beq pc 48) 400 (show zwp 4 38 [(2, 37), (2, 29), (9, 0)] [(2, 51)] (zbkc w) 238 0 K from (fun h => show zwp 4 38 [(2, 37), (2, 29), (9, 0)] [(2, 51)] (zbkc w) 238 0 K from zgo_imp zT83_ok (cut := fun pc => Nat.beq pc 13 || Nat.beq pc 30 || Nat.beq pc 38 || Nat.beq pc 48) 400 (show zwp 4 48 [(2, 37), (2, 29), (2, 51)] [] (zupd (zcopy (zcopy (zcopy (zcopy (zcopy (zbkc w) 52 30 12) 53 31 12) 54 32 12) 55 33 12) 56 34 12) 29 5 (w 51 5)) 238 0 K from (fun h => show zwp 4 48 [(2, 37), (2, 29), (2, 51)] [] (zupd (zcopy (zcopy (zcopy (zcopy (zcopy (zbkc w) 52 30 12) 53 31 12) 54 32 12) 55 33 12) 56 34 12) 29 5 (w 51 5)) 238 0 K from zgo_imp zT83_ok (cut := fun pc => Nat.beq pc 13 || Nat.beq pc 30 || Nat.beq pc 38 || Nat.beq pc 48) 400 (show K (0, none) (zupd (zcopy (zcopy (zcopy (zcopy (zcopy (zbkc w) 52 30 12) 53 31 12) 54 32 12) 55 33 12) 56 34 12) 29 5 (w 51 5)) 238 from h)) h)) h)) ?_
    exact h
  · skip
    rw [q] at h ⊢
    refine (show (K (0, none) (zupd (zcopy (zcopy (zcopy (zcopy (zcopy (zbkc w) 58 30 12) 59 31 12) 60 32 12) 61 33 12) 62 34 12) 29 5 (w 57 5)) 238) → _ from fun h => show zwp 4 35 [(2, 37), (2, 29), (9, 0)] [(0, 3), (2, 37)] (zbkc w) 238 0 K from zgo_imp zT83_ok (cut := fun pc => Nat.beq pc 13 || Nat.beq pc 30 || Nat.beq pc 38 || Nat.beq pc 48) 400 (show zwp 4 38 [(2, 37), (2, 29), (9, 0)] [(2, 57)] (zbkc w) 238 0 K from (fun h => show zwp 4 38 [(2, 37), (2, 29), (9, 0)] [(2, 57)] (zbkc w) 238 0 K from zgo_imp zT83_ok (cut := fun pc => Nat.beq pc 13 || Nat.beq pc 30 || Nat.beq pc 38 || Nat.beq pc 48) 400 (show zwp 4 48 [(2, 37), (2, 29), (2, 57)] [] (zupd (zcopy (zcopy (zcopy (zcopy (zcopy (zbkc w) 58 30 12) 59 31 12) 60 32 12) 61 33 12) 62 34 12) 29 5 (w 57 5)) 238 0 K from (fun h => show zwp 4 48 [(2, 37), (2, 29), (2, 57)] [] (zupd (zcopy (zcopy (zcopy (zcopy (zcopy (zbkc w) 58 30 12) 59 31 12) 60 32 12) 61 33 12) 62 34 12) 29 5 (w 57 5)) 238 0 K from zgo_imp zT83_ok (cut := fun pc => Nat.beq pc 13 || Nat.beq pc 30 || Nat.beq pc 38 || Nat.beq pc 48) 400 (show K (0, none) (zupd (zcopy (zcopy (zcopy (zcopy (zcopy (zbkc w) 58 30 12) 59 31 12) 60 32 12) 61 33 12) 62 34 12) 29 5 (w 57 5)) 238 from h)) h)) h)) ?_
    exact h
  · skip
    rw [q] at h ⊢
    refine (show (K (0, none) (zupd (zcopy (zcopy (zcopy (zcopy (zcopy (zbkc w) 64 30 12) 65 31 12) 66 32 12) 67 33 12) 68 34 12) 29 5 (w 63 5)) 238) → _ from fun h => show zwp 4 35 [(2, 37), (2, 29), (9, 0)] [(0, 4), (2, 37)] (zbkc w) 238 0 K from zgo_imp zT83_ok (cut := fun pc => Nat.beq pc 13 || Nat.beq pc 30 || Nat.beq pc 38 || Nat.beq pc 48) 400 (show zwp 4 38 [(2, 37), (2, 29), (9, 0)] [(2, 63)] (zbkc w) 238 0 K from (fun h => show zwp 4 38 [(2, 37), (2, 29), (9, 0)] [(2, 63)] (zbkc w) 238 0 K from zgo_imp zT83_ok (cut := fun pc => Nat.beq pc 13 || Nat.beq pc 30 || Nat.beq pc 38 || Nat.beq pc 48) 400 (show zwp 4 48 [(2, 37), (2, 29), (2, 63)] [] (zupd (zcopy (zcopy (zcopy (zcopy (zcopy (zbkc w) 64 30 12) 65 31 12) 66 32 12) 67 33 12) 68 34 12) 29 5 (w 63 5)) 238 0 K from (fun h => show zwp 4 48 [(2, 37), (2, 29), (2, 63)] [] (zupd (zcopy (zcopy (zcopy (zcopy (zcopy (zbkc w) 64 30 12) 65 31 12) 66 32 12) 67 33 12) 68 34 12) 29 5 (w 63 5)) 238 0 K from zgo_imp zT83_ok (cut := fun pc => Nat.beq pc 13 || Nat.beq pc 30 || Nat.beq pc 38 || Nat.beq pc 48) 400 (show K (0, none) (zupd (zcopy (zcopy (zcopy (zcopy (zcopy (zbkc w) 64 30 12) 65 31 12) 66 32 12) 67 33 12) 68 34 12) 29 5 (w 63 5)) 238 from h)) h)) h)) ?_
    exact h
  · skip
    rw [q] at h ⊢
    refine (show (K (0, none) (zupd (zcopy (zcopy (zcopy (zcopy (zcopy (zbkc w) 70 30 12) 71 31 12) 72 32 12) 73 33 12) 74 34 12) 29 5 (w 69 5)) 238) → _ from fun h => show zwp 4 35 [(2, 37), (2, 29), (9, 0)] [(0, 5), (2, 37)] (zbkc w) 238 0 K from zgo_imp zT83_ok (cut := fun pc => Nat.beq pc 13 || Nat.beq pc 30 || Nat.beq pc 38 || Nat.beq pc 48) 400 (show zwp 4 38 [(2, 37), (2, 29), (9, 0)] [(2, 69)] (zbkc w) 238 0 K from (fun h => show zwp 4 38 [(2, 37), (2, 29), (9, 0)] [(2, 69)] (zbkc w) 238 0 K from zgo_imp zT83_ok (cut := fun pc => Nat.beq pc 13 || Nat.beq pc 30 || Nat.beq pc 38 || Nat.beq pc 48) 400 (show zwp 4 48 [(2, 37), (2, 29), (2, 69)] [] (zupd (zcopy (zcopy (zcopy (zcopy (zcopy (zbkc w) 70 30 12) 71 31 12) 72 32 12) 73 33 12) 74 34 12) 29 5 (w 69 5)) 238 0 K from (fun h => show zwp 4 48 [(2, 37), (2, 29), (2, 69)] [] (zupd (zcopy (zcopy (zcopy (zcopy (zcopy (zbkc w) 70 30 12) 71 31 12) 72 32 12) 73 33 12) 74 34 12) 29 5 (w 69 5)) 238 0 K from zgo_imp zT83_ok (cut := fun pc => Nat.beq pc 13 || Nat.beq pc 30 || Nat.beq pc 38 || Nat.beq pc 48) 400 (show K (0, none) (zupd (zcopy (zcopy (zcopy (zcopy (zcopy (zbkc w) 70 30 12) 71 31 12) 72 32 12) 73 33 12) 74 34 12) 29 5 (w 69 5)) 238 from h)) h)) h)) ?_
    exact h
noncomputable def zb4 (l0 : List zV) (w : zW) (K : zK) : Prop := cond (zpe (zar l0 0) 37 && zpe (zar l0 1) 29) (((0 ≤ w 37 1 ∧ w 37 1 < 6) ∧ 0 ≤ w 37 2 ∧ w 37 2 ≤ 5) ∧ K (0, none) (zpcp (zbkc w) (39 + 6 * ((w 37 1 + 5) % 6).toNat) 29) 238) False
noncomputable def zT84 : zSum := zsm1 4 [2, 2, 9] zb4 zT83
theorem zT84_ok : zSok zT84 := zsm1_ok zT83_ok fun l0 w K h => by
  unfold zb4 at h
  cases q0 : (zpe (zar l0 0) 37 && zpe (zar l0 1) 29) with
  | true =>
    rw [q0, cond_true] at h
    simp only [Bool.and_eq_true] at q0
    show zcall 4 [(2, zar l0 0), (2, zar l0 1), (9, 0)] w 238 K
    rw [zpe_e q0.1, zpe_e q0.2]
    exact zk4 w K h
  | false =>
    rw [q0, cond_false] at h
    exact h.elim
set_option maxRecDepth 100000 in
theorem zk274_L2_108 {w : zW} {K : zK} (x : Int) (hx : 0 ≤ x ∧ x + 49 ≤ 245)  : ∀ (m : Nat) (c : Int), (0 ≤ c) → (c + m = 12) → (K (0, none) (zly w 108 x.toNat) 238) → zwp 274 2 [(2, 93), (2, 108), (0, x), (0, c)] [] (zlyc w 108 x.toNat c.toNat) 238 0 K := by
  
  intro m
  induction m with
  | zero =>
    intro c  h1 h2 h
    refine (show (if c < 12 then zif False (0 ≤ c ∧ c < 36) (zif False (0 ≤ z32 (x + c) ∧ z32 (x + c) < 245) (zif False (0 ≤ c ∧ c < 36) (zif False (0 ≤ z32 ((z32 (x + 12)) + c) ∧ z32 ((z32 (x + 12)) + c) < 245) (zif False (0 ≤ c ∧ c < 36) (zif False (0 ≤ z32 ((z32 (x + 24)) + c) ∧ z32 ((z32 (x + 24)) + c) < 245) (zif False (0 ≤ c ∧ c < 36) (zif False (0 ≤ z32 ((z32 (x + 36)) + c) ∧ z32 ((z32 (x + 36)) + c) < 245) (zwp 274 2 [(2, 93), (2, 108), (0, x), (0, z32 (c + 1))] [] (zupd (zupd (zupd (zupd (zlyc w 108 x.toNat c.toNat) 108 (z32 (x + c)).toNat (w 98 c.toNat)) 108 (z32 ((z32 (x + 12)) + c)).toNat (w 103 c.toNat)) 108 (z32 ((z32 (x + 24)) + c)).toNat (w 104 c.toNat)) 108 (z32 ((z32 (x + 36)) + c)).toNat (w 105 c.toNat)) 238 0 K)))))))) else zif False (0 ≤ z32 (x + 48) ∧ z32 (x + 48) < 245) (K (0, none) (zupd (zlyc w 108 x.toNat c.toNat) 108 (z32 (x + 48)).toNat (w 102 0)) 238)) → _ from fun h => show zwp 274 2 [(2, 93), (2, 108), (0, x), (0, c)] [] (zlyc w 108 x.toNat c.toNat) 238 0 K from zgo_imp zT84_ok (cut := fun pc => Nat.beq pc 2 || Nat.beq pc 12 || Nat.beq pc 24 || Nat.beq pc 35 || Nat.beq pc 47 || Nat.beq pc 59 || Nat.beq pc 73) 400 (show if c < 12 then zwp 274 12 [(2, 93), (2, 108), (0, x), (0, c)] [(0, z32 (x + c)), (2, 108)] (zlyc w 108 x.toNat c.toNat) 238 0 K else zwp 274 73 [(2, 93), (2, 108), (0, x), (0, c)] [(2, 93), (0, z32 (x + 48)), (2, 108)] (zlyc w 108 x.toNat c.toNat) 238 0 K from zmI (fun h => (fun h => show zwp 274 12 [(2, 93), (2, 108), (0, x), (0, c)] [(0, z32 (x + c)), (2, 108)] (zlyc w 108 x.toNat c.toNat) 238 0 K from zgo_imp zT84_ok (cut := fun pc => Nat.beq pc 2 || Nat.beq pc 12 || Nat.beq pc 24 || Nat.beq pc 35 || Nat.beq pc 47 || Nat.beq pc 59 || Nat.beq pc 73) 400 (show zif False (0 ≤ c ∧ c < 36) (zif False (0 ≤ z32 (x + c) ∧ z32 (x + c) < 245) (zwp 274 24 [(2, 93), (2, 108), (0, x), (0, c)] [(0, z32 (x + 12)), (2, 108)] (zupd (zlyc w 108 x.toNat c.toNat) 108 (z32 (x + c)).toNat (w 98 c.toNat)) 238 0 K)) from zmZ (fun h => zmZ (fun h => (fun h => show zwp 274 24 [(2, 93), (2, 108), (0, x), (0, c)] [(0, z32 (x + 12)), (2, 108)] (zupd (zlyc w 108 x.toNat c.toNat) 108 (z32 (x + c)).toNat (w 98 c.toNat)) 238 0 K from zgo_imp zT84_ok (cut := fun pc => Nat.beq pc 2 || Nat.beq pc 12 || Nat.beq pc 24 || Nat.beq pc 35 || Nat.beq pc 47 || Nat.beq pc 59 || Nat.beq pc 73) 400 (show zif False (0 ≤ c ∧ c < 36) (zif False (0 ≤ z32 ((z32 (x + 12)) + c) ∧ z32 ((z32 (x + 12)) + c) < 245) (zwp 274 35 [(2, 93), (2, 108), (0, x), (0, c)] [(0, x), (2, 108)] (zupd (zupd (zlyc w 108 x.toNat c.toNat) 108 (z32 (x + c)).toNat (w 98 c.toNat)) 108 (z32 ((z32 (x + 12)) + c)).toNat (w 103 c.toNat)) 238 0 K)) from zmZ (fun h => zmZ (fun h => (fun h => show zwp 274 35 [(2, 93), (2, 108), (0, x), (0, c)] [(0, x), (2, 108)] (zupd (zupd (zlyc w 108 x.toNat c.toNat) 108 (z32 (x + c)).toNat (w 98 c.toNat)) 108 (z32 ((z32 (x + 12)) + c)).toNat (w 103 c.toNat)) 238 0 K from zgo_imp zT84_ok (cut := fun pc => Nat.beq pc 2 || Nat.beq pc 12 || Nat.beq pc 24 || Nat.beq pc 35 || Nat.beq pc 47 || Nat.beq pc 59 || Nat.beq pc 73) 400 (show zif False (0 ≤ c ∧ c < 36) (zif False (0 ≤ z32 ((z32 (x + 24)) + c) ∧ z32 ((z32 (x + 24)) + c) < 245) (zwp 274 47 [(2, 93), (2, 108), (0, x), (0, c)] [] (zupd (zupd (zupd (zlyc w 108 x.toNat c.toNat) 108 (z32 (x + c)).toNat (w 98 c.toNat)) 108 (z32 ((z32 (x + 12)) + c)).toNat (w 103 c.toNat)) 108 (z32 ((z32 (x + 24)) + c)).toNat (w 104 c.toNat)) 238 0 K)) from zmZ (fun h => zmZ (fun h => (fun h => show zwp 274 47 [(2, 93), (2, 108), (0, x), (0, c)] [] (zupd (zupd (zupd (zlyc w 108 x.toNat c.toNat) 108 (z32 (x + c)).toNat (w 98 c.toNat)) 108 (z32 ((z32 (x + 12)) + c)).toNat (w 103 c.toNat)) 108 (z32 ((z32 (x + 24)) + c)).toNat (w 104 c.toNat)) 238 0 K from zgo_imp zT84_ok (cut := fun pc => Nat.beq pc 2 || Nat.beq pc 12 || Nat.beq pc 24 || Nat.beq pc 35 || Nat.beq pc 47 || Nat.beq pc 59 || Nat.beq pc 73) 400 (show zwp 274 59 [(2, 93), (2, 108), (0, x), (0, c)] [(0, c), (2, 105), (0, z32 ((z32 (x + 36)) + c)), (2, 108)] (zupd (zupd (zupd (zlyc w 108 x.toNat c.toNat) 108 (z32 (x + c)).toNat (w 98 c.toNat)) 108 (z32 ((z32 (x + 12)) + c)).toNat (w 103 c.toNat)) 108 (z32 ((z32 (x + 24)) + c)).toNat (w 104 c.toNat)) 238 0 K from (fun h => show zwp 274 59 [(2, 93), (2, 108), (0, x), (0, c)] [(0, c), (2, 105), (0, z32 ((z32 (x + 36)) + c)), (2, 108)] (zupd (zupd (zupd (zlyc w 108 x.toNat c.toNat) 108 (z32 (x + c)).toNat (w 98 c.toNat)) 108 (z32 ((z32 (x + 12)) + c)).toNat (w 103 c.toNat)) 108 (z32 ((z32 (x + 24)) + c)).toNat (w 104 c.toNat)) 238 0 K from zgo_imp zT84_ok (cut := fun pc => Nat.beq pc 2 || Nat.beq pc 12 || Nat.beq pc 24 || Nat.beq pc 35 || Nat.beq pc 47 || Nat.beq pc 59 || Nat.beq pc 73) 400 (show zif False (0 ≤ c ∧ c < 36) (zif False (0 ≤ z32 ((z32 (x + 36)) + c) ∧ z32 ((z32 (x + 36)) + c) < 245) (zwp 274 2 [(2, 93), (2, 108), (0, x), (0, z32 (c + 1))] [] (zupd (zupd (zupd (zupd (zlyc w 108 x.toNat c.toNat) 108 (z32 (x + c)).toNat (w 98 c.toNat)) 108 (z32 ((z32 (x + 12)) + c)).toNat (w 103 c.toNat)) 108 (z32 ((z32 (x + 24)) + c)).toNat (w 104 c.toNat)) 108 (z32 ((z32 (x + 36)) + c)).toNat (w 105 c.toNat)) 238 0 K)) from h)) h)) h) h) h)) h) h) h)) h) h) h)) h) (fun h => (fun h => show zwp 274 73 [(2, 93), (2, 108), (0, x), (0, c)] [(2, 93), (0, z32 (x + 48)), (2, 108)] (zlyc w 108 x.toNat c.toNat) 238 0 K from zgo_imp zT84_ok (cut := fun pc => Nat.beq pc 2 || Nat.beq pc 12 || Nat.beq pc 24 || Nat.beq pc 35 || Nat.beq pc 47 || Nat.beq pc 59 || Nat.beq pc 73) 400 (show zif False (0 ≤ z32 (x + 48) ∧ z32 (x + 48) < 245) (K (0, none) (zupd (zlyc w 108 x.toNat c.toNat) 108 (z32 (x + 48)).toNat (w 102 0)) 238) from h)) h) h)) ?_
    have e48 : z32 (x + 48) = x + 48 := z32_id ⟨by omega, by omega⟩
    rw [e48, show c.toNat = 12 by omega, show (x + 48).toNat = x.toNat + 48 by omega, zly_end]
    exact ziF (by omega) (zifI (by omega) h)
  | succ m ih =>
    intro c  h1 h2 h
    refine (show (if c < 12 then zif False (0 ≤ c ∧ c < 36) (zif False (0 ≤ z32 (x + c) ∧ z32 (x + c) < 245) (zif False (0 ≤ c ∧ c < 36) (zif False (0 ≤ z32 ((z32 (x + 12)) + c) ∧ z32 ((z32 (x + 12)) + c) < 245) (zif False (0 ≤ c ∧ c < 36) (zif False (0 ≤ z32 ((z32 (x + 24)) + c) ∧ z32 ((z32 (x + 24)) + c) < 245) (zif False (0 ≤ c ∧ c < 36) (zif False (0 ≤ z32 ((z32 (x + 36)) + c) ∧ z32 ((z32 (x + 36)) + c) < 245) (zwp 274 2 [(2, 93), (2, 108), (0, x), (0, z32 (c + 1))] [] (zupd (zupd (zupd (zupd (zlyc w 108 x.toNat c.toNat) 108 (z32 (x + c)).toNat (w 98 c.toNat)) 108 (z32 ((z32 (x + 12)) + c)).toNat (w 103 c.toNat)) 108 (z32 ((z32 (x + 24)) + c)).toNat (w 104 c.toNat)) 108 (z32 ((z32 (x + 36)) + c)).toNat (w 105 c.toNat)) 238 0 K)))))))) else zif False (0 ≤ z32 (x + 48) ∧ z32 (x + 48) < 245) (K (0, none) (zupd (zlyc w 108 x.toNat c.toNat) 108 (z32 (x + 48)).toNat (w 102 0)) 238)) → _ from fun h => show zwp 274 2 [(2, 93), (2, 108), (0, x), (0, c)] [] (zlyc w 108 x.toNat c.toNat) 238 0 K from zgo_imp zT84_ok (cut := fun pc => Nat.beq pc 2 || Nat.beq pc 12 || Nat.beq pc 24 || Nat.beq pc 35 || Nat.beq pc 47 || Nat.beq pc 59 || Nat.beq pc 73) 400 (show if c < 12 then zwp 274 12 [(2, 93), (2, 108), (0, x), (0, c)] [(0, z32 (x + c)), (2, 108)] (zlyc w 108 x.toNat c.toNat) 238 0 K else zwp 274 73 [(2, 93), (2, 108), (0, x), (0, c)] [(2, 93), (0, z32 (x + 48)), (2, 108)] (zlyc w 108 x.toNat c.toNat) 238 0 K from zmI (fun h => (fun h => show zwp 274 12 [(2, 93), (2, 108), (0, x), (0, c)] [(0, z32 (x + c)), (2, 108)] (zlyc w 108 x.toNat c.toNat) 238 0 K from zgo_imp zT84_ok (cut := fun pc => Nat.beq pc 2 || Nat.beq pc 12 || Nat.beq pc 24 || Nat.beq pc 35 || Nat.beq pc 47 || Nat.beq pc 59 || Nat.beq pc 73) 400 (show zif False (0 ≤ c ∧ c < 36) (zif False (0 ≤ z32 (x + c) ∧ z32 (x + c) < 245) (zwp 274 24 [(2, 93), (2, 108), (0, x), (0, c)] [(0, z32 (x + 12)), (2, 108)] (zupd (zlyc w 108 x.toNat c.toNat) 108 (z32 (x + c)).toNat (w 98 c.toNat)) 238 0 K)) from zmZ (fun h => zmZ (fun h => (fun h => show zwp 274 24 [(2, 93), (2, 108), (0, x), (0, c)] [(0, z32 (x + 12)), (2, 108)] (zupd (zlyc w 108 x.toNat c.toNat) 108 (z32 (x + c)).toNat (w 98 c.toNat)) 238 0 K from zgo_imp zT84_ok (cut := fun pc => Nat.beq pc 2 || Nat.beq pc 12 || Nat.beq pc 24 || Nat.beq pc 35 || Nat.beq pc 47 || Nat.beq pc 59 || Nat.beq pc 73) 400 (show zif False (0 ≤ c ∧ c < 36) (zif False (0 ≤ z32 ((z32 (x + 12)) + c) ∧ z32 ((z32 (x + 12)) + c) < 245) (zwp 274 35 [(2, 93), (2, 108), (0, x), (0, c)] [(0, x), (2, 108)] (zupd (zupd (zlyc w 108 x.toNat c.toNat) 108 (z32 (x + c)).toNat (w 98 c.toNat)) 108 (z32 ((z32 (x + 12)) + c)).toNat (w 103 c.toNat)) 238 0 K)) from zmZ (fun h => zmZ (fun h => (fun h => show zwp 274 35 [(2, 93), (2, 108), (0, x), (0, c)] [(0, x), (2, 108)] (zupd (zupd (zlyc w 108 x.toNat c.toNat) 108 (z32 (x + c)).toNat (w 98 c.toNat)) 108 (z32 ((z32 (x + 12)) + c)).toNat (w 103 c.toNat)) 238 0 K from zgo_imp zT84_ok (cut := fun pc => Nat.beq pc 2 || Nat.beq pc 12 || Nat.beq pc 24 || Nat.beq pc 35 || Nat.beq pc 47 || Nat.beq pc 59 || Nat.beq pc 73) 400 (show zif False (0 ≤ c ∧ c < 36) (zif False (0 ≤ z32 ((z32 (x + 24)) + c) ∧ z32 ((z32 (x + 24)) + c) < 245) (zwp 274 47 [(2, 93), (2, 108), (0, x), (0, c)] [] (zupd (zupd (zupd (zlyc w 108 x.toNat c.toNat) 108 (z32 (x + c)).toNat (w 98 c.toNat)) 108 (z32 ((z32 (x + 12)) + c)).toNat (w 103 c.toNat)) 108 (z32 ((z32 (x + 24)) + c)).toNat (w 104 c.toNat)) 238 0 K)) from zmZ (fun h => zmZ (fun h => (fun h => show zwp 274 47 [(2, 93), (2, 108), (0, x), (0, c)] [] (zupd (zupd (zupd (zlyc w 108 x.toNat c.toNat) 108 (z32 (x + c)).toNat (w 98 c.toNat)) 108 (z32 ((z32 (x + 12)) + c)).toNat (w 103 c.toNat)) 108 (z32 ((z32 (x + 24)) + c)).toNat (w 104 c.toNat)) 238 0 K from zgo_imp zT84_ok (cut := fun pc => Nat.beq pc 2 || Nat.beq pc 12 || Nat.beq pc 24 || Nat.beq pc 35 || Nat.beq pc 47 || Nat.beq pc 59 || Nat.beq pc 73) 400 (show zwp 274 59 [(2, 93), (2, 108), (0, x), (0, c)] [(0, c), (2, 105), (0, z32 ((z32 (x + 36)) + c)), (2, 108)] (zupd (zupd (zupd (zlyc w 108 x.toNat c.toNat) 108 (z32 (x + c)).toNat (w 98 c.toNat)) 108 (z32 ((z32 (x + 12)) + c)).toNat (w 103 c.toNat)) 108 (z32 ((z32 (x + 24)) + c)).toNat (w 104 c.toNat)) 238 0 K from (fun h => show zwp 274 59 [(2, 93), (2, 108), (0, x), (0, c)] [(0, c), (2, 105), (0, z32 ((z32 (x + 36)) + c)), (2, 108)] (zupd (zupd (zupd (zlyc w 108 x.toNat c.toNat) 108 (z32 (x + c)).toNat (w 98 c.toNat)) 108 (z32 ((z32 (x + 12)) + c)).toNat (w 103 c.toNat)) 108 (z32 ((z32 (x + 24)) + c)).toNat (w 104 c.toNat)) 238 0 K from zgo_imp zT84_ok (cut := fun pc => Nat.beq pc 2 || Nat.beq pc 12 || Nat.beq pc 24 || Nat.beq pc 35 || Nat.beq pc 47 || Nat.beq pc 59 || Nat.beq pc 73) 400 (show zif False (0 ≤ c ∧ c < 36) (zif False (0 ≤ z32 ((z32 (x + 36)) + c) ∧ z32 ((z32 (x + 36)) + c) < 245) (zwp 274 2 [(2, 93), (2, 108), (0, x), (0, z32 (c + 1))] [] (zupd (zupd (zupd (zupd (zlyc w 108 x.toNat c.toNat) 108 (z32 (x + c)).toNat (w 98 c.toNat)) 108 (z32 ((z32 (x + 12)) + c)).toNat (w 103 c.toNat)) 108 (z32 ((z32 (x + 24)) + c)).toNat (w 104 c.toNat)) 108 (z32 ((z32 (x + 36)) + c)).toNat (w 105 c.toNat)) 238 0 K)) from h)) h)) h) h) h)) h) h) h)) h) h) h)) h) (fun h => (fun h => show zwp 274 73 [(2, 93), (2, 108), (0, x), (0, c)] [(2, 93), (0, z32 (x + 48)), (2, 108)] (zlyc w 108 x.toNat c.toNat) 238 0 K from zgo_imp zT84_ok (cut := fun pc => Nat.beq pc 2 || Nat.beq pc 12 || Nat.beq pc 24 || Nat.beq pc 35 || Nat.beq pc 47 || Nat.beq pc 59 || Nat.beq pc 73) 400 (show zif False (0 ≤ z32 (x + 48) ∧ z32 (x + 48) < 245) (K (0, none) (zupd (zlyc w 108 x.toNat c.toNat) 108 (z32 (x + 48)).toNat (w 102 0)) 238) from h)) h) h)) ?_
    have e0 : z32 (x + c) = x + c := z32_id ⟨by omega, by omega⟩
    have e1 : z32 (z32 (x + 12) + c) = x + 12 + c := by rw [z32_id (x := x + 12) ⟨by omega, by omega⟩]; exact z32_id ⟨by omega, by omega⟩
    have e2 : z32 (z32 (x + 24) + c) = x + 24 + c := by rw [z32_id (x := x + 24) ⟨by omega, by omega⟩]; exact z32_id ⟨by omega, by omega⟩
    have e3 : z32 (z32 (x + 36) + c) = x + 36 + c := by rw [z32_id (x := x + 36) ⟨by omega, by omega⟩]; exact z32_id ⟨by omega, by omega⟩
    have e4 : z32 (c + 1) = c + 1 := z32_id ⟨by omega, by omega⟩
    simp only [e0, e1, e2, e3, e4]
    rw [show (x + c).toNat = x.toNat + c.toNat by omega, show (x + 12 + c).toNat = x.toNat + 12 + c.toNat by omega, show (x + 24 + c).toNat = x.toNat + 24 + c.toNat by omega, show (x + 36 + c).toNat = x.toNat + 36 + c.toNat by omega, zly_step (by omega), show c.toNat + 1 = (c + 1).toNat by omega]
    exact ziT (by omega) (zifI (by omega) (zifI (by omega) (zifI (by omega) (zifI (by omega) (zifI (by omega) (zifI (by omega) (zifI (by omega) (zifI (by omega) (ih _ (by omega) (by omega) h)))))))))
set_option maxRecDepth 100000 in
theorem zk274_108 (x : Int) (w : zW) (K : zK) (h : (0 ≤ x ∧ x + 49 ≤ 245) ∧ K (0, none) (zly w 108 x.toNat) 238) : zcall 274 [(2, 93), (2, 108), (0, x), (9, 0)] w 238 K := by
  obtain ⟨hg, h⟩ := h
  refine (show (zwp 274 2 [(2, 93), (2, 108), (0, x), (0, 0)] [] w 238 0 K) → _ from fun h => show zwp 274 0 [(2, 93), (2, 108), (0, x), (9, 0)] [] w 238 0 K from zgo_imp zT84_ok (cut := fun pc => Nat.beq pc 2 || Nat.beq pc 12 || Nat.beq pc 24 || Nat.beq pc 35 || Nat.beq pc 47 || Nat.beq pc 59 || Nat.beq pc 73) 400 (show zwp 274 2 [(2, 93), (2, 108), (0, x), (0, 0)] [] w 238 0 K from h)) ?_
  have := zk274_L2_108 x hg 12 0 (by omega) (by omega) h
  rw [show (0 : Int).toNat = 0 from rfl, zly_0] at this
  exact this
set_option maxRecDepth 100000 in
theorem zk274_L2_114 {w : zW} {K : zK} (x : Int) (hx : 0 ≤ x ∧ x + 49 ≤ 49)  : ∀ (m : Nat) (c : Int), (0 ≤ c) → (c + m = 12) → (K (0, none) (zly w 114 x.toNat) 238) → zwp 274 2 [(2, 93), (2, 114), (0, x), (0, c)] [] (zlyc w 114 x.toNat c.toNat) 238 0 K := by
  
  intro m
  induction m with
  | zero =>
    intro c  h1 h2 h
    refine (show (if c < 12 then zif False (0 ≤ c ∧ c < 36) (zif False (0 ≤ z32 (x + c) ∧ z32 (x + c) < 49) (zif False (0 ≤ c ∧ c < 36) (zif False (0 ≤ z32 ((z32 (x + 12)) + c) ∧ z32 ((z32 (x + 12)) + c) < 49) (zif False (0 ≤ c ∧ c < 36) (zif False (0 ≤ z32 ((z32 (x + 24)) + c) ∧ z32 ((z32 (x + 24)) + c) < 49) (zif False (0 ≤ c ∧ c < 36) (zif False (0 ≤ z32 ((z32 (x + 36)) + c) ∧ z32 ((z32 (x + 36)) + c) < 49) (zwp 274 2 [(2, 93), (2, 114), (0, x), (0, z32 (c + 1))] [] (zupd (zupd (zupd (zupd (zlyc w 114 x.toNat c.toNat) 114 (z32 (x + c)).toNat (w 98 c.toNat)) 114 (z32 ((z32 (x + 12)) + c)).toNat (w 103 c.toNat)) 114 (z32 ((z32 (x + 24)) + c)).toNat (w 104 c.toNat)) 114 (z32 ((z32 (x + 36)) + c)).toNat (w 105 c.toNat)) 238 0 K)))))))) else zif False (0 ≤ z32 (x + 48) ∧ z32 (x + 48) < 49) (K (0, none) (zupd (zlyc w 114 x.toNat c.toNat) 114 (z32 (x + 48)).toNat (w 102 0)) 238)) → _ from fun h => show zwp 274 2 [(2, 93), (2, 114), (0, x), (0, c)] [] (zlyc w 114 x.toNat c.toNat) 238 0 K from zgo_imp zT84_ok (cut := fun pc => Nat.beq pc 2 || Nat.beq pc 12 || Nat.beq pc 24 || Nat.beq pc 35 || Nat.beq pc 47 || Nat.beq pc 59 || Nat.beq pc 73) 400 (show if c < 12 then zwp 274 12 [(2, 93), (2, 114), (0, x), (0, c)] [(0, z32 (x + c)), (2, 114)] (zlyc w 114 x.toNat c.toNat) 238 0 K else zwp 274 73 [(2, 93), (2, 114), (0, x), (0, c)] [(2, 93), (0, z32 (x + 48)), (2, 114)] (zlyc w 114 x.toNat c.toNat) 238 0 K from zmI (fun h => (fun h => show zwp 274 12 [(2, 93), (2, 114), (0, x), (0, c)] [(0, z32 (x + c)), (2, 114)] (zlyc w 114 x.toNat c.toNat) 238 0 K from zgo_imp zT84_ok (cut := fun pc => Nat.beq pc 2 || Nat.beq pc 12 || Nat.beq pc 24 || Nat.beq pc 35 || Nat.beq pc 47 || Nat.beq pc 59 || Nat.beq pc 73) 400 (show zif False (0 ≤ c ∧ c < 36) (zif False (0 ≤ z32 (x + c) ∧ z32 (x + c) < 49) (zwp 274 24 [(2, 93), (2, 114), (0, x), (0, c)] [(0, z32 (x + 12)), (2, 114)] (zupd (zlyc w 114 x.toNat c.toNat) 114 (z32 (x + c)).toNat (w 98 c.toNat)) 238 0 K)) from zmZ (fun h => zmZ (fun h => (fun h => show zwp 274 24 [(2, 93), (2, 114), (0, x), (0, c)] [(0, z32 (x + 12)), (2, 114)] (zupd (zlyc w 114 x.toNat c.toNat) 114 (z32 (x + c)).toNat (w 98 c.toNat)) 238 0 K from zgo_imp zT84_ok (cut := fun pc => Nat.beq pc 2 || Nat.beq pc 12 || Nat.beq pc 24 || Nat.beq pc 35 || Nat.beq pc 47 || Nat.beq pc 59 || Nat.beq pc 73) 400 (show zif False (0 ≤ c ∧ c < 36) (zif False (0 ≤ z32 ((z32 (x + 12)) + c) ∧ z32 ((z32 (x + 12)) + c) < 49) (zwp 274 35 [(2, 93), (2, 114), (0, x), (0, c)] [(0, x), (2, 114)] (zupd (zupd (zlyc w 114 x.toNat c.toNat) 114 (z32 (x + c)).toNat (w 98 c.toNat)) 114 (z32 ((z32 (x + 12)) + c)).toNat (w 103 c.toNat)) 238 0 K)) from zmZ (fun h => zmZ (fun h => (fun h => show zwp 274 35 [(2, 93), (2, 114), (0, x), (0, c)] [(0, x), (2, 114)] (zupd (zupd (zlyc w 114 x.toNat c.toNat) 114 (z32 (x + c)).toNat (w 98 c.toNat)) 114 (z32 ((z32 (x + 12)) + c)).toNat (w 103 c.toNat)) 238 0 K from zgo_imp zT84_ok (cut := fun pc => Nat.beq pc 2 || Nat.beq pc 12 || Nat.beq pc 24 || Nat.beq pc 35 || Nat.beq pc 47 || Nat.beq pc 59 || Nat.beq pc 73) 400 (show zif False (0 ≤ c ∧ c < 36) (zif False (0 ≤ z32 ((z32 (x + 24)) + c) ∧ z32 ((z32 (x + 24)) + c) < 49) (zwp 274 47 [(2, 93), (2, 114), (0, x), (0, c)] [] (zupd (zupd (zupd (zlyc w 114 x.toNat c.toNat) 114 (z32 (x + c)).toNat (w 98 c.toNat)) 114 (z32 ((z32 (x + 12)) + c)).toNat (w 103 c.toNat)) 114 (z32 ((z32 (x + 24)) + c)).toNat (w 104 c.toNat)) 238 0 K)) from zmZ (fun h => zmZ (fun h => (fun h => show zwp 274 47 [(2, 93), (2, 114), (0, x), (0, c)] [] (zupd (zupd (zupd (zlyc w 114 x.toNat c.toNat) 114 (z32 (x + c)).toNat (w 98 c.toNat)) 114 (z32 ((z32 (x + 12)) + c)).toNat (w 103 c.toNat)) 114 (z32 ((z32 (x + 24)) + c)).toNat (w 104 c.toNat)) 238 0 K from zgo_imp zT84_ok (cut := fun pc => Nat.beq pc 2 || Nat.beq pc 12 || Nat.beq pc 24 || Nat.beq pc 35 || Nat.beq pc 47 || Nat.beq pc 59 || Nat.beq pc 73) 400 (show zwp 274 59 [(2, 93), (2, 114), (0, x), (0, c)] [(0, c), (2, 105), (0, z32 ((z32 (x + 36)) + c)), (2, 114)] (zupd (zupd (zupd (zlyc w 114 x.toNat c.toNat) 114 (z32 (x + c)).toNat (w 98 c.toNat)) 114 (z32 ((z32 (x + 12)) + c)).toNat (w 103 c.toNat)) 114 (z32 ((z32 (x + 24)) + c)).toNat (w 104 c.toNat)) 238 0 K from (fun h => show zwp 274 59 [(2, 93), (2, 114), (0, x), (0, c)] [(0, c), (2, 105), (0, z32 ((z32 (x + 36)) + c)), (2, 114)] (zupd (zupd (zupd (zlyc w 114 x.toNat c.toNat) 114 (z32 (x + c)).toNat (w 98 c.toNat)) 114 (z32 ((z32 (x + 12)) + c)).toNat (w 103 c.toNat)) 114 (z32 ((z32 (x + 24)) + c)).toNat (w 104 c.toNat)) 238 0 K from zgo_imp zT84_ok (cut := fun pc => Nat.beq pc 2 || Nat.beq pc 12 || Nat.beq pc 24 || Nat.beq pc 35 || Nat.beq pc 47 || Nat.beq pc 59 || Nat.beq pc 73) 400 (show zif False (0 ≤ c ∧ c < 36) (zif False (0 ≤ z32 ((z32 (x + 36)) + c) ∧ z32 ((z32 (x + 36)) + c) < 49) (zwp 274 2 [(2, 93), (2, 114), (0, x), (0, z32 (c + 1))] [] (zupd (zupd (zupd (zupd (zlyc w 114 x.toNat c.toNat) 114 (z32 (x + c)).toNat (w 98 c.toNat)) 114 (z32 ((z32 (x + 12)) + c)).toNat (w 103 c.toNat)) 114 (z32 ((z32 (x + 24)) + c)).toNat (w 104 c.toNat)) 114 (z32 ((z32 (x + 36)) + c)).toNat (w 105 c.toNat)) 238 0 K)) from h)) h)) h) h) h)) h) h) h)) h) h) h)) h) (fun h => (fun h => show zwp 274 73 [(2, 93), (2, 114), (0, x), (0, c)] [(2, 93), (0, z32 (x + 48)), (2, 114)] (zlyc w 114 x.toNat c.toNat) 238 0 K from zgo_imp zT84_ok (cut := fun pc => Nat.beq pc 2 || Nat.beq pc 12 || Nat.beq pc 24 || Nat.beq pc 35 || Nat.beq pc 47 || Nat.beq pc 59 || Nat.beq pc 73) 400 (show zif False (0 ≤ z32 (x + 48) ∧ z32 (x + 48) < 49) (K (0, none) (zupd (zlyc w 114 x.toNat c.toNat) 114 (z32 (x + 48)).toNat (w 102 0)) 238) from h)) h) h)) ?_
    have e48 : z32 (x + 48) = x + 48 := z32_id ⟨by omega, by omega⟩
    rw [e48, show c.toNat = 12 by omega, show (x + 48).toNat = x.toNat + 48 by omega, zly_end]
    exact ziF (by omega) (zifI (by omega) h)
  | succ m ih =>
    intro c  h1 h2 h
    refine (show (if c < 12 then zif False (0 ≤ c ∧ c < 36) (zif False (0 ≤ z32 (x + c) ∧ z32 (x + c) < 49) (zif False (0 ≤ c ∧ c < 36) (zif False (0 ≤ z32 ((z32 (x + 12)) + c) ∧ z32 ((z32 (x + 12)) + c) < 49) (zif False (0 ≤ c ∧ c < 36) (zif False (0 ≤ z32 ((z32 (x + 24)) + c) ∧ z32 ((z32 (x + 24)) + c) < 49) (zif False (0 ≤ c ∧ c < 36) (zif False (0 ≤ z32 ((z32 (x + 36)) + c) ∧ z32 ((z32 (x + 36)) + c) < 49) (zwp 274 2 [(2, 93), (2, 114), (0, x), (0, z32 (c + 1))] [] (zupd (zupd (zupd (zupd (zlyc w 114 x.toNat c.toNat) 114 (z32 (x + c)).toNat (w 98 c.toNat)) 114 (z32 ((z32 (x + 12)) + c)).toNat (w 103 c.toNat)) 114 (z32 ((z32 (x + 24)) + c)).toNat (w 104 c.toNat)) 114 (z32 ((z32 (x + 36)) + c)).toNat (w 105 c.toNat)) 238 0 K)))))))) else zif False (0 ≤ z32 (x + 48) ∧ z32 (x + 48) < 49) (K (0, none) (zupd (zlyc w 114 x.toNat c.toNat) 114 (z32 (x + 48)).toNat (w 102 0)) 238)) → _ from fun h => show zwp 274 2 [(2, 93), (2, 114), (0, x), (0, c)] [] (zlyc w 114 x.toNat c.toNat) 238 0 K from zgo_imp zT84_ok (cut := fun pc => Nat.beq pc 2 || Nat.beq pc 12 || Nat.beq pc 24 || Nat.beq pc 35 || Nat.beq pc 47 || Nat.beq pc 59 || Nat.beq pc 73) 400 (show if c < 12 then zwp 274 12 [(2, 93), (2, 114), (0, x), (0, c)] [(0, z32 (x + c)), (2, 114)] (zlyc w 114 x.toNat c.toNat) 238 0 K else zwp 274 73 [(2, 93), (2, 114), (0, x), (0, c)] [(2, 93), (0, z32 (x + 48)), (2, 114)] (zlyc w 114 x.toNat c.toNat) 238 0 K from zmI (fun h => (fun h => show zwp 274 12 [(2, 93), (2, 114), (0, x), (0, c)] [(0, z32 (x + c)), (2, 114)] (zlyc w 114 x.toNat c.toNat) 238 0 K from zgo_imp zT84_ok (cut := fun pc => Nat.beq pc 2 || Nat.beq pc 12 || Nat.beq pc 24 || Nat.beq pc 35 || Nat.beq pc 47 || Nat.beq pc 59 || Nat.beq pc 73) 400 (show zif False (0 ≤ c ∧ c < 36) (zif False (0 ≤ z32 (x + c) ∧ z32 (x + c) < 49) (zwp 274 24 [(2, 93), (2, 114), (0, x), (0, c)] [(0, z32 (x + 12)), (2, 114)] (zupd (zlyc w 114 x.toNat c.toNat) 114 (z32 (x + c)).toNat (w 98 c.toNat)) 238 0 K)) from zmZ (fun h => zmZ (fun h => (fun h => show zwp 274 24 [(2, 93), (2, 114), (0, x), (0, c)] [(0, z32 (x + 12)), (2, 114)] (zupd (zlyc w 114 x.toNat c.toNat) 114 (z32 (x + c)).toNat (w 98 c.toNat)) 238 0 K from zgo_imp zT84_ok (cut := fun pc => Nat.beq pc 2 || Nat.beq pc 12 || Nat.beq pc 24 || Nat.beq pc 35 || Nat.beq pc 47 || Nat.beq pc 59 || Nat.beq pc 73) 400 (show zif False (0 ≤ c ∧ c < 36) (zif False (0 ≤ z32 ((z32 (x + 12)) + c) ∧ z32 ((z32 (x + 12)) + c) < 49) (zwp 274 35 [(2, 93), (2, 114), (0, x), (0, c)] [(0, x), (2, 114)] (zupd (zupd (zlyc w 114 x.toNat c.toNat) 114 (z32 (x + c)).toNat (w 98 c.toNat)) 114 (z32 ((z32 (x + 12)) + c)).toNat (w 103 c.toNat)) 238 0 K)) from zmZ (fun h => zmZ (fun h => (fun h => show zwp 274 35 [(2, 93), (2, 114), (0, x), (0, c)] [(0, x), (2, 114)] (zupd (zupd (zlyc w 114 x.toNat c.toNat) 114 (z32 (x + c)).toNat (w 98 c.toNat)) 114 (z32 ((z32 (x + 12)) + c)).toNat (w 103 c.toNat)) 238 0 K from zgo_imp zT84_ok (cut := fun pc => Nat.beq pc 2 || Nat.beq pc 12 || Nat.beq pc 24 || Nat.beq pc 35 || Nat.beq pc 47 || Nat.beq pc 59 || Nat.beq pc 73) 400 (show zif False (0 ≤ c ∧ c < 36) (zif False (0 ≤ z32 ((z32 (x + 24)) + c) ∧ z32 ((z32 (x + 24)) + c) < 49) (zwp 274 47 [(2, 93), (2, 114), (0, x), (0, c)] [] (zupd (zupd (zupd (zlyc w 114 x.toNat c.toNat) 114 (z32 (x + c)).toNat (w 98 c.toNat)) 114 (z32 ((z32 (x + 12)) + c)).toNat (w 103 c.toNat)) 114 (z32 ((z32 (x + 24)) + c)).toNat (w 104 c.toNat)) 238 0 K)) from zmZ (fun h => zmZ (fun h => (fun h => show zwp 274 47 [(2, 93), (2, 114), (0, x), (0, c)] [] (zupd (zupd (zupd (zlyc w 114 x.toNat c.toNat) 114 (z32 (x + c)).toNat (w 98 c.toNat)) 114 (z32 ((z32 (x + 12)) + c)).toNat (w 103 c.toNat)) 114 (z32 ((z32 (x + 24)) + c)).toNat (w 104 c.toNat)) 238 0 K from zgo_imp zT84_ok (cut := fun pc => Nat.beq pc 2 || Nat.beq pc 12 || Nat.beq pc 24 || Nat.beq pc 35 || Nat.beq pc 47 || Nat.beq pc 59 || Nat.beq pc 73) 400 (show zwp 274 59 [(2, 93), (2, 114), (0, x), (0, c)] [(0, c), (2, 105), (0, z32 ((z32 (x + 36)) + c)), (2, 114)] (zupd (zupd (zupd (zlyc w 114 x.toNat c.toNat) 114 (z32 (x + c)).toNat (w 98 c.toNat)) 114 (z32 ((z32 (x + 12)) + c)).toNat (w 103 c.toNat)) 114 (z32 ((z32 (x + 24)) + c)).toNat (w 104 c.toNat)) 238 0 K from (fun h => show zwp 274 59 [(2, 93), (2, 114), (0, x), (0, c)] [(0, c), (2, 105), (0, z32 ((z32 (x + 36)) + c)), (2, 114)] (zupd (zupd (zupd (zlyc w 114 x.toNat c.toNat) 114 (z32 (x + c)).toNat (w 98 c.toNat)) 114 (z32 ((z32 (x + 12)) + c)).toNat (w 103 c.toNat)) 114 (z32 ((z32 (x + 24)) + c)).toNat (w 104 c.toNat)) 238 0 K from zgo_imp zT84_ok (cut := fun pc => Nat.beq pc 2 || Nat.beq pc 12 || Nat.beq pc 24 || Nat.beq pc 35 || Nat.beq pc 47 || Nat.beq pc 59 || Nat.beq pc 73) 400 (show zif False (0 ≤ c ∧ c < 36) (zif False (0 ≤ z32 ((z32 (x + 36)) + c) ∧ z32 ((z32 (x + 36)) + c) < 49) (zwp 274 2 [(2, 93), (2, 114), (0, x), (0, z32 (c + 1))] [] (zupd (zupd (zupd (zupd (zlyc w 114 x.toNat c.toNat) 114 (z32 (x + c)).toNat (w 98 c.toNat)) 114 (z32 ((z32 (x + 12)) + c)).toNat (w 103 c.toNat)) 114 (z32 ((z32 (x + 24)) + c)).toNat (w 104 c.toNat)) 114 (z32 ((z32 (x + 36)) + c)).toNat (w 105 c.toNat)) 238 0 K)) from h)) h)) h) h) h)) h) h) h)) h) h) h)) h) (fun h => (fun h => show zwp 274 73 [(2, 93), (2, 114), (0, x), (0, c)] [(2, 93), (0, z32 (x + 48)), (2, 114)] (zlyc w 114 x.toNat c.toNat) 238 0 K from zgo_imp zT84_ok (cut := fun pc => Nat.beq pc 2 || Nat.beq pc 12 || Nat.beq pc 24 || Nat.beq pc 35 || Nat.beq pc 47 || Nat.beq pc 59 || Nat.beq pc 73) 400 (show zif False (0 ≤ z32 (x + 48) ∧ z32 (x + 48) < 49) (K (0, none) (zupd (zlyc w 114 x.toNat c.toNat) 114 (z32 (x + 48)).toNat (w 102 0)) 238) from h)) h) h)) ?_
    have e0 : z32 (x + c) = x + c := z32_id ⟨by omega, by omega⟩
    have e1 : z32 (z32 (x + 12) + c) = x + 12 + c := by rw [z32_id (x := x + 12) ⟨by omega, by omega⟩]; exact z32_id ⟨by omega, by omega⟩
    have e2 : z32 (z32 (x + 24) + c) = x + 24 + c := by rw [z32_id (x := x + 24) ⟨by omega, by omega⟩]; exact z32_id ⟨by omega, by omega⟩
    have e3 : z32 (z32 (x + 36) + c) = x + 36 + c := by rw [z32_id (x := x + 36) ⟨by omega, by omega⟩]; exact z32_id ⟨by omega, by omega⟩
    have e4 : z32 (c + 1) = c + 1 := z32_id ⟨by omega, by omega⟩
    simp only [e0, e1, e2, e3, e4]
    rw [show (x + c).toNat = x.toNat + c.toNat by omega, show (x + 12 + c).toNat = x.toNat + 12 + c.toNat by omega, show (x + 24 + c).toNat = x.toNat + 24 + c.toNat by omega, show (x + 36 + c).toNat = x.toNat + 36 + c.toNat by omega, zly_step (by omega), show c.toNat + 1 = (c + 1).toNat by omega]
    exact ziT (by omega) (zifI (by omega) (zifI (by omega) (zifI (by omega) (zifI (by omega) (zifI (by omega) (zifI (by omega) (zifI (by omega) (zifI (by omega) (ih _ (by omega) (by omega) h)))))))))
set_option maxRecDepth 100000 in
theorem zk274_114 (x : Int) (w : zW) (K : zK) (h : (0 ≤ x ∧ x + 49 ≤ 49) ∧ K (0, none) (zly w 114 x.toNat) 238) : zcall 274 [(2, 93), (2, 114), (0, x), (9, 0)] w 238 K := by
  obtain ⟨hg, h⟩ := h
  refine (show (zwp 274 2 [(2, 93), (2, 114), (0, x), (0, 0)] [] w 238 0 K) → _ from fun h => show zwp 274 0 [(2, 93), (2, 114), (0, x), (9, 0)] [] w 238 0 K from zgo_imp zT84_ok (cut := fun pc => Nat.beq pc 2 || Nat.beq pc 12 || Nat.beq pc 24 || Nat.beq pc 35 || Nat.beq pc 47 || Nat.beq pc 59 || Nat.beq pc 73) 400 (show zwp 274 2 [(2, 93), (2, 114), (0, x), (0, 0)] [] w 238 0 K from h)) ?_
  have := zk274_L2_114 x hg 12 0 (by omega) (by omega) h
  rw [show (0 : Int).toNat = 0 from rfl, zly_0] at this
  exact this
noncomputable def zb274 (l0 : List zV) (w : zW) (K : zK) : Prop := cond (zpe (zar l0 0) 93 && zpe (zar l0 1) 108) (zA l0 2 fun x => (0 ≤ x ∧ x + 49 ≤ 245) ∧ K (0, none) (zly w 108 x.toNat) 238) (cond (zpe (zar l0 0) 93 && zpe (zar l0 1) 114) (zA l0 2 fun x => (0 ≤ x ∧ x + 49 ≤ 49) ∧ K (0, none) (zly w 114 x.toNat) 238) False)
noncomputable def zT85 : zSum := zsm1 274 [2, 2, 0, 9] zb274 zT84
theorem zT85_ok : zSok zT85 := zsm1_ok zT84_ok fun l0 w K h => by
  unfold zb274 at h
  cases q0 : (zpe (zar l0 0) 93 && zpe (zar l0 1) 108) with
  | true =>
    rw [q0, cond_true] at h
    simp only [Bool.and_eq_true] at q0
    show zcall 274 [(2, zar l0 0), (2, zar l0 1), (0, zar l0 2), (9, 0)] w 238 K
    rw [zpe_e q0.1, zpe_e q0.2]
    exact zk274_108 _ w K (zA_e h)
  | false =>
    rw [q0, cond_false] at h
    cases q1 : (zpe (zar l0 0) 93 && zpe (zar l0 1) 114) with
    | true =>
      rw [q1, cond_true] at h
      simp only [Bool.and_eq_true] at q1
      show zcall 274 [(2, zar l0 0), (2, zar l0 1), (0, zar l0 2), (9, 0)] w 238 K
      rw [zpe_e q1.1, zpe_e q1.2]
      exact zk274_114 _ w K (zA_e h)
    | false =>
      rw [q1, cond_false] at h
      exact h.elim
set_option maxRecDepth 100000 in
theorem zk273_L20 {w : zW} {K : zK} (hu : w 93 31 = 4)  : ∀ (m : Nat) (k : Int), (0 ≤ k) → (k + m = 196) → (K (0, none) (zupd (zly (zshf w 196) 108 196) 93 31 5) 238) → zwp 273 20 [(2, 93), (0, k)] [] (zshf w k.toNat) 238 0 K := by
  
  intro m
  induction m with
  | zero =>
    intro k  h1 h2 h
    refine (show (if k < z32 (49 * (w 93 31)) then zif False (0 ≤ z32 (k + 49) ∧ z32 (k + 49) < 245) (zif False (0 ≤ k ∧ k < 245) (zwp 273 20 [(2, 93), (0, z32 (k + 1))] [] (zupd (zshf w k.toNat) 108 k.toNat ((zshf w k.toNat) 108 (z32 (k + 49)).toNat)) 238 0 K)) else (0 ≤ (z32 (49 * (w 93 31))) ∧ (z32 (49 * (w 93 31))) + 49 ≤ 245) ∧ (K (0, none) (zupd (zly (zshf w k.toNat) 108 (z32 (49 * (w 93 31))).toNat) 93 31 (z32 (((zly (zshf w k.toNat) 108 (z32 (49 * (w 93 31))).toNat) 93 31) + 1))) 238)) → _ from fun h => show zwp 273 20 [(2, 93), (0, k)] [] (zshf w k.toNat) 238 0 K from zgo_imp zT85_ok (cut := fun pc => Nat.beq pc 15 || Nat.beq pc 20 || Nat.beq pc 31 || Nat.beq pc 45 || Nat.beq pc 63 || Nat.beq pc 67) 400 (show if k < z32 (49 * (w 93 31)) then zwp 273 31 [(2, 93), (0, k)] [] (zshf w k.toNat) 238 0 K else zwp 273 63 [(2, 93), (9, 0)] [(0, w 93 31), (0, 49), (2, 108), (2, 93)] (zshf w k.toNat) 238 0 K from zmI (fun h => (fun h => show zwp 273 31 [(2, 93), (0, k)] [] (zshf w k.toNat) 238 0 K from zgo_imp zT85_ok (cut := fun pc => Nat.beq pc 15 || Nat.beq pc 20 || Nat.beq pc 31 || Nat.beq pc 45 || Nat.beq pc 63 || Nat.beq pc 67) 400 (show zif False (0 ≤ z32 (k + 49) ∧ z32 (k + 49) < 245) (zwp 273 45 [(2, 93), (0, k)] [(0, (zshf w k.toNat) 108 (z32 (k + 49)).toNat), (0, k), (2, 108)] (zshf w k.toNat) 238 0 K) from zmZ (fun h => (fun h => show zwp 273 45 [(2, 93), (0, k)] [(0, (zshf w k.toNat) 108 (z32 (k + 49)).toNat), (0, k), (2, 108)] (zshf w k.toNat) 238 0 K from zgo_imp zT85_ok (cut := fun pc => Nat.beq pc 15 || Nat.beq pc 20 || Nat.beq pc 31 || Nat.beq pc 45 || Nat.beq pc 63 || Nat.beq pc 67) 400 (show zif False (0 ≤ k ∧ k < 245) (zwp 273 20 [(2, 93), (0, z32 (k + 1))] [] (zupd (zshf w k.toNat) 108 k.toNat ((zshf w k.toNat) 108 (z32 (k + 49)).toNat)) 238 0 K) from h)) h) h)) h) (fun h => (fun h => show zwp 273 63 [(2, 93), (9, 0)] [(0, w 93 31), (0, 49), (2, 108), (2, 93)] (zshf w k.toNat) 238 0 K from zgo_imp zT85_ok (cut := fun pc => Nat.beq pc 15 || Nat.beq pc 20 || Nat.beq pc 31 || Nat.beq pc 45 || Nat.beq pc 63 || Nat.beq pc 67) 400 (show (0 ≤ (z32 (49 * (w 93 31))) ∧ (z32 (49 * (w 93 31))) + 49 ≤ 245) ∧ (zwp 273 67 [(2, 93), (9, 0)] [] (zly (zshf w k.toNat) 108 (z32 (49 * (w 93 31))).toNat) 238 0 K) from zmA (fun h => (fun h => show zwp 273 67 [(2, 93), (9, 0)] [] (zly (zshf w k.toNat) 108 (z32 (49 * (w 93 31))).toNat) 238 0 K from zgo_imp zT85_ok (cut := fun pc => Nat.beq pc 15 || Nat.beq pc 20 || Nat.beq pc 31 || Nat.beq pc 45 || Nat.beq pc 63 || Nat.beq pc 67) 400 (show K (0, none) (zupd (zly (zshf w k.toNat) 108 (z32 (49 * (w 93 31))).toNat) 93 31 (z32 (((zly (zshf w k.toNat) 108 (z32 (49 * (w 93 31))).toNat) 93 31) + 1))) 238 from h)) h) h)) h) h)) ?_
    rw [hu, show z32 (49 * 4) = 196 from by decide, show k.toNat = 196 by omega]
    refine ziF (by omega) ⟨by omega, ?_⟩
    have e : zly (zshf w 196) 108 (196 : Int).toNat 93 31 = 4 := hu
    rw [e]
    exact h
  | succ m ih =>
    intro k  h1 h2 h
    refine (show (if k < z32 (49 * (w 93 31)) then zif False (0 ≤ z32 (k + 49) ∧ z32 (k + 49) < 245) (zif False (0 ≤ k ∧ k < 245) (zwp 273 20 [(2, 93), (0, z32 (k + 1))] [] (zupd (zshf w k.toNat) 108 k.toNat ((zshf w k.toNat) 108 (z32 (k + 49)).toNat)) 238 0 K)) else (0 ≤ (z32 (49 * (w 93 31))) ∧ (z32 (49 * (w 93 31))) + 49 ≤ 245) ∧ (K (0, none) (zupd (zly (zshf w k.toNat) 108 (z32 (49 * (w 93 31))).toNat) 93 31 (z32 (((zly (zshf w k.toNat) 108 (z32 (49 * (w 93 31))).toNat) 93 31) + 1))) 238)) → _ from fun h => show zwp 273 20 [(2, 93), (0, k)] [] (zshf w k.toNat) 238 0 K from zgo_imp zT85_ok (cut := fun pc => Nat.beq pc 15 || Nat.beq pc 20 || Nat.beq pc 31 || Nat.beq pc 45 || Nat.beq pc 63 || Nat.beq pc 67) 400 (show if k < z32 (49 * (w 93 31)) then zwp 273 31 [(2, 93), (0, k)] [] (zshf w k.toNat) 238 0 K else zwp 273 63 [(2, 93), (9, 0)] [(0, w 93 31), (0, 49), (2, 108), (2, 93)] (zshf w k.toNat) 238 0 K from zmI (fun h => (fun h => show zwp 273 31 [(2, 93), (0, k)] [] (zshf w k.toNat) 238 0 K from zgo_imp zT85_ok (cut := fun pc => Nat.beq pc 15 || Nat.beq pc 20 || Nat.beq pc 31 || Nat.beq pc 45 || Nat.beq pc 63 || Nat.beq pc 67) 400 (show zif False (0 ≤ z32 (k + 49) ∧ z32 (k + 49) < 245) (zwp 273 45 [(2, 93), (0, k)] [(0, (zshf w k.toNat) 108 (z32 (k + 49)).toNat), (0, k), (2, 108)] (zshf w k.toNat) 238 0 K) from zmZ (fun h => (fun h => show zwp 273 45 [(2, 93), (0, k)] [(0, (zshf w k.toNat) 108 (z32 (k + 49)).toNat), (0, k), (2, 108)] (zshf w k.toNat) 238 0 K from zgo_imp zT85_ok (cut := fun pc => Nat.beq pc 15 || Nat.beq pc 20 || Nat.beq pc 31 || Nat.beq pc 45 || Nat.beq pc 63 || Nat.beq pc 67) 400 (show zif False (0 ≤ k ∧ k < 245) (zwp 273 20 [(2, 93), (0, z32 (k + 1))] [] (zupd (zshf w k.toNat) 108 k.toNat ((zshf w k.toNat) 108 (z32 (k + 49)).toNat)) 238 0 K) from h)) h) h)) h) (fun h => (fun h => show zwp 273 63 [(2, 93), (9, 0)] [(0, w 93 31), (0, 49), (2, 108), (2, 93)] (zshf w k.toNat) 238 0 K from zgo_imp zT85_ok (cut := fun pc => Nat.beq pc 15 || Nat.beq pc 20 || Nat.beq pc 31 || Nat.beq pc 45 || Nat.beq pc 63 || Nat.beq pc 67) 400 (show (0 ≤ (z32 (49 * (w 93 31))) ∧ (z32 (49 * (w 93 31))) + 49 ≤ 245) ∧ (zwp 273 67 [(2, 93), (9, 0)] [] (zly (zshf w k.toNat) 108 (z32 (49 * (w 93 31))).toNat) 238 0 K) from zmA (fun h => (fun h => show zwp 273 67 [(2, 93), (9, 0)] [] (zly (zshf w k.toNat) 108 (z32 (49 * (w 93 31))).toNat) 238 0 K from zgo_imp zT85_ok (cut := fun pc => Nat.beq pc 15 || Nat.beq pc 20 || Nat.beq pc 31 || Nat.beq pc 45 || Nat.beq pc 63 || Nat.beq pc 67) 400 (show K (0, none) (zupd (zly (zshf w k.toNat) 108 (z32 (49 * (w 93 31))).toNat) 93 31 (z32 (((zly (zshf w k.toNat) 108 (z32 (49 * (w 93 31))).toNat) 93 31) + 1))) 238 from h)) h) h)) h) h)) ?_
    have e1 : z32 (k + 49) = k + 49 := z32_id ⟨by omega, by omega⟩
    have e2 : z32 (k + 1) = k + 1 := z32_id ⟨by omega, by omega⟩
    have e3 : zshf w k.toNat 108 (k + 49).toNat = w 108 (k.toNat + 49) := by
      simp only [zshf, zfill, eq_self, ite_true]
      rw [if_neg (by omega), show (k + 49).toNat = k.toNat + 49 by omega]
    rw [hu, show z32 (49 * 4) = 196 from by decide]
    simp only [e1, e2]
    rw [e3, zshf_step, show k.toNat + 1 = (k + 1).toNat by omega]
    exact ziT (by omega) (zifI (by omega) (zifI (by omega) (ih _ (by omega) (by omega) h)))
/-! Model.keeps -/
set_option maxRecDepth 100000 in
theorem zk273_93 (w : zW) (K : zK) (h : (0 ≤ w 93 31 ∧ w 93 31 ≤ 5) ∧ (K (0, none) (zkpm w) 238)) : zcall 273 [(2, 93), (9, 0)] w 238 K := by
  obtain ⟨hg, h⟩ := h
  refine (show (if w 93 31 = 5 then zwp 273 20 [(2, 93), (0, 0)] [] (zupd w 93 31 (z32 ((w 93 31) - 1))) 238 0 K else (0 ≤ (z32 (49 * (w 93 31))) ∧ (z32 (49 * (w 93 31))) + 49 ≤ 245) ∧ (K (0, none) (zupd (zly w 108 (z32 (49 * (w 93 31))).toNat) 93 31 (z32 (((zly w 108 (z32 (49 * (w 93 31))).toNat) 93 31) + 1))) 238)) → _ from fun h => show zwp 273 0 [(2, 93), (9, 0)] [] w 238 0 K from zgo_imp zT85_ok (cut := fun pc => Nat.beq pc 15 || Nat.beq pc 20 || Nat.beq pc 31 || Nat.beq pc 45 || Nat.beq pc 63 || Nat.beq pc 67) 400 (show if w 93 31 = 5 then zwp 273 15 [(2, 93), (9, 0)] [(0, z32 ((w 93 31) - 1)), (2, 93)] w 238 0 K else zwp 273 63 [(2, 93), (9, 0)] [(0, w 93 31), (0, 49), (2, 108), (2, 93)] w 238 0 K from zmI (fun h => (fun h => show zwp 273 15 [(2, 93), (9, 0)] [(0, z32 ((w 93 31) - 1)), (2, 93)] w 238 0 K from zgo_imp zT85_ok (cut := fun pc => Nat.beq pc 15 || Nat.beq pc 20 || Nat.beq pc 31 || Nat.beq pc 45 || Nat.beq pc 63 || Nat.beq pc 67) 400 (show zwp 273 20 [(2, 93), (0, 0)] [] (zupd w 93 31 (z32 ((w 93 31) - 1))) 238 0 K from h)) h) (fun h => (fun h => show zwp 273 63 [(2, 93), (9, 0)] [(0, w 93 31), (0, 49), (2, 108), (2, 93)] w 238 0 K from zgo_imp zT85_ok (cut := fun pc => Nat.beq pc 15 || Nat.beq pc 20 || Nat.beq pc 31 || Nat.beq pc 45 || Nat.beq pc 63 || Nat.beq pc 67) 400 (show (0 ≤ (z32 (49 * (w 93 31))) ∧ (z32 (49 * (w 93 31))) + 49 ≤ 245) ∧ (zwp 273 67 [(2, 93), (9, 0)] [] (zly w 108 (z32 (49 * (w 93 31))).toNat) 238 0 K) from zmA (fun h => (fun h => show zwp 273 67 [(2, 93), (9, 0)] [] (zly w 108 (z32 (49 * (w 93 31))).toNat) 238 0 K from zgo_imp zT85_ok (cut := fun pc => Nat.beq pc 15 || Nat.beq pc 20 || Nat.beq pc 31 || Nat.beq pc 45 || Nat.beq pc 63 || Nat.beq pc 67) 400 (show K (0, none) (zupd (zly w 108 (z32 (49 * (w 93 31))).toNat) 93 31 (z32 (((zly w 108 (z32 (49 * (w 93 31))).toNat) 93 31) + 1))) 238 from h)) h) h)) h) h)) ?_
  unfold zkpm at h
  by_cases q : w 93 31 = 5
  · rw [if_pos q] at h
    refine ziT q ?_
    rw [q, show z32 (5 - 1) = 4 from by decide]
    have := zk273_L20 (w := zupd w 93 31 4) (K := K) rfl 196 0 (by omega) (by omega) h
    rw [show (0 : Int).toNat = 0 from rfl, zshf_0] at this
    exact this
  · rw [if_neg q] at h
    have e1 : z32 (49 * w 93 31) = 49 * w 93 31 := z32_id ⟨by omega, by omega⟩
    rw [e1]
    refine ziF q ⟨by omega, ?_⟩
    have e : zly w 108 (49 * w 93 31).toNat 93 31 = w 93 31 := rfl
    rw [e, z32_id (x := w 93 31 + 1) ⟨by omega, by omega⟩, show (49 * w 93 31).toNat = 49 * (w 93 31).toNat by omega]
    exact h
noncomputable def zb273 (l0 : List zV) (w : zW) (K : zK) : Prop := cond (zpe (zar l0 0) 93) ((0 ≤ w 93 31 ∧ w 93 31 ≤ 5) ∧ (K (0, none) (zkpm w) 238)) (False)
noncomputable def zT86 : zSum := zsm1 273 [2, 9] zb273 zT85
theorem zT86_ok : zSok zT86 := zsm1_ok zT85_ok fun l0 w K h => by
  unfold zb273 at h
  cases q0 : zpe (zar l0 0) 93 with
  | true =>
    rw [q0, cond_true] at h
    have e : zar l0 0 = 93 := zpe_e q0
    show zcall 273 [(2, zar l0 0), (9, 0)] w 238 K
    rw [e]
    exact zk273_93  w K h
  | false =>
  rw [q0, cond_false] at h
  exact h.elim
set_option maxRecDepth 100000 in
theorem zk275_L34 {w : zW} {K : zK} (x : Int) (hx : 0 ≤ x ∧ x + 49 ≤ 245)  : ∀ (m : Nat) (c : Int), (0 ≤ c) → (c + m = 12) → (K (0, some (0, w 93 31)) (zupd (zun4 w x.toNat 12) 102 0 (w 108 (x.toNat + 48))) 238) → zwp 275 34 [(2, 93), (0, x), (0, c)] [] (zun4 w x.toNat c.toNat) 238 0 K := by
  
  intro m
  induction m with
  | zero =>
    intro c  h1 h2 h
    refine (show (if c < 12 then zif False (0 ≤ z32 (x + c) ∧ z32 (x + c) < 245) (zif False (0 ≤ c ∧ c < 36) (zif False (0 ≤ z32 ((z32 (x + 12)) + c) ∧ z32 ((z32 (x + 12)) + c) < 245) (zif False (0 ≤ c ∧ c < 36) (zif False (0 ≤ z32 ((z32 (x + 24)) + c) ∧ z32 ((z32 (x + 24)) + c) < 245) (zif False (0 ≤ c ∧ c < 36) (zif False (0 ≤ z32 ((z32 (x + 36)) + c) ∧ z32 ((z32 (x + 36)) + c) < 245) (zif False (0 ≤ c ∧ c < 36) (zwp 275 34 [(2, 93), (0, x), (0, z32 (c + 1))] [] (zupd (zupd (zupd (zupd (zun4 w x.toNat c.toNat) 98 c.toNat (w 108 (z32 (x + c)).toNat)) 103 c.toNat (w 108 (z32 ((z32 (x + 12)) + c)).toNat)) 104 c.toNat (w 108 (z32 ((z32 (x + 24)) + c)).toNat)) 105 c.toNat (w 108 (z32 ((z32 (x + 36)) + c)).toNat)) 238 0 K)))))))) else zif False (0 ≤ z32 (x + 48) ∧ z32 (x + 48) < 245) (K (0, some (0, w 93 31)) (zupd (zun4 w x.toNat c.toNat) 102 0 (w 108 (z32 (x + 48)).toNat)) 238)) → _ from fun h => show zwp 275 34 [(2, 93), (0, x), (0, c)] [] (zun4 w x.toNat c.toNat) 238 0 K from zgo_imp zT86_ok (cut := fun pc => Nat.beq pc 15 || Nat.beq pc 31 || Nat.beq pc 34 || Nat.beq pc 45 || Nat.beq pc 58 || Nat.beq pc 70 || Nat.beq pc 84 || Nat.beq pc 97 || Nat.beq pc 111 || Nat.beq pc 125) 400 (show if c < 12 then zwp 275 45 [(2, 93), (0, x), (0, c)] [(0, c), (2, 98)] (zun4 w x.toNat c.toNat) 238 0 K else zwp 275 111 [(2, 93), (0, x), (0, c)] [] (zun4 w x.toNat c.toNat) 238 0 K from zmI (fun h => (fun h => show zwp 275 45 [(2, 93), (0, x), (0, c)] [(0, c), (2, 98)] (zun4 w x.toNat c.toNat) 238 0 K from zgo_imp zT86_ok (cut := fun pc => Nat.beq pc 15 || Nat.beq pc 31 || Nat.beq pc 34 || Nat.beq pc 45 || Nat.beq pc 58 || Nat.beq pc 70 || Nat.beq pc 84 || Nat.beq pc 97 || Nat.beq pc 111 || Nat.beq pc 125) 400 (show zif False (0 ≤ z32 (x + c) ∧ z32 (x + c) < 245) (zif False (0 ≤ c ∧ c < 36) (zwp 275 58 [(2, 93), (0, x), (0, c)] [(2, 103)] (zupd (zun4 w x.toNat c.toNat) 98 c.toNat (w 108 (z32 (x + c)).toNat)) 238 0 K)) from zmZ (fun h => zmZ (fun h => (fun h => show zwp 275 58 [(2, 93), (0, x), (0, c)] [(2, 103)] (zupd (zun4 w x.toNat c.toNat) 98 c.toNat (w 108 (z32 (x + c)).toNat)) 238 0 K from zgo_imp zT86_ok (cut := fun pc => Nat.beq pc 15 || Nat.beq pc 31 || Nat.beq pc 34 || Nat.beq pc 45 || Nat.beq pc 58 || Nat.beq pc 70 || Nat.beq pc 84 || Nat.beq pc 97 || Nat.beq pc 111 || Nat.beq pc 125) 400 (show zif False (0 ≤ z32 ((z32 (x + 12)) + c) ∧ z32 ((z32 (x + 12)) + c) < 245) (zwp 275 70 [(2, 93), (0, x), (0, c)] [(0, w 108 (z32 ((z32 (x + 12)) + c)).toNat), (0, c), (2, 103)] (zupd (zun4 w x.toNat c.toNat) 98 c.toNat (w 108 (z32 (x + c)).toNat)) 238 0 K) from zmZ (fun h => (fun h => show zwp 275 70 [(2, 93), (0, x), (0, c)] [(0, w 108 (z32 ((z32 (x + 12)) + c)).toNat), (0, c), (2, 103)] (zupd (zun4 w x.toNat c.toNat) 98 c.toNat (w 108 (z32 (x + c)).toNat)) 238 0 K from zgo_imp zT86_ok (cut := fun pc => Nat.beq pc 15 || Nat.beq pc 31 || Nat.beq pc 34 || Nat.beq pc 45 || Nat.beq pc 58 || Nat.beq pc 70 || Nat.beq pc 84 || Nat.beq pc 97 || Nat.beq pc 111 || Nat.beq pc 125) 400 (show zif False (0 ≤ c ∧ c < 36) (zwp 275 84 [(2, 93), (0, x), (0, c)] [(0, z32 (x + 24)), (2, 108), (0, c), (2, 104)] (zupd (zupd (zun4 w x.toNat c.toNat) 98 c.toNat (w 108 (z32 (x + c)).toNat)) 103 c.toNat (w 108 (z32 ((z32 (x + 12)) + c)).toNat)) 238 0 K) from zmZ (fun h => (fun h => show zwp 275 84 [(2, 93), (0, x), (0, c)] [(0, z32 (x + 24)), (2, 108), (0, c), (2, 104)] (zupd (zupd (zun4 w x.toNat c.toNat) 98 c.toNat (w 108 (z32 (x + c)).toNat)) 103 c.toNat (w 108 (z32 ((z32 (x + 12)) + c)).toNat)) 238 0 K from zgo_imp zT86_ok (cut := fun pc => Nat.beq pc 15 || Nat.beq pc 31 || Nat.beq pc 34 || Nat.beq pc 45 || Nat.beq pc 58 || Nat.beq pc 70 || Nat.beq pc 84 || Nat.beq pc 97 || Nat.beq pc 111 || Nat.beq pc 125) 400 (show zif False (0 ≤ z32 ((z32 (x + 24)) + c) ∧ z32 ((z32 (x + 24)) + c) < 245) (zif False (0 ≤ c ∧ c < 36) (zwp 275 97 [(2, 93), (0, x), (0, c)] [(2, 108), (0, c), (2, 105)] (zupd (zupd (zupd (zun4 w x.toNat c.toNat) 98 c.toNat (w 108 (z32 (x + c)).toNat)) 103 c.toNat (w 108 (z32 ((z32 (x + 12)) + c)).toNat)) 104 c.toNat (w 108 (z32 ((z32 (x + 24)) + c)).toNat)) 238 0 K)) from zmZ (fun h => zmZ (fun h => (fun h => show zwp 275 97 [(2, 93), (0, x), (0, c)] [(2, 108), (0, c), (2, 105)] (zupd (zupd (zupd (zun4 w x.toNat c.toNat) 98 c.toNat (w 108 (z32 (x + c)).toNat)) 103 c.toNat (w 108 (z32 ((z32 (x + 12)) + c)).toNat)) 104 c.toNat (w 108 (z32 ((z32 (x + 24)) + c)).toNat)) 238 0 K from zgo_imp zT86_ok (cut := fun pc => Nat.beq pc 15 || Nat.beq pc 31 || Nat.beq pc 34 || Nat.beq pc 45 || Nat.beq pc 58 || Nat.beq pc 70 || Nat.beq pc 84 || Nat.beq pc 97 || Nat.beq pc 111 || Nat.beq pc 125) 400 (show zif False (0 ≤ z32 ((z32 (x + 36)) + c) ∧ z32 ((z32 (x + 36)) + c) < 245) (zif False (0 ≤ c ∧ c < 36) (zwp 275 34 [(2, 93), (0, x), (0, z32 (c + 1))] [] (zupd (zupd (zupd (zupd (zun4 w x.toNat c.toNat) 98 c.toNat (w 108 (z32 (x + c)).toNat)) 103 c.toNat (w 108 (z32 ((z32 (x + 12)) + c)).toNat)) 104 c.toNat (w 108 (z32 ((z32 (x + 24)) + c)).toNat)) 105 c.toNat (w 108 (z32 ((z32 (x + 36)) + c)).toNat)) 238 0 K)) from h)) h) h) h)) h) h)) h) h)) h) h) h)) h) (fun h => (fun h => show zwp 275 111 [(2, 93), (0, x), (0, c)] [] (zun4 w x.toNat c.toNat) 238 0 K from zgo_imp zT86_ok (cut := fun pc => Nat.beq pc 15 || Nat.beq pc 31 || Nat.beq pc 34 || Nat.beq pc 45 || Nat.beq pc 58 || Nat.beq pc 70 || Nat.beq pc 84 || Nat.beq pc 97 || Nat.beq pc 111 || Nat.beq pc 125) 400 (show zif False (0 ≤ z32 (x + 48) ∧ z32 (x + 48) < 245) (zwp 275 125 [(2, 93), (0, x), (0, c)] [(0, w 108 (z32 (x + 48)).toNat), (0, 0), (2, 102)] (zun4 w x.toNat c.toNat) 238 0 K) from zmZ (fun h => (fun h => show zwp 275 125 [(2, 93), (0, x), (0, c)] [(0, w 108 (z32 (x + 48)).toNat), (0, 0), (2, 102)] (zun4 w x.toNat c.toNat) 238 0 K from zgo_imp zT86_ok (cut := fun pc => Nat.beq pc 15 || Nat.beq pc 31 || Nat.beq pc 34 || Nat.beq pc 45 || Nat.beq pc 58 || Nat.beq pc 70 || Nat.beq pc 84 || Nat.beq pc 97 || Nat.beq pc 111 || Nat.beq pc 125) 400 (show K (0, some (0, w 93 31)) (zupd (zun4 w x.toNat c.toNat) 102 0 (w 108 (z32 (x + 48)).toNat)) 238 from h)) h) h)) h) h)) ?_
    have e48 : z32 (x + 48) = x + 48 := z32_id ⟨by omega, by omega⟩
    rw [e48, show c.toNat = 12 by omega, show (x + 48).toNat = x.toNat + 48 by omega]
    exact ziF (by omega) (zifI (by omega) h)
  | succ m ih =>
    intro c  h1 h2 h
    refine (show (if c < 12 then zif False (0 ≤ z32 (x + c) ∧ z32 (x + c) < 245) (zif False (0 ≤ c ∧ c < 36) (zif False (0 ≤ z32 ((z32 (x + 12)) + c) ∧ z32 ((z32 (x + 12)) + c) < 245) (zif False (0 ≤ c ∧ c < 36) (zif False (0 ≤ z32 ((z32 (x + 24)) + c) ∧ z32 ((z32 (x + 24)) + c) < 245) (zif False (0 ≤ c ∧ c < 36) (zif False (0 ≤ z32 ((z32 (x + 36)) + c) ∧ z32 ((z32 (x + 36)) + c) < 245) (zif False (0 ≤ c ∧ c < 36) (zwp 275 34 [(2, 93), (0, x), (0, z32 (c + 1))] [] (zupd (zupd (zupd (zupd (zun4 w x.toNat c.toNat) 98 c.toNat (w 108 (z32 (x + c)).toNat)) 103 c.toNat (w 108 (z32 ((z32 (x + 12)) + c)).toNat)) 104 c.toNat (w 108 (z32 ((z32 (x + 24)) + c)).toNat)) 105 c.toNat (w 108 (z32 ((z32 (x + 36)) + c)).toNat)) 238 0 K)))))))) else zif False (0 ≤ z32 (x + 48) ∧ z32 (x + 48) < 245) (K (0, some (0, w 93 31)) (zupd (zun4 w x.toNat c.toNat) 102 0 (w 108 (z32 (x + 48)).toNat)) 238)) → _ from fun h => show zwp 275 34 [(2, 93), (0, x), (0, c)] [] (zun4 w x.toNat c.toNat) 238 0 K from zgo_imp zT86_ok (cut := fun pc => Nat.beq pc 15 || Nat.beq pc 31 || Nat.beq pc 34 || Nat.beq pc 45 || Nat.beq pc 58 || Nat.beq pc 70 || Nat.beq pc 84 || Nat.beq pc 97 || Nat.beq pc 111 || Nat.beq pc 125) 400 (show if c < 12 then zwp 275 45 [(2, 93), (0, x), (0, c)] [(0, c), (2, 98)] (zun4 w x.toNat c.toNat) 238 0 K else zwp 275 111 [(2, 93), (0, x), (0, c)] [] (zun4 w x.toNat c.toNat) 238 0 K from zmI (fun h => (fun h => show zwp 275 45 [(2, 93), (0, x), (0, c)] [(0, c), (2, 98)] (zun4 w x.toNat c.toNat) 238 0 K from zgo_imp zT86_ok (cut := fun pc => Nat.beq pc 15 || Nat.beq pc 31 || Nat.beq pc 34 || Nat.beq pc 45 || Nat.beq pc 58 || Nat.beq pc 70 || Nat.beq pc 84 || Nat.beq pc 97 || Nat.beq pc 111 || Nat.beq pc 125) 400 (show zif False (0 ≤ z32 (x + c) ∧ z32 (x + c) < 245) (zif False (0 ≤ c ∧ c < 36) (zwp 275 58 [(2, 93), (0, x), (0, c)] [(2, 103)] (zupd (zun4 w x.toNat c.toNat) 98 c.toNat (w 108 (z32 (x + c)).toNat)) 238 0 K)) from zmZ (fun h => zmZ (fun h => (fun h => show zwp 275 58 [(2, 93), (0, x), (0, c)] [(2, 103)] (zupd (zun4 w x.toNat c.toNat) 98 c.toNat (w 108 (z32 (x + c)).toNat)) 238 0 K from zgo_imp zT86_ok (cut := fun pc => Nat.beq pc 15 || Nat.beq pc 31 || Nat.beq pc 34 || Nat.beq pc 45 || Nat.beq pc 58 || Nat.beq pc 70 || Nat.beq pc 84 || Nat.beq pc 97 || Nat.beq pc 111 || Nat.beq pc 125) 400 (show zif False (0 ≤ z32 ((z32 (x + 12)) + c) ∧ z32 ((z32 (x + 12)) + c) < 245) (zwp 275 70 [(2, 93), (0, x), (0, c)] [(0, w 108 (z32 ((z32 (x + 12)) + c)).toNat), (0, c), (2, 103)] (zupd (zun4 w x.toNat c.toNat) 98 c.toNat (w 108 (z32 (x + c)).toNat)) 238 0 K) from zmZ (fun h => (fun h => show zwp 275 70 [(2, 93), (0, x), (0, c)] [(0, w 108 (z32 ((z32 (x + 12)) + c)).toNat), (0, c), (2, 103)] (zupd (zun4 w x.toNat c.toNat) 98 c.toNat (w 108 (z32 (x + c)).toNat)) 238 0 K from zgo_imp zT86_ok (cut := fun pc => Nat.beq pc 15 || Nat.beq pc 31 || Nat.beq pc 34 || Nat.beq pc 45 || Nat.beq pc 58 || Nat.beq pc 70 || Nat.beq pc 84 || Nat.beq pc 97 || Nat.beq pc 111 || Nat.beq pc 125) 400 (show zif False (0 ≤ c ∧ c < 36) (zwp 275 84 [(2, 93), (0, x), (0, c)] [(0, z32 (x + 24)), (2, 108), (0, c), (2, 104)] (zupd (zupd (zun4 w x.toNat c.toNat) 98 c.toNat (w 108 (z32 (x + c)).toNat)) 103 c.toNat (w 108 (z32 ((z32 (x + 12)) + c)).toNat)) 238 0 K) from zmZ (fun h => (fun h => show zwp 275 84 [(2, 93), (0, x), (0, c)] [(0, z32 (x + 24)), (2, 108), (0, c), (2, 104)] (zupd (zupd (zun4 w x.toNat c.toNat) 98 c.toNat (w 108 (z32 (x + c)).toNat)) 103 c.toNat (w 108 (z32 ((z32 (x + 12)) + c)).toNat)) 238 0 K from zgo_imp zT86_ok (cut := fun pc => Nat.beq pc 15 || Nat.beq pc 31 || Nat.beq pc 34 || Nat.beq pc 45 || Nat.beq pc 58 || Nat.beq pc 70 || Nat.beq pc 84 || Nat.beq pc 97 || Nat.beq pc 111 || Nat.beq pc 125) 400 (show zif False (0 ≤ z32 ((z32 (x + 24)) + c) ∧ z32 ((z32 (x + 24)) + c) < 245) (zif False (0 ≤ c ∧ c < 36) (zwp 275 97 [(2, 93), (0, x), (0, c)] [(2, 108), (0, c), (2, 105)] (zupd (zupd (zupd (zun4 w x.toNat c.toNat) 98 c.toNat (w 108 (z32 (x + c)).toNat)) 103 c.toNat (w 108 (z32 ((z32 (x + 12)) + c)).toNat)) 104 c.toNat (w 108 (z32 ((z32 (x + 24)) + c)).toNat)) 238 0 K)) from zmZ (fun h => zmZ (fun h => (fun h => show zwp 275 97 [(2, 93), (0, x), (0, c)] [(2, 108), (0, c), (2, 105)] (zupd (zupd (zupd (zun4 w x.toNat c.toNat) 98 c.toNat (w 108 (z32 (x + c)).toNat)) 103 c.toNat (w 108 (z32 ((z32 (x + 12)) + c)).toNat)) 104 c.toNat (w 108 (z32 ((z32 (x + 24)) + c)).toNat)) 238 0 K from zgo_imp zT86_ok (cut := fun pc => Nat.beq pc 15 || Nat.beq pc 31 || Nat.beq pc 34 || Nat.beq pc 45 || Nat.beq pc 58 || Nat.beq pc 70 || Nat.beq pc 84 || Nat.beq pc 97 || Nat.beq pc 111 || Nat.beq pc 125) 400 (show zif False (0 ≤ z32 ((z32 (x + 36)) + c) ∧ z32 ((z32 (x + 36)) + c) < 245) (zif False (0 ≤ c ∧ c < 36) (zwp 275 34 [(2, 93), (0, x), (0, z32 (c + 1))] [] (zupd (zupd (zupd (zupd (zun4 w x.toNat c.toNat) 98 c.toNat (w 108 (z32 (x + c)).toNat)) 103 c.toNat (w 108 (z32 ((z32 (x + 12)) + c)).toNat)) 104 c.toNat (w 108 (z32 ((z32 (x + 24)) + c)).toNat)) 105 c.toNat (w 108 (z32 ((z32 (x + 36)) + c)).toNat)) 238 0 K)) from h)) h) h) h)) h) h)) h) h)) h) h) h)) h) (fun h => (fun h => show zwp 275 111 [(2, 93), (0, x), (0, c)] [] (zun4 w x.toNat c.toNat) 238 0 K from zgo_imp zT86_ok (cut := fun pc => Nat.beq pc 15 || Nat.beq pc 31 || Nat.beq pc 34 || Nat.beq pc 45 || Nat.beq pc 58 || Nat.beq pc 70 || Nat.beq pc 84 || Nat.beq pc 97 || Nat.beq pc 111 || Nat.beq pc 125) 400 (show zif False (0 ≤ z32 (x + 48) ∧ z32 (x + 48) < 245) (zwp 275 125 [(2, 93), (0, x), (0, c)] [(0, w 108 (z32 (x + 48)).toNat), (0, 0), (2, 102)] (zun4 w x.toNat c.toNat) 238 0 K) from zmZ (fun h => (fun h => show zwp 275 125 [(2, 93), (0, x), (0, c)] [(0, w 108 (z32 (x + 48)).toNat), (0, 0), (2, 102)] (zun4 w x.toNat c.toNat) 238 0 K from zgo_imp zT86_ok (cut := fun pc => Nat.beq pc 15 || Nat.beq pc 31 || Nat.beq pc 34 || Nat.beq pc 45 || Nat.beq pc 58 || Nat.beq pc 70 || Nat.beq pc 84 || Nat.beq pc 97 || Nat.beq pc 111 || Nat.beq pc 125) 400 (show K (0, some (0, w 93 31)) (zupd (zun4 w x.toNat c.toNat) 102 0 (w 108 (z32 (x + 48)).toNat)) 238 from h)) h) h)) h) h)) ?_
    have e0 : z32 (x + c) = x + c := z32_id ⟨by omega, by omega⟩
    have e1 : z32 (z32 (x + 12) + c) = x + 12 + c := by rw [z32_id (x := x + 12) ⟨by omega, by omega⟩]; exact z32_id ⟨by omega, by omega⟩
    have e2 : z32 (z32 (x + 24) + c) = x + 24 + c := by rw [z32_id (x := x + 24) ⟨by omega, by omega⟩]; exact z32_id ⟨by omega, by omega⟩
    have e3 : z32 (z32 (x + 36) + c) = x + 36 + c := by rw [z32_id (x := x + 36) ⟨by omega, by omega⟩]; exact z32_id ⟨by omega, by omega⟩
    have e4 : z32 (c + 1) = c + 1 := z32_id ⟨by omega, by omega⟩
    simp only [e0, e1, e2, e3, e4]
    rw [show (x + c).toNat = x.toNat + c.toNat by omega, show (x + 12 + c).toNat = x.toNat + 12 + c.toNat by omega, show (x + 24 + c).toNat = x.toNat + 24 + c.toNat by omega, show (x + 36 + c).toNat = x.toNat + 36 + c.toNat by omega, zun4_step, show c.toNat + 1 = (c + 1).toNat by omega]
    exact ziT (by omega) (zifI (by omega) (zifI (by omega) (zifI (by omega) (zifI (by omega) (zifI (by omega) (zifI (by omega) (zifI (by omega) (zifI (by omega) (ih _ (by omega) (by omega) h)))))))))
/-! Model.undo -/
set_option maxRecDepth 100000 in
theorem zk275_93 (w : zW) (K : zK) (h : (0 ≤ w 93 31 ∧ w 93 31 ≤ 5) ∧ (K (0, some (0, (if w 93 31 = 0 then -1 else w 93 31 - 1))) (if w 93 31 = 0 then zupd w 93 0 0 else zunm (zupd w 93 0 0)) 238)) : zcall 275 [(2, 93), (9, 0), (9, 0)] w 238 K := by
  obtain ⟨hg, h⟩ := h
  refine (show (if w 93 31 = 0 then K (0, some (0, (-1))) (zupd w 93 0 0) 238 else zwp 275 34 [(2, 93), (0, z32 (49 * (z32 ((w 93 31) - 1)))), (0, 0)] [] (zupd (zupd w 93 0 0) 93 31 (z32 ((w 93 31) - 1))) 238 0 K) → _ from fun h => show zwp 275 0 [(2, 93), (9, 0), (9, 0)] [] w 238 0 K from zgo_imp zT86_ok (cut := fun pc => Nat.beq pc 15 || Nat.beq pc 31 || Nat.beq pc 34 || Nat.beq pc 45 || Nat.beq pc 58 || Nat.beq pc 70 || Nat.beq pc 84 || Nat.beq pc 97 || Nat.beq pc 111 || Nat.beq pc 125) 400 (show if w 93 31 = 0 then K (0, some (0, (-1))) (zupd w 93 0 0) 238 else zwp 275 15 [(2, 93), (9, 0), (9, 0)] [(2, 93)] (zupd w 93 0 0) 238 0 K from zmI (fun h => h) (fun h => (fun h => show zwp 275 15 [(2, 93), (9, 0), (9, 0)] [(2, 93)] (zupd w 93 0 0) 238 0 K from zgo_imp zT86_ok (cut := fun pc => Nat.beq pc 15 || Nat.beq pc 31 || Nat.beq pc 34 || Nat.beq pc 45 || Nat.beq pc 58 || Nat.beq pc 70 || Nat.beq pc 84 || Nat.beq pc 97 || Nat.beq pc 111 || Nat.beq pc 125) 400 (show zwp 275 31 [(2, 93), (9, 0), (9, 0)] [(0, z32 (49 * (z32 ((w 93 31) - 1))))] (zupd (zupd w 93 0 0) 93 31 (z32 ((w 93 31) - 1))) 238 0 K from (fun h => show zwp 275 31 [(2, 93), (9, 0), (9, 0)] [(0, z32 (49 * (z32 ((w 93 31) - 1))))] (zupd (zupd w 93 0 0) 93 31 (z32 ((w 93 31) - 1))) 238 0 K from zgo_imp zT86_ok (cut := fun pc => Nat.beq pc 15 || Nat.beq pc 31 || Nat.beq pc 34 || Nat.beq pc 45 || Nat.beq pc 58 || Nat.beq pc 70 || Nat.beq pc 84 || Nat.beq pc 97 || Nat.beq pc 111 || Nat.beq pc 125) 400 (show zwp 275 34 [(2, 93), (0, z32 (49 * (z32 ((w 93 31) - 1)))), (0, 0)] [] (zupd (zupd w 93 0 0) 93 31 (z32 ((w 93 31) - 1))) 238 0 K from h)) h)) h) h)) ?_
  have e0 : z32 (w 93 31 - 1) = w 93 31 - 1 := z32_id ⟨by omega, by omega⟩
  have e1 : z32 (49 * (w 93 31 - 1)) = 49 * (w 93 31 - 1) := z32_id ⟨by omega, by omega⟩
  rw [e0, e1]
  by_cases q : w 93 31 = 0
  · rw [if_pos q, if_pos q] at h
    exact ziT q h
  · rw [if_neg q, if_neg q] at h
    refine ziF q ?_
    have := zk275_L34 (w := zupd (zupd w 93 0 0) 93 31 (w 93 31 - 1)) (K := K) (49 * (w 93 31 - 1)) (by omega) 12 0 (by omega) (by omega) (by
      rw [show (49 * (w 93 31 - 1)).toNat = 49 * (w 93 31 - 1).toNat by omega]; exact h)
    rw [show (0 : Int).toNat = 0 from rfl, zun4_0] at this
    exact this
noncomputable def zb275 (l0 : List zV) (w : zW) (K : zK) : Prop := cond (zpe (zar l0 0) 93) ((0 ≤ w 93 31 ∧ w 93 31 ≤ 5) ∧ (K (0, some (0, (if w 93 31 = 0 then -1 else w 93 31 - 1))) (if w 93 31 = 0 then zupd w 93 0 0 else zunm (zupd w 93 0 0)) 238)) (False)
noncomputable def zT87 : zSum := zsm1 275 [2, 9, 9] zb275 zT86
theorem zT87_ok : zSok zT87 := zsm1_ok zT86_ok fun l0 w K h => by
  unfold zb275 at h
  cases q0 : zpe (zar l0 0) 93 with
  | true =>
    rw [q0, cond_true] at h
    have e : zar l0 0 = 93 := zpe_e q0
    show zcall 275 [(2, zar l0 0), (9, 0), (9, 0)] w 238 K
    rw [e]
    exact zk275_93  w K h
  | false =>
  rw [q0, cond_false] at h
  exact h.elim

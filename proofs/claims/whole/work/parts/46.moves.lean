/-! ===== the class: shifting, turning, the box (written by wip/whole/gen_c.py) ===== -/
/-- the greatest, the least of those that have places -/
def zMxP (pl : Int → Prop) (e : Int → Int) (v : Int) : Prop := (∃ c, 0 ≤ c ∧ c < 12 ∧ pl c ∧ e c = v) ∧ ∀ c, 0 ≤ c → c < 12 → pl c → e c ≤ v
def zMnP (pl : Int → Prop) (e : Int → Int) (v : Int) : Prop := (∃ c, 0 ≤ c ∧ c < 12 ∧ pl c ∧ e c = v) ∧ ∀ c, 0 ≤ c → c < 12 → pl c → v ≤ e c
noncomputable def zMx (pl : Int → Prop) (e : Int → Int) : Int := Classical.epsilon (zMxP pl e)
noncomputable def zMn (pl : Int → Prop) (e : Int → Int) : Int := Classical.epsilon (zMnP pl e)
theorem zMx_eq {pl : Int → Prop} {e : Int → Int} {v : Int} (h : zMxP pl e v) : zMx pl e = v := by
  obtain ⟨⟨c, c0, c1, c2, c3⟩, g⟩ : zMxP pl e (zMx pl e) := Classical.epsilon_spec ⟨v, h⟩
  obtain ⟨⟨d, d0, d1, d2, d3⟩, k⟩ := h
  have := g d d0 d1 d2
  have := k c c0 c1 c2
  omega
theorem zMn_eq {pl : Int → Prop} {e : Int → Int} {v : Int} (h : zMnP pl e v) : zMn pl e = v := by
  obtain ⟨⟨c, c0, c1, c2, c3⟩, g⟩ : zMnP pl e (zMn pl e) := Classical.epsilon_spec ⟨v, h⟩
  obtain ⟨⟨d, d0, d1, d2, d3⟩, k⟩ := h
  have := g d d0 d1 d2
  have := k c c0 c1 c2
  omega
/-- too far off -/
abbrev zTf (v : Int) : Prop := v < -1000000000 ∨ 1000000000 < v
def zsft (w : zW) (dx dy : Int) (n : Nat) : zW := zset (zset w 31 n fun i => if w 33 i = 0 then w 31 i else w 31 i + dx) 32 n fun i => if w 33 i = 0 then w 32 i else w 32 i + dy
def ztn (w : zW) (n : Nat) : zW := zset (zset w 31 n fun i => if w 33 i = 0 then w 31 i else -w 32 i) 32 n fun i => if w 33 i = 0 then w 32 i else w 31 i
theorem zset_ne {w : zW} {p n a : Nat} {f : Nat → Int} (h : a ≠ p) : zset w p n f a = w a := by funext i; unfold zset zfill; rw [if_neg h]
theorem zset_ge {w : zW} {p n i : Nat} {f : Nat → Int} (h : n ≤ i) : zset w p n f p i = w p i := by unfold zset zfill; rw [if_pos rfl]; exact if_neg (by omega)
theorem zset_lt {w : zW} {p n i : Nat} {f : Nat → Int} (h : i < n) : zset w p n f p i = f i := by unfold zset zfill; rw [if_pos rfl]; exact if_pos h
theorem zss_0 {w : zW} {f g : Nat → Int} : zset (zset w 31 0 f) 32 0 g = w := by rw [zset_0, zset_0]
theorem zss_31 {w : zW} {f g : Nat → Int} {n : Nat} : zset (zset w 31 n f) 32 n g 31 n = w 31 n := by rw [zset_ne (by decide), zset_ge (Nat.le_refl n)]
theorem zss_32 {w : zW} {f g : Nat → Int} {n : Nat} : zset (zset w 31 n f) 32 n g 32 n = w 32 n := by rw [zset_ge (Nat.le_refl n), zset_ne (by decide)]
theorem zss_ne {w : zW} {f g : Nat → Int} {n a : Nat} (h1 : a ≠ 31) (h2 : a ≠ 32) : zset (zset w 31 n f) 32 n g a = w a := by rw [zset_ne h2, zset_ne h1]
theorem zss_step {w : zW} {f g : Nat → Int} {n : Nat} {x y : Int} (hx : x = f n) (hy : y = g n) : zupd (zupd (zset (zset w 31 n f) 32 n g) 31 n x) 32 n y = zset (zset w 31 (n + 1) f) 32 (n + 1) g := by
  subst hx; subst hy
  rw [zset_comm (p := 32) (q := 31) (by decide), zset_step, zset_step]
theorem zss_skip {w : zW} {f g : Nat → Int} {n : Nat} (hx : f n = w 31 n) (hy : g n = w 32 n) : zset (zset w 31 (n + 1) f) 32 (n + 1) g = zset (zset w 31 n f) 32 n g := by
  rw [zset_skip (p := 32) (by rw [zset_ne (by decide)]; exact hy), zset_skip hx]
noncomputable def zT120 : zSum := zin1 61 400 zT119
theorem zT120_ok : zSok zT120 := zin1_ok zT119_ok
set_option maxRecDepth 100000 in
theorem zk18_L15_00 {w : zW} {K : zK} (hN : zNt w) (hP : zPC w) (hr : zRd 30 w)  : ∀ (m : Nat) (i s : Int) (d5 d6 : zV), (0 ≤ i) → (i + m = w 95 0) → (∀ c : Int, 0 ≤ c → c < i → w 33 c.toNat = 1 → s ≤ w 32 c.toNat - w 30 c.toNat) → ((∃ c : Int, 0 ≤ c ∧ c < i ∧ w 33 c.toNat = 1 ∧ w 32 c.toNat - w 30 c.toNat = s) ∨ (s = 2147483647 ∧ ∀ c : Int, 0 ≤ c → c < i → ¬ w 33 c.toNat = 1)) → (∃ c : Int, 0 ≤ c ∧ c < 12 ∧ w 33 c.toNat = 1) → (∀ v, zMnP (fun c => w 33 c.toNat = 1) (fun c => w 32 c.toNat - w 30 c.toNat) v → K (0, some (0, v)) w 238) → zwp 18 15 [(2, 36), (0, 0), (0, 0), (0, s), (0, i), d5, d6] [] w 238 0 K := by
  
  intro m
  induction m with
  | zero =>
    intro i s d5 d6 h1 h2 h3 h4 h5 h
    refine (show (if i < w 4 0 then zif False (0 ≤ i ∧ i < 12) (if ((if w 33 i.toNat = 0 then 0 else 1) : Int) = 0 then zwp 18 15 [(2, 36), (0, 0), (0, 0), (0, s), (0, z32 (i + 1)), (9, 0), (9, 0)] [] w 238 0 K else zif False (0 ≤ i ∧ i < 12) (zif False (0 ≤ i ∧ i < 12) (zwp 18 15 [(2, 36), (0, 0), (0, 0), (0, min s (z32 ((w 32 i.toNat) - (w 30 i.toNat)))), (0, z32 (i + 1)), (9, 0), (9, 0)] [] w 238 0 K))) else K (0, some (0, s)) w 238) → _ from fun h => show zwp 18 15 [(2, 36), (0, 0), (0, 0), (0, s), (0, i), d5, d6] [] w 238 0 K from zgo_imp zT120_ok (cut := fun pc => Nat.beq pc 15 || Nat.beq pc 17 || Nat.beq pc 36 || Nat.beq pc 52 || Nat.beq pc 64 || Nat.beq pc 75 || Nat.beq pc 93 || Nat.beq pc 110) 400 (show zwp 18 17 [(2, 36), (0, 0), (0, 0), (0, s), (0, i), (9, 0), (9, 0)] [(0, i)] w 238 0 K from (fun h => show zwp 18 17 [(2, 36), (0, 0), (0, 0), (0, s), (0, i), (9, 0), (9, 0)] [(0, i)] w 238 0 K from zgo_imp zT120_ok (cut := fun pc => Nat.beq pc 15 || Nat.beq pc 17 || Nat.beq pc 36 || Nat.beq pc 52 || Nat.beq pc 64 || Nat.beq pc 75 || Nat.beq pc 93 || Nat.beq pc 110) 400 (show if i < w 4 0 then zif False (0 ≤ i ∧ i < 12) (zwp 18 36 [(2, 36), (0, 0), (0, 0), (0, s), (0, i), (9, 0), (9, 0)] [(0, ((if w 33 i.toNat = 0 then 0 else 1) : Int))] w 238 0 K) else zwp 18 110 [(2, 36), (0, 0), (0, 0), (0, s), (0, i), (9, 0), (9, 0)] [(0, s)] w 238 0 K from zmI (fun h => zmZ (fun h => (fun h => show zwp 18 36 [(2, 36), (0, 0), (0, 0), (0, s), (0, i), (9, 0), (9, 0)] [(0, ((if w 33 i.toNat = 0 then 0 else 1) : Int))] w 238 0 K from zgo_imp zT120_ok (cut := fun pc => Nat.beq pc 15 || Nat.beq pc 17 || Nat.beq pc 36 || Nat.beq pc 52 || Nat.beq pc 64 || Nat.beq pc 75 || Nat.beq pc 93 || Nat.beq pc 110) 400 (show if ((if w 33 i.toNat = 0 then 0 else 1) : Int) = 0 then zwp 18 15 [(2, 36), (0, 0), (0, 0), (0, s), (0, z32 (i + 1)), (9, 0), (9, 0)] [] w 238 0 K else zif False (0 ≤ i ∧ i < 12) (zwp 18 64 [(2, 36), (0, 0), (0, 0), (0, s), (0, i), (9, 0), (9, 0)] [(0, w 32 i.toNat)] w 238 0 K) from zmI (fun h => h) (fun h => zmZ (fun h => (fun h => show zwp 18 64 [(2, 36), (0, 0), (0, 0), (0, s), (0, i), (9, 0), (9, 0)] [(0, w 32 i.toNat)] w 238 0 K from zgo_imp zT120_ok (cut := fun pc => Nat.beq pc 15 || Nat.beq pc 17 || Nat.beq pc 36 || Nat.beq pc 52 || Nat.beq pc 64 || Nat.beq pc 75 || Nat.beq pc 93 || Nat.beq pc 110) 400 (show zif False (0 ≤ i ∧ i < 12) (zwp 18 75 [(2, 36), (0, 0), (0, 0), (0, s), (0, i), (0, w 32 i.toNat), (9, 0)] [(0, w 30 i.toNat)] w 238 0 K) from zmZ (fun h => (fun h => show zwp 18 75 [(2, 36), (0, 0), (0, 0), (0, s), (0, i), (0, w 32 i.toNat), (9, 0)] [(0, w 30 i.toNat)] w 238 0 K from zgo_imp zT120_ok (cut := fun pc => Nat.beq pc 15 || Nat.beq pc 17 || Nat.beq pc 36 || Nat.beq pc 52 || Nat.beq pc 64 || Nat.beq pc 75 || Nat.beq pc 93 || Nat.beq pc 110) 400 (show zwp 18 93 [(2, 36), (0, 0), (0, 0), (0, s), (0, i), (0, w 32 i.toNat), (0, w 30 i.toNat)] [] w 238 0 K from (fun h => show zwp 18 93 [(2, 36), (0, 0), (0, 0), (0, s), (0, i), (0, w 32 i.toNat), (0, w 30 i.toNat)] [] w 238 0 K from zgo_imp zT120_ok (cut := fun pc => Nat.beq pc 15 || Nat.beq pc 17 || Nat.beq pc 36 || Nat.beq pc 52 || Nat.beq pc 64 || Nat.beq pc 75 || Nat.beq pc 93 || Nat.beq pc 110) 400 (show zwp 18 15 [(2, 36), (0, 0), (0, 0), (0, min s (z32 ((w 32 i.toNat) - (w 30 i.toNat)))), (0, z32 (i + 1)), (9, 0), (9, 0)] [] w 238 0 K from h)) h)) h) h)) h) h) h)) h) h) (fun h => (fun h => show zwp 18 110 [(2, 36), (0, 0), (0, 0), (0, s), (0, i), (9, 0), (9, 0)] [(0, s)] w 238 0 K from zgo_imp zT120_ok (cut := fun pc => Nat.beq pc 15 || Nat.beq pc 17 || Nat.beq pc 36 || Nat.beq pc 52 || Nat.beq pc 64 || Nat.beq pc 75 || Nat.beq pc 93 || Nat.beq pc 110) 400 (show K (0, some (0, s)) w 238 from h)) h) h)) h)) ?_
    have hn := hN.n
    refine ziF (by omega) (h s ⟨?_, fun c c0 c1 c2 => ?_⟩)
    · rcases h4 with ⟨c, c0, c1, c2, c3⟩ | ⟨_, g⟩
      · exact ⟨c, c0, by omega, c2, c3⟩
      · obtain ⟨c, c0, c1, c2⟩ := h5
        have := (hP.1.1 c c0 c1 c2).1
        exact (g c c0 (by omega) c2).elim
    · have := (hP.1.1 c c0 c1 c2).1
      exact h3 c c0 (by omega) c2
  | succ m ih =>
    intro i s d5 d6 h1 h2 h3 h4 h5 h
    refine (show (if i < w 4 0 then zif False (0 ≤ i ∧ i < 12) (if ((if w 33 i.toNat = 0 then 0 else 1) : Int) = 0 then zwp 18 15 [(2, 36), (0, 0), (0, 0), (0, s), (0, z32 (i + 1)), (9, 0), (9, 0)] [] w 238 0 K else zif False (0 ≤ i ∧ i < 12) (zif False (0 ≤ i ∧ i < 12) (zwp 18 15 [(2, 36), (0, 0), (0, 0), (0, min s (z32 ((w 32 i.toNat) - (w 30 i.toNat)))), (0, z32 (i + 1)), (9, 0), (9, 0)] [] w 238 0 K))) else K (0, some (0, s)) w 238) → _ from fun h => show zwp 18 15 [(2, 36), (0, 0), (0, 0), (0, s), (0, i), d5, d6] [] w 238 0 K from zgo_imp zT120_ok (cut := fun pc => Nat.beq pc 15 || Nat.beq pc 17 || Nat.beq pc 36 || Nat.beq pc 52 || Nat.beq pc 64 || Nat.beq pc 75 || Nat.beq pc 93 || Nat.beq pc 110) 400 (show zwp 18 17 [(2, 36), (0, 0), (0, 0), (0, s), (0, i), (9, 0), (9, 0)] [(0, i)] w 238 0 K from (fun h => show zwp 18 17 [(2, 36), (0, 0), (0, 0), (0, s), (0, i), (9, 0), (9, 0)] [(0, i)] w 238 0 K from zgo_imp zT120_ok (cut := fun pc => Nat.beq pc 15 || Nat.beq pc 17 || Nat.beq pc 36 || Nat.beq pc 52 || Nat.beq pc 64 || Nat.beq pc 75 || Nat.beq pc 93 || Nat.beq pc 110) 400 (show if i < w 4 0 then zif False (0 ≤ i ∧ i < 12) (zwp 18 36 [(2, 36), (0, 0), (0, 0), (0, s), (0, i), (9, 0), (9, 0)] [(0, ((if w 33 i.toNat = 0 then 0 else 1) : Int))] w 238 0 K) else zwp 18 110 [(2, 36), (0, 0), (0, 0), (0, s), (0, i), (9, 0), (9, 0)] [(0, s)] w 238 0 K from zmI (fun h => zmZ (fun h => (fun h => show zwp 18 36 [(2, 36), (0, 0), (0, 0), (0, s), (0, i), (9, 0), (9, 0)] [(0, ((if w 33 i.toNat = 0 then 0 else 1) : Int))] w 238 0 K from zgo_imp zT120_ok (cut := fun pc => Nat.beq pc 15 || Nat.beq pc 17 || Nat.beq pc 36 || Nat.beq pc 52 || Nat.beq pc 64 || Nat.beq pc 75 || Nat.beq pc 93 || Nat.beq pc 110) 400 (show if ((if w 33 i.toNat = 0 then 0 else 1) : Int) = 0 then zwp 18 15 [(2, 36), (0, 0), (0, 0), (0, s), (0, z32 (i + 1)), (9, 0), (9, 0)] [] w 238 0 K else zif False (0 ≤ i ∧ i < 12) (zwp 18 64 [(2, 36), (0, 0), (0, 0), (0, s), (0, i), (9, 0), (9, 0)] [(0, w 32 i.toNat)] w 238 0 K) from zmI (fun h => h) (fun h => zmZ (fun h => (fun h => show zwp 18 64 [(2, 36), (0, 0), (0, 0), (0, s), (0, i), (9, 0), (9, 0)] [(0, w 32 i.toNat)] w 238 0 K from zgo_imp zT120_ok (cut := fun pc => Nat.beq pc 15 || Nat.beq pc 17 || Nat.beq pc 36 || Nat.beq pc 52 || Nat.beq pc 64 || Nat.beq pc 75 || Nat.beq pc 93 || Nat.beq pc 110) 400 (show zif False (0 ≤ i ∧ i < 12) (zwp 18 75 [(2, 36), (0, 0), (0, 0), (0, s), (0, i), (0, w 32 i.toNat), (9, 0)] [(0, w 30 i.toNat)] w 238 0 K) from zmZ (fun h => (fun h => show zwp 18 75 [(2, 36), (0, 0), (0, 0), (0, s), (0, i), (0, w 32 i.toNat), (9, 0)] [(0, w 30 i.toNat)] w 238 0 K from zgo_imp zT120_ok (cut := fun pc => Nat.beq pc 15 || Nat.beq pc 17 || Nat.beq pc 36 || Nat.beq pc 52 || Nat.beq pc 64 || Nat.beq pc 75 || Nat.beq pc 93 || Nat.beq pc 110) 400 (show zwp 18 93 [(2, 36), (0, 0), (0, 0), (0, s), (0, i), (0, w 32 i.toNat), (0, w 30 i.toNat)] [] w 238 0 K from (fun h => show zwp 18 93 [(2, 36), (0, 0), (0, 0), (0, s), (0, i), (0, w 32 i.toNat), (0, w 30 i.toNat)] [] w 238 0 K from zgo_imp zT120_ok (cut := fun pc => Nat.beq pc 15 || Nat.beq pc 17 || Nat.beq pc 36 || Nat.beq pc 52 || Nat.beq pc 64 || Nat.beq pc 75 || Nat.beq pc 93 || Nat.beq pc 110) 400 (show zwp 18 15 [(2, 36), (0, 0), (0, 0), (0, min s (z32 ((w 32 i.toNat) - (w 30 i.toNat)))), (0, z32 (i + 1)), (9, 0), (9, 0)] [] w 238 0 K from h)) h)) h) h)) h) h) h)) h) h) (fun h => (fun h => show zwp 18 110 [(2, 36), (0, 0), (0, 0), (0, s), (0, i), (9, 0), (9, 0)] [(0, s)] w 238 0 K from zgo_imp zT120_ok (cut := fun pc => Nat.beq pc 15 || Nat.beq pc 17 || Nat.beq pc 36 || Nat.beq pc 52 || Nat.beq pc 64 || Nat.beq pc 75 || Nat.beq pc 93 || Nat.beq pc 110) 400 (show K (0, some (0, s)) w 238 from h)) h) h)) h)) ?_
    have hn := hN.n
    have hc := hP.2.2.1 i h1 (by omega)
    rw [z32_id (x := i + 1) ⟨by omega, by omega⟩]
    refine ziT (by omega) (zifI (by omega) ?_)
    by_cases q : w 33 i.toNat = 1
    · have pi := hP.1.1 i h1 (by omega) q
      have ri := hr i h1 (by omega)
      rw [z32_id (x := w 32 i.toNat - w 30 i.toNat) ⟨by omega, by omega⟩]
      refine ziF (by omega) (zifI (by omega) (zifI (by omega) (ih _ _ _ _ (by omega) (by omega) (fun c c0 c1 c2 => ?_) (Or.inl ?_) h5 h)))
      · by_cases e : c = i
        · subst e; omega
        · have := h3 c c0 (by omega) c2
          omega
      · by_cases g : s ≤ w 32 i.toNat - w 30 i.toNat
        · rcases h4 with ⟨c, c0, c1, c2, c3⟩ | ⟨g1, g2⟩
          · exact ⟨c, c0, by omega, c2, by omega⟩
          · exact ⟨i, h1, by omega, q, by omega⟩
        · exact ⟨i, h1, by omega, q, by omega⟩
    · refine ziT (by omega) (ih _ _ _ _ (by omega) (by omega) (fun c c0 c1 c2 => ?_) ?_ h5 h)
      · by_cases e : c = i
        · subst e; exact (q c2).elim
        · exact h3 c c0 (by omega) c2
      · rcases h4 with ⟨c, c0, c1, c2, c3⟩ | ⟨g1, g2⟩
        · exact Or.inl ⟨c, c0, by omega, c2, c3⟩
        · refine Or.inr ⟨g1, fun c c0 c1 c2 => ?_⟩
          by_cases e : c = i
          · subst e; exact q c2
          · exact g2 c c0 (by omega) c2
set_option maxRecDepth 100000 in
theorem zk18_L15_01 {w : zW} {K : zK} (hN : zNt w) (hP : zPC w) (hr : zRd 30 w)  : ∀ (m : Nat) (i s : Int) (d5 d6 : zV), (0 ≤ i) → (i + m = w 95 0) → (∀ c : Int, 0 ≤ c → c < i → w 33 c.toNat = 1 → w 32 c.toNat + w 30 c.toNat ≤ s) → ((∃ c : Int, 0 ≤ c ∧ c < i ∧ w 33 c.toNat = 1 ∧ w 32 c.toNat + w 30 c.toNat = s) ∨ (s = -2147483648 ∧ ∀ c : Int, 0 ≤ c → c < i → ¬ w 33 c.toNat = 1)) → (∃ c : Int, 0 ≤ c ∧ c < 12 ∧ w 33 c.toNat = 1) → (∀ v, zMxP (fun c => w 33 c.toNat = 1) (fun c => w 32 c.toNat + w 30 c.toNat) v → K (0, some (0, v)) w 238) → zwp 18 15 [(2, 36), (0, 0), (0, 1), (0, s), (0, i), d5, d6] [] w 238 0 K := by
  
  intro m
  induction m with
  | zero =>
    intro i s d5 d6 h1 h2 h3 h4 h5 h
    refine (show (if i < w 4 0 then zif False (0 ≤ i ∧ i < 12) (if ((if w 33 i.toNat = 0 then 0 else 1) : Int) = 0 then zwp 18 15 [(2, 36), (0, 0), (0, 1), (0, s), (0, z32 (i + 1)), (9, 0), (9, 0)] [] w 238 0 K else zif False (0 ≤ i ∧ i < 12) (zif False (0 ≤ i ∧ i < 12) (zwp 18 15 [(2, 36), (0, 0), (0, 1), (0, max s (z32 ((w 32 i.toNat) + (w 30 i.toNat)))), (0, z32 (i + 1)), (9, 0), (9, 0)] [] w 238 0 K))) else K (0, some (0, s)) w 238) → _ from fun h => show zwp 18 15 [(2, 36), (0, 0), (0, 1), (0, s), (0, i), d5, d6] [] w 238 0 K from zgo_imp zT120_ok (cut := fun pc => Nat.beq pc 15 || Nat.beq pc 17 || Nat.beq pc 36 || Nat.beq pc 52 || Nat.beq pc 64 || Nat.beq pc 75 || Nat.beq pc 93 || Nat.beq pc 110) 400 (show zwp 18 17 [(2, 36), (0, 0), (0, 1), (0, s), (0, i), (9, 0), (9, 0)] [(0, i)] w 238 0 K from (fun h => show zwp 18 17 [(2, 36), (0, 0), (0, 1), (0, s), (0, i), (9, 0), (9, 0)] [(0, i)] w 238 0 K from zgo_imp zT120_ok (cut := fun pc => Nat.beq pc 15 || Nat.beq pc 17 || Nat.beq pc 36 || Nat.beq pc 52 || Nat.beq pc 64 || Nat.beq pc 75 || Nat.beq pc 93 || Nat.beq pc 110) 400 (show if i < w 4 0 then zif False (0 ≤ i ∧ i < 12) (zwp 18 36 [(2, 36), (0, 0), (0, 1), (0, s), (0, i), (9, 0), (9, 0)] [(0, ((if w 33 i.toNat = 0 then 0 else 1) : Int))] w 238 0 K) else zwp 18 110 [(2, 36), (0, 0), (0, 1), (0, s), (0, i), (9, 0), (9, 0)] [(0, s)] w 238 0 K from zmI (fun h => zmZ (fun h => (fun h => show zwp 18 36 [(2, 36), (0, 0), (0, 1), (0, s), (0, i), (9, 0), (9, 0)] [(0, ((if w 33 i.toNat = 0 then 0 else 1) : Int))] w 238 0 K from zgo_imp zT120_ok (cut := fun pc => Nat.beq pc 15 || Nat.beq pc 17 || Nat.beq pc 36 || Nat.beq pc 52 || Nat.beq pc 64 || Nat.beq pc 75 || Nat.beq pc 93 || Nat.beq pc 110) 400 (show if ((if w 33 i.toNat = 0 then 0 else 1) : Int) = 0 then zwp 18 15 [(2, 36), (0, 0), (0, 1), (0, s), (0, z32 (i + 1)), (9, 0), (9, 0)] [] w 238 0 K else zif False (0 ≤ i ∧ i < 12) (zwp 18 64 [(2, 36), (0, 0), (0, 1), (0, s), (0, i), (9, 0), (9, 0)] [(0, w 32 i.toNat)] w 238 0 K) from zmI (fun h => h) (fun h => zmZ (fun h => (fun h => show zwp 18 64 [(2, 36), (0, 0), (0, 1), (0, s), (0, i), (9, 0), (9, 0)] [(0, w 32 i.toNat)] w 238 0 K from zgo_imp zT120_ok (cut := fun pc => Nat.beq pc 15 || Nat.beq pc 17 || Nat.beq pc 36 || Nat.beq pc 52 || Nat.beq pc 64 || Nat.beq pc 75 || Nat.beq pc 93 || Nat.beq pc 110) 400 (show zif False (0 ≤ i ∧ i < 12) (zwp 18 75 [(2, 36), (0, 0), (0, 1), (0, s), (0, i), (0, w 32 i.toNat), (9, 0)] [(0, w 30 i.toNat)] w 238 0 K) from zmZ (fun h => (fun h => show zwp 18 75 [(2, 36), (0, 0), (0, 1), (0, s), (0, i), (0, w 32 i.toNat), (9, 0)] [(0, w 30 i.toNat)] w 238 0 K from zgo_imp zT120_ok (cut := fun pc => Nat.beq pc 15 || Nat.beq pc 17 || Nat.beq pc 36 || Nat.beq pc 52 || Nat.beq pc 64 || Nat.beq pc 75 || Nat.beq pc 93 || Nat.beq pc 110) 400 (show zwp 18 15 [(2, 36), (0, 0), (0, 1), (0, max s (z32 ((w 32 i.toNat) + (w 30 i.toNat)))), (0, z32 (i + 1)), (9, 0), (9, 0)] [] w 238 0 K from h)) h) h)) h) h) h)) h) h) (fun h => (fun h => show zwp 18 110 [(2, 36), (0, 0), (0, 1), (0, s), (0, i), (9, 0), (9, 0)] [(0, s)] w 238 0 K from zgo_imp zT120_ok (cut := fun pc => Nat.beq pc 15 || Nat.beq pc 17 || Nat.beq pc 36 || Nat.beq pc 52 || Nat.beq pc 64 || Nat.beq pc 75 || Nat.beq pc 93 || Nat.beq pc 110) 400 (show K (0, some (0, s)) w 238 from h)) h) h)) h)) ?_
    have hn := hN.n
    refine ziF (by omega) (h s ⟨?_, fun c c0 c1 c2 => ?_⟩)
    · rcases h4 with ⟨c, c0, c1, c2, c3⟩ | ⟨_, g⟩
      · exact ⟨c, c0, by omega, c2, c3⟩
      · obtain ⟨c, c0, c1, c2⟩ := h5
        have := (hP.1.1 c c0 c1 c2).1
        exact (g c c0 (by omega) c2).elim
    · have := (hP.1.1 c c0 c1 c2).1
      exact h3 c c0 (by omega) c2
  | succ m ih =>
    intro i s d5 d6 h1 h2 h3 h4 h5 h
    refine (show (if i < w 4 0 then zif False (0 ≤ i ∧ i < 12) (if ((if w 33 i.toNat = 0 then 0 else 1) : Int) = 0 then zwp 18 15 [(2, 36), (0, 0), (0, 1), (0, s), (0, z32 (i + 1)), (9, 0), (9, 0)] [] w 238 0 K else zif False (0 ≤ i ∧ i < 12) (zif False (0 ≤ i ∧ i < 12) (zwp 18 15 [(2, 36), (0, 0), (0, 1), (0, max s (z32 ((w 32 i.toNat) + (w 30 i.toNat)))), (0, z32 (i + 1)), (9, 0), (9, 0)] [] w 238 0 K))) else K (0, some (0, s)) w 238) → _ from fun h => show zwp 18 15 [(2, 36), (0, 0), (0, 1), (0, s), (0, i), d5, d6] [] w 238 0 K from zgo_imp zT120_ok (cut := fun pc => Nat.beq pc 15 || Nat.beq pc 17 || Nat.beq pc 36 || Nat.beq pc 52 || Nat.beq pc 64 || Nat.beq pc 75 || Nat.beq pc 93 || Nat.beq pc 110) 400 (show zwp 18 17 [(2, 36), (0, 0), (0, 1), (0, s), (0, i), (9, 0), (9, 0)] [(0, i)] w 238 0 K from (fun h => show zwp 18 17 [(2, 36), (0, 0), (0, 1), (0, s), (0, i), (9, 0), (9, 0)] [(0, i)] w 238 0 K from zgo_imp zT120_ok (cut := fun pc => Nat.beq pc 15 || Nat.beq pc 17 || Nat.beq pc 36 || Nat.beq pc 52 || Nat.beq pc 64 || Nat.beq pc 75 || Nat.beq pc 93 || Nat.beq pc 110) 400 (show if i < w 4 0 then zif False (0 ≤ i ∧ i < 12) (zwp 18 36 [(2, 36), (0, 0), (0, 1), (0, s), (0, i), (9, 0), (9, 0)] [(0, ((if w 33 i.toNat = 0 then 0 else 1) : Int))] w 238 0 K) else zwp 18 110 [(2, 36), (0, 0), (0, 1), (0, s), (0, i), (9, 0), (9, 0)] [(0, s)] w 238 0 K from zmI (fun h => zmZ (fun h => (fun h => show zwp 18 36 [(2, 36), (0, 0), (0, 1), (0, s), (0, i), (9, 0), (9, 0)] [(0, ((if w 33 i.toNat = 0 then 0 else 1) : Int))] w 238 0 K from zgo_imp zT120_ok (cut := fun pc => Nat.beq pc 15 || Nat.beq pc 17 || Nat.beq pc 36 || Nat.beq pc 52 || Nat.beq pc 64 || Nat.beq pc 75 || Nat.beq pc 93 || Nat.beq pc 110) 400 (show if ((if w 33 i.toNat = 0 then 0 else 1) : Int) = 0 then zwp 18 15 [(2, 36), (0, 0), (0, 1), (0, s), (0, z32 (i + 1)), (9, 0), (9, 0)] [] w 238 0 K else zif False (0 ≤ i ∧ i < 12) (zwp 18 64 [(2, 36), (0, 0), (0, 1), (0, s), (0, i), (9, 0), (9, 0)] [(0, w 32 i.toNat)] w 238 0 K) from zmI (fun h => h) (fun h => zmZ (fun h => (fun h => show zwp 18 64 [(2, 36), (0, 0), (0, 1), (0, s), (0, i), (9, 0), (9, 0)] [(0, w 32 i.toNat)] w 238 0 K from zgo_imp zT120_ok (cut := fun pc => Nat.beq pc 15 || Nat.beq pc 17 || Nat.beq pc 36 || Nat.beq pc 52 || Nat.beq pc 64 || Nat.beq pc 75 || Nat.beq pc 93 || Nat.beq pc 110) 400 (show zif False (0 ≤ i ∧ i < 12) (zwp 18 75 [(2, 36), (0, 0), (0, 1), (0, s), (0, i), (0, w 32 i.toNat), (9, 0)] [(0, w 30 i.toNat)] w 238 0 K) from zmZ (fun h => (fun h => show zwp 18 75 [(2, 36), (0, 0), (0, 1), (0, s), (0, i), (0, w 32 i.toNat), (9, 0)] [(0, w 30 i.toNat)] w 238 0 K from zgo_imp zT120_ok (cut := fun pc => Nat.beq pc 15 || Nat.beq pc 17 || Nat.beq pc 36 || Nat.beq pc 52 || Nat.beq pc 64 || Nat.beq pc 75 || Nat.beq pc 93 || Nat.beq pc 110) 400 (show zwp 18 15 [(2, 36), (0, 0), (0, 1), (0, max s (z32 ((w 32 i.toNat) + (w 30 i.toNat)))), (0, z32 (i + 1)), (9, 0), (9, 0)] [] w 238 0 K from h)) h) h)) h) h) h)) h) h) (fun h => (fun h => show zwp 18 110 [(2, 36), (0, 0), (0, 1), (0, s), (0, i), (9, 0), (9, 0)] [(0, s)] w 238 0 K from zgo_imp zT120_ok (cut := fun pc => Nat.beq pc 15 || Nat.beq pc 17 || Nat.beq pc 36 || Nat.beq pc 52 || Nat.beq pc 64 || Nat.beq pc 75 || Nat.beq pc 93 || Nat.beq pc 110) 400 (show K (0, some (0, s)) w 238 from h)) h) h)) h)) ?_
    have hn := hN.n
    have hc := hP.2.2.1 i h1 (by omega)
    rw [z32_id (x := i + 1) ⟨by omega, by omega⟩]
    refine ziT (by omega) (zifI (by omega) ?_)
    by_cases q : w 33 i.toNat = 1
    · have pi := hP.1.1 i h1 (by omega) q
      have ri := hr i h1 (by omega)
      rw [z32_id (x := w 32 i.toNat + w 30 i.toNat) ⟨by omega, by omega⟩]
      refine ziF (by omega) (zifI (by omega) (zifI (by omega) (ih _ _ _ _ (by omega) (by omega) (fun c c0 c1 c2 => ?_) (Or.inl ?_) h5 h)))
      · by_cases e : c = i
        · subst e; omega
        · have := h3 c c0 (by omega) c2
          omega
      · by_cases g : w 32 i.toNat + w 30 i.toNat ≤ s
        · rcases h4 with ⟨c, c0, c1, c2, c3⟩ | ⟨g1, g2⟩
          · exact ⟨c, c0, by omega, c2, by omega⟩
          · exact ⟨i, h1, by omega, q, by omega⟩
        · exact ⟨i, h1, by omega, q, by omega⟩
    · refine ziT (by omega) (ih _ _ _ _ (by omega) (by omega) (fun c c0 c1 c2 => ?_) ?_ h5 h)
      · by_cases e : c = i
        · subst e; exact (q c2).elim
        · exact h3 c c0 (by omega) c2
      · rcases h4 with ⟨c, c0, c1, c2, c3⟩ | ⟨g1, g2⟩
        · exact Or.inl ⟨c, c0, by omega, c2, c3⟩
        · refine Or.inr ⟨g1, fun c c0 c1 c2 => ?_⟩
          by_cases e : c = i
          · subst e; exact q c2
          · exact g2 c c0 (by omega) c2
set_option maxRecDepth 100000 in
theorem zk18_L15_10 {w : zW} {K : zK} (hN : zNt w) (hP : zPC w) (hr : zRd 30 w)  : ∀ (m : Nat) (i s : Int) (d5 d6 : zV), (0 ≤ i) → (i + m = w 95 0) → (∀ c : Int, 0 ≤ c → c < i → w 33 c.toNat = 1 → s ≤ w 31 c.toNat - w 30 c.toNat) → ((∃ c : Int, 0 ≤ c ∧ c < i ∧ w 33 c.toNat = 1 ∧ w 31 c.toNat - w 30 c.toNat = s) ∨ (s = 2147483647 ∧ ∀ c : Int, 0 ≤ c → c < i → ¬ w 33 c.toNat = 1)) → (∃ c : Int, 0 ≤ c ∧ c < 12 ∧ w 33 c.toNat = 1) → (∀ v, zMnP (fun c => w 33 c.toNat = 1) (fun c => w 31 c.toNat - w 30 c.toNat) v → K (0, some (0, v)) w 238) → zwp 18 15 [(2, 36), (0, 1), (0, 0), (0, s), (0, i), d5, d6] [] w 238 0 K := by
  
  intro m
  induction m with
  | zero =>
    intro i s d5 d6 h1 h2 h3 h4 h5 h
    refine (show (if i < w 4 0 then zif False (0 ≤ i ∧ i < 12) (if ((if w 33 i.toNat = 0 then 0 else 1) : Int) = 0 then zwp 18 15 [(2, 36), (0, 1), (0, 0), (0, s), (0, z32 (i + 1)), (9, 0), (9, 0)] [] w 238 0 K else zif False (0 ≤ i ∧ i < 12) (zif False (0 ≤ i ∧ i < 12) (zwp 18 15 [(2, 36), (0, 1), (0, 0), (0, min s (z32 ((w 31 i.toNat) - (w 30 i.toNat)))), (0, z32 (i + 1)), (9, 0), (9, 0)] [] w 238 0 K))) else K (0, some (0, s)) w 238) → _ from fun h => show zwp 18 15 [(2, 36), (0, 1), (0, 0), (0, s), (0, i), d5, d6] [] w 238 0 K from zgo_imp zT120_ok (cut := fun pc => Nat.beq pc 15 || Nat.beq pc 17 || Nat.beq pc 36 || Nat.beq pc 52 || Nat.beq pc 64 || Nat.beq pc 75 || Nat.beq pc 93 || Nat.beq pc 110) 400 (show zwp 18 17 [(2, 36), (0, 1), (0, 0), (0, s), (0, i), (9, 0), (9, 0)] [(0, i)] w 238 0 K from (fun h => show zwp 18 17 [(2, 36), (0, 1), (0, 0), (0, s), (0, i), (9, 0), (9, 0)] [(0, i)] w 238 0 K from zgo_imp zT120_ok (cut := fun pc => Nat.beq pc 15 || Nat.beq pc 17 || Nat.beq pc 36 || Nat.beq pc 52 || Nat.beq pc 64 || Nat.beq pc 75 || Nat.beq pc 93 || Nat.beq pc 110) 400 (show if i < w 4 0 then zif False (0 ≤ i ∧ i < 12) (zwp 18 36 [(2, 36), (0, 1), (0, 0), (0, s), (0, i), (9, 0), (9, 0)] [(0, ((if w 33 i.toNat = 0 then 0 else 1) : Int))] w 238 0 K) else zwp 18 110 [(2, 36), (0, 1), (0, 0), (0, s), (0, i), (9, 0), (9, 0)] [(0, s)] w 238 0 K from zmI (fun h => zmZ (fun h => (fun h => show zwp 18 36 [(2, 36), (0, 1), (0, 0), (0, s), (0, i), (9, 0), (9, 0)] [(0, ((if w 33 i.toNat = 0 then 0 else 1) : Int))] w 238 0 K from zgo_imp zT120_ok (cut := fun pc => Nat.beq pc 15 || Nat.beq pc 17 || Nat.beq pc 36 || Nat.beq pc 52 || Nat.beq pc 64 || Nat.beq pc 75 || Nat.beq pc 93 || Nat.beq pc 110) 400 (show if ((if w 33 i.toNat = 0 then 0 else 1) : Int) = 0 then zwp 18 15 [(2, 36), (0, 1), (0, 0), (0, s), (0, z32 (i + 1)), (9, 0), (9, 0)] [] w 238 0 K else zif False (0 ≤ i ∧ i < 12) (zwp 18 52 [(2, 36), (0, 1), (0, 0), (0, s), (0, i), (9, 0), (9, 0)] [(0, w 31 i.toNat)] w 238 0 K) from zmI (fun h => h) (fun h => zmZ (fun h => (fun h => show zwp 18 52 [(2, 36), (0, 1), (0, 0), (0, s), (0, i), (9, 0), (9, 0)] [(0, w 31 i.toNat)] w 238 0 K from zgo_imp zT120_ok (cut := fun pc => Nat.beq pc 15 || Nat.beq pc 17 || Nat.beq pc 36 || Nat.beq pc 52 || Nat.beq pc 64 || Nat.beq pc 75 || Nat.beq pc 93 || Nat.beq pc 110) 400 (show zwp 18 64 [(2, 36), (0, 1), (0, 0), (0, s), (0, i), (9, 0), (9, 0)] [(0, w 31 i.toNat)] w 238 0 K from (fun h => show zwp 18 64 [(2, 36), (0, 1), (0, 0), (0, s), (0, i), (9, 0), (9, 0)] [(0, w 31 i.toNat)] w 238 0 K from zgo_imp zT120_ok (cut := fun pc => Nat.beq pc 15 || Nat.beq pc 17 || Nat.beq pc 36 || Nat.beq pc 52 || Nat.beq pc 64 || Nat.beq pc 75 || Nat.beq pc 93 || Nat.beq pc 110) 400 (show zif False (0 ≤ i ∧ i < 12) (zwp 18 75 [(2, 36), (0, 1), (0, 0), (0, s), (0, i), (0, w 31 i.toNat), (9, 0)] [(0, w 30 i.toNat)] w 238 0 K) from zmZ (fun h => (fun h => show zwp 18 75 [(2, 36), (0, 1), (0, 0), (0, s), (0, i), (0, w 31 i.toNat), (9, 0)] [(0, w 30 i.toNat)] w 238 0 K from zgo_imp zT120_ok (cut := fun pc => Nat.beq pc 15 || Nat.beq pc 17 || Nat.beq pc 36 || Nat.beq pc 52 || Nat.beq pc 64 || Nat.beq pc 75 || Nat.beq pc 93 || Nat.beq pc 110) 400 (show zwp 18 93 [(2, 36), (0, 1), (0, 0), (0, s), (0, i), (0, w 31 i.toNat), (0, w 30 i.toNat)] [] w 238 0 K from (fun h => show zwp 18 93 [(2, 36), (0, 1), (0, 0), (0, s), (0, i), (0, w 31 i.toNat), (0, w 30 i.toNat)] [] w 238 0 K from zgo_imp zT120_ok (cut := fun pc => Nat.beq pc 15 || Nat.beq pc 17 || Nat.beq pc 36 || Nat.beq pc 52 || Nat.beq pc 64 || Nat.beq pc 75 || Nat.beq pc 93 || Nat.beq pc 110) 400 (show zwp 18 15 [(2, 36), (0, 1), (0, 0), (0, min s (z32 ((w 31 i.toNat) - (w 30 i.toNat)))), (0, z32 (i + 1)), (9, 0), (9, 0)] [] w 238 0 K from h)) h)) h) h)) h)) h) h) h)) h) h) (fun h => (fun h => show zwp 18 110 [(2, 36), (0, 1), (0, 0), (0, s), (0, i), (9, 0), (9, 0)] [(0, s)] w 238 0 K from zgo_imp zT120_ok (cut := fun pc => Nat.beq pc 15 || Nat.beq pc 17 || Nat.beq pc 36 || Nat.beq pc 52 || Nat.beq pc 64 || Nat.beq pc 75 || Nat.beq pc 93 || Nat.beq pc 110) 400 (show K (0, some (0, s)) w 238 from h)) h) h)) h)) ?_
    have hn := hN.n
    refine ziF (by omega) (h s ⟨?_, fun c c0 c1 c2 => ?_⟩)
    · rcases h4 with ⟨c, c0, c1, c2, c3⟩ | ⟨_, g⟩
      · exact ⟨c, c0, by omega, c2, c3⟩
      · obtain ⟨c, c0, c1, c2⟩ := h5
        have := (hP.1.1 c c0 c1 c2).1
        exact (g c c0 (by omega) c2).elim
    · have := (hP.1.1 c c0 c1 c2).1
      exact h3 c c0 (by omega) c2
  | succ m ih =>
    intro i s d5 d6 h1 h2 h3 h4 h5 h
    refine (show (if i < w 4 0 then zif False (0 ≤ i ∧ i < 12) (if ((if w 33 i.toNat = 0 then 0 else 1) : Int) = 0 then zwp 18 15 [(2, 36), (0, 1), (0, 0), (0, s), (0, z32 (i + 1)), (9, 0), (9, 0)] [] w 238 0 K else zif False (0 ≤ i ∧ i < 12) (zif False (0 ≤ i ∧ i < 12) (zwp 18 15 [(2, 36), (0, 1), (0, 0), (0, min s (z32 ((w 31 i.toNat) - (w 30 i.toNat)))), (0, z32 (i + 1)), (9, 0), (9, 0)] [] w 238 0 K))) else K (0, some (0, s)) w 238) → _ from fun h => show zwp 18 15 [(2, 36), (0, 1), (0, 0), (0, s), (0, i), d5, d6] [] w 238 0 K from zgo_imp zT120_ok (cut := fun pc => Nat.beq pc 15 || Nat.beq pc 17 || Nat.beq pc 36 || Nat.beq pc 52 || Nat.beq pc 64 || Nat.beq pc 75 || Nat.beq pc 93 || Nat.beq pc 110) 400 (show zwp 18 17 [(2, 36), (0, 1), (0, 0), (0, s), (0, i), (9, 0), (9, 0)] [(0, i)] w 238 0 K from (fun h => show zwp 18 17 [(2, 36), (0, 1), (0, 0), (0, s), (0, i), (9, 0), (9, 0)] [(0, i)] w 238 0 K from zgo_imp zT120_ok (cut := fun pc => Nat.beq pc 15 || Nat.beq pc 17 || Nat.beq pc 36 || Nat.beq pc 52 || Nat.beq pc 64 || Nat.beq pc 75 || Nat.beq pc 93 || Nat.beq pc 110) 400 (show if i < w 4 0 then zif False (0 ≤ i ∧ i < 12) (zwp 18 36 [(2, 36), (0, 1), (0, 0), (0, s), (0, i), (9, 0), (9, 0)] [(0, ((if w 33 i.toNat = 0 then 0 else 1) : Int))] w 238 0 K) else zwp 18 110 [(2, 36), (0, 1), (0, 0), (0, s), (0, i), (9, 0), (9, 0)] [(0, s)] w 238 0 K from zmI (fun h => zmZ (fun h => (fun h => show zwp 18 36 [(2, 36), (0, 1), (0, 0), (0, s), (0, i), (9, 0), (9, 0)] [(0, ((if w 33 i.toNat = 0 then 0 else 1) : Int))] w 238 0 K from zgo_imp zT120_ok (cut := fun pc => Nat.beq pc 15 || Nat.beq pc 17 || Nat.beq pc 36 || Nat.beq pc 52 || Nat.beq pc 64 || Nat.beq pc 75 || Nat.beq pc 93 || Nat.beq pc 110) 400 (show if ((if w 33 i.toNat = 0 then 0 else 1) : Int) = 0 then zwp 18 15 [(2, 36), (0, 1), (0, 0), (0, s), (0, z32 (i + 1)), (9, 0), (9, 0)] [] w 238 0 K else zif False (0 ≤ i ∧ i < 12) (zwp 18 52 [(2, 36), (0, 1), (0, 0), (0, s), (0, i), (9, 0), (9, 0)] [(0, w 31 i.toNat)] w 238 0 K) from zmI (fun h => h) (fun h => zmZ (fun h => (fun h => show zwp 18 52 [(2, 36), (0, 1), (0, 0), (0, s), (0, i), (9, 0), (9, 0)] [(0, w 31 i.toNat)] w 238 0 K from zgo_imp zT120_ok (cut := fun pc => Nat.beq pc 15 || Nat.beq pc 17 || Nat.beq pc 36 || Nat.beq pc 52 || Nat.beq pc 64 || Nat.beq pc 75 || Nat.beq pc 93 || Nat.beq pc 110) 400 (show zwp 18 64 [(2, 36), (0, 1), (0, 0), (0, s), (0, i), (9, 0), (9, 0)] [(0, w 31 i.toNat)] w 238 0 K from (fun h => show zwp 18 64 [(2, 36), (0, 1), (0, 0), (0, s), (0, i), (9, 0), (9, 0)] [(0, w 31 i.toNat)] w 238 0 K from zgo_imp zT120_ok (cut := fun pc => Nat.beq pc 15 || Nat.beq pc 17 || Nat.beq pc 36 || Nat.beq pc 52 || Nat.beq pc 64 || Nat.beq pc 75 || Nat.beq pc 93 || Nat.beq pc 110) 400 (show zif False (0 ≤ i ∧ i < 12) (zwp 18 75 [(2, 36), (0, 1), (0, 0), (0, s), (0, i), (0, w 31 i.toNat), (9, 0)] [(0, w 30 i.toNat)] w 238 0 K) from zmZ (fun h => (fun h => show zwp 18 75 [(2, 36), (0, 1), (0, 0), (0, s), (0, i), (0, w 31 i.toNat), (9, 0)] [(0, w 30 i.toNat)] w 238 0 K from zgo_imp zT120_ok (cut := fun pc => Nat.beq pc 15 || Nat.beq pc 17 || Nat.beq pc 36 || Nat.beq pc 52 || Nat.beq pc 64 || Nat.beq pc 75 || Nat.beq pc 93 || Nat.beq pc 110) 400 (show zwp 18 93 [(2, 36), (0, 1), (0, 0), (0, s), (0, i), (0, w 31 i.toNat), (0, w 30 i.toNat)] [] w 238 0 K from (fun h => show zwp 18 93 [(2, 36), (0, 1), (0, 0), (0, s), (0, i), (0, w 31 i.toNat), (0, w 30 i.toNat)] [] w 238 0 K from zgo_imp zT120_ok (cut := fun pc => Nat.beq pc 15 || Nat.beq pc 17 || Nat.beq pc 36 || Nat.beq pc 52 || Nat.beq pc 64 || Nat.beq pc 75 || Nat.beq pc 93 || Nat.beq pc 110) 400 (show zwp 18 15 [(2, 36), (0, 1), (0, 0), (0, min s (z32 ((w 31 i.toNat) - (w 30 i.toNat)))), (0, z32 (i + 1)), (9, 0), (9, 0)] [] w 238 0 K from h)) h)) h) h)) h)) h) h) h)) h) h) (fun h => (fun h => show zwp 18 110 [(2, 36), (0, 1), (0, 0), (0, s), (0, i), (9, 0), (9, 0)] [(0, s)] w 238 0 K from zgo_imp zT120_ok (cut := fun pc => Nat.beq pc 15 || Nat.beq pc 17 || Nat.beq pc 36 || Nat.beq pc 52 || Nat.beq pc 64 || Nat.beq pc 75 || Nat.beq pc 93 || Nat.beq pc 110) 400 (show K (0, some (0, s)) w 238 from h)) h) h)) h)) ?_
    have hn := hN.n
    have hc := hP.2.2.1 i h1 (by omega)
    rw [z32_id (x := i + 1) ⟨by omega, by omega⟩]
    refine ziT (by omega) (zifI (by omega) ?_)
    by_cases q : w 33 i.toNat = 1
    · have pi := hP.1.1 i h1 (by omega) q
      have ri := hr i h1 (by omega)
      rw [z32_id (x := w 31 i.toNat - w 30 i.toNat) ⟨by omega, by omega⟩]
      refine ziF (by omega) (zifI (by omega) (zifI (by omega) (ih _ _ _ _ (by omega) (by omega) (fun c c0 c1 c2 => ?_) (Or.inl ?_) h5 h)))
      · by_cases e : c = i
        · subst e; omega
        · have := h3 c c0 (by omega) c2
          omega
      · by_cases g : s ≤ w 31 i.toNat - w 30 i.toNat
        · rcases h4 with ⟨c, c0, c1, c2, c3⟩ | ⟨g1, g2⟩
          · exact ⟨c, c0, by omega, c2, by omega⟩
          · exact ⟨i, h1, by omega, q, by omega⟩
        · exact ⟨i, h1, by omega, q, by omega⟩
    · refine ziT (by omega) (ih _ _ _ _ (by omega) (by omega) (fun c c0 c1 c2 => ?_) ?_ h5 h)
      · by_cases e : c = i
        · subst e; exact (q c2).elim
        · exact h3 c c0 (by omega) c2
      · rcases h4 with ⟨c, c0, c1, c2, c3⟩ | ⟨g1, g2⟩
        · exact Or.inl ⟨c, c0, by omega, c2, c3⟩
        · refine Or.inr ⟨g1, fun c c0 c1 c2 => ?_⟩
          by_cases e : c = i
          · subst e; exact q c2
          · exact g2 c c0 (by omega) c2
set_option maxRecDepth 100000 in
theorem zk18_L15_11 {w : zW} {K : zK} (hN : zNt w) (hP : zPC w) (hr : zRd 30 w)  : ∀ (m : Nat) (i s : Int) (d5 d6 : zV), (0 ≤ i) → (i + m = w 95 0) → (∀ c : Int, 0 ≤ c → c < i → w 33 c.toNat = 1 → w 31 c.toNat + w 30 c.toNat ≤ s) → ((∃ c : Int, 0 ≤ c ∧ c < i ∧ w 33 c.toNat = 1 ∧ w 31 c.toNat + w 30 c.toNat = s) ∨ (s = -2147483648 ∧ ∀ c : Int, 0 ≤ c → c < i → ¬ w 33 c.toNat = 1)) → (∃ c : Int, 0 ≤ c ∧ c < 12 ∧ w 33 c.toNat = 1) → (∀ v, zMxP (fun c => w 33 c.toNat = 1) (fun c => w 31 c.toNat + w 30 c.toNat) v → K (0, some (0, v)) w 238) → zwp 18 15 [(2, 36), (0, 1), (0, 1), (0, s), (0, i), d5, d6] [] w 238 0 K := by
  
  intro m
  induction m with
  | zero =>
    intro i s d5 d6 h1 h2 h3 h4 h5 h
    refine (show (if i < w 4 0 then zif False (0 ≤ i ∧ i < 12) (if ((if w 33 i.toNat = 0 then 0 else 1) : Int) = 0 then zwp 18 15 [(2, 36), (0, 1), (0, 1), (0, s), (0, z32 (i + 1)), (9, 0), (9, 0)] [] w 238 0 K else zif False (0 ≤ i ∧ i < 12) (zif False (0 ≤ i ∧ i < 12) (zwp 18 15 [(2, 36), (0, 1), (0, 1), (0, max s (z32 ((w 31 i.toNat) + (w 30 i.toNat)))), (0, z32 (i + 1)), (9, 0), (9, 0)] [] w 238 0 K))) else K (0, some (0, s)) w 238) → _ from fun h => show zwp 18 15 [(2, 36), (0, 1), (0, 1), (0, s), (0, i), d5, d6] [] w 238 0 K from zgo_imp zT120_ok (cut := fun pc => Nat.beq pc 15 || Nat.beq pc 17 || Nat.beq pc 36 || Nat.beq pc 52 || Nat.beq pc 64 || Nat.beq pc 75 || Nat.beq pc 93 || Nat.beq pc 110) 400 (show zwp 18 17 [(2, 36), (0, 1), (0, 1), (0, s), (0, i), (9, 0), (9, 0)] [(0, i)] w 238 0 K from (fun h => show zwp 18 17 [(2, 36), (0, 1), (0, 1), (0, s), (0, i), (9, 0), (9, 0)] [(0, i)] w 238 0 K from zgo_imp zT120_ok (cut := fun pc => Nat.beq pc 15 || Nat.beq pc 17 || Nat.beq pc 36 || Nat.beq pc 52 || Nat.beq pc 64 || Nat.beq pc 75 || Nat.beq pc 93 || Nat.beq pc 110) 400 (show if i < w 4 0 then zif False (0 ≤ i ∧ i < 12) (zwp 18 36 [(2, 36), (0, 1), (0, 1), (0, s), (0, i), (9, 0), (9, 0)] [(0, ((if w 33 i.toNat = 0 then 0 else 1) : Int))] w 238 0 K) else zwp 18 110 [(2, 36), (0, 1), (0, 1), (0, s), (0, i), (9, 0), (9, 0)] [(0, s)] w 238 0 K from zmI (fun h => zmZ (fun h => (fun h => show zwp 18 36 [(2, 36), (0, 1), (0, 1), (0, s), (0, i), (9, 0), (9, 0)] [(0, ((if w 33 i.toNat = 0 then 0 else 1) : Int))] w 238 0 K from zgo_imp zT120_ok (cut := fun pc => Nat.beq pc 15 || Nat.beq pc 17 || Nat.beq pc 36 || Nat.beq pc 52 || Nat.beq pc 64 || Nat.beq pc 75 || Nat.beq pc 93 || Nat.beq pc 110) 400 (show if ((if w 33 i.toNat = 0 then 0 else 1) : Int) = 0 then zwp 18 15 [(2, 36), (0, 1), (0, 1), (0, s), (0, z32 (i + 1)), (9, 0), (9, 0)] [] w 238 0 K else zif False (0 ≤ i ∧ i < 12) (zwp 18 52 [(2, 36), (0, 1), (0, 1), (0, s), (0, i), (9, 0), (9, 0)] [(0, w 31 i.toNat)] w 238 0 K) from zmI (fun h => h) (fun h => zmZ (fun h => (fun h => show zwp 18 52 [(2, 36), (0, 1), (0, 1), (0, s), (0, i), (9, 0), (9, 0)] [(0, w 31 i.toNat)] w 238 0 K from zgo_imp zT120_ok (cut := fun pc => Nat.beq pc 15 || Nat.beq pc 17 || Nat.beq pc 36 || Nat.beq pc 52 || Nat.beq pc 64 || Nat.beq pc 75 || Nat.beq pc 93 || Nat.beq pc 110) 400 (show zwp 18 64 [(2, 36), (0, 1), (0, 1), (0, s), (0, i), (9, 0), (9, 0)] [(0, w 31 i.toNat)] w 238 0 K from (fun h => show zwp 18 64 [(2, 36), (0, 1), (0, 1), (0, s), (0, i), (9, 0), (9, 0)] [(0, w 31 i.toNat)] w 238 0 K from zgo_imp zT120_ok (cut := fun pc => Nat.beq pc 15 || Nat.beq pc 17 || Nat.beq pc 36 || Nat.beq pc 52 || Nat.beq pc 64 || Nat.beq pc 75 || Nat.beq pc 93 || Nat.beq pc 110) 400 (show zif False (0 ≤ i ∧ i < 12) (zwp 18 75 [(2, 36), (0, 1), (0, 1), (0, s), (0, i), (0, w 31 i.toNat), (9, 0)] [(0, w 30 i.toNat)] w 238 0 K) from zmZ (fun h => (fun h => show zwp 18 75 [(2, 36), (0, 1), (0, 1), (0, s), (0, i), (0, w 31 i.toNat), (9, 0)] [(0, w 30 i.toNat)] w 238 0 K from zgo_imp zT120_ok (cut := fun pc => Nat.beq pc 15 || Nat.beq pc 17 || Nat.beq pc 36 || Nat.beq pc 52 || Nat.beq pc 64 || Nat.beq pc 75 || Nat.beq pc 93 || Nat.beq pc 110) 400 (show zwp 18 15 [(2, 36), (0, 1), (0, 1), (0, max s (z32 ((w 31 i.toNat) + (w 30 i.toNat)))), (0, z32 (i + 1)), (9, 0), (9, 0)] [] w 238 0 K from h)) h) h)) h)) h) h) h)) h) h) (fun h => (fun h => show zwp 18 110 [(2, 36), (0, 1), (0, 1), (0, s), (0, i), (9, 0), (9, 0)] [(0, s)] w 238 0 K from zgo_imp zT120_ok (cut := fun pc => Nat.beq pc 15 || Nat.beq pc 17 || Nat.beq pc 36 || Nat.beq pc 52 || Nat.beq pc 64 || Nat.beq pc 75 || Nat.beq pc 93 || Nat.beq pc 110) 400 (show K (0, some (0, s)) w 238 from h)) h) h)) h)) ?_
    have hn := hN.n
    refine ziF (by omega) (h s ⟨?_, fun c c0 c1 c2 => ?_⟩)
    · rcases h4 with ⟨c, c0, c1, c2, c3⟩ | ⟨_, g⟩
      · exact ⟨c, c0, by omega, c2, c3⟩
      · obtain ⟨c, c0, c1, c2⟩ := h5
        have := (hP.1.1 c c0 c1 c2).1
        exact (g c c0 (by omega) c2).elim
    · have := (hP.1.1 c c0 c1 c2).1
      exact h3 c c0 (by omega) c2
  | succ m ih =>
    intro i s d5 d6 h1 h2 h3 h4 h5 h
    refine (show (if i < w 4 0 then zif False (0 ≤ i ∧ i < 12) (if ((if w 33 i.toNat = 0 then 0 else 1) : Int) = 0 then zwp 18 15 [(2, 36), (0, 1), (0, 1), (0, s), (0, z32 (i + 1)), (9, 0), (9, 0)] [] w 238 0 K else zif False (0 ≤ i ∧ i < 12) (zif False (0 ≤ i ∧ i < 12) (zwp 18 15 [(2, 36), (0, 1), (0, 1), (0, max s (z32 ((w 31 i.toNat) + (w 30 i.toNat)))), (0, z32 (i + 1)), (9, 0), (9, 0)] [] w 238 0 K))) else K (0, some (0, s)) w 238) → _ from fun h => show zwp 18 15 [(2, 36), (0, 1), (0, 1), (0, s), (0, i), d5, d6] [] w 238 0 K from zgo_imp zT120_ok (cut := fun pc => Nat.beq pc 15 || Nat.beq pc 17 || Nat.beq pc 36 || Nat.beq pc 52 || Nat.beq pc 64 || Nat.beq pc 75 || Nat.beq pc 93 || Nat.beq pc 110) 400 (show zwp 18 17 [(2, 36), (0, 1), (0, 1), (0, s), (0, i), (9, 0), (9, 0)] [(0, i)] w 238 0 K from (fun h => show zwp 18 17 [(2, 36), (0, 1), (0, 1), (0, s), (0, i), (9, 0), (9, 0)] [(0, i)] w 238 0 K from zgo_imp zT120_ok (cut := fun pc => Nat.beq pc 15 || Nat.beq pc 17 || Nat.beq pc 36 || Nat.beq pc 52 || Nat.beq pc 64 || Nat.beq pc 75 || Nat.beq pc 93 || Nat.beq pc 110) 400 (show if i < w 4 0 then zif False (0 ≤ i ∧ i < 12) (zwp 18 36 [(2, 36), (0, 1), (0, 1), (0, s), (0, i), (9, 0), (9, 0)] [(0, ((if w 33 i.toNat = 0 then 0 else 1) : Int))] w 238 0 K) else zwp 18 110 [(2, 36), (0, 1), (0, 1), (0, s), (0, i), (9, 0), (9, 0)] [(0, s)] w 238 0 K from zmI (fun h => zmZ (fun h => (fun h => show zwp 18 36 [(2, 36), (0, 1), (0, 1), (0, s), (0, i), (9, 0), (9, 0)] [(0, ((if w 33 i.toNat = 0 then 0 else 1) : Int))] w 238 0 K from zgo_imp zT120_ok (cut := fun pc => Nat.beq pc 15 || Nat.beq pc 17 || Nat.beq pc 36 || Nat.beq pc 52 || Nat.beq pc 64 || Nat.beq pc 75 || Nat.beq pc 93 || Nat.beq pc 110) 400 (show if ((if w 33 i.toNat = 0 then 0 else 1) : Int) = 0 then zwp 18 15 [(2, 36), (0, 1), (0, 1), (0, s), (0, z32 (i + 1)), (9, 0), (9, 0)] [] w 238 0 K else zif False (0 ≤ i ∧ i < 12) (zwp 18 52 [(2, 36), (0, 1), (0, 1), (0, s), (0, i), (9, 0), (9, 0)] [(0, w 31 i.toNat)] w 238 0 K) from zmI (fun h => h) (fun h => zmZ (fun h => (fun h => show zwp 18 52 [(2, 36), (0, 1), (0, 1), (0, s), (0, i), (9, 0), (9, 0)] [(0, w 31 i.toNat)] w 238 0 K from zgo_imp zT120_ok (cut := fun pc => Nat.beq pc 15 || Nat.beq pc 17 || Nat.beq pc 36 || Nat.beq pc 52 || Nat.beq pc 64 || Nat.beq pc 75 || Nat.beq pc 93 || Nat.beq pc 110) 400 (show zwp 18 64 [(2, 36), (0, 1), (0, 1), (0, s), (0, i), (9, 0), (9, 0)] [(0, w 31 i.toNat)] w 238 0 K from (fun h => show zwp 18 64 [(2, 36), (0, 1), (0, 1), (0, s), (0, i), (9, 0), (9, 0)] [(0, w 31 i.toNat)] w 238 0 K from zgo_imp zT120_ok (cut := fun pc => Nat.beq pc 15 || Nat.beq pc 17 || Nat.beq pc 36 || Nat.beq pc 52 || Nat.beq pc 64 || Nat.beq pc 75 || Nat.beq pc 93 || Nat.beq pc 110) 400 (show zif False (0 ≤ i ∧ i < 12) (zwp 18 75 [(2, 36), (0, 1), (0, 1), (0, s), (0, i), (0, w 31 i.toNat), (9, 0)] [(0, w 30 i.toNat)] w 238 0 K) from zmZ (fun h => (fun h => show zwp 18 75 [(2, 36), (0, 1), (0, 1), (0, s), (0, i), (0, w 31 i.toNat), (9, 0)] [(0, w 30 i.toNat)] w 238 0 K from zgo_imp zT120_ok (cut := fun pc => Nat.beq pc 15 || Nat.beq pc 17 || Nat.beq pc 36 || Nat.beq pc 52 || Nat.beq pc 64 || Nat.beq pc 75 || Nat.beq pc 93 || Nat.beq pc 110) 400 (show zwp 18 15 [(2, 36), (0, 1), (0, 1), (0, max s (z32 ((w 31 i.toNat) + (w 30 i.toNat)))), (0, z32 (i + 1)), (9, 0), (9, 0)] [] w 238 0 K from h)) h) h)) h)) h) h) h)) h) h) (fun h => (fun h => show zwp 18 110 [(2, 36), (0, 1), (0, 1), (0, s), (0, i), (9, 0), (9, 0)] [(0, s)] w 238 0 K from zgo_imp zT120_ok (cut := fun pc => Nat.beq pc 15 || Nat.beq pc 17 || Nat.beq pc 36 || Nat.beq pc 52 || Nat.beq pc 64 || Nat.beq pc 75 || Nat.beq pc 93 || Nat.beq pc 110) 400 (show K (0, some (0, s)) w 238 from h)) h) h)) h)) ?_
    have hn := hN.n
    have hc := hP.2.2.1 i h1 (by omega)
    rw [z32_id (x := i + 1) ⟨by omega, by omega⟩]
    refine ziT (by omega) (zifI (by omega) ?_)
    by_cases q : w 33 i.toNat = 1
    · have pi := hP.1.1 i h1 (by omega) q
      have ri := hr i h1 (by omega)
      rw [z32_id (x := w 31 i.toNat + w 30 i.toNat) ⟨by omega, by omega⟩]
      refine ziF (by omega) (zifI (by omega) (zifI (by omega) (ih _ _ _ _ (by omega) (by omega) (fun c c0 c1 c2 => ?_) (Or.inl ?_) h5 h)))
      · by_cases e : c = i
        · subst e; omega
        · have := h3 c c0 (by omega) c2
          omega
      · by_cases g : w 31 i.toNat + w 30 i.toNat ≤ s
        · rcases h4 with ⟨c, c0, c1, c2, c3⟩ | ⟨g1, g2⟩
          · exact ⟨c, c0, by omega, c2, by omega⟩
          · exact ⟨i, h1, by omega, q, by omega⟩
        · exact ⟨i, h1, by omega, q, by omega⟩
    · refine ziT (by omega) (ih _ _ _ _ (by omega) (by omega) (fun c c0 c1 c2 => ?_) ?_ h5 h)
      · by_cases e : c = i
        · subst e; exact (q c2).elim
        · exact h3 c c0 (by omega) c2
      · rcases h4 with ⟨c, c0, c1, c2, c3⟩ | ⟨g1, g2⟩
        · exact Or.inl ⟨c, c0, by omega, c2, c3⟩
        · refine Or.inr ⟨g1, fun c c0 c1 c2 => ?_⟩
          by_cases e : c = i
          · subst e; exact q c2
          · exact g2 c c0 (by omega) c2
/-! $Layout.boxSide -/
set_option maxRecDepth 100000 in
theorem zk18_36 (p q : Int) (w : zW) (K : zK) (h : (zNt w ∧ zPC w ∧ zRd 30 w ∧ (∃ c : Int, 0 ≤ c ∧ c < 12 ∧ w 33 c.toNat = 1) ∧ (p = 0 ∨ p = 1) ∧ (q = 0 ∨ q = 1)) ∧ (K (0, some (0, (if q = 1 then zMx (fun c => w 33 c.toNat = 1) (fun c => (if p = 1 then w 31 c.toNat else w 32 c.toNat) + w 30 c.toNat) else zMn (fun c => w 33 c.toNat = 1) (fun c => (if p = 1 then w 31 c.toNat else w 32 c.toNat) - w 30 c.toNat)))) (w) 238)) : zcall 18 [(2, 36), (0, p), (0, q), (9, 0), (9, 0), (9, 0), (9, 0)] w 238 K := by
  obtain ⟨hg, h⟩ := h
  refine (show (if q = 0 then zwp 18 15 [(2, 36), (0, p), (0, q), (0, 2147483647), (0, 0), (9, 0), (9, 0)] [] w 238 0 K else zwp 18 15 [(2, 36), (0, p), (0, q), (0, (-2147483648)), (0, 0), (9, 0), (9, 0)] [] w 238 0 K) → _ from fun h => show zwp 18 0 [(2, 36), (0, p), (0, q), (9, 0), (9, 0), (9, 0), (9, 0)] [] w 238 0 K from zgo_imp zT120_ok (cut := fun pc => Nat.beq pc 15 || Nat.beq pc 17 || Nat.beq pc 36 || Nat.beq pc 52 || Nat.beq pc 64 || Nat.beq pc 75 || Nat.beq pc 93 || Nat.beq pc 110) 400 (show if q = 0 then zwp 18 15 [(2, 36), (0, p), (0, q), (0, 2147483647), (0, 0), (9, 0), (9, 0)] [] w 238 0 K else zwp 18 15 [(2, 36), (0, p), (0, q), (0, (-2147483648)), (0, 0), (9, 0), (9, 0)] [] w 238 0 K from h)) ?_
  obtain ⟨hN, hP, hr, hx, hp, hq⟩ := hg
  have hn := hN.n
  rcases hp with e | e <;> subst e <;> rcases hq with e | e <;> subst e
  · refine ziT rfl (zk18_L15_00 hN hP hr (w 95 0).toNat 0 2147483647 _ _ (by omega) (by omega) (fun c c0 c1 _ => by omega) (Or.inr ⟨rfl, fun c c0 c1 => by omega⟩) hx fun v hv => zKe h ?_)
    exact zMn_eq hv
  · refine ziF (by decide) (zk18_L15_01 hN hP hr (w 95 0).toNat 0 (-2147483648) _ _ (by omega) (by omega) (fun c c0 c1 _ => by omega) (Or.inr ⟨rfl, fun c c0 c1 => by omega⟩) hx fun v hv => zKe h ?_)
    exact zMx_eq hv
  · refine ziT rfl (zk18_L15_10 hN hP hr (w 95 0).toNat 0 2147483647 _ _ (by omega) (by omega) (fun c c0 c1 _ => by omega) (Or.inr ⟨rfl, fun c c0 c1 => by omega⟩) hx fun v hv => zKe h ?_)
    exact zMn_eq hv
  · refine ziF (by decide) (zk18_L15_11 hN hP hr (w 95 0).toNat 0 (-2147483648) _ _ (by omega) (by omega) (fun c c0 c1 _ => by omega) (Or.inr ⟨rfl, fun c c0 c1 => by omega⟩) hx fun v hv => zKe h ?_)
    exact zMx_eq hv
noncomputable def zb18 (l0 : List zV) (w : zW) (K : zK) : Prop := cond (zpe (zar l0 0) 36) (zA l0 1 fun p => zA l0 2 fun q => (zNt w ∧ zPC w ∧ zRd 30 w ∧ (∃ c : Int, 0 ≤ c ∧ c < 12 ∧ w 33 c.toNat = 1) ∧ (p = 0 ∨ p = 1) ∧ (q = 0 ∨ q = 1)) ∧ (K (0, some (0, (if q = 1 then zMx (fun c => w 33 c.toNat = 1) (fun c => (if p = 1 then w 31 c.toNat else w 32 c.toNat) + w 30 c.toNat) else zMn (fun c => w 33 c.toNat = 1) (fun c => (if p = 1 then w 31 c.toNat else w 32 c.toNat) - w 30 c.toNat)))) (w) 238)) (False)
noncomputable def zT121 : zSum := zsm1 18 [2, 0, 0, 9, 9, 9, 9] zb18 zT120
theorem zT121_ok : zSok zT121 := zsm1_ok zT120_ok fun l0 w K h => by
  unfold zb18 at h
  cases q0 : zpe (zar l0 0) 36 with
  | true =>
    rw [q0, cond_true] at h
    have e : zar l0 0 = 36 := zpe_e q0
    show zcall 18 [(2, zar l0 0), (0, zar l0 1), (0, zar l0 2), (9, 0), (9, 0), (9, 0), (9, 0)] w 238 K
    rw [e]
    exact zk18_36 (zar l0 1) (zar l0 2) w K (zA_e (zA_e h))
  | false =>
  rw [q0, cond_false] at h
  exact h.elim
set_option maxRecDepth 100000 in
theorem zk65_L2 {w : zW} {K : zK} (hP : zPC w) (dx dy : Int) (hx : -1000000 ≤ dx ∧ dx ≤ 1000000) (hy : -1000000 ≤ dy ∧ dy ≤ 1000000)  : ∀ (m : Nat) (i : Int), (0 ≤ i) → (i + m = 12) → (K (0, some (0, if zFi (fun c => w 33 c.toNat = 1 ∧ (zTf (w 31 c.toNat + dx) ∨ zTf (w 32 c.toNat + dy))) m i = -1 then 1 else 0)) w 238) → zwp 65 2 [(2, 29), (0, dx), (0, dy), (0, i)] [] w 238 0 K := by
  
  intro m
  induction m with
  | zero =>
    intro i  h1 h2 h
    refine (show (if i < 12 then zif False (0 ≤ i ∧ i < 12) (if w 33 i.toNat = 0 then zwp 65 2 [(2, 29), (0, dx), (0, dy), (0, z32 (i + 1))] [] w 238 0 K else zif False (0 ≤ i ∧ i < 12) (if z32 ((w 31 i.toNat) + dx) < (-1000000000) then K (0, some (0, 0)) w 238 else if 1000000000 < z32 ((w 31 i.toNat) + dx) then K (0, some (0, 0)) w 238 else zif False (0 ≤ i ∧ i < 12) (if z32 ((w 32 i.toNat) + dy) < (-1000000000) then K (0, some (0, 0)) w 238 else if 1000000000 < z32 ((w 32 i.toNat) + dy) then K (0, some (0, 0)) w 238 else zwp 65 2 [(2, 29), (0, dx), (0, dy), (0, z32 (i + 1))] [] w 238 0 K))) else K (0, some (0, 1)) w 238) → _ from fun h => show zwp 65 2 [(2, 29), (0, dx), (0, dy), (0, i)] [] w 238 0 K from zgo_imp zT121_ok (cut := fun pc => Nat.beq pc 2 || Nat.beq pc 14 || Nat.beq pc 28 || Nat.beq pc 42) 400 (show if i < 12 then zif False (0 ≤ i ∧ i < 12) (zwp 65 14 [(2, 29), (0, dx), (0, dy), (0, i)] [(0, w 33 i.toNat)] w 238 0 K) else K (0, some (0, 1)) w 238 from zmI (fun h => zmZ (fun h => (fun h => show zwp 65 14 [(2, 29), (0, dx), (0, dy), (0, i)] [(0, w 33 i.toNat)] w 238 0 K from zgo_imp zT121_ok (cut := fun pc => Nat.beq pc 2 || Nat.beq pc 14 || Nat.beq pc 28 || Nat.beq pc 42) 400 (show if w 33 i.toNat = 0 then zwp 65 2 [(2, 29), (0, dx), (0, dy), (0, z32 (i + 1))] [] w 238 0 K else zif False (0 ≤ i ∧ i < 12) (if z32 ((w 31 i.toNat) + dx) < (-1000000000) then zwp 65 28 [(2, 29), (0, dx), (0, dy), (0, i)] [(0, 1)] w 238 0 K else if 1000000000 < z32 ((w 31 i.toNat) + dx) then zwp 65 28 [(2, 29), (0, dx), (0, dy), (0, i)] [(0, 1)] w 238 0 K else zwp 65 28 [(2, 29), (0, dx), (0, dy), (0, i)] [(0, 0)] w 238 0 K) from zmI (fun h => h) (fun h => zmZ (fun h => zmI (fun h => (fun h => show zwp 65 28 [(2, 29), (0, dx), (0, dy), (0, i)] [(0, 1)] w 238 0 K from zgo_imp zT121_ok (cut := fun pc => Nat.beq pc 2 || Nat.beq pc 14 || Nat.beq pc 28 || Nat.beq pc 42) 400 (show K (0, some (0, 0)) w 238 from h)) h) (fun h => zmI (fun h => (fun h => show zwp 65 28 [(2, 29), (0, dx), (0, dy), (0, i)] [(0, 1)] w 238 0 K from zgo_imp zT121_ok (cut := fun pc => Nat.beq pc 2 || Nat.beq pc 14 || Nat.beq pc 28 || Nat.beq pc 42) 400 (show K (0, some (0, 0)) w 238 from h)) h) (fun h => (fun h => show zwp 65 28 [(2, 29), (0, dx), (0, dy), (0, i)] [(0, 0)] w 238 0 K from zgo_imp zT121_ok (cut := fun pc => Nat.beq pc 2 || Nat.beq pc 14 || Nat.beq pc 28 || Nat.beq pc 42) 400 (show zif False (0 ≤ i ∧ i < 12) (if z32 ((w 32 i.toNat) + dy) < (-1000000000) then zwp 65 42 [(2, 29), (0, dx), (0, dy), (0, i)] [(0, 1)] w 238 0 K else if 1000000000 < z32 ((w 32 i.toNat) + dy) then zwp 65 42 [(2, 29), (0, dx), (0, dy), (0, i)] [(0, 1)] w 238 0 K else zwp 65 42 [(2, 29), (0, dx), (0, dy), (0, i)] [(0, 0)] w 238 0 K) from zmZ (fun h => zmI (fun h => (fun h => show zwp 65 42 [(2, 29), (0, dx), (0, dy), (0, i)] [(0, 1)] w 238 0 K from zgo_imp zT121_ok (cut := fun pc => Nat.beq pc 2 || Nat.beq pc 14 || Nat.beq pc 28 || Nat.beq pc 42) 400 (show K (0, some (0, 0)) w 238 from h)) h) (fun h => zmI (fun h => (fun h => show zwp 65 42 [(2, 29), (0, dx), (0, dy), (0, i)] [(0, 1)] w 238 0 K from zgo_imp zT121_ok (cut := fun pc => Nat.beq pc 2 || Nat.beq pc 14 || Nat.beq pc 28 || Nat.beq pc 42) 400 (show K (0, some (0, 0)) w 238 from h)) h) (fun h => (fun h => show zwp 65 42 [(2, 29), (0, dx), (0, dy), (0, i)] [(0, 0)] w 238 0 K from zgo_imp zT121_ok (cut := fun pc => Nat.beq pc 2 || Nat.beq pc 14 || Nat.beq pc 28 || Nat.beq pc 42) 400 (show zwp 65 2 [(2, 29), (0, dx), (0, dy), (0, z32 (i + 1))] [] w 238 0 K from h)) h) h) h) h)) h) h) h) h) h)) h) h) (fun h => h) h)) ?_
    exact ziF (by omega) h
  | succ m ih =>
    intro i  h1 h2 h
    refine (show (if i < 12 then zif False (0 ≤ i ∧ i < 12) (if w 33 i.toNat = 0 then zwp 65 2 [(2, 29), (0, dx), (0, dy), (0, z32 (i + 1))] [] w 238 0 K else zif False (0 ≤ i ∧ i < 12) (if z32 ((w 31 i.toNat) + dx) < (-1000000000) then K (0, some (0, 0)) w 238 else if 1000000000 < z32 ((w 31 i.toNat) + dx) then K (0, some (0, 0)) w 238 else zif False (0 ≤ i ∧ i < 12) (if z32 ((w 32 i.toNat) + dy) < (-1000000000) then K (0, some (0, 0)) w 238 else if 1000000000 < z32 ((w 32 i.toNat) + dy) then K (0, some (0, 0)) w 238 else zwp 65 2 [(2, 29), (0, dx), (0, dy), (0, z32 (i + 1))] [] w 238 0 K))) else K (0, some (0, 1)) w 238) → _ from fun h => show zwp 65 2 [(2, 29), (0, dx), (0, dy), (0, i)] [] w 238 0 K from zgo_imp zT121_ok (cut := fun pc => Nat.beq pc 2 || Nat.beq pc 14 || Nat.beq pc 28 || Nat.beq pc 42) 400 (show if i < 12 then zif False (0 ≤ i ∧ i < 12) (zwp 65 14 [(2, 29), (0, dx), (0, dy), (0, i)] [(0, w 33 i.toNat)] w 238 0 K) else K (0, some (0, 1)) w 238 from zmI (fun h => zmZ (fun h => (fun h => show zwp 65 14 [(2, 29), (0, dx), (0, dy), (0, i)] [(0, w 33 i.toNat)] w 238 0 K from zgo_imp zT121_ok (cut := fun pc => Nat.beq pc 2 || Nat.beq pc 14 || Nat.beq pc 28 || Nat.beq pc 42) 400 (show if w 33 i.toNat = 0 then zwp 65 2 [(2, 29), (0, dx), (0, dy), (0, z32 (i + 1))] [] w 238 0 K else zif False (0 ≤ i ∧ i < 12) (if z32 ((w 31 i.toNat) + dx) < (-1000000000) then zwp 65 28 [(2, 29), (0, dx), (0, dy), (0, i)] [(0, 1)] w 238 0 K else if 1000000000 < z32 ((w 31 i.toNat) + dx) then zwp 65 28 [(2, 29), (0, dx), (0, dy), (0, i)] [(0, 1)] w 238 0 K else zwp 65 28 [(2, 29), (0, dx), (0, dy), (0, i)] [(0, 0)] w 238 0 K) from zmI (fun h => h) (fun h => zmZ (fun h => zmI (fun h => (fun h => show zwp 65 28 [(2, 29), (0, dx), (0, dy), (0, i)] [(0, 1)] w 238 0 K from zgo_imp zT121_ok (cut := fun pc => Nat.beq pc 2 || Nat.beq pc 14 || Nat.beq pc 28 || Nat.beq pc 42) 400 (show K (0, some (0, 0)) w 238 from h)) h) (fun h => zmI (fun h => (fun h => show zwp 65 28 [(2, 29), (0, dx), (0, dy), (0, i)] [(0, 1)] w 238 0 K from zgo_imp zT121_ok (cut := fun pc => Nat.beq pc 2 || Nat.beq pc 14 || Nat.beq pc 28 || Nat.beq pc 42) 400 (show K (0, some (0, 0)) w 238 from h)) h) (fun h => (fun h => show zwp 65 28 [(2, 29), (0, dx), (0, dy), (0, i)] [(0, 0)] w 238 0 K from zgo_imp zT121_ok (cut := fun pc => Nat.beq pc 2 || Nat.beq pc 14 || Nat.beq pc 28 || Nat.beq pc 42) 400 (show zif False (0 ≤ i ∧ i < 12) (if z32 ((w 32 i.toNat) + dy) < (-1000000000) then zwp 65 42 [(2, 29), (0, dx), (0, dy), (0, i)] [(0, 1)] w 238 0 K else if 1000000000 < z32 ((w 32 i.toNat) + dy) then zwp 65 42 [(2, 29), (0, dx), (0, dy), (0, i)] [(0, 1)] w 238 0 K else zwp 65 42 [(2, 29), (0, dx), (0, dy), (0, i)] [(0, 0)] w 238 0 K) from zmZ (fun h => zmI (fun h => (fun h => show zwp 65 42 [(2, 29), (0, dx), (0, dy), (0, i)] [(0, 1)] w 238 0 K from zgo_imp zT121_ok (cut := fun pc => Nat.beq pc 2 || Nat.beq pc 14 || Nat.beq pc 28 || Nat.beq pc 42) 400 (show K (0, some (0, 0)) w 238 from h)) h) (fun h => zmI (fun h => (fun h => show zwp 65 42 [(2, 29), (0, dx), (0, dy), (0, i)] [(0, 1)] w 238 0 K from zgo_imp zT121_ok (cut := fun pc => Nat.beq pc 2 || Nat.beq pc 14 || Nat.beq pc 28 || Nat.beq pc 42) 400 (show K (0, some (0, 0)) w 238 from h)) h) (fun h => (fun h => show zwp 65 42 [(2, 29), (0, dx), (0, dy), (0, i)] [(0, 0)] w 238 0 K from zgo_imp zT121_ok (cut := fun pc => Nat.beq pc 2 || Nat.beq pc 14 || Nat.beq pc 28 || Nat.beq pc 42) 400 (show zwp 65 2 [(2, 29), (0, dx), (0, dy), (0, z32 (i + 1))] [] w 238 0 K from h)) h) h) h) h)) h) h) h) h) h)) h) h) (fun h => h) h)) ?_
    have hc := hP.2.2.1 i h1 (by omega)
    rw [z32_id (x := i + 1) ⟨by omega, by omega⟩]
    have e : zFi (fun c => w 33 c.toNat = 1 ∧ (zTf (w 31 c.toNat + dx) ∨ zTf (w 32 c.toNat + dy))) (m + 1) i = if w 33 i.toNat = 1 ∧ (zTf (w 31 i.toNat + dx) ∨ zTf (w 32 i.toNat + dy)) then i else zFi (fun c => w 33 c.toNat = 1 ∧ (zTf (w 31 c.toNat + dx) ∨ zTf (w 32 c.toNat + dy))) m (i + 1) := rfl
    refine ziT (by omega) (zifI (by omega) ?_)
    by_cases q : w 33 i.toNat = 1
    · have pi := hP.1.1 i h1 (by omega) q
      rw [z32_id (x := w 31 i.toNat + dx) ⟨by omega, by omega⟩, z32_id (x := w 32 i.toNat + dy) ⟨by omega, by omega⟩]
      refine ziF (by omega) (zifI (by omega) ?_)
      by_cases g : zTf (w 31 i.toNat + dx) ∨ zTf (w 32 i.toNat + dy)
      · rw [e.trans (if_pos ⟨q, g⟩), if_neg (by omega)] at h
        by_cases g1 : w 31 i.toNat + dx < -1000000000
        · exact ziT g1 h
        · refine ziF g1 ?_
          by_cases g2 : 1000000000 < w 31 i.toNat + dx
          · exact ziT g2 h
          · refine ziF g2 (zifI (by omega) ?_)
            by_cases g3 : w 32 i.toNat + dy < -1000000000
            · exact ziT g3 h
            · exact ziF g3 (ziT (by omega) h)
      · rw [e.trans (if_neg fun g2 => g g2.2)] at h
        exact ziF (by omega) (ziF (by omega) (zifI (by omega) (ziF (by omega) (ziF (by omega) (ih _ (by omega) (by omega) h)))))
    · rw [e.trans (if_neg fun g2 => q g2.1)] at h
      exact ziT (by omega) (ih _ (by omega) (by omega) h)
/-! $Packing.canShift -/
set_option maxRecDepth 100000 in
theorem zk65_29 (dx dy : Int) (w : zW) (K : zK) (h : (zPC w ∧ (-1000000 ≤ dx ∧ dx ≤ 1000000) ∧ -1000000 ≤ dy ∧ dy ≤ 1000000) ∧ (K (0, some (0, (if zFi (fun c => w 33 c.toNat = 1 ∧ (zTf (w 31 c.toNat + dx) ∨ zTf (w 32 c.toNat + dy))) 12 0 = -1 then 1 else 0))) (w) 238)) : zcall 65 [(2, 29), (0, dx), (0, dy), (9, 0)] w 238 K := by
  obtain ⟨hg, h⟩ := h
  refine (show (zwp 65 2 [(2, 29), (0, dx), (0, dy), (0, 0)] [] w 238 0 K) → _ from fun h => show zwp 65 0 [(2, 29), (0, dx), (0, dy), (9, 0)] [] w 238 0 K from zgo_imp zT121_ok (cut := fun pc => Nat.beq pc 2 || Nat.beq pc 14 || Nat.beq pc 28 || Nat.beq pc 42) 400 (show zwp 65 2 [(2, 29), (0, dx), (0, dy), (0, 0)] [] w 238 0 K from h)) ?_
  exact zk65_L2 hg.1 dx dy hg.2.1 hg.2.2 12 0 (by omega) (by omega) h
noncomputable def zb65 (l0 : List zV) (w : zW) (K : zK) : Prop := cond (zpe (zar l0 0) 29) (zA l0 1 fun dx => zA l0 2 fun dy => (zPC w ∧ (-1000000 ≤ dx ∧ dx ≤ 1000000) ∧ -1000000 ≤ dy ∧ dy ≤ 1000000) ∧ (K (0, some (0, (if zFi (fun c => w 33 c.toNat = 1 ∧ (zTf (w 31 c.toNat + dx) ∨ zTf (w 32 c.toNat + dy))) 12 0 = -1 then 1 else 0))) (w) 238)) (False)
noncomputable def zT122 : zSum := zsm1 65 [2, 0, 0, 9] zb65 zT121
theorem zT122_ok : zSok zT122 := zsm1_ok zT121_ok fun l0 w K h => by
  unfold zb65 at h
  cases q0 : zpe (zar l0 0) 29 with
  | true =>
    rw [q0, cond_true] at h
    have e : zar l0 0 = 29 := zpe_e q0
    show zcall 65 [(2, zar l0 0), (0, zar l0 1), (0, zar l0 2), (9, 0)] w 238 K
    rw [e]
    exact zk65_29 (zar l0 1) (zar l0 2) w K (zA_e (zA_e h))
  | false =>
  rw [q0, cond_false] at h
  exact h.elim
set_option maxRecDepth 100000 in
theorem zk67_L2 {w : zW} {K : zK} (hP : zPC w) (dx dy : Int) (hx : -1000000 ≤ dx ∧ dx ≤ 1000000) (hy : -1000000 ≤ dy ∧ dy ≤ 1000000)  : ∀ (m : Nat) (i : Int), (0 ≤ i) → (i + m = 12) → (K (0, none) (zsft w dx dy 12) 238) → zwp 67 2 [(2, 29), (0, dx), (0, dy), (0, i)] [] (zsft w dx dy i.toNat) 238 0 K := by
  
  intro m
  induction m with
  | zero =>
    intro i  h1 h2 h
    refine (show (if i < 12 then zif False (0 ≤ i ∧ i < 12) (if w 33 i.toNat = 0 then zwp 67 2 [(2, 29), (0, dx), (0, dy), (0, z32 (i + 1))] [] (zsft w dx dy i.toNat) 238 0 K else zif False (0 ≤ i ∧ i < 12) (zif False (0 ≤ i ∧ i < 12) (zif False (0 ≤ i ∧ i < 12) (zif False (0 ≤ i ∧ i < 12) (zwp 67 2 [(2, 29), (0, dx), (0, dy), (0, z32 (i + 1))] [] (zupd (zupd (zsft w dx dy i.toNat) 31 i.toNat (z32 (((zsft w dx dy i.toNat) 31 i.toNat) + dx))) 32 i.toNat (z32 (((zsft w dx dy i.toNat) 32 i.toNat) + dy))) 238 0 K))))) else K (0, none) (zsft w dx dy i.toNat) 238) → _ from fun h => show zwp 67 2 [(2, 29), (0, dx), (0, dy), (0, i)] [] (zsft w dx dy i.toNat) 238 0 K from zgo_imp zT122_ok (cut := fun pc => Nat.beq pc 2 || Nat.beq pc 14 || Nat.beq pc 27 || Nat.beq pc 40) 400 (show if i < 12 then zif False (0 ≤ i ∧ i < 12) (zwp 67 14 [(2, 29), (0, dx), (0, dy), (0, i)] [(0, w 33 i.toNat)] (zsft w dx dy i.toNat) 238 0 K) else K (0, none) (zsft w dx dy i.toNat) 238 from zmI (fun h => zmZ (fun h => (fun h => show zwp 67 14 [(2, 29), (0, dx), (0, dy), (0, i)] [(0, w 33 i.toNat)] (zsft w dx dy i.toNat) 238 0 K from zgo_imp zT122_ok (cut := fun pc => Nat.beq pc 2 || Nat.beq pc 14 || Nat.beq pc 27 || Nat.beq pc 40) 400 (show if w 33 i.toNat = 0 then zwp 67 40 [(2, 29), (0, dx), (0, dy), (0, z32 (i + 1))] [] (zsft w dx dy i.toNat) 238 0 K else zif False (0 ≤ i ∧ i < 12) (zif False (0 ≤ i ∧ i < 12) (zwp 67 27 [(2, 29), (0, dx), (0, dy), (0, i)] [] (zupd (zsft w dx dy i.toNat) 31 i.toNat (z32 (((zsft w dx dy i.toNat) 31 i.toNat) + dx))) 238 0 K)) from zmI (fun h => (fun h => show zwp 67 40 [(2, 29), (0, dx), (0, dy), (0, z32 (i + 1))] [] (zsft w dx dy i.toNat) 238 0 K from zgo_imp zT122_ok (cut := fun pc => Nat.beq pc 2 || Nat.beq pc 14 || Nat.beq pc 27 || Nat.beq pc 40) 400 (show zwp 67 2 [(2, 29), (0, dx), (0, dy), (0, z32 (i + 1))] [] (zsft w dx dy i.toNat) 238 0 K from h)) h) (fun h => zmZ (fun h => zmZ (fun h => (fun h => show zwp 67 27 [(2, 29), (0, dx), (0, dy), (0, i)] [] (zupd (zsft w dx dy i.toNat) 31 i.toNat (z32 (((zsft w dx dy i.toNat) 31 i.toNat) + dx))) 238 0 K from zgo_imp zT122_ok (cut := fun pc => Nat.beq pc 2 || Nat.beq pc 14 || Nat.beq pc 27 || Nat.beq pc 40) 400 (show zif False (0 ≤ i ∧ i < 12) (zif False (0 ≤ i ∧ i < 12) (zwp 67 40 [(2, 29), (0, dx), (0, dy), (0, z32 (i + 1))] [] (zupd (zupd (zsft w dx dy i.toNat) 31 i.toNat (z32 (((zsft w dx dy i.toNat) 31 i.toNat) + dx))) 32 i.toNat (z32 (((zsft w dx dy i.toNat) 32 i.toNat) + dy))) 238 0 K)) from zmZ (fun h => zmZ (fun h => (fun h => show zwp 67 40 [(2, 29), (0, dx), (0, dy), (0, z32 (i + 1))] [] (zupd (zupd (zsft w dx dy i.toNat) 31 i.toNat (z32 (((zsft w dx dy i.toNat) 31 i.toNat) + dx))) 32 i.toNat (z32 (((zsft w dx dy i.toNat) 32 i.toNat) + dy))) 238 0 K from zgo_imp zT122_ok (cut := fun pc => Nat.beq pc 2 || Nat.beq pc 14 || Nat.beq pc 27 || Nat.beq pc 40) 400 (show zwp 67 2 [(2, 29), (0, dx), (0, dy), (0, z32 (i + 1))] [] (zupd (zupd (zsft w dx dy i.toNat) 31 i.toNat (z32 (((zsft w dx dy i.toNat) 31 i.toNat) + dx))) 32 i.toNat (z32 (((zsft w dx dy i.toNat) 32 i.toNat) + dy))) 238 0 K from h)) h) h) h)) h) h) h) h)) h) h) (fun h => h) h)) ?_
    rw [show i.toNat = 12 by omega]
    exact ziF (by omega) h
  | succ m ih =>
    intro i  h1 h2 h
    refine (show (if i < 12 then zif False (0 ≤ i ∧ i < 12) (if w 33 i.toNat = 0 then zwp 67 2 [(2, 29), (0, dx), (0, dy), (0, z32 (i + 1))] [] (zsft w dx dy i.toNat) 238 0 K else zif False (0 ≤ i ∧ i < 12) (zif False (0 ≤ i ∧ i < 12) (zif False (0 ≤ i ∧ i < 12) (zif False (0 ≤ i ∧ i < 12) (zwp 67 2 [(2, 29), (0, dx), (0, dy), (0, z32 (i + 1))] [] (zupd (zupd (zsft w dx dy i.toNat) 31 i.toNat (z32 (((zsft w dx dy i.toNat) 31 i.toNat) + dx))) 32 i.toNat (z32 (((zsft w dx dy i.toNat) 32 i.toNat) + dy))) 238 0 K))))) else K (0, none) (zsft w dx dy i.toNat) 238) → _ from fun h => show zwp 67 2 [(2, 29), (0, dx), (0, dy), (0, i)] [] (zsft w dx dy i.toNat) 238 0 K from zgo_imp zT122_ok (cut := fun pc => Nat.beq pc 2 || Nat.beq pc 14 || Nat.beq pc 27 || Nat.beq pc 40) 400 (show if i < 12 then zif False (0 ≤ i ∧ i < 12) (zwp 67 14 [(2, 29), (0, dx), (0, dy), (0, i)] [(0, w 33 i.toNat)] (zsft w dx dy i.toNat) 238 0 K) else K (0, none) (zsft w dx dy i.toNat) 238 from zmI (fun h => zmZ (fun h => (fun h => show zwp 67 14 [(2, 29), (0, dx), (0, dy), (0, i)] [(0, w 33 i.toNat)] (zsft w dx dy i.toNat) 238 0 K from zgo_imp zT122_ok (cut := fun pc => Nat.beq pc 2 || Nat.beq pc 14 || Nat.beq pc 27 || Nat.beq pc 40) 400 (show if w 33 i.toNat = 0 then zwp 67 40 [(2, 29), (0, dx), (0, dy), (0, z32 (i + 1))] [] (zsft w dx dy i.toNat) 238 0 K else zif False (0 ≤ i ∧ i < 12) (zif False (0 ≤ i ∧ i < 12) (zwp 67 27 [(2, 29), (0, dx), (0, dy), (0, i)] [] (zupd (zsft w dx dy i.toNat) 31 i.toNat (z32 (((zsft w dx dy i.toNat) 31 i.toNat) + dx))) 238 0 K)) from zmI (fun h => (fun h => show zwp 67 40 [(2, 29), (0, dx), (0, dy), (0, z32 (i + 1))] [] (zsft w dx dy i.toNat) 238 0 K from zgo_imp zT122_ok (cut := fun pc => Nat.beq pc 2 || Nat.beq pc 14 || Nat.beq pc 27 || Nat.beq pc 40) 400 (show zwp 67 2 [(2, 29), (0, dx), (0, dy), (0, z32 (i + 1))] [] (zsft w dx dy i.toNat) 238 0 K from h)) h) (fun h => zmZ (fun h => zmZ (fun h => (fun h => show zwp 67 27 [(2, 29), (0, dx), (0, dy), (0, i)] [] (zupd (zsft w dx dy i.toNat) 31 i.toNat (z32 (((zsft w dx dy i.toNat) 31 i.toNat) + dx))) 238 0 K from zgo_imp zT122_ok (cut := fun pc => Nat.beq pc 2 || Nat.beq pc 14 || Nat.beq pc 27 || Nat.beq pc 40) 400 (show zif False (0 ≤ i ∧ i < 12) (zif False (0 ≤ i ∧ i < 12) (zwp 67 40 [(2, 29), (0, dx), (0, dy), (0, z32 (i + 1))] [] (zupd (zupd (zsft w dx dy i.toNat) 31 i.toNat (z32 (((zsft w dx dy i.toNat) 31 i.toNat) + dx))) 32 i.toNat (z32 (((zsft w dx dy i.toNat) 32 i.toNat) + dy))) 238 0 K)) from zmZ (fun h => zmZ (fun h => (fun h => show zwp 67 40 [(2, 29), (0, dx), (0, dy), (0, z32 (i + 1))] [] (zupd (zupd (zsft w dx dy i.toNat) 31 i.toNat (z32 (((zsft w dx dy i.toNat) 31 i.toNat) + dx))) 32 i.toNat (z32 (((zsft w dx dy i.toNat) 32 i.toNat) + dy))) 238 0 K from zgo_imp zT122_ok (cut := fun pc => Nat.beq pc 2 || Nat.beq pc 14 || Nat.beq pc 27 || Nat.beq pc 40) 400 (show zwp 67 2 [(2, 29), (0, dx), (0, dy), (0, z32 (i + 1))] [] (zupd (zupd (zsft w dx dy i.toNat) 31 i.toNat (z32 (((zsft w dx dy i.toNat) 31 i.toNat) + dx))) 32 i.toNat (z32 (((zsft w dx dy i.toNat) 32 i.toNat) + dy))) 238 0 K from h)) h) h) h)) h) h) h) h)) h) h) (fun h => h) h)) ?_
    have hc := hP.2.2.1 i h1 (by omega)
    rw [z32_id (x := i + 1) ⟨by omega, by omega⟩]
    refine ziT (by omega) (zifI (by omega) ?_)
    by_cases q : w 33 i.toNat = 1
    · have pi := hP.1.1 i h1 (by omega) q
      have e1 : zsft w dx dy i.toNat 31 i.toNat = w 31 i.toNat := zss_31
      have e2 : zsft w dx dy i.toNat 32 i.toNat = w 32 i.toNat := zss_32
      rw [e1, e2, z32_id (x := w 31 i.toNat + dx) ⟨by omega, by omega⟩, z32_id (x := w 32 i.toNat + dy) ⟨by omega, by omega⟩]
      have e3 : zupd (zupd (zsft w dx dy i.toNat) 31 i.toNat (w 31 i.toNat + dx)) 32 i.toNat (w 32 i.toNat + dy) = zsft w dx dy (i + 1).toNat := by
        rw [show (i + 1).toNat = i.toNat + 1 by omega]
        exact zss_step (by rw [if_neg (by omega)]) (by rw [if_neg (by omega)])
      rw [e3]
      exact ziF (by omega) (zifI (by omega) (zifI (by omega) (zifI (by omega) (zifI (by omega) (ih _ (by omega) (by omega) h)))))
    · have e3 : zsft w dx dy (i + 1).toNat = zsft w dx dy i.toNat := by
        rw [show (i + 1).toNat = i.toNat + 1 by omega]
        exact zss_skip (if_pos (by omega)) (if_pos (by omega))
      rw [← e3]
      exact ziT (by omega) (ih _ (by omega) (by omega) h)
/-! $Packing.shiftPlaces -/
set_option maxRecDepth 100000 in
theorem zk67_29 (dx dy : Int) (w : zW) (K : zK) (h : (zPC w ∧ (-1000000 ≤ dx ∧ dx ≤ 1000000) ∧ -1000000 ≤ dy ∧ dy ≤ 1000000) ∧ (K (0, none) (zsft w dx dy 12) 238)) : zcall 67 [(2, 29), (0, dx), (0, dy), (9, 0)] w 238 K := by
  obtain ⟨hg, h⟩ := h
  refine (show (zwp 67 2 [(2, 29), (0, dx), (0, dy), (0, 0)] [] w 238 0 K) → _ from fun h => show zwp 67 0 [(2, 29), (0, dx), (0, dy), (9, 0)] [] w 238 0 K from zgo_imp zT122_ok (cut := fun pc => Nat.beq pc 2 || Nat.beq pc 14 || Nat.beq pc 27 || Nat.beq pc 40) 400 (show zwp 67 2 [(2, 29), (0, dx), (0, dy), (0, 0)] [] w 238 0 K from h)) ?_
  have := zk67_L2 hg.1 dx dy hg.2.1 hg.2.2 12 0 (by omega) (by omega) h
  have e : zsft w dx dy (0 : Int).toNat = w := zss_0
  rw [e] at this
  exact this
noncomputable def zb67 (l0 : List zV) (w : zW) (K : zK) : Prop := cond (zpe (zar l0 0) 29) (zA l0 1 fun dx => zA l0 2 fun dy => (zPC w ∧ (-1000000 ≤ dx ∧ dx ≤ 1000000) ∧ -1000000 ≤ dy ∧ dy ≤ 1000000) ∧ (K (0, none) (zsft w dx dy 12) 238)) (False)
noncomputable def zT123 : zSum := zsm1 67 [2, 0, 0, 9] zb67 zT122
theorem zT123_ok : zSok zT123 := zsm1_ok zT122_ok fun l0 w K h => by
  unfold zb67 at h
  cases q0 : zpe (zar l0 0) 29 with
  | true =>
    rw [q0, cond_true] at h
    have e : zar l0 0 = 29 := zpe_e q0
    show zcall 67 [(2, zar l0 0), (0, zar l0 1), (0, zar l0 2), (9, 0)] w 238 K
    rw [e]
    exact zk67_29 (zar l0 1) (zar l0 2) w K (zA_e (zA_e h))
  | false =>
  rw [q0, cond_false] at h
  exact h.elim
set_option maxRecDepth 100000 in
theorem zk68_L2 {w : zW} {K : zK} (hP : zPC w)  : ∀ (m : Nat) (i : Int) (d2 : zV), (0 ≤ i) → (i + m = 12) → (K (0, none) (ztn w 12) 238) → zwp 68 2 [(2, 29), (0, i), d2] [] (ztn w i.toNat) 238 0 K := by
  
  intro m
  induction m with
  | zero =>
    intro i d2 h1 h2 h
    refine (show (if i < 12 then zif False (0 ≤ i ∧ i < 12) (if w 33 i.toNat = 0 then zwp 68 2 [(2, 29), (0, z32 (i + 1)), (9, 0)] [] (ztn w i.toNat) 238 0 K else zif False (0 ≤ i ∧ i < 12) (zif False (0 ≤ i ∧ i < 12) (zif False (0 ≤ i ∧ i < 12) (zif False (0 ≤ i ∧ i < 12) (zwp 68 2 [(2, 29), (0, z32 (i + 1)), (9, 0)] [] (zupd (zupd (ztn w i.toNat) 31 i.toNat (z32 (-((ztn w i.toNat) 32 i.toNat)))) 32 i.toNat ((ztn w i.toNat) 31 i.toNat)) 238 0 K))))) else K (0, none) (ztn w i.toNat) 238) → _ from fun h => show zwp 68 2 [(2, 29), (0, i), d2] [] (ztn w i.toNat) 238 0 K from zgo_imp zT123_ok (cut := fun pc => Nat.beq pc 2 || Nat.beq pc 14 || Nat.beq pc 29 || Nat.beq pc 42) 400 (show if i < 12 then zif False (0 ≤ i ∧ i < 12) (zwp 68 14 [(2, 29), (0, i), (9, 0)] [(0, w 33 i.toNat)] (ztn w i.toNat) 238 0 K) else K (0, none) (ztn w i.toNat) 238 from zmI (fun h => zmZ (fun h => (fun h => show zwp 68 14 [(2, 29), (0, i), (9, 0)] [(0, w 33 i.toNat)] (ztn w i.toNat) 238 0 K from zgo_imp zT123_ok (cut := fun pc => Nat.beq pc 2 || Nat.beq pc 14 || Nat.beq pc 29 || Nat.beq pc 42) 400 (show if w 33 i.toNat = 0 then zwp 68 2 [(2, 29), (0, z32 (i + 1)), (9, 0)] [] (ztn w i.toNat) 238 0 K else zif False (0 ≤ i ∧ i < 12) (zwp 68 29 [(2, 29), (0, i), (0, (ztn w i.toNat) 31 i.toNat)] [(0, i), (2, 31)] (ztn w i.toNat) 238 0 K) from zmI (fun h => h) (fun h => zmZ (fun h => (fun h => show zwp 68 29 [(2, 29), (0, i), (0, (ztn w i.toNat) 31 i.toNat)] [(0, i), (2, 31)] (ztn w i.toNat) 238 0 K from zgo_imp zT123_ok (cut := fun pc => Nat.beq pc 2 || Nat.beq pc 14 || Nat.beq pc 29 || Nat.beq pc 42) 400 (show zif False (0 ≤ i ∧ i < 12) (zif False (0 ≤ i ∧ i < 12) (zwp 68 42 [(2, 29), (0, i), (0, (ztn w i.toNat) 31 i.toNat)] [(0, i), (2, 32)] (zupd (ztn w i.toNat) 31 i.toNat (z32 (-((ztn w i.toNat) 32 i.toNat)))) 238 0 K)) from zmZ (fun h => zmZ (fun h => (fun h => show zwp 68 42 [(2, 29), (0, i), (0, (ztn w i.toNat) 31 i.toNat)] [(0, i), (2, 32)] (zupd (ztn w i.toNat) 31 i.toNat (z32 (-((ztn w i.toNat) 32 i.toNat)))) 238 0 K from zgo_imp zT123_ok (cut := fun pc => Nat.beq pc 2 || Nat.beq pc 14 || Nat.beq pc 29 || Nat.beq pc 42) 400 (show zif False (0 ≤ i ∧ i < 12) (zwp 68 2 [(2, 29), (0, z32 (i + 1)), (9, 0)] [] (zupd (zupd (ztn w i.toNat) 31 i.toNat (z32 (-((ztn w i.toNat) 32 i.toNat)))) 32 i.toNat ((ztn w i.toNat) 31 i.toNat)) 238 0 K) from h)) h) h) h)) h) h) h)) h) h) (fun h => h) h)) ?_
    rw [show i.toNat = 12 by omega]
    exact ziF (by omega) h
  | succ m ih =>
    intro i d2 h1 h2 h
    refine (show (if i < 12 then zif False (0 ≤ i ∧ i < 12) (if w 33 i.toNat = 0 then zwp 68 2 [(2, 29), (0, z32 (i + 1)), (9, 0)] [] (ztn w i.toNat) 238 0 K else zif False (0 ≤ i ∧ i < 12) (zif False (0 ≤ i ∧ i < 12) (zif False (0 ≤ i ∧ i < 12) (zif False (0 ≤ i ∧ i < 12) (zwp 68 2 [(2, 29), (0, z32 (i + 1)), (9, 0)] [] (zupd (zupd (ztn w i.toNat) 31 i.toNat (z32 (-((ztn w i.toNat) 32 i.toNat)))) 32 i.toNat ((ztn w i.toNat) 31 i.toNat)) 238 0 K))))) else K (0, none) (ztn w i.toNat) 238) → _ from fun h => show zwp 68 2 [(2, 29), (0, i), d2] [] (ztn w i.toNat) 238 0 K from zgo_imp zT123_ok (cut := fun pc => Nat.beq pc 2 || Nat.beq pc 14 || Nat.beq pc 29 || Nat.beq pc 42) 400 (show if i < 12 then zif False (0 ≤ i ∧ i < 12) (zwp 68 14 [(2, 29), (0, i), (9, 0)] [(0, w 33 i.toNat)] (ztn w i.toNat) 238 0 K) else K (0, none) (ztn w i.toNat) 238 from zmI (fun h => zmZ (fun h => (fun h => show zwp 68 14 [(2, 29), (0, i), (9, 0)] [(0, w 33 i.toNat)] (ztn w i.toNat) 238 0 K from zgo_imp zT123_ok (cut := fun pc => Nat.beq pc 2 || Nat.beq pc 14 || Nat.beq pc 29 || Nat.beq pc 42) 400 (show if w 33 i.toNat = 0 then zwp 68 2 [(2, 29), (0, z32 (i + 1)), (9, 0)] [] (ztn w i.toNat) 238 0 K else zif False (0 ≤ i ∧ i < 12) (zwp 68 29 [(2, 29), (0, i), (0, (ztn w i.toNat) 31 i.toNat)] [(0, i), (2, 31)] (ztn w i.toNat) 238 0 K) from zmI (fun h => h) (fun h => zmZ (fun h => (fun h => show zwp 68 29 [(2, 29), (0, i), (0, (ztn w i.toNat) 31 i.toNat)] [(0, i), (2, 31)] (ztn w i.toNat) 238 0 K from zgo_imp zT123_ok (cut := fun pc => Nat.beq pc 2 || Nat.beq pc 14 || Nat.beq pc 29 || Nat.beq pc 42) 400 (show zif False (0 ≤ i ∧ i < 12) (zif False (0 ≤ i ∧ i < 12) (zwp 68 42 [(2, 29), (0, i), (0, (ztn w i.toNat) 31 i.toNat)] [(0, i), (2, 32)] (zupd (ztn w i.toNat) 31 i.toNat (z32 (-((ztn w i.toNat) 32 i.toNat)))) 238 0 K)) from zmZ (fun h => zmZ (fun h => (fun h => show zwp 68 42 [(2, 29), (0, i), (0, (ztn w i.toNat) 31 i.toNat)] [(0, i), (2, 32)] (zupd (ztn w i.toNat) 31 i.toNat (z32 (-((ztn w i.toNat) 32 i.toNat)))) 238 0 K from zgo_imp zT123_ok (cut := fun pc => Nat.beq pc 2 || Nat.beq pc 14 || Nat.beq pc 29 || Nat.beq pc 42) 400 (show zif False (0 ≤ i ∧ i < 12) (zwp 68 2 [(2, 29), (0, z32 (i + 1)), (9, 0)] [] (zupd (zupd (ztn w i.toNat) 31 i.toNat (z32 (-((ztn w i.toNat) 32 i.toNat)))) 32 i.toNat ((ztn w i.toNat) 31 i.toNat)) 238 0 K) from h)) h) h) h)) h) h) h)) h) h) (fun h => h) h)) ?_
    have hc := hP.2.2.1 i h1 (by omega)
    rw [z32_id (x := i + 1) ⟨by omega, by omega⟩]
    refine ziT (by omega) (zifI (by omega) ?_)
    by_cases q : w 33 i.toNat = 1
    · have pi := hP.1.1 i h1 (by omega) q
      have e1 : ztn w i.toNat 31 i.toNat = w 31 i.toNat := zss_31
      have e2 : ztn w i.toNat 32 i.toNat = w 32 i.toNat := zss_32
      rw [e1, e2, z32_id (x := -w 32 i.toNat) ⟨by omega, by omega⟩]
      have e3 : zupd (zupd (ztn w i.toNat) 31 i.toNat (-w 32 i.toNat)) 32 i.toNat (w 31 i.toNat) = ztn w (i + 1).toNat := by
        rw [show (i + 1).toNat = i.toNat + 1 by omega]
        exact zss_step (by rw [if_neg (by omega)]) (by rw [if_neg (by omega)])
      rw [e3]
      exact ziF (by omega) (zifI (by omega) (zifI (by omega) (zifI (by omega) (zifI (by omega) (ih _ _ (by omega) (by omega) h)))))
    · have e3 : ztn w (i + 1).toNat = ztn w i.toNat := by
        rw [show (i + 1).toNat = i.toNat + 1 by omega]
        exact zss_skip (if_pos (by omega)) (if_pos (by omega))
      rw [← e3]
      exact ziT (by omega) (ih _ _ (by omega) (by omega) h)
/-! $Packing.turnPlaces -/
set_option maxRecDepth 100000 in
theorem zk68_29 (w : zW) (K : zK) (h : (zPC w) ∧ (K (0, none) (ztn w 12) 238)) : zcall 68 [(2, 29), (9, 0), (9, 0)] w 238 K := by
  obtain ⟨hg, h⟩ := h
  refine (show (zwp 68 2 [(2, 29), (0, 0), (9, 0)] [] w 238 0 K) → _ from fun h => show zwp 68 0 [(2, 29), (9, 0), (9, 0)] [] w 238 0 K from zgo_imp zT123_ok (cut := fun pc => Nat.beq pc 2 || Nat.beq pc 14 || Nat.beq pc 29 || Nat.beq pc 42) 400 (show zwp 68 2 [(2, 29), (0, 0), (9, 0)] [] w 238 0 K from h)) ?_
  have := zk68_L2 hg 12 0 (9, 0) (by omega) (by omega) h
  have e : ztn w (0 : Int).toNat = w := zss_0
  rw [e] at this
  exact this
noncomputable def zb68 (l0 : List zV) (w : zW) (K : zK) : Prop := cond (zpe (zar l0 0) 29) ((zPC w) ∧ (K (0, none) (ztn w 12) 238)) (False)
noncomputable def zT124 : zSum := zsm1 68 [2, 9, 9] zb68 zT123
theorem zT124_ok : zSok zT124 := zsm1_ok zT123_ok fun l0 w K h => by
  unfold zb68 at h
  cases q0 : zpe (zar l0 0) 29 with
  | true =>
    rw [q0, cond_true] at h
    have e : zar l0 0 = 29 := zpe_e q0
    show zcall 68 [(2, zar l0 0), (9, 0), (9, 0)] w 238 K
    rw [e]
    exact zk68_29  w K h
  | false =>
  rw [q0, cond_false] at h
  exact h.elim
theorem zct_fp {w : zW} (hN : zNt w) (hP : zPC w) {f : Int} (f0 : 0 ≤ f) (f1 : f < w 96 0) (h : zct w f = 3) : zFp w f := by
  obtain ⟨c0, c1, c2⟩ := hN.cor3 f0 f1
  have hn := hN.n
  have a := hP.2.2.1 _ c0.1 (by omega)
  have b := hP.2.2.1 _ c1.1 (by omega)
  have c := hP.2.2.1 _ c2.1 (by omega)
  unfold zct at h
  by_cases qa : w 33 (w 99 (3 * f).toNat).toNat = 0 <;> by_cases qb : w 33 (w 99 (3 * f + 1).toNat).toNat = 0 <;> by_cases qc : w 33 (w 99 (3 * f + 2).toNat).toNat = 0 <;> first | omega | exact ⟨⟨by omega, by omega⟩, ⟨by omega, by omega⟩, by omega, by omega⟩
set_option maxRecDepth 100000 in
theorem zk168_L4 {w : zW} {K : zK} (hN : zNt w) (hP : zPC w)  : ∀ (m : Nat) (i k : Int), (0 ≤ i) → (i + m = w 96 0) → (0 ≤ k ∧ k ≤ i) → (K (0, some (0, k + zSm (fun f => if zct w f = 3 ∧ zAa (w 31) (w 32) (w 99 (3 * f).toNat) (w 99 (3 * f + 1).toNat) (w 99 (3 * f + 2).toNat) ≤ 0 then 1 else 0) m i)) w 238) → zwp 168 4 [(2, 0), (0, k), (0, i)] [] w 238 0 K := by
  
  intro m
  induction m with
  | zero =>
    intro i k  h1 h2 h3 h
    refine (show (if i < w 4 1 then (zNt w ∧ 0 ≤ i ∧ i < w 96 0) ∧ (if ((if zct w i = 3 then 1 else 0) : Int) = 0 then zwp 168 4 [(2, 0), (0, k), (0, z32 (i + 1))] [] w 238 0 K else (zNt w ∧ zPC w ∧ (0 ≤ i ∧ i < w 96 0) ∧ zFp w i) ∧ (if 0 < zAa (w 31) (w 32) (w 99 (3 * i).toNat) (w 99 (3 * i + 1).toNat) (w 99 (3 * i + 2).toNat) then zwp 168 4 [(2, 0), (0, k), (0, z32 (i + 1))] [] w 238 0 K else zwp 168 4 [(2, 0), (0, z32 (k + 1)), (0, z32 (i + 1))] [] w 238 0 K)) else K (0, some (0, k)) w 238) → _ from fun h => show zwp 168 4 [(2, 0), (0, k), (0, i)] [] w 238 0 K from zgo_imp zT124_ok (cut := fun pc => Nat.beq pc 4 || Nat.beq pc 15 || Nat.beq pc 23 || Nat.beq pc 34) 400 (show if i < w 4 1 then zwp 168 15 [(2, 0), (0, k), (0, i)] [] w 238 0 K else K (0, some (0, k)) w 238 from zmI (fun h => (fun h => show zwp 168 15 [(2, 0), (0, k), (0, i)] [] w 238 0 K from zgo_imp zT124_ok (cut := fun pc => Nat.beq pc 4 || Nat.beq pc 15 || Nat.beq pc 23 || Nat.beq pc 34) 400 (show (zNt w ∧ 0 ≤ i ∧ i < w 96 0) ∧ (zwp 168 23 [(2, 0), (0, k), (0, i)] [(0, ((if zct w i = 3 then 1 else 0) : Int))] w 238 0 K) from zmA (fun h => (fun h => show zwp 168 23 [(2, 0), (0, k), (0, i)] [(0, ((if zct w i = 3 then 1 else 0) : Int))] w 238 0 K from zgo_imp zT124_ok (cut := fun pc => Nat.beq pc 4 || Nat.beq pc 15 || Nat.beq pc 23 || Nat.beq pc 34) 400 (show if ((if zct w i = 3 then 1 else 0) : Int) = 0 then zwp 168 4 [(2, 0), (0, k), (0, z32 (i + 1))] [] w 238 0 K else (zNt w ∧ zPC w ∧ (0 ≤ i ∧ i < w 96 0) ∧ zFp w i) ∧ (zwp 168 34 [(2, 0), (0, k), (0, i)] [(1, zAa (w 31) (w 32) (w 99 (3 * i).toNat) (w 99 (3 * i + 1).toNat) (w 99 (3 * i + 2).toNat))] w 238 0 K) from zmI (fun h => h) (fun h => zmA (fun h => (fun h => show zwp 168 34 [(2, 0), (0, k), (0, i)] [(1, zAa (w 31) (w 32) (w 99 (3 * i).toNat) (w 99 (3 * i + 1).toNat) (w 99 (3 * i + 2).toNat))] w 238 0 K from zgo_imp zT124_ok (cut := fun pc => Nat.beq pc 4 || Nat.beq pc 15 || Nat.beq pc 23 || Nat.beq pc 34) 400 (show if 0 < zAa (w 31) (w 32) (w 99 (3 * i).toNat) (w 99 (3 * i + 1).toNat) (w 99 (3 * i + 2).toNat) then zwp 168 4 [(2, 0), (0, k), (0, z32 (i + 1))] [] w 238 0 K else zwp 168 4 [(2, 0), (0, z32 (k + 1)), (0, z32 (i + 1))] [] w 238 0 K from h)) h) h) h)) h) h)) h) (fun h => h) h)) ?_
    have hn := hN.n
    exact ziF (by omega) (zKe h (by show k + 0 = k; omega))
  | succ m ih =>
    intro i k  h1 h2 h3 h
    refine (show (if i < w 4 1 then (zNt w ∧ 0 ≤ i ∧ i < w 96 0) ∧ (if ((if zct w i = 3 then 1 else 0) : Int) = 0 then zwp 168 4 [(2, 0), (0, k), (0, z32 (i + 1))] [] w 238 0 K else (zNt w ∧ zPC w ∧ (0 ≤ i ∧ i < w 96 0) ∧ zFp w i) ∧ (if 0 < zAa (w 31) (w 32) (w 99 (3 * i).toNat) (w 99 (3 * i + 1).toNat) (w 99 (3 * i + 2).toNat) then zwp 168 4 [(2, 0), (0, k), (0, z32 (i + 1))] [] w 238 0 K else zwp 168 4 [(2, 0), (0, z32 (k + 1)), (0, z32 (i + 1))] [] w 238 0 K)) else K (0, some (0, k)) w 238) → _ from fun h => show zwp 168 4 [(2, 0), (0, k), (0, i)] [] w 238 0 K from zgo_imp zT124_ok (cut := fun pc => Nat.beq pc 4 || Nat.beq pc 15 || Nat.beq pc 23 || Nat.beq pc 34) 400 (show if i < w 4 1 then zwp 168 15 [(2, 0), (0, k), (0, i)] [] w 238 0 K else K (0, some (0, k)) w 238 from zmI (fun h => (fun h => show zwp 168 15 [(2, 0), (0, k), (0, i)] [] w 238 0 K from zgo_imp zT124_ok (cut := fun pc => Nat.beq pc 4 || Nat.beq pc 15 || Nat.beq pc 23 || Nat.beq pc 34) 400 (show (zNt w ∧ 0 ≤ i ∧ i < w 96 0) ∧ (zwp 168 23 [(2, 0), (0, k), (0, i)] [(0, ((if zct w i = 3 then 1 else 0) : Int))] w 238 0 K) from zmA (fun h => (fun h => show zwp 168 23 [(2, 0), (0, k), (0, i)] [(0, ((if zct w i = 3 then 1 else 0) : Int))] w 238 0 K from zgo_imp zT124_ok (cut := fun pc => Nat.beq pc 4 || Nat.beq pc 15 || Nat.beq pc 23 || Nat.beq pc 34) 400 (show if ((if zct w i = 3 then 1 else 0) : Int) = 0 then zwp 168 4 [(2, 0), (0, k), (0, z32 (i + 1))] [] w 238 0 K else (zNt w ∧ zPC w ∧ (0 ≤ i ∧ i < w 96 0) ∧ zFp w i) ∧ (zwp 168 34 [(2, 0), (0, k), (0, i)] [(1, zAa (w 31) (w 32) (w 99 (3 * i).toNat) (w 99 (3 * i + 1).toNat) (w 99 (3 * i + 2).toNat))] w 238 0 K) from zmI (fun h => h) (fun h => zmA (fun h => (fun h => show zwp 168 34 [(2, 0), (0, k), (0, i)] [(1, zAa (w 31) (w 32) (w 99 (3 * i).toNat) (w 99 (3 * i + 1).toNat) (w 99 (3 * i + 2).toNat))] w 238 0 K from zgo_imp zT124_ok (cut := fun pc => Nat.beq pc 4 || Nat.beq pc 15 || Nat.beq pc 23 || Nat.beq pc 34) 400 (show if 0 < zAa (w 31) (w 32) (w 99 (3 * i).toNat) (w 99 (3 * i + 1).toNat) (w 99 (3 * i + 2).toNat) then zwp 168 4 [(2, 0), (0, k), (0, z32 (i + 1))] [] w 238 0 K else zwp 168 4 [(2, 0), (0, z32 (k + 1)), (0, z32 (i + 1))] [] w 238 0 K from h)) h) h) h)) h) h)) h) (fun h => h) h)) ?_
    have hn := hN.n
    rw [z32_id (x := i + 1) ⟨by omega, by omega⟩, z32_id (x := k + 1) ⟨by omega, by omega⟩]
    have e : zSm (fun f => if zct w f = 3 ∧ zAa (w 31) (w 32) (w 99 (3 * f).toNat) (w 99 (3 * f + 1).toNat) (w 99 (3 * f + 2).toNat) ≤ 0 then 1 else 0) (m + 1) i = (if zct w i = 3 ∧ zAa (w 31) (w 32) (w 99 (3 * i).toNat) (w 99 (3 * i + 1).toNat) (w 99 (3 * i + 2).toNat) ≤ 0 then 1 else 0) + zSm (fun f => if zct w f = 3 ∧ zAa (w 31) (w 32) (w 99 (3 * f).toNat) (w 99 (3 * f + 1).toNat) (w 99 (3 * f + 2).toNat) ≤ 0 then 1 else 0) m (i + 1) := rfl
    rw [e, ← Int.add_assoc] at h
    refine ziT (by omega) ⟨⟨hN, by omega⟩, ?_⟩
    by_cases q : zct w i = 3
    · refine ziF (by rw [if_pos q]; decide) ⟨⟨hN, hP, by omega, zct_fp hN hP h1 (by omega) q⟩, ?_⟩
      by_cases g : 0 < zAa (w 31) (w 32) (w 99 (3 * i).toNat) (w 99 (3 * i + 1).toNat) (w 99 (3 * i + 2).toNat)
      · rw [if_neg (by omega), Int.add_zero] at h
        exact ziT g (ih _ _ (by omega) (by omega) (by omega) h)
      · rw [if_pos ⟨q, by omega⟩] at h
        exact ziF g (ih _ _ (by omega) (by omega) (by omega) h)
    · rw [if_neg fun g => q g.1, Int.add_zero] at h
      exact ziT (if_neg q) (ih _ _ (by omega) (by omega) (by omega) h)
/-! .flipped -/
set_option maxRecDepth 100000 in
theorem zk168_0 (w : zW) (K : zK) (h : (zNt w ∧ zPC w) ∧ (K (0, some (0, zSm (fun f => if zct w f = 3 ∧ zAa (w 31) (w 32) (w 99 (3 * f).toNat) (w 99 (3 * f + 1).toNat) (w 99 (3 * f + 2).toNat) ≤ 0 then 1 else 0) (w 96 0).toNat 0)) (w) 238)) : zcall 168 [(2, 0), (9, 0), (9, 0)] w 238 K := by
  obtain ⟨hg, h⟩ := h
  refine (show (zwp 168 4 [(2, 0), (0, 0), (0, 0)] [] w 238 0 K) → _ from fun h => show zwp 168 0 [(2, 0), (9, 0), (9, 0)] [] w 238 0 K from zgo_imp zT124_ok (cut := fun pc => Nat.beq pc 4 || Nat.beq pc 15 || Nat.beq pc 23 || Nat.beq pc 34) 400 (show zwp 168 4 [(2, 0), (0, 0), (0, 0)] [] w 238 0 K from h)) ?_
  have hn := hg.1.n
  exact zk168_L4 hg.1 hg.2 (w 96 0).toNat 0 0 (by omega) (by omega) (by omega) (zKe h (by omega))
noncomputable def zb168 (l0 : List zV) (w : zW) (K : zK) : Prop := cond (zis0 (zar l0 0)) ((zNt w ∧ zPC w) ∧ (K (0, some (0, zSm (fun f => if zct w f = 3 ∧ zAa (w 31) (w 32) (w 99 (3 * f).toNat) (w 99 (3 * f + 1).toNat) (w 99 (3 * f + 2).toNat) ≤ 0 then 1 else 0) (w 96 0).toNat 0)) (w) 238)) (False)
noncomputable def zT125 : zSum := zsm1 168 [2, 9, 9] zb168 zT124
theorem zT125_ok : zSok zT125 := zsm1_ok zT124_ok fun l0 w K h => by
  unfold zb168 at h
  cases q0 : zis0 (zar l0 0) with
  | true =>
    rw [q0, cond_true] at h
    have e : zar l0 0 = 0 := zis0_e q0
    show zcall 168 [(2, zar l0 0), (9, 0), (9, 0)] w 238 K
    rw [e]
    exact zk168_0  w K h
  | false =>
  rw [q0, cond_false] at h
  exact h.elim
set_option maxRecDepth 100000 in
theorem zk172_L2 {w : zW} {K : zK} (hN : zNt w) (hP : zPC w) (hr : zRd 30 w) (x y : Int) (hx : zr32 x) (hy : zr32 y)  : ∀ (m : Nat) (i : Int), (0 ≤ i) → (i + m = w 95 0) → (K (0, some (0, zFi (fun c => w 33 c.toNat = 1 ∧ zCv (w 31) (w 32) (w 30) c x y) m i)) w 238) → zwp 172 2 [(2, 0), (0, x), (0, y), (0, i)] [] w 238 0 K := by
  
  intro m
  induction m with
  | zero =>
    intro i  h1 h2 h
    refine (show (if i < w 4 0 then zif False (0 ≤ i ∧ i < 12) (if ((if w 33 i.toNat = 0 then 0 else 1) : Int) = 0 then zwp 172 2 [(2, 0), (0, x), (0, y), (0, z32 (i + 1))] [] w 238 0 K else (zPC w ∧ zRd 30 w ∧ zPp w i ∧ zr32 x ∧ zr32 y) ∧ (if ((if zCv (w 31) (w 32) (w 30) i x y then 1 else 0) : Int) = 0 then zwp 172 2 [(2, 0), (0, x), (0, y), (0, z32 (i + 1))] [] w 238 0 K else K (0, some (0, i)) w 238)) else K (0, some (0, (-1))) w 238) → _ from fun h => show zwp 172 2 [(2, 0), (0, x), (0, y), (0, i)] [] w 238 0 K from zgo_imp zT125_ok (cut := fun pc => Nat.beq pc 2 || Nat.beq pc 17 || Nat.beq pc 21 || Nat.beq pc 34) 400 (show if i < w 4 0 then zwp 172 17 [(2, 0), (0, x), (0, y), (0, i)] [(2, 29)] w 238 0 K else K (0, some (0, (-1))) w 238 from zmI (fun h => (fun h => show zwp 172 17 [(2, 0), (0, x), (0, y), (0, i)] [(2, 29)] w 238 0 K from zgo_imp zT125_ok (cut := fun pc => Nat.beq pc 2 || Nat.beq pc 17 || Nat.beq pc 21 || Nat.beq pc 34) 400 (show zif False (0 ≤ i ∧ i < 12) (zwp 172 21 [(2, 0), (0, x), (0, y), (0, i)] [(0, ((if w 33 i.toNat = 0 then 0 else 1) : Int))] w 238 0 K) from zmZ (fun h => (fun h => show zwp 172 21 [(2, 0), (0, x), (0, y), (0, i)] [(0, ((if w 33 i.toNat = 0 then 0 else 1) : Int))] w 238 0 K from zgo_imp zT125_ok (cut := fun pc => Nat.beq pc 2 || Nat.beq pc 17 || Nat.beq pc 21 || Nat.beq pc 34) 400 (show if ((if w 33 i.toNat = 0 then 0 else 1) : Int) = 0 then zwp 172 2 [(2, 0), (0, x), (0, y), (0, z32 (i + 1))] [] w 238 0 K else (zPC w ∧ zRd 30 w ∧ zPp w i ∧ zr32 x ∧ zr32 y) ∧ (zwp 172 34 [(2, 0), (0, x), (0, y), (0, i)] [(0, ((if zCv (w 31) (w 32) (w 30) i x y then 1 else 0) : Int))] w 238 0 K) from zmI (fun h => h) (fun h => zmA (fun h => (fun h => show zwp 172 34 [(2, 0), (0, x), (0, y), (0, i)] [(0, ((if zCv (w 31) (w 32) (w 30) i x y then 1 else 0) : Int))] w 238 0 K from zgo_imp zT125_ok (cut := fun pc => Nat.beq pc 2 || Nat.beq pc 17 || Nat.beq pc 21 || Nat.beq pc 34) 400 (show if ((if zCv (w 31) (w 32) (w 30) i x y then 1 else 0) : Int) = 0 then zwp 172 2 [(2, 0), (0, x), (0, y), (0, z32 (i + 1))] [] w 238 0 K else K (0, some (0, i)) w 238 from h)) h) h) h)) h) h)) h) (fun h => h) h)) ?_
    have hn := hN.n
    exact ziF (by omega) h
  | succ m ih =>
    intro i  h1 h2 h
    refine (show (if i < w 4 0 then zif False (0 ≤ i ∧ i < 12) (if ((if w 33 i.toNat = 0 then 0 else 1) : Int) = 0 then zwp 172 2 [(2, 0), (0, x), (0, y), (0, z32 (i + 1))] [] w 238 0 K else (zPC w ∧ zRd 30 w ∧ zPp w i ∧ zr32 x ∧ zr32 y) ∧ (if ((if zCv (w 31) (w 32) (w 30) i x y then 1 else 0) : Int) = 0 then zwp 172 2 [(2, 0), (0, x), (0, y), (0, z32 (i + 1))] [] w 238 0 K else K (0, some (0, i)) w 238)) else K (0, some (0, (-1))) w 238) → _ from fun h => show zwp 172 2 [(2, 0), (0, x), (0, y), (0, i)] [] w 238 0 K from zgo_imp zT125_ok (cut := fun pc => Nat.beq pc 2 || Nat.beq pc 17 || Nat.beq pc 21 || Nat.beq pc 34) 400 (show if i < w 4 0 then zwp 172 17 [(2, 0), (0, x), (0, y), (0, i)] [(2, 29)] w 238 0 K else K (0, some (0, (-1))) w 238 from zmI (fun h => (fun h => show zwp 172 17 [(2, 0), (0, x), (0, y), (0, i)] [(2, 29)] w 238 0 K from zgo_imp zT125_ok (cut := fun pc => Nat.beq pc 2 || Nat.beq pc 17 || Nat.beq pc 21 || Nat.beq pc 34) 400 (show zif False (0 ≤ i ∧ i < 12) (zwp 172 21 [(2, 0), (0, x), (0, y), (0, i)] [(0, ((if w 33 i.toNat = 0 then 0 else 1) : Int))] w 238 0 K) from zmZ (fun h => (fun h => show zwp 172 21 [(2, 0), (0, x), (0, y), (0, i)] [(0, ((if w 33 i.toNat = 0 then 0 else 1) : Int))] w 238 0 K from zgo_imp zT125_ok (cut := fun pc => Nat.beq pc 2 || Nat.beq pc 17 || Nat.beq pc 21 || Nat.beq pc 34) 400 (show if ((if w 33 i.toNat = 0 then 0 else 1) : Int) = 0 then zwp 172 2 [(2, 0), (0, x), (0, y), (0, z32 (i + 1))] [] w 238 0 K else (zPC w ∧ zRd 30 w ∧ zPp w i ∧ zr32 x ∧ zr32 y) ∧ (zwp 172 34 [(2, 0), (0, x), (0, y), (0, i)] [(0, ((if zCv (w 31) (w 32) (w 30) i x y then 1 else 0) : Int))] w 238 0 K) from zmI (fun h => h) (fun h => zmA (fun h => (fun h => show zwp 172 34 [(2, 0), (0, x), (0, y), (0, i)] [(0, ((if zCv (w 31) (w 32) (w 30) i x y then 1 else 0) : Int))] w 238 0 K from zgo_imp zT125_ok (cut := fun pc => Nat.beq pc 2 || Nat.beq pc 17 || Nat.beq pc 21 || Nat.beq pc 34) 400 (show if ((if zCv (w 31) (w 32) (w 30) i x y then 1 else 0) : Int) = 0 then zwp 172 2 [(2, 0), (0, x), (0, y), (0, z32 (i + 1))] [] w 238 0 K else K (0, some (0, i)) w 238 from h)) h) h) h)) h) h)) h) (fun h => h) h)) ?_
    have hn := hN.n
    have hc := hP.2.2.1 i h1 (by omega)
    rw [z32_id (x := i + 1) ⟨by omega, by omega⟩]
    have e : zFi (fun c => w 33 c.toNat = 1 ∧ zCv (w 31) (w 32) (w 30) c x y) (m + 1) i = if w 33 i.toNat = 1 ∧ zCv (w 31) (w 32) (w 30) i x y then i else zFi (fun c => w 33 c.toNat = 1 ∧ zCv (w 31) (w 32) (w 30) c x y) m (i + 1) := rfl
    refine ziT (by omega) (zifI (by omega) ?_)
    by_cases q : w 33 i.toNat = 1
    · refine ziF (by omega) ⟨⟨hP, hr, ⟨by omega, q⟩, hx, hy⟩, ?_⟩
      by_cases g : zCv (w 31) (w 32) (w 30) i x y
      · rw [e.trans (if_pos ⟨q, g⟩)] at h
        exact ziF (by rw [if_pos g]; decide) h
      · rw [e.trans (if_neg fun g2 => g g2.2)] at h
        exact ziT (if_neg g) (ih _ (by omega) (by omega) h)
    · rw [e.trans (if_neg fun g2 => q g2.1)] at h
      exact ziT (by omega) (ih _ (by omega) (by omega) h)
/-! .at -/
set_option maxRecDepth 100000 in
theorem zk172_0 (x y : Int) (w : zW) (K : zK) (h : (zNt w ∧ zPC w ∧ zRd 30 w ∧ zr32 x ∧ zr32 y) ∧ (K (0, some (0, zFi (fun c => w 33 c.toNat = 1 ∧ zCv (w 31) (w 32) (w 30) c x y) (w 95 0).toNat 0)) (w) 238)) : zcall 172 [(2, 0), (0, x), (0, y), (9, 0)] w 238 K := by
  obtain ⟨hg, h⟩ := h
  refine (show (zwp 172 2 [(2, 0), (0, x), (0, y), (0, 0)] [] w 238 0 K) → _ from fun h => show zwp 172 0 [(2, 0), (0, x), (0, y), (9, 0)] [] w 238 0 K from zgo_imp zT125_ok (cut := fun pc => Nat.beq pc 2 || Nat.beq pc 17 || Nat.beq pc 21 || Nat.beq pc 34) 400 (show zwp 172 2 [(2, 0), (0, x), (0, y), (0, 0)] [] w 238 0 K from h)) ?_
  obtain ⟨hN, hP, hr, hx, hy⟩ := hg
  have hn := hN.n
  exact zk172_L2 hN hP hr x y hx hy (w 95 0).toNat 0 (by omega) (by omega) h
noncomputable def zb172 (l0 : List zV) (w : zW) (K : zK) : Prop := cond (zis0 (zar l0 0)) (zA l0 1 fun x => zA l0 2 fun y => (zNt w ∧ zPC w ∧ zRd 30 w ∧ zr32 x ∧ zr32 y) ∧ (K (0, some (0, zFi (fun c => w 33 c.toNat = 1 ∧ zCv (w 31) (w 32) (w 30) c x y) (w 95 0).toNat 0)) (w) 238)) (False)
noncomputable def zT126 : zSum := zsm1 172 [2, 0, 0, 9] zb172 zT125
theorem zT126_ok : zSok zT126 := zsm1_ok zT125_ok fun l0 w K h => by
  unfold zb172 at h
  cases q0 : zis0 (zar l0 0) with
  | true =>
    rw [q0, cond_true] at h
    have e : zar l0 0 = 0 := zis0_e q0
    show zcall 172 [(2, zar l0 0), (0, zar l0 1), (0, zar l0 2), (9, 0)] w 238 K
    rw [e]
    exact zk172_0 (zar l0 1) (zar l0 2) w K (zA_e (zA_e h))
  | false =>
  rw [q0, cond_false] at h
  exact h.elim

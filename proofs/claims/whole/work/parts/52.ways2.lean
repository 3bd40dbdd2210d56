/-! ===== ways: rounds of relaxing (written by wip/whole/gen_c.py) ===== -/
noncomputable def zYs (A : Int → Int → Prop) (L : Int → Int → Int) (c : Int) (D : Nat → Int) : Nat → Int := if D c.toNat = -1 then D else zYp (A c) (D c.toNat) (L c) D
noncomputable def zYf (A : Int → Int → Prop) (L : Int → Int → Int) : Nat → Int → (Nat → Int) → Nat → Int
  | 0, _, D => D
  | m + 1, c, D => zYf A L m (c + 1) (zYs A L c D)
noncomputable def zYr (A : Int → Int → Prop) (L : Int → Int → Int) (n : Int) : Nat → (Nat → Int) → Nat → Int
  | 0, D => D
  | r + 1, D => zYr A L n r (zYf A L n.toNat 0 D)
def zYi (f c : Int) (D : Nat → Int) : Nat → Int := fun k => if (k : Int) < c then (if (k : Int) = f then 0 else -1) else D k
noncomputable def zYd (w : zW) (q : Nat) (b f : Int) (D : Nat → Int) : Nat → Int := zYr (zYA w) (zYL w q b) (w 95 0) 12 (zYi f 12 D)
/-- the ways from f (b = 0: steps; else lengths by the radii at q) -/
noncomputable def zYe (w : zW) (q : Nat) (b f : Int) : Nat → Int := zYd w q b f fun _ => 0
def zYB (B : Int) (D : Nat → Int) : Prop := ∀ k : Nat, k < 12 → -1 ≤ D k ∧ D k ≤ B
def zYE (D D' : Nat → Int) : Prop := ∀ k : Nat, k < 12 → D k = D' k
theorem zYB.mono {B B' : Int} {D : Nat → Int} (h : zYB B D) (g : B ≤ B') : zYB B' D := fun k hk => by
  have := h k hk; omega
theorem zYB_p {B x : Int} {D : Nat → Int} {P : Int → Prop} {L : Int → Int} (h : zYB B D) (x0 : 0 ≤ x) (x1 : x ≤ B) (hL : ∀ v : Nat, P v → 0 ≤ L v ∧ L v ≤ 2000000) : zYB (B + 2000000) (zYp P x L D) := fun k hk => by
  have := h k hk
  by_cases g : P k ∧ zYb x L D k
  · rw [zYp_y g.1 g.2]
    have := hL k g.1
    omega
  · rw [zYp_n g]; omega
theorem zYB_f {A : Int → Int → Prop} {L : Int → Int → Int} (hL : ∀ c : Int, ∀ v : Nat, A c v → 0 ≤ c → c < 12 → 0 ≤ L c v ∧ L c v ≤ 2000000) : ∀ (m : Nat) (c B : Int) (D : Nat → Int), 0 ≤ c → c + m ≤ 12 → zYB B D → zYB (B + 2000000 * m) (zYf A L m c D) := by
  intro m
  induction m with
  | zero => intro c B D _ _ h; exact h.mono (by omega)
  | succ m ih =>
    intro c B D h0 h1 h
    have hs : zYB (B + 2000000) (zYs A L c D) := by
      unfold zYs
      by_cases g : D c.toNat = -1
      · rw [if_pos g]; exact h.mono (by omega)
      · rw [if_neg g]
        have := h c.toNat (by omega)
        exact zYB_p h (by omega) (by omega) fun v hv => hL c v hv h0 (by omega)
    have := ih (c + 1) _ _ (by omega) (by omega) hs
    exact this.mono (by omega)
theorem zYr_fix {A : Int → Int → Prop} {L : Int → Int → Int} {n : Int} {D : Nat → Int} (h : zYf A L n.toNat 0 D = D) : ∀ r : Nat, zYr A L n r D = D := by
  intro r
  induction r with
  | zero => rfl
  | succ r ih =>
    show zYr A L n r (zYf A L n.toNat 0 D) = D
    rw [h]; exact ih
theorem zYE_p {x : Int} {D D' : Nat → Int} {P : Int → Prop} {L : Int → Int} (h : zYE D D') : zYE (zYp P x L D) (zYp P x L D') := fun k hk => by
  have e : zYb x L D k = zYb x L D' k := by
    unfold zYb; rw [show ((k : Int)).toNat = k from rfl, h k hk]
  unfold zYp
  rw [e, h k hk]
theorem zYE_s {A : Int → Int → Prop} {L : Int → Int → Int} {c : Int} {D D' : Nat → Int} (hc : c < 12) (h : zYE D D') : zYE (zYs A L c D) (zYs A L c D') := by
  unfold zYs
  rw [h c.toNat (by omega)]
  by_cases g : D' c.toNat = -1
  · rw [if_pos g, if_pos g]; exact h
  · rw [if_neg g, if_neg g]; exact zYE_p h
theorem zYE_f {A : Int → Int → Prop} {L : Int → Int → Int} : ∀ (m : Nat) (c : Int) (D D' : Nat → Int), c + m ≤ 12 → zYE D D' → zYE (zYf A L m c D) (zYf A L m c D') := by
  intro m
  induction m with
  | zero => intro c D D' _ h; exact h
  | succ m ih => intro c D D' hc h; exact ih (c + 1) _ _ (by omega) (zYE_s (by omega) h)
theorem zYE_r {A : Int → Int → Prop} {L : Int → Int → Int} {n : Int} (hn : n ≤ 12) : ∀ (r : Nat) (D D' : Nat → Int), zYE D D' → zYE (zYr A L n r D) (zYr A L n r D') := by
  intro r
  induction r with
  | zero => intro D D' h; exact h
  | succ r ih => intro D D' h; exact ih _ _ (zYE_f _ _ _ _ (by omega) h)
theorem zYd_e {w : zW} (hn : w 95 0 ≤ 12) (q : Nat) (b f : Int) (D : Nat → Int) {k : Nat} (hk : k < 12) : zYd w q b f D k = zYe w q b f k := by
  refine zYE_r hn 12 _ _ (fun j hj => ?_) k hk
  unfold zYi
  rw [if_pos (show (j : Int) < 12 by omega), if_pos (show (j : Int) < 12 by omega)]
theorem zfill_self (w : zW) (p : Nat) : zfill w p (w p) = w := by
  funext q k
  unfold zfill
  by_cases e : q = p
  · rw [if_pos e, e]
  · rw [if_neg e]
theorem zfill_at (w : zW) (p : Nat) (f : Nat → Int) : zfill w p f p = f := by
  funext k; exact if_pos rfl
theorem zfill_no {w : zW} {p q : Nat} {f : Nat → Int} (h : q ≠ p) : zfill w p f q = w q := by
  funext k; exact if_neg h
theorem zfill_fill (w : zW) (p : Nat) (f g : Nat → Int) : zfill (zfill w p f) p g = zfill w p g := by
  funext q k
  unfold zfill
  by_cases e : q = p
  · rw [if_pos e, if_pos e]
  · rw [if_neg e, if_neg e, if_neg e]
theorem zYi_up {w : zW} {p : Nat} {f c : Int} (c0 : 0 ≤ c) : zupd (zfill w p (zYi f c (w p))) p c.toNat (if c = f then 0 else -1) = zfill w p (zYi f (c + 1) (w p)) := by
  funext q k
  unfold zupd zfill zYi
  by_cases e : q = p
  · rw [if_pos e, if_pos e, if_pos e]
    by_cases e2 : k = c.toNat
    · have ek : (k : Int) = c := by omega
      rw [if_pos e2, if_pos (show (k : Int) < c + 1 by omega), ek]
    · rw [if_neg e2]
      by_cases e3 : (k : Int) < c
      · rw [if_pos e3, if_pos (show (k : Int) < c + 1 by omega)]
      · rw [if_neg e3, if_neg (show ¬ (k : Int) < c + 1 by omega)]
  · rw [if_neg e, if_neg e, if_neg e]
theorem zYi_0 (w : zW) (p : Nat) (f : Int) : zfill w p (zYi f 0 (w p)) = w := by
  have : zYi f 0 (w p) = w p := by
    funext k; unfold zYi; rw [if_neg (by omega)]
  rw [this]; exact zfill_self w p
set_option maxRecDepth 100000 in
theorem zk189_L53 {K : zK} (b r : Int) (hr0 : 0 ≤ r ∧ r < 12)  : ∀ (m : Nat) (c s : Int) (w : zW), (zNt w) → (zRd 30 w) → (0 ≤ c) → (c + m = w 95 0) → (zYB (24000000 * r + 2000000 * c) (w 92)) → (s = 0 ∨ s = 1) → (∀ (s' : Int) (d5 : zV), (s' = 0 ∨ s' = 1) → (s' = 0 → zYf (zYA w) (zYL w 30 b) m c (w 92) = w 92 ∧ s = 0) → zwp 189 37 [(2, 0), (9, 0), (0, b), (0, s'), (0, z32 (r + 1)), d5] [] (zfill w 92 (zYf (zYA w) (zYL w 30 b) m c (w 92))) 238 0 K) → zwp 189 53 [(2, 0), (9, 0), (0, b), (0, s), (0, r), (0, c)] [] w 238 0 K := by
  
  intro m
  induction m with
  | zero =>
    intro c s w  hN hr h1 h2 h3 h4 h
    refine (show (if c < w 4 0 then zif False (0 ≤ c ∧ c < 12) (if w 92 c.toNat = (-1) then zwp 189 53 [(2, 0), (9, 0), (0, b), (0, s), (0, r), (0, z32 (c + 1))] [] w 238 0 K else (zNt w ∧ zRd 30 w ∧ (0 ≤ c ∧ c < w 95 0) ∧ 0 ≤ w 92 c.toNat ∧ w 92 c.toNat ≤ 1000000000) ∧ (if zYC (zYA w c) (w 92 c.toNat) (zYL w 30 b c) (w 92) = 0 then zwp 189 53 [(2, 0), (9, 0), (0, b), (0, s), (0, r), (0, z32 (c + 1))] [] (zYw w 92 (zYA w c) (w 92 c.toNat) (zYL w 30 b c)) 238 0 K else zwp 189 53 [(2, 0), (9, 0), (0, b), (0, 1), (0, r), (0, z32 (c + 1))] [] (zYw w 92 (zYA w c) (w 92 c.toNat) (zYL w 30 b c)) 238 0 K)) else zwp 189 37 [(2, 0), (9, 0), (0, b), (0, s), (0, z32 (r + 1)), (0, c)] [] w 238 0 K) → _ from fun h => show zwp 189 53 [(2, 0), (9, 0), (0, b), (0, s), (0, r), (0, c)] [] w 238 0 K from zgo_imp zT148_ok (cut := fun pc => Nat.beq pc 14 || Nat.beq pc 33 || Nat.beq pc 37 || Nat.beq pc 49 || Nat.beq pc 53 || Nat.beq pc 66 || Nat.beq pc 83 || Nat.beq pc 86) 400 (show if c < w 4 0 then zwp 189 66 [(2, 0), (9, 0), (0, b), (0, s), (0, r), (0, c)] [(2, 0)] w 238 0 K else zwp 189 37 [(2, 0), (9, 0), (0, b), (0, s), (0, z32 (r + 1)), (0, c)] [] w 238 0 K from zmI (fun h => (fun h => show zwp 189 66 [(2, 0), (9, 0), (0, b), (0, s), (0, r), (0, c)] [(2, 0)] w 238 0 K from zgo_imp zT148_ok (cut := fun pc => Nat.beq pc 14 || Nat.beq pc 33 || Nat.beq pc 37 || Nat.beq pc 49 || Nat.beq pc 53 || Nat.beq pc 66 || Nat.beq pc 83 || Nat.beq pc 86) 400 (show zif False (0 ≤ c ∧ c < 12) (if w 92 c.toNat = (-1) then zwp 189 53 [(2, 0), (9, 0), (0, b), (0, s), (0, r), (0, z32 (c + 1))] [] w 238 0 K else zwp 189 83 [(2, 0), (9, 0), (0, b), (0, s), (0, r), (0, c)] [(0, b), (0, c), (2, 0)] w 238 0 K) from zmZ (fun h => zmI (fun h => h) (fun h => (fun h => show zwp 189 83 [(2, 0), (9, 0), (0, b), (0, s), (0, r), (0, c)] [(0, b), (0, c), (2, 0)] w 238 0 K from zgo_imp zT148_ok (cut := fun pc => Nat.beq pc 14 || Nat.beq pc 33 || Nat.beq pc 37 || Nat.beq pc 49 || Nat.beq pc 53 || Nat.beq pc 66 || Nat.beq pc 83 || Nat.beq pc 86) 400 (show (zNt w ∧ zRd 30 w ∧ (0 ≤ c ∧ c < w 95 0) ∧ 0 ≤ w 92 c.toNat ∧ w 92 c.toNat ≤ 1000000000) ∧ (zwp 189 86 [(2, 0), (9, 0), (0, b), (0, s), (0, r), (0, c)] [(0, zYC (zYA w c) (w 92 c.toNat) (zYL w 30 b c) (w 92))] (zYw w 92 (zYA w c) (w 92 c.toNat) (zYL w 30 b c)) 238 0 K) from zmA (fun h => (fun h => show zwp 189 86 [(2, 0), (9, 0), (0, b), (0, s), (0, r), (0, c)] [(0, zYC (zYA w c) (w 92 c.toNat) (zYL w 30 b c) (w 92))] (zYw w 92 (zYA w c) (w 92 c.toNat) (zYL w 30 b c)) 238 0 K from zgo_imp zT148_ok (cut := fun pc => Nat.beq pc 14 || Nat.beq pc 33 || Nat.beq pc 37 || Nat.beq pc 49 || Nat.beq pc 53 || Nat.beq pc 66 || Nat.beq pc 83 || Nat.beq pc 86) 400 (show if zYC (zYA w c) (w 92 c.toNat) (zYL w 30 b c) (w 92) = 0 then zwp 189 53 [(2, 0), (9, 0), (0, b), (0, s), (0, r), (0, z32 (c + 1))] [] (zYw w 92 (zYA w c) (w 92 c.toNat) (zYL w 30 b c)) 238 0 K else zwp 189 53 [(2, 0), (9, 0), (0, b), (0, 1), (0, r), (0, z32 (c + 1))] [] (zYw w 92 (zYA w c) (w 92 c.toNat) (zYL w 30 b c)) 238 0 K from h)) h) h)) h) h) h)) h) (fun h => h) h)) ?_
    have hn := hN.n
    have := h s (0, c) h4 (fun q => ⟨rfl, q⟩)
    rw [show zYf (zYA w) (zYL w 30 b) 0 c (w 92) = w 92 from rfl, zfill_self] at this
    exact ziF (by omega) this
  | succ m ih =>
    intro c s w  hN hr h1 h2 h3 h4 h
    refine (show (if c < w 4 0 then zif False (0 ≤ c ∧ c < 12) (if w 92 c.toNat = (-1) then zwp 189 53 [(2, 0), (9, 0), (0, b), (0, s), (0, r), (0, z32 (c + 1))] [] w 238 0 K else (zNt w ∧ zRd 30 w ∧ (0 ≤ c ∧ c < w 95 0) ∧ 0 ≤ w 92 c.toNat ∧ w 92 c.toNat ≤ 1000000000) ∧ (if zYC (zYA w c) (w 92 c.toNat) (zYL w 30 b c) (w 92) = 0 then zwp 189 53 [(2, 0), (9, 0), (0, b), (0, s), (0, r), (0, z32 (c + 1))] [] (zYw w 92 (zYA w c) (w 92 c.toNat) (zYL w 30 b c)) 238 0 K else zwp 189 53 [(2, 0), (9, 0), (0, b), (0, 1), (0, r), (0, z32 (c + 1))] [] (zYw w 92 (zYA w c) (w 92 c.toNat) (zYL w 30 b c)) 238 0 K)) else zwp 189 37 [(2, 0), (9, 0), (0, b), (0, s), (0, z32 (r + 1)), (0, c)] [] w 238 0 K) → _ from fun h => show zwp 189 53 [(2, 0), (9, 0), (0, b), (0, s), (0, r), (0, c)] [] w 238 0 K from zgo_imp zT148_ok (cut := fun pc => Nat.beq pc 14 || Nat.beq pc 33 || Nat.beq pc 37 || Nat.beq pc 49 || Nat.beq pc 53 || Nat.beq pc 66 || Nat.beq pc 83 || Nat.beq pc 86) 400 (show if c < w 4 0 then zwp 189 66 [(2, 0), (9, 0), (0, b), (0, s), (0, r), (0, c)] [(2, 0)] w 238 0 K else zwp 189 37 [(2, 0), (9, 0), (0, b), (0, s), (0, z32 (r + 1)), (0, c)] [] w 238 0 K from zmI (fun h => (fun h => show zwp 189 66 [(2, 0), (9, 0), (0, b), (0, s), (0, r), (0, c)] [(2, 0)] w 238 0 K from zgo_imp zT148_ok (cut := fun pc => Nat.beq pc 14 || Nat.beq pc 33 || Nat.beq pc 37 || Nat.beq pc 49 || Nat.beq pc 53 || Nat.beq pc 66 || Nat.beq pc 83 || Nat.beq pc 86) 400 (show zif False (0 ≤ c ∧ c < 12) (if w 92 c.toNat = (-1) then zwp 189 53 [(2, 0), (9, 0), (0, b), (0, s), (0, r), (0, z32 (c + 1))] [] w 238 0 K else zwp 189 83 [(2, 0), (9, 0), (0, b), (0, s), (0, r), (0, c)] [(0, b), (0, c), (2, 0)] w 238 0 K) from zmZ (fun h => zmI (fun h => h) (fun h => (fun h => show zwp 189 83 [(2, 0), (9, 0), (0, b), (0, s), (0, r), (0, c)] [(0, b), (0, c), (2, 0)] w 238 0 K from zgo_imp zT148_ok (cut := fun pc => Nat.beq pc 14 || Nat.beq pc 33 || Nat.beq pc 37 || Nat.beq pc 49 || Nat.beq pc 53 || Nat.beq pc 66 || Nat.beq pc 83 || Nat.beq pc 86) 400 (show (zNt w ∧ zRd 30 w ∧ (0 ≤ c ∧ c < w 95 0) ∧ 0 ≤ w 92 c.toNat ∧ w 92 c.toNat ≤ 1000000000) ∧ (zwp 189 86 [(2, 0), (9, 0), (0, b), (0, s), (0, r), (0, c)] [(0, zYC (zYA w c) (w 92 c.toNat) (zYL w 30 b c) (w 92))] (zYw w 92 (zYA w c) (w 92 c.toNat) (zYL w 30 b c)) 238 0 K) from zmA (fun h => (fun h => show zwp 189 86 [(2, 0), (9, 0), (0, b), (0, s), (0, r), (0, c)] [(0, zYC (zYA w c) (w 92 c.toNat) (zYL w 30 b c) (w 92))] (zYw w 92 (zYA w c) (w 92 c.toNat) (zYL w 30 b c)) 238 0 K from zgo_imp zT148_ok (cut := fun pc => Nat.beq pc 14 || Nat.beq pc 33 || Nat.beq pc 37 || Nat.beq pc 49 || Nat.beq pc 53 || Nat.beq pc 66 || Nat.beq pc 83 || Nat.beq pc 86) 400 (show if zYC (zYA w c) (w 92 c.toNat) (zYL w 30 b c) (w 92) = 0 then zwp 189 53 [(2, 0), (9, 0), (0, b), (0, s), (0, r), (0, z32 (c + 1))] [] (zYw w 92 (zYA w c) (w 92 c.toNat) (zYL w 30 b c)) 238 0 K else zwp 189 53 [(2, 0), (9, 0), (0, b), (0, 1), (0, r), (0, z32 (c + 1))] [] (zYw w 92 (zYA w c) (w 92 c.toNat) (zYL w 30 b c)) 238 0 K from h)) h) h)) h) h) h)) h) (fun h => h) h)) ?_
    have hn := hN.n
    rw [z32_id (x := c + 1) ⟨by omega, by omega⟩]
    refine ziT (by omega) (zifI (by omega) ?_)
    have e : zYf (zYA w) (zYL w 30 b) (m + 1) c (w 92) = zYf (zYA w) (zYL w 30 b) m (c + 1) (zYs (zYA w) (zYL w 30 b) c (w 92)) := rfl
    rw [e] at h
    by_cases g : w 92 c.toNat = -1
    · rw [show zYs (zYA w) (zYL w 30 b) c (w 92) = w 92 from if_pos g] at h
      exact ziT g (ih (c + 1) s w hN hr (by omega) (by omega) (h3.mono (by omega)) h4 h)
    · rw [show zYs (zYA w) (zYL w 30 b) c (w 92) = zYp (zYA w c) (w 92 c.toNat) (zYL w 30 b c) (w 92) from if_neg g] at h
      have hb := h3 c.toNat (by omega)
      refine ziF g ⟨⟨hN, hr, ⟨h1, by omega⟩, by omega, by omega⟩, ?_⟩
      have N2 : zNt (zYw w 92 (zYA w c) (w 92 c.toNat) (zYL w 30 b c)) := zNt_fr (fun p hp => zYw_ne (by omega)) hN
      have R2 : zRd 30 (zYw w 92 (zYA w c) (w 92 c.toNat) (zYL w 30 b c)) := zRd_fr (zYw_ne (by decide)) (zYw_ne (by decide)) hr
      have B2 := zYB_p (P := zYA w c) (L := zYL w 30 b c) h3 (x := w 92 c.toNat) (by omega) (by omega) (fun v hv => by
        have := zYL_rg hr b ⟨h1, by omega⟩ hv.1 hv.2.1
        omega)
      have ew : zYw w 92 (zYA w c) (w 92 c.toNat) (zYL w 30 b c) 92 = zYp (zYA w c) (w 92 c.toNat) (zYL w 30 b c) (w 92) := zfill_at w 92 _
      have fin : ∀ s2 : Int, (s2 = 0 ∨ s2 = 1) → (s2 = 0 → zYC (zYA w c) (w 92 c.toNat) (zYL w 30 b c) (w 92) = 0 ∧ s = 0) → zwp 189 53 [(2, 0), (9, 0), (0, b), (0, s2), (0, r), (0, c + 1)] [] (zYw w 92 (zYA w c) (w 92 c.toNat) (zYL w 30 b c)) 238 0 K := fun s2 a1 a2 => by
        refine ih (c + 1) s2 _ N2 R2 (by omega) (by rw [zYw_ne (by decide)]; omega) (by rw [ew]; exact B2.mono (by omega)) a1 (fun s' d5 b1 b2 => ?_)
        rw [ew] at b2 ⊢
        rw [show zfill (zYw w 92 (zYA w c) (w 92 c.toNat) (zYL w 30 b c)) 92 = zfill w 92 from funext fun g => zfill_fill w 92 _ g]
        refine h s' d5 b1 fun q => ?_
        have b3 := b2 q
        have a3 := a2 b3.2
        exact ⟨b3.1.trans (zYp_id a3.1), a3.2⟩
      rcases zYC_01 (zYA w c) (w 92 c.toNat) (zYL w 30 b c) (w 92) with g2 | g2
      · exact ziT g2 (fin s h4 fun q => ⟨g2, q⟩)
      · exact ziF (by omega) (fin 1 (Or.inr rfl) fun q => absurd q (by decide))
set_option maxRecDepth 100000 in
theorem zk189_L37 {K : zK} (b : Int)  : ∀ (m : Nat) (r s : Int) (w : zW) (d1 d5 : zV), (zNt w) → (zRd 30 w) → (0 ≤ r) → (r + m = 12) → (zYB (24000000 * r) (w 92)) → (s = 0 ∨ s = 1) → (s = 0 → zYf (zYA w) (zYL w 30 b) (w 95 0).toNat 0 (w 92) = w 92) → (K (0, none) (zfill w 92 (zYr (zYA w) (zYL w 30 b) (w 95 0) m (w 92))) 238) → zwp 189 37 [(2, 0), d1, (0, b), (0, s), (0, r), d5] [] w 238 0 K := by
  
  intro m
  induction m with
  | zero =>
    intro r s w d1 d5 hN hr h1 h2 h3 h4 h5 h
    refine (show (if r < 12 then if s = 0 then K (0, none) w 238 else zwp 189 53 [(2, 0), (9, 0), (0, b), (0, 0), (0, r), (0, 0)] [] w 238 0 K else K (0, none) w 238) → _ from fun h => show zwp 189 37 [(2, 0), d1, (0, b), (0, s), (0, r), d5] [] w 238 0 K from zgo_imp zT148_ok (cut := fun pc => Nat.beq pc 14 || Nat.beq pc 33 || Nat.beq pc 37 || Nat.beq pc 49 || Nat.beq pc 53 || Nat.beq pc 66 || Nat.beq pc 83 || Nat.beq pc 86) 400 (show if r < 12 then if s = 0 then K (0, none) w 238 else zwp 189 49 [(2, 0), (9, 0), (0, b), (0, s), (0, r), (9, 0)] [(0, 0)] w 238 0 K else K (0, none) w 238 from zmI (fun h => zmI (fun h => h) (fun h => (fun h => show zwp 189 49 [(2, 0), (9, 0), (0, b), (0, s), (0, r), (9, 0)] [(0, 0)] w 238 0 K from zgo_imp zT148_ok (cut := fun pc => Nat.beq pc 14 || Nat.beq pc 33 || Nat.beq pc 37 || Nat.beq pc 49 || Nat.beq pc 53 || Nat.beq pc 66 || Nat.beq pc 83 || Nat.beq pc 86) 400 (show zwp 189 53 [(2, 0), (9, 0), (0, b), (0, 0), (0, r), (0, 0)] [] w 238 0 K from h)) h) h) (fun h => h) h)) ?_
    rw [show zYr (zYA w) (zYL w 30 b) (w 95 0) 0 (w 92) = w 92 from rfl, zfill_self] at h
    exact ziF (by omega) h
  | succ m ih =>
    intro r s w d1 d5 hN hr h1 h2 h3 h4 h5 h
    refine (show (if r < 12 then if s = 0 then K (0, none) w 238 else zwp 189 53 [(2, 0), (9, 0), (0, b), (0, 0), (0, r), (0, 0)] [] w 238 0 K else K (0, none) w 238) → _ from fun h => show zwp 189 37 [(2, 0), d1, (0, b), (0, s), (0, r), d5] [] w 238 0 K from zgo_imp zT148_ok (cut := fun pc => Nat.beq pc 14 || Nat.beq pc 33 || Nat.beq pc 37 || Nat.beq pc 49 || Nat.beq pc 53 || Nat.beq pc 66 || Nat.beq pc 83 || Nat.beq pc 86) 400 (show if r < 12 then if s = 0 then K (0, none) w 238 else zwp 189 49 [(2, 0), (9, 0), (0, b), (0, s), (0, r), (9, 0)] [(0, 0)] w 238 0 K else K (0, none) w 238 from zmI (fun h => zmI (fun h => h) (fun h => (fun h => show zwp 189 49 [(2, 0), (9, 0), (0, b), (0, s), (0, r), (9, 0)] [(0, 0)] w 238 0 K from zgo_imp zT148_ok (cut := fun pc => Nat.beq pc 14 || Nat.beq pc 33 || Nat.beq pc 37 || Nat.beq pc 49 || Nat.beq pc 53 || Nat.beq pc 66 || Nat.beq pc 83 || Nat.beq pc 86) 400 (show zwp 189 53 [(2, 0), (9, 0), (0, b), (0, 0), (0, r), (0, 0)] [] w 238 0 K from h)) h) h) (fun h => h) h)) ?_
    have hn := hN.n
    refine ziT (by omega) ?_
    by_cases g : s = 0
    · rw [zYr_fix (h5 g), zfill_self] at h
      exact ziT g h
    · refine ziF g ?_
      refine zk189_L53 b r ⟨by omega, by omega⟩ (w 95 0).toNat 0 0 w hN hr (by omega) (by omega) (h3.mono (by omega)) (Or.inl rfl) (fun s' d5 b1 b2 => ?_)
      rw [z32_id (x := r + 1) ⟨by omega, by omega⟩]
      have ew := zfill_at w 92 (zYf (zYA w) (zYL w 30 b) (w 95 0).toNat 0 (w 92))
      have BF := zYB_f (A := zYA w) (L := zYL w 30 b) (fun c v hv c0 c1 => by
        by_cases hc : c < w 95 0
        · have := zYL_rg hr b ⟨c0, hc⟩ hv.1 hv.2.1
          omega
        · exfalso
          obtain ⟨v0, v1, g⟩ := hv
          refine g ?_
          rcases hN.tab.2.2 c v c0 c1 v0 (by omega) with q | q
          · rcases hN.tab.2.2 v c v0 (by omega) c0 c1 with q2 | q2
            · exact ⟨q, q2⟩
            · omega
          · omega) (w 95 0).toNat 0 _ (w 92) (by omega) (by omega) h3
      refine ih (r + 1) s' _ _ _ (zNt_fr (fun p hp => zfill_no (by omega)) hN) (zRd_fr (zfill_no (by decide)) (zfill_no (by decide)) hr) (by omega) (by omega) (by rw [ew]; exact BF.mono (by omega)) b1 (fun q => ?_) ?_
      · rw [ew]
        have b3 := (b2 q).1
        show zYf (zYA w) (zYL w 30 b) (w 95 0).toNat 0 (zYf (zYA w) (zYL w 30 b) (w 95 0).toNat 0 (w 92)) = _
        rw [b3]; exact b3
      · rw [ew, zfill_fill]
        exact h
set_option maxRecDepth 100000 in
theorem zk189_L2 {w : zW} {K : zK} (hN : zNt w) (hr : zRd 30 w) (f b : Int)  : ∀ (m : Nat) (c : Int) (d4 d5 : zV), (0 ≤ c) → (c + m = 12) → (K (0, none) (zfill w 92 (zYd w 30 b f (w 92))) 238) → zwp 189 2 [(2, 0), (0, f), (0, b), (0, c), d4, d5] [] (zfill w 92 (zYi f c (w 92))) 238 0 K := by
  
  intro m
  induction m with
  | zero =>
    intro c d4 d5 h1 h2 h
    refine (show (if c < 12 then if c = f then zif False (0 ≤ c ∧ c < 12) (zwp 189 2 [(2, 0), (0, f), (0, b), (0, z32 (c + 1)), (9, 0), (9, 0)] [] (zupd (zfill w 92 (zYi f c (w 92))) 92 c.toNat 0) 238 0 K) else zif False (0 ≤ c ∧ c < 12) (zwp 189 2 [(2, 0), (0, f), (0, b), (0, z32 (c + 1)), (9, 0), (9, 0)] [] (zupd (zfill w 92 (zYi f c (w 92))) 92 c.toNat (-1)) 238 0 K) else zwp 189 37 [(2, 0), (0, f), (0, b), (0, 1), (0, 0), (9, 0)] [] (zfill w 92 (zYi f c (w 92))) 238 0 K) → _ from fun h => show zwp 189 2 [(2, 0), (0, f), (0, b), (0, c), d4, d5] [] (zfill w 92 (zYi f c (w 92))) 238 0 K from zgo_imp zT148_ok (cut := fun pc => Nat.beq pc 2 || Nat.beq pc 14 || Nat.beq pc 33 || Nat.beq pc 37 || Nat.beq pc 49 || Nat.beq pc 66 || Nat.beq pc 83 || Nat.beq pc 86) 400 (show if c < 12 then zwp 189 14 [(2, 0), (0, f), (0, b), (0, c), (9, 0), (9, 0)] [(0, c), (0, c), (2, 92)] (zfill w 92 (zYi f c (w 92))) 238 0 K else zwp 189 33 [(2, 0), (0, f), (0, b), (0, c), (9, 0), (9, 0)] [(0, 1)] (zfill w 92 (zYi f c (w 92))) 238 0 K from zmI (fun h => (fun h => show zwp 189 14 [(2, 0), (0, f), (0, b), (0, c), (9, 0), (9, 0)] [(0, c), (0, c), (2, 92)] (zfill w 92 (zYi f c (w 92))) 238 0 K from zgo_imp zT148_ok (cut := fun pc => Nat.beq pc 2 || Nat.beq pc 14 || Nat.beq pc 33 || Nat.beq pc 37 || Nat.beq pc 49 || Nat.beq pc 66 || Nat.beq pc 83 || Nat.beq pc 86) 400 (show if c = f then zif False (0 ≤ c ∧ c < 12) (zwp 189 2 [(2, 0), (0, f), (0, b), (0, z32 (c + 1)), (9, 0), (9, 0)] [] (zupd (zfill w 92 (zYi f c (w 92))) 92 c.toNat 0) 238 0 K) else zif False (0 ≤ c ∧ c < 12) (zwp 189 2 [(2, 0), (0, f), (0, b), (0, z32 (c + 1)), (9, 0), (9, 0)] [] (zupd (zfill w 92 (zYi f c (w 92))) 92 c.toNat (-1)) 238 0 K) from h)) h) (fun h => (fun h => show zwp 189 33 [(2, 0), (0, f), (0, b), (0, c), (9, 0), (9, 0)] [(0, 1)] (zfill w 92 (zYi f c (w 92))) 238 0 K from zgo_imp zT148_ok (cut := fun pc => Nat.beq pc 2 || Nat.beq pc 14 || Nat.beq pc 33 || Nat.beq pc 37 || Nat.beq pc 49 || Nat.beq pc 66 || Nat.beq pc 83 || Nat.beq pc 86) 400 (show zwp 189 37 [(2, 0), (0, f), (0, b), (0, 1), (0, 0), (9, 0)] [] (zfill w 92 (zYi f c (w 92))) 238 0 K from h)) h) h)) ?_
    rw [show c = 12 by omega]
    have ew := zfill_at w 92 (zYi f 12 (w 92))
    refine ziF (by omega) (zk189_L37 b 12 0 1 (zfill w 92 (zYi f 12 (w 92))) _ _ (zNt_fr (fun p hp => zfill_no (by omega)) hN) (zRd_fr (zfill_no (by decide)) (zfill_no (by decide)) hr) (by omega) (by omega) (fun k hk => ?_) (Or.inr rfl) (fun q => absurd q (by decide)) ?_)
    · rw [ew]; unfold zYi; rw [if_pos (by omega)]; split <;> omega
    · rw [ew, zfill_fill]
      exact h
  | succ m ih =>
    intro c d4 d5 h1 h2 h
    refine (show (if c < 12 then if c = f then zif False (0 ≤ c ∧ c < 12) (zwp 189 2 [(2, 0), (0, f), (0, b), (0, z32 (c + 1)), (9, 0), (9, 0)] [] (zupd (zfill w 92 (zYi f c (w 92))) 92 c.toNat 0) 238 0 K) else zif False (0 ≤ c ∧ c < 12) (zwp 189 2 [(2, 0), (0, f), (0, b), (0, z32 (c + 1)), (9, 0), (9, 0)] [] (zupd (zfill w 92 (zYi f c (w 92))) 92 c.toNat (-1)) 238 0 K) else zwp 189 37 [(2, 0), (0, f), (0, b), (0, 1), (0, 0), (9, 0)] [] (zfill w 92 (zYi f c (w 92))) 238 0 K) → _ from fun h => show zwp 189 2 [(2, 0), (0, f), (0, b), (0, c), d4, d5] [] (zfill w 92 (zYi f c (w 92))) 238 0 K from zgo_imp zT148_ok (cut := fun pc => Nat.beq pc 2 || Nat.beq pc 14 || Nat.beq pc 33 || Nat.beq pc 37 || Nat.beq pc 49 || Nat.beq pc 66 || Nat.beq pc 83 || Nat.beq pc 86) 400 (show if c < 12 then zwp 189 14 [(2, 0), (0, f), (0, b), (0, c), (9, 0), (9, 0)] [(0, c), (0, c), (2, 92)] (zfill w 92 (zYi f c (w 92))) 238 0 K else zwp 189 33 [(2, 0), (0, f), (0, b), (0, c), (9, 0), (9, 0)] [(0, 1)] (zfill w 92 (zYi f c (w 92))) 238 0 K from zmI (fun h => (fun h => show zwp 189 14 [(2, 0), (0, f), (0, b), (0, c), (9, 0), (9, 0)] [(0, c), (0, c), (2, 92)] (zfill w 92 (zYi f c (w 92))) 238 0 K from zgo_imp zT148_ok (cut := fun pc => Nat.beq pc 2 || Nat.beq pc 14 || Nat.beq pc 33 || Nat.beq pc 37 || Nat.beq pc 49 || Nat.beq pc 66 || Nat.beq pc 83 || Nat.beq pc 86) 400 (show if c = f then zif False (0 ≤ c ∧ c < 12) (zwp 189 2 [(2, 0), (0, f), (0, b), (0, z32 (c + 1)), (9, 0), (9, 0)] [] (zupd (zfill w 92 (zYi f c (w 92))) 92 c.toNat 0) 238 0 K) else zif False (0 ≤ c ∧ c < 12) (zwp 189 2 [(2, 0), (0, f), (0, b), (0, z32 (c + 1)), (9, 0), (9, 0)] [] (zupd (zfill w 92 (zYi f c (w 92))) 92 c.toNat (-1)) 238 0 K) from h)) h) (fun h => (fun h => show zwp 189 33 [(2, 0), (0, f), (0, b), (0, c), (9, 0), (9, 0)] [(0, 1)] (zfill w 92 (zYi f c (w 92))) 238 0 K from zgo_imp zT148_ok (cut := fun pc => Nat.beq pc 2 || Nat.beq pc 14 || Nat.beq pc 33 || Nat.beq pc 37 || Nat.beq pc 49 || Nat.beq pc 66 || Nat.beq pc 83 || Nat.beq pc 86) 400 (show zwp 189 37 [(2, 0), (0, f), (0, b), (0, 1), (0, 0), (9, 0)] [] (zfill w 92 (zYi f c (w 92))) 238 0 K from h)) h) h)) ?_
    rw [z32_id (x := c + 1) ⟨by omega, by omega⟩]
    have u := zYi_up (w := w) (p := 92) (f := f) h1
    refine ziT (by omega) ?_
    by_cases g : c = f
    · rw [if_pos g] at u
      refine ziT g (zifI (by omega) ?_)
      rw [u]
      exact ih (c + 1) _ _ (by omega) (by omega) h
    · rw [if_neg g] at u
      refine ziF g (zifI (by omega) ?_)
      rw [u]
      exact ih (c + 1) _ _ (by omega) (by omega) h
/-! .measureWays -/
set_option maxRecDepth 100000 in
theorem zk189_0 (f b : Int) (w : zW) (K : zK) (h : (zNt w ∧ zRd 30 w) ∧ ((∀ v : zW, ((∀ p : Nat, p ≠ 92 → v p = w p) ∧ ∀ k : Nat, k < 12 → v 92 k = zYe w 30 b f k) → (K (0, none) (v) 238)))) : zcall 189 [(2, 0), (0, f), (0, b), (9, 0), (9, 0), (9, 0)] w 238 K := by
  obtain ⟨hg, h⟩ := h
  refine (show (zwp 189 2 [(2, 0), (0, f), (0, b), (0, 0), (9, 0), (9, 0)] [] w 238 0 K) → _ from fun h => show zwp 189 0 [(2, 0), (0, f), (0, b), (9, 0), (9, 0), (9, 0)] [] w 238 0 K from zgo_imp zT148_ok (cut := fun pc => Nat.beq pc 2 || Nat.beq pc 14 || Nat.beq pc 33 || Nat.beq pc 49 || Nat.beq pc 66 || Nat.beq pc 83 || Nat.beq pc 86) 400 (show zwp 189 2 [(2, 0), (0, f), (0, b), (0, 0), (9, 0), (9, 0)] [] w 238 0 K from h)) ?_
  have := zk189_L2 hg.1 hg.2 f b 12 0 (9, 0) (9, 0) (by omega) (by omega) (h _ ⟨fun p hp => zfill_no hp, fun k hk => by rw [zfill_at]; exact zYd_e hg.1.n.2.2.1 30 b f (w 92) hk⟩)
  rw [zYi_0] at this
  exact this
noncomputable def zb189 (l0 : List zV) (w : zW) (K : zK) : Prop := cond (zis0 (zar l0 0)) (zA l0 1 fun f => zA l0 2 fun b => (zNt w ∧ zRd 30 w) ∧ ((∀ v : zW, ((∀ p : Nat, p ≠ 92 → v p = w p) ∧ ∀ k : Nat, k < 12 → v 92 k = zYe w 30 b f k) → (K (0, none) (v) 238)))) (False)
noncomputable def zT149 : zSum := zsm1 189 [2, 0, 0, 9, 9, 9] zb189 zT148
theorem zT149_ok : zSok zT149 := zsm1_ok zT148_ok fun l0 w K h => by
  unfold zb189 at h
  cases q0 : zis0 (zar l0 0) with
  | true =>
    rw [q0, cond_true] at h
    have e : zar l0 0 = 0 := zis0_e q0
    show zcall 189 [(2, zar l0 0), (0, zar l0 1), (0, zar l0 2), (9, 0), (9, 0), (9, 0)] w 238 K
    rw [e]
    exact zk189_0 (zar l0 1) (zar l0 2) w K (zA_e (zA_e h))
  | false =>
  rw [q0, cond_false] at h
  exact h.elim

/-! ===== what questions answer: class and model alike (written by wip/whole/gen_c.py) ===== -/
theorem zJv.jr {w : zW} (J : zJv w) {c : Int} (c0 : 0 ≤ c) (c1 : c < w 95 0) : w 30 c.toNat = w 98 c.toNat := J.rl.1.1.2.2 c c0 c1
theorem zJv.jp {w : zW} (J : zJv w) {c : Int} (c0 : 0 ≤ c) (c1 : c < 12) : w 33 c.toNat = zml w c := J.rl.1.2.2.1 c c0 c1
theorem zJv.ju {w : zW} (J : zJv w) : w 29 5 = w 102 0 ∧ 0 ≤ w 102 0 ∧ w 102 0 ≤ 12 := J.2.1.2.1
theorem zJv.jo {w : zW} (J : zJv w) {i : Int} (i0 : 0 ≤ i) (i1 : i < w 102 0) : w 34 i.toNat = w 103 i.toNat := J.rl.1.2.2.2.1 i i0 i1
theorem zJv.jx {w : zW} (J : zJv w) {c : Int} (c0 : 0 ≤ c) (c1 : c < 12) (x : zml w c = 1) : w 31 c.toNat = w 104 c.toNat ∧ w 32 c.toNat = w 105 c.toNat := J.rl.1.2.2.2.2 c c0 c1 x
theorem zJv.jn {w : zW} (J : zJv w) {c : Int} (c0 : 0 ≤ c) (c1 : c < 12) (x : zml w c = 1) : c < w 95 0 := (J.i.2.2.2.1.1.1 c c0 c1 x).1
theorem zJv.hq {w : zW} (J : zJv w) {c own ch : Int} (c0 : 0 ≤ c) (c1 : c < w 95 0) : zHq w 30 c own ch = zHq w 98 c own ch := J.rl.1.1.hq c0 c1
theorem zJv.df {w : zW} (J : zJv w) {c : Int} (c0 : 0 ≤ c) (c1 : c < w 95 0) : zDf w 30 c = zDf w 98 c := by
  unfold zDf
  rw [J.hq c0 c1, J.jr c0 c1]
theorem zJv.wr {w : zW} (J : zJv w) : zWr w 30 (w 95 0).toNat 0 (-1) (-1) = zWr w 98 (w 95 0).toNat 0 (-1) (-1) :=
  zWr_congr rfl _ _ _ _ fun c c0 c1 => J.df c0 (by have := J.1.n; omega)
theorem zJv.cl {w : zW} (J : zJv w) : zSm (fun c => zHq w 30 c (w 30 c.toNat) 0) (w 95 0).toNat 0 = zSm (fun c => zHq w 98 c (w 98 c.toNat) 0) (w 95 0).toNat 0 :=
  zSm_congr _ 0 fun c c0 c1 => by
    have c1 : c < w 95 0 := by have := J.1.n; omega
    show zHq w 30 c (w 30 c.toNat) 0 = zHq w 98 c (w 98 c.toNat) 0
    rw [J.hq c0 c1, J.jr c0 c1]
theorem zJv.lo {w : zW} (J : zJv w) {c : Int} (c0 : 0 ≤ c) (c1 : c < w 95 0) (s : Int) : zLo w 30 c s = zLo w 98 c s := by
  unfold zLo
  rw [J.hq c0 c1, J.jr c0 c1]
theorem zJv.hi {w : zW} (J : zJv w) {c : Int} (c0 : 0 ≤ c) (c1 : c < w 95 0) (s : Int) : zHi w 30 c s = zHi w 98 c s := by
  unfold zHi
  rw [J.hq c0 c1, J.jr c0 c1]
theorem zJv.wi {w : zW} (J : zJv w) {c : Int} (c0 : 0 ≤ c) (c1 : c < w 95 0) (s b : Int) : zWi w 30 c s b ↔ zWi w 98 c s b := by
  unfold zWi
  rw [J.lo c0 c1, J.hi c0 c1]
theorem zJv.uc {w : zW} (J : zJv w) (s b : Int) : zUc w 30 s b = zUc w 98 s b := by
  unfold zUc
  refine zFi_congr _ 0 fun j j0 j1 => ?_
  rw [J.wi j0 (by have := J.1.n; omega)]
theorem zJv.gs {w : zW} (J : zJv w) (b : Int) : zGs w 30 b = zGs w 98 b := by
  have e : zGsP w 30 b = zGsP w 98 b := by
    funext s
    unfold zGsP
    simp only [J.uc]
  unfold zGs
  rw [e]
theorem zJv.us {w : zW} (J : zJv w) : zFi (zUs w 30) (w 95 0).toNat 0 = zFi (zUs w 98) (w 95 0).toNat 0 := by
  refine zFi_congr _ 0 fun c c0 c1 => ?_
  have c1 : c < w 95 0 := by have := J.1.n; omega
  show (zSb w c ∧ zSR w 30 c ≠ w 30 c.toNat) ↔ (zSb w c ∧ zSR w 98 c ≠ w 98 c.toNat)
  rw [J.rl.1.1.sr c0 c1, J.jr c0 c1]
theorem zJv.pe {w : zW} (J : zJv w) {c : Int} (c0 : 0 ≤ c) (c1 : c < w 95 0) : zSm (fun k => w 30 (zIt (zLst (zF0 w) (w 95 0)) k.toNat c).toNat + w 30 (zIt (zLst (zF0 w) (w 95 0)) (k + 1).toNat c).toNat) (zBd (zF0 w) (w 95 0) c).toNat 0 = zSm (fun k => w 98 (zIt (zLst (zF0 w) (w 95 0)) k.toNat c).toNat + w 98 (zIt (zLst (zF0 w) (w 95 0)) (k + 1).toNat c).toNat) (zBd (zF0 w) (w 95 0) c).toNat 0 := by
  refine zSm_congr _ 0 fun j j0 j1 => ?_
  have hk : zKd (zF0 w) (w 95 0) c = 1 := by
    refine Classical.byContradiction fun q => ?_
    have e : zBd (zF0 w) (w 95 0) c = 0 := if_neg q
    rw [e] at j1
    exact absurd j1 (by show ¬ j < 0 + ((0 : Nat) : Int); omega)
  have g1 := zLst_it J.1.1.tab J.1.rw c0 c1 hk j.toNat
  have g2 := zLst_it J.1.1.tab J.1.rw c0 c1 hk (j + 1).toNat
  show w 30 _ + w 30 _ = w 98 _ + w 98 _
  rw [J.jr g1.1 g1.2.1, J.jr g2.1 g2.2.1]
theorem zYp_L {P : Int → Prop} {x : Int} {L L' : Int → Int} {D : Nat → Int} (h : ∀ k : Nat, P k → L k = L' k) : zYp P x L D = zYp P x L' D := by
  funext k
  by_cases p : P k
  · have e := h k p
    by_cases g : zYb x L D k
    · have g' : zYb x L' D k := by unfold zYb at g ⊢; rw [← e]; exact g
      rw [zYp_y p g, zYp_y p g', e]
    · have g' : ¬ zYb x L' D k := by unfold zYb at g ⊢; rw [← e]; exact g
      rw [zYp_n fun q => g q.2, zYp_n fun q => g' q.2]
  · rw [zYp_n fun q => p q.1, zYp_n fun q => p q.1]
theorem zYf_L {A : Int → Int → Prop} {L L' : Int → Int → Int} {n : Int} (h : ∀ (c : Int) (k : Nat), 0 ≤ c → c < n → A c k → L c k = L' c k) : ∀ (m : Nat) (c : Int) (D : Nat → Int), 0 ≤ c → c + m ≤ n → zYf A L m c D = zYf A L' m c D := by
  intro m
  induction m with
  | zero => exact fun _ _ _ _ => rfl
  | succ m ih =>
    intro c D c0 c1
    have e : zYs A L c D = zYs A L' c D := by
      unfold zYs
      rw [zYp_L fun k p => h c k c0 (by omega) p]
    show zYf A L m (c + 1) (zYs A L c D) = zYf A L' m (c + 1) (zYs A L' c D)
    rw [e]
    exact ih _ _ (by omega) (by omega)
theorem zYr_L {A : Int → Int → Prop} {L L' : Int → Int → Int} {n : Int} (hn : 0 ≤ n) (h : ∀ (c : Int) (k : Nat), 0 ≤ c → c < n → A c k → L c k = L' c k) : ∀ (r : Nat) (D : Nat → Int), zYr A L n r D = zYr A L' n r D := by
  intro r
  induction r with
  | zero => exact fun _ => rfl
  | succ r ih =>
    intro D
    show zYr A L n r (zYf A L n.toNat 0 D) = zYr A L' n r (zYf A L' n.toNat 0 D)
    rw [zYf_L h n.toNat 0 D (by decide) (by omega)]
    exact ih _
theorem zJv.ye {w : zW} (J : zJv w) (f : Int) : zYe w 30 1 f = zYe w 98 1 f := by
  unfold zYe zYd
  refine zYr_L (by have := J.1.n; omega) (fun c k c0 c1 a => ?_) 12 _
  have a : 0 ≤ (k : Int) ∧ (k : Int) < w 95 0 ∧ ¬ zap (zF0 w) c k := a
  show (if (1 : Int) = 0 then (1 : Int) else w 30 c.toNat + w 30 (k : Int).toNat) = if (1 : Int) = 0 then 1 else w 98 c.toNat + w 98 (k : Int).toNat
  rw [if_neg (by decide), if_neg (by decide), J.jr c0 c1, J.jr a.1 a.2.1]
theorem zJv.gp {w : zW} (J : zJv w) {a b : Int} (a0 : 0 ≤ a ∧ a < 12) (b0 : 0 ≤ b ∧ b < 12) (ma : zml w a = 1) (mb : zml w b = 1) : zGp (w 31) (w 32) (w 30) a b = zGp (w 104) (w 105) (w 98) a b := by
  have x := J.jx a0.1 a0.2 ma
  have y := J.jx b0.1 b0.2 mb
  unfold zGp
  rw [x.1, x.2, y.1, y.2, J.jr a0.1 (J.jn a0.1 a0.2 ma), J.jr b0.1 (J.jn b0.1 b0.2 mb)]
theorem zFd_cg {α : Type} {f g : Int → α → α} : ∀ (m : Nat) (i : Int) (a : α), (∀ j s, i ≤ j → j < i + m → f j s = g j s) → zFd f m i a = zFd g m i a
  | 0, _, _, _ => rfl
  | m + 1, i, a, h => by
    show zFd f m (i + 1) (f i a) = zFd g m (i + 1) (g i a)
    rw [h i a (by omega) (by omega)]
    exact zFd_cg m (i + 1) _ fun j s j0 j1 => h j s (by omega) (by omega)
theorem zFd_iv {α : Type} {f : Int → α → α} {Q : α → Prop} : ∀ (m : Nat) (i : Int) (a : α), Q a → (∀ j s, i ≤ j → j < i + m → Q s → Q (f j s)) → Q (zFd f m i a)
  | 0, _, _, h, _ => h
  | m + 1, i, a, h, g => zFd_iv m (i + 1) (f i a) (g i a (by omega) (by omega) h) fun j s j0 j1 q => g j s (by omega) (by omega) q
theorem zLp_cg {C C' G G' : Int → Int → Int} {n : Int} (hn : 0 ≤ n) (hc : ∀ a b, 0 ≤ a → a < b → b < n → C a b = C' a b) (hg : ∀ a b, 0 ≤ a → a < b → b < n → C a b = 1 → G a b = G' a b) : zLp C G n = zLp C' G' n := by
  unfold zLp
  refine zFd_cg _ _ _ fun a s a0 a1 => ?_
  unfold zLpO
  refine zFd_cg _ _ _ fun b s b0 b1 => ?_
  have e := hc a b a0 (by omega) (by omega)
  unfold zLpS
  by_cases q : C a b = 1
  · rw [hg a b a0 (by omega) (by omega) q, e]
  · rw [if_neg fun z => q z.1, if_neg fun z => q (by rw [e]; exact z.1)]
theorem zLp_sp (C G : Int → Int → Int) {n : Int} (hn : 0 ≤ n) : zLp C G n = (-1, -1) ∨ ∃ a b, 0 ≤ a ∧ a < b ∧ b < n ∧ C a b = 1 ∧ zLp C G n = (G a b, 12 * a + b) := by
  unfold zLp
  refine zFd_iv (Q := fun s : Int × Int => s = (-1, -1) ∨ ∃ a b, 0 ≤ a ∧ a < b ∧ b < n ∧ C a b = 1 ∧ s = (G a b, 12 * a + b)) _ _ _ (Or.inl rfl) fun a s a0 a1 h => ?_
  unfold zLpO
  refine zFd_iv (Q := fun s : Int × Int => s = (-1, -1) ∨ ∃ a b, 0 ≤ a ∧ a < b ∧ b < n ∧ C a b = 1 ∧ s = (G a b, 12 * a + b)) _ _ _ h fun b s b0 b1 h => ?_
  unfold zLpS
  by_cases q : C a b = 1 ∧ s.1 < G a b
  · rw [if_pos q]
    exact Or.inr ⟨a, b, a0, by omega, by omega, q.1, rfl⟩
  · rw [if_neg q]; exact h
theorem zJv.pl {w : zW} (J : zJv w) {c : Int} (c0 : 0 ≤ c) (c1 : c < 12) : w 33 c.toNat = 1 ↔ zml w c = 1 := by rw [J.jp c0 c1]
theorem zJv.lp {w : zW} (J : zJv w) : zLp (zCn (zF0 w) (fun c => w 33 c.toNat)) (fun a b => zab (zGp (w 31) (w 32) (w 30) a b)) (w 95 0) = zLp (zCn (zF0 w) (zml w)) (fun a b => zab (zGp (w 104) (w 105) (w 98) a b)) (w 95 0) := by
  have hn := J.1.n
  refine zLp_cg (by omega) (fun a b a0 b0 b1 => ?_) fun a b a0 b0 b1 q => ?_
  · unfold zCn
    show (if w 33 a.toNat = 1 ∧ w 33 b.toNat = 1 ∧ ¬ zap (zF0 w) a b then (1 : Int) else 0) = _
    rw [J.jp a0 (by omega), J.jp (c := b) (by omega) (by omega)]
  · unfold zCn at q
    by_cases g : w 33 a.toNat = 1 ∧ w 33 b.toNat = 1 ∧ ¬ zap (zF0 w) a b
    · show zab _ = zab _
      rw [J.gp ⟨a0, by omega⟩ ⟨by omega, by omega⟩ ((J.pl a0 (by omega)).mp g.1) ((J.pl (by omega) (by omega)).mp g.2.1)]
    · rw [if_neg g] at q
      exact absurd q (by decide)
theorem zJv.ov {w : zW} (J : zJv w) (d : Int) : zOv (zCo (zF0 w) (fun c => w 33 c.toNat)) (fun a b => zGp (w 31) (w 32) (w 30) a b) (w 95 0) d = zOv (zCo (zF0 w) (zml w)) (fun a b => zGp (w 104) (w 105) (w 98) a b) (w 95 0) d := by
  have hn := J.1.n
  unfold zOv
  refine zSm_congr _ 0 fun a a0 a1 => ?_
  unfold zOvO
  refine zSm_congr _ _ fun b b0 b1 => ?_
  have e : zCo (zF0 w) (fun c => w 33 c.toNat) a b = zCo (zF0 w) (zml w) a b := by
    unfold zCo
    show (if w 33 a.toNat = 1 ∧ w 33 b.toNat = 1 ∧ zap (zF0 w) a b then (1 : Int) else 0) = _
    rw [J.jp a0 (by omega), J.jp (c := b) (by omega) (by omega)]
  show (if zCo (zF0 w) (fun c => w 33 c.toNat) a b = 1 ∧ zGp (w 31) (w 32) (w 30) a b < -d then (1 : Int) else 0) = if zCo (zF0 w) (zml w) a b = 1 ∧ zGp (w 104) (w 105) (w 98) a b < -d then 1 else 0
  rw [e]
  by_cases g : zml w a = 1 ∧ zml w b = 1 ∧ zap (zF0 w) a b
  · rw [J.gp ⟨a0, by omega⟩ ⟨by omega, by omega⟩ g.1 g.2.1]
  · have e0 : zCo (zF0 w) (zml w) a b = 0 := if_neg g
    rw [e0, if_neg fun q => absurd q.1 (by decide), if_neg fun q => absurd q.1 (by decide)]
theorem zJv.aa {w : zW} (J : zJv w) {a b c : Int} (a0 : 0 ≤ a ∧ a < 12) (b0 : 0 ≤ b ∧ b < 12) (c0 : 0 ≤ c ∧ c < 12) (ma : zml w a = 1) (mb : zml w b = 1) (mc : zml w c = 1) : zAa (w 31) (w 32) a b c = zAa (w 104) (w 105) a b c := by
  have x := J.jx a0.1 a0.2 ma
  have y := J.jx b0.1 b0.2 mb
  have z := J.jx c0.1 c0.2 mc
  unfold zAa
  rw [x.1, x.2, y.1, y.2, z.1, z.2]
/-- a face's corners, and whether all have places -/
theorem zJv.ct {w : zW} (J : zJv w) {f : Int} (f0 : 0 ≤ f) (f1 : f < w 96 0) : (zct w f = 3 ↔ (zml w (w 99 (3 * f).toNat) = 1 ∧ zml w (w 99 (3 * f + 1).toNat) = 1 ∧ zml w (w 99 (3 * f + 2).toNat) = 1)) ∧ (0 ≤ w 99 (3 * f).toNat ∧ w 99 (3 * f).toNat < 12) ∧ (0 ≤ w 99 (3 * f + 1).toNat ∧ w 99 (3 * f + 1).toNat < 12) ∧ 0 ≤ w 99 (3 * f + 2).toNat ∧ w 99 (3 * f + 2).toNat < 12 := by
  have hn := J.1.n
  obtain ⟨k0, k1, k2⟩ := J.1.cor3 f0 f1
  refine ⟨?_, by omega, by omega, by omega⟩
  have z0 := zml_01 w (w 99 (3 * f).toNat)
  have z1 := zml_01 w (w 99 (3 * f + 1).toNat)
  have z2 := zml_01 w (w 99 (3 * f + 2).toNat)
  unfold zct
  rw [J.jp k0.1 (by omega), J.jp k1.1 (by omega), J.jp k2.1 (by omega)]
  rcases z0 with z0 | z0 <;> rcases z1 with z1 | z1 <;> rcases z2 with z2 | z2 <;> rw [z0, z1, z2] <;> decide
theorem zJv.fl {w : zW} (J : zJv w) : zSm (fun f => if zct w f = 3 ∧ zAa (w 31) (w 32) (w 99 (3 * f).toNat) (w 99 (3 * f + 1).toNat) (w 99 (3 * f + 2).toNat) ≤ 0 then 1 else 0) (w 96 0).toNat 0 = zSm (fun f => if (zml w (w 99 (3 * f).toNat) = 1 ∧ zml w (w 99 (3 * f + 1).toNat) = 1 ∧ zml w (w 99 (3 * f + 2).toNat) = 1) ∧ zAa (w 104) (w 105) (w 99 (3 * f).toNat) (w 99 (3 * f + 1).toNat) (w 99 (3 * f + 2).toNat) ≤ 0 then 1 else 0) (w 96 0).toNat 0 := by
  have hn := J.1.n
  refine zSm_congr _ 0 fun f f0 f1 => ?_
  obtain ⟨c, k0, k1, k2⟩ := J.ct f0 (by omega)
  show (if zct w f = 3 ∧ _ then (1 : Int) else 0) = if _ ∧ _ then 1 else 0
  by_cases g : zct w f = 3
  · have g' := c.mp g
    rw [J.aa k0 k1 k2 g'.1 g'.2.1 g'.2.2]
    by_cases q : zAa (w 104) (w 105) (w 99 (3 * f).toNat) (w 99 (3 * f + 1).toNat) (w 99 (3 * f + 2).toNat) ≤ 0
    · rw [if_pos ⟨g, q⟩, if_pos ⟨g', q⟩]
    · rw [if_neg fun z => q z.2, if_neg fun z => q z.2]
  · rw [if_neg fun z => g z.1, if_neg fun z => g (c.mpr z.1)]
theorem zMx_cg {p p' : Int → Prop} {e e' : Int → Int} (h : ∀ c, 0 ≤ c → c < 12 → (p c ↔ p' c)) (g : ∀ c, 0 ≤ c → c < 12 → p c → e c = e' c) : zMx p e = zMx p' e' := by
  have z : zMxP p e = zMxP p' e' := by
    funext v
    refine propext ⟨fun q => ⟨?_, fun c c0 c1 x => ?_⟩, fun q => ⟨?_, fun c c0 c1 x => ?_⟩⟩
    · obtain ⟨⟨c, c0, c1, x, y⟩, _⟩ := q
      exact ⟨c, c0, c1, (h c c0 c1).mp x, by rw [← g c c0 c1 x]; exact y⟩
    · have x' := (h c c0 c1).mpr x
      rw [← g c c0 c1 x']
      exact q.2 c c0 c1 x'
    · obtain ⟨⟨c, c0, c1, x, y⟩, _⟩ := q
      have x' := (h c c0 c1).mpr x
      exact ⟨c, c0, c1, x', by rw [g c c0 c1 x']; exact y⟩
    · rw [g c c0 c1 x]
      exact q.2 c c0 c1 ((h c c0 c1).mp x)
  unfold zMx
  rw [z]
theorem zMn_cg {p p' : Int → Prop} {e e' : Int → Int} (h : ∀ c, 0 ≤ c → c < 12 → (p c ↔ p' c)) (g : ∀ c, 0 ≤ c → c < 12 → p c → e c = e' c) : zMn p e = zMn p' e' := by
  have z : zMnP p e = zMnP p' e' := by
    funext v
    refine propext ⟨fun q => ⟨?_, fun c c0 c1 x => ?_⟩, fun q => ⟨?_, fun c c0 c1 x => ?_⟩⟩
    · obtain ⟨⟨c, c0, c1, x, y⟩, _⟩ := q
      exact ⟨c, c0, c1, (h c c0 c1).mp x, by rw [← g c c0 c1 x]; exact y⟩
    · have x' := (h c c0 c1).mpr x
      rw [← g c c0 c1 x']
      exact q.2 c c0 c1 x'
    · obtain ⟨⟨c, c0, c1, x, y⟩, _⟩ := q
      have x' := (h c c0 c1).mpr x
      exact ⟨c, c0, c1, x', by rw [g c c0 c1 x']; exact y⟩
    · rw [g c c0 c1 x]
      exact q.2 c c0 c1 ((h c c0 c1).mp x)
  unfold zMn
  rw [z]
/-- the four sides of the box -/
theorem zJv.bx {w : zW} (J : zJv w) {u v : Nat} (h : (u = 31 ∧ v = 104) ∨ (u = 32 ∧ v = 105)) : zMx (fun c => w 33 c.toNat = 1) (fun c => w u c.toNat + w 30 c.toNat) = zMx (fun c => zml w c = 1) (fun c => w v c.toNat + w 98 c.toNat) ∧ zMn (fun c => w 33 c.toNat = 1) (fun c => w u c.toNat - w 30 c.toNat) = zMn (fun c => zml w c = 1) (fun c => w v c.toNat - w 98 c.toNat) := by
  have k : ∀ c : Int, 0 ≤ c → c < 12 → w 33 c.toNat = 1 → w u c.toNat = w v c.toNat ∧ w 30 c.toNat = w 98 c.toNat := fun c c0 c1 x => by
    have m := (J.pl c0 c1).mp x
    have y := J.jx c0 c1 m
    refine ⟨?_, J.jr c0 (J.jn c0 c1 m)⟩
    rcases h with ⟨e1, e2⟩ | ⟨e1, e2⟩ <;> subst e1 <;> subst e2
    · exact y.1
    · exact y.2
  exact ⟨zMx_cg (fun c c0 c1 => J.pl c0 c1) fun c c0 c1 x => by show w u c.toNat + w 30 c.toNat = _; rw [(k c c0 c1 x).1, (k c c0 c1 x).2], zMn_cg (fun c c0 c1 => J.pl c0 c1) fun c c0 c1 x => by show w u c.toNat - w 30 c.toNat = _; rw [(k c c0 c1 x).1, (k c c0 c1 x).2]⟩
theorem zJv.at {w : zW} (J : zJv w) (x y : Int) : zFi (fun c => w 33 c.toNat = 1 ∧ zCv (w 31) (w 32) (w 30) c x y) (w 95 0).toNat 0 = zFi (fun c => zml w c = 1 ∧ zCv (w 104) (w 105) (w 98) c x y) (w 95 0).toNat 0 := by
  have hn := J.1.n
  refine zFi_congr _ 0 fun c c0 c1 => ?_
  have p := J.pl c0 (show c < 12 by omega)
  have r := J.jr c0 (show c < w 95 0 by omega)
  constructor
  · rintro ⟨q1, q2⟩
    have m := p.mp q1
    have k := J.jx c0 (by omega) m
    unfold zCv at q2 ⊢
    rw [k.1, k.2, r] at q2
    exact ⟨m, q2⟩
  · rintro ⟨q1, q2⟩
    have m := p.mpr q1
    have k := J.jx c0 (by omega) q1
    unfold zCv at q2 ⊢
    rw [k.1, k.2, r]
    exact ⟨m, q2⟩
theorem zJv.sf {w : zW} (J : zJv w) (x y : Int) : zFi (fun c => w 33 c.toNat = 1 ∧ (zTf (w 31 c.toNat + x) ∨ zTf (w 32 c.toNat + y))) 12 0 = -1 ↔ zFi (fun k => zTf (w 104 (w 103 k.toNat).toNat + x) ∨ zTf (w 105 (w 103 k.toNat).toNat + y)) (w 102 0).toNat 0 = -1 := by
  have hu := J.ju
  rw [zFi_none (by decide), zFi_none (by decide)]
  constructor
  · intro q k k0 k1 z
    have o := J.i.2.2.2.1.2.2.1 k k0 (by omega)
    have m := zml_or (w := w) k0 (by omega)
    have e := J.jx o.1 o.2 m
    exact q (w 103 k.toNat) o.1 (by omega) ⟨(J.pl o.1 o.2).mpr m, by rw [e.1, e.2]; exact z⟩
  · intro q c c0 c1 z
    have m := (J.pl c0 (by omega)).mp z.1
    obtain ⟨k, k0, k1, k2⟩ := zmk_1.mp m
    have e := J.jx c0 (by omega) m
    refine q k k0 (by omega) ?_
    rw [k2, ← e.1, ← e.2]
    exact z.2
theorem zJv.so {w : zW} (J : zJv w) : (∃ c : Int, 0 ≤ c ∧ c < 12 ∧ w 33 c.toNat = 1) ↔ w 102 0 ≠ 0 := by
  have hu := J.ju
  constructor
  · rintro ⟨c, c0, c1, x⟩
    obtain ⟨k, k0, k1, k2⟩ := zmk_1.mp ((J.pl c0 c1).mp x)
    omega
  · intro q
    have o := J.i.2.2.2.1.2.2.1 0 (by decide) (by omega)
    exact ⟨w 103 0, o.1, o.2, (J.pl o.1 o.2).mpr (zml_or (w := w) (i := 0) (by decide) (by omega))⟩

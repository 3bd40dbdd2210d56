/-! ===== rows of neighbors: the walk around a circle (written by wip/whole/gen_c.py) ===== -/
theorem zT_p1 {T : Int → Int → Int} {n : Int} (hT : zTab T n) {c t : Int} (hc : 0 ≤ c ∧ c < 12) (ht : 0 ≤ t ∧ t < 12) (h : T c t ≠ -1) : T (T c t) c = t ∧ T t (T c t) = c ∧ (0 ≤ T c t ∧ T c t < n) ∧ c ≠ t ∧ c < n ∧ t < n := by
  rcases hT.2.2 c t hc.1 hc.2 ht.1 ht.2 with q | ⟨q1, q2, q3, q4, q5, q6, q7⟩
  · exact (h q).elim
  · exact ⟨q7, q6, ⟨q3, q4⟩, q5, q1, q2⟩
theorem zT_inj {T : Int → Int → Int} {n : Int} (hT : zTab T n) {c x y : Int} (hc : 0 ≤ c ∧ c < 12) (hx : 0 ≤ x ∧ x < 12) (hy : 0 ≤ y ∧ y < 12) (h : T c x ≠ -1) (e : T c x = T c y) : x = y := by
  have a := (zT_p1 hT hc hx h).1
  have b := (zT_p1 hT hc hy (by rw [← e]; exact h)).1
  rw [← a, ← b, e]
theorem zAh_i {T : Int → Int → Int} {n : Int} (hT : zTab T n) {c x : Int} (hc : 0 ≤ c ∧ c < 12) (hx : 0 ≤ x ∧ x < 12) : zAh T n c x = -1 ↔ T x c = -1 := by
  have hn := hT.1
  have hn2 := hT.2.1
  unfold zAh
  rw [zFi_none (by omega)]
  constructor
  · intro h
    by_cases g : T x c = -1
    · exact g
    · have q := zT_p1 hT hx hc g
      exact (h (T x c) q.2.2.1.1 (by omega) q.2.1).elim
  · intro h a a0 a1 e
    have q := zT_p1 hT hc (t := a) ⟨a0, by omega⟩ (by omega)
    rw [e] at q
    omega
theorem zFs_c {T : Int → Int → Int} {n : Int} (hT : zTab T n) {c : Int} (hc : 0 ≤ c ∧ c < 12) : (zFs T n c = -1 ∧ ∀ a, 0 ≤ a → a < n → zap T c a) ∨ ((0 ≤ zFs T n c ∧ zFs T n c < n) ∧ ¬ zap T c (zFs T n c)) := by
  have hn := hT.1
  unfold zFs
  rcases zFi_spec (p := fun a => ¬ zap T c a ∧ zAh T n c a = -1) n.toNat 0 (by omega) with q | q
  · have e : zF1 T n c = -1 := q.1
    rw [if_pos e]
    rcases zFi_spec (p := fun a => ¬ zap T c a) n.toNat 0 (by omega) with r | r
    · exact Or.inl ⟨r.1, fun a a0 a1 => Classical.byContradiction fun g => r.2 a a0 (by omega) g⟩
    · exact Or.inr ⟨⟨r.1, by have := r.2.1; show zLw T n c < n; unfold zLw; omega⟩, r.2.2.1⟩
  · have e : ¬ zF1 T n c = -1 := by unfold zF1; omega
    rw [if_neg e]
    exact Or.inr ⟨⟨q.1, by have := q.2.1; show zF1 T n c < n; unfold zF1; omega⟩, q.2.2.1.1⟩
theorem zcnt : ∀ (L : Nat) (a : Nat → Int) (P : Int → Prop) [DecidablePred P] (n : Nat), (∀ i, i < L → 0 ≤ a i ∧ a i < n ∧ P (a i)) → (∀ i j, i < j → j < L → a i ≠ a j) → (L : Int) ≤ zSm (fun x => if P x then 1 else 0) n 0 := by
  intro L
  induction L with
  | zero =>
    intro a P _ n _ _
    have := (zSm_rg01 (f := fun x => if P x then 1 else 0) n 0 fun j => by
      show (if P j then (1 : Int) else 0) = 0 ∨ (if P j then (1 : Int) else 0) = 1
      split <;> omega).1
    omega
  | succ L ih =>
    intro a P _ n h1 h2
    have hk := h1 L (by omega)
    have e := zSm_one (fun x => if P x then 1 else 0) n 0 (a L) hk.1 (by omega)
    have e1 : (if P (a L) then (1 : Int) else 0) = 1 := if_pos hk.2.2
    have e2 : zSm (fun j => if j = a L then 0 else if P j then 1 else 0) n 0 = zSm (fun x => if P x ∧ x ≠ a L then 1 else 0) n 0 := zSm_congr n 0 fun j _ _ => by
      show (if j = a L then (0 : Int) else if P j then 1 else 0) = if P j ∧ j ≠ a L then 1 else 0
      by_cases g : j = a L
      · rw [if_pos g, if_neg fun q => q.2 g]
      · rw [if_neg g]
        by_cases g2 : P j
        · rw [if_pos g2, if_pos ⟨g2, g⟩]
        · rw [if_neg g2, if_neg fun q => g2 q.1]
    have := ih a (fun x => P x ∧ x ≠ a L) n (fun i hi => ⟨(h1 i (by omega)).1, (h1 i (by omega)).2.1, (h1 i (by omega)).2.2, h2 i L hi (by omega)⟩) (fun i j hi hj => h2 i j hi (by omega))
    rw [e]
    show ((L + 1 : Nat) : Int) ≤ (if P (a L) then (1 : Int) else 0) + zSm (fun j => if j = a L then 0 else if P j then 1 else 0) n 0
    rw [e1, e2]
    omega
/-- the length of the walk: until it ends or comes back -/
def zLn (T : Int → Int → Int) (n c : Int) : Int := if zFs T n c = -1 then 0 else zFi (fun i => zrw T n c i = -1 ∨ zrw T n c i = zFs T n c) 12 1
theorem zrw_0 (T : Int → Int → Int) (n c : Int) : zrw T n c 0 = zFs T n c := rfl
theorem zrw_rg {T : Int → Int → Int} {n : Int} (hT : zTab T n) {c : Int} (hc : 0 ≤ c ∧ c < 12) (hf : 0 ≤ zFs T n c ∧ zFs T n c < n) : ∀ k : Nat, (∀ i : Int, 1 ≤ i → i ≤ k → zrw T n c i ≠ -1) → 0 ≤ zrw T n c k ∧ zrw T n c k < n := by
  intro k
  have hn := hT.2.1
  induction k with
  | zero => intro _; exact hf
  | succ k ih =>
    intro h
    have r := ih fun i h1 h2 => h i h1 (by omega)
    have e := zrw_succ T n c k (by omega)
    have := h ((k : Int) + 1) (by omega) (by omega)
    rw [show ((k + 1 : Nat) : Int) = (k : Int) + 1 by omega]
    rw [e] at this ⊢
    exact (zT_p1 hT hc (t := zrw T n c k) ⟨r.1, by omega⟩ this).2.2.1
/-- two equal steps: so were those ahead of them -/
theorem zrw_eq {T : Int → Int → Int} {n : Int} (hT : zTab T n) {c : Int} (hc : 0 ≤ c ∧ c < 12) : ∀ (i j : Nat), (∀ k : Int, 0 ≤ k → k ≤ i + j → 0 ≤ zrw T n c k ∧ zrw T n c k < n) → zrw T n c i = zrw T n c (i + j) → zrw T n c 0 = zrw T n c j := by
  intro i
  have hn := hT.2.1
  induction i with
  | zero => intro j _ e; rw [show ((0 : Nat) : Int) + (j : Int) = j by omega] at e; exact e
  | succ i ih =>
    intro j h e
    refine ih j (fun k k0 k1 => h k k0 (by omega)) ?_
    rw [show ((i + 1 : Nat) : Int) + (j : Int) = ((i : Int) + j) + 1 by omega, show ((i + 1 : Nat) : Int) = (i : Int) + 1 by omega, zrw_succ T n c i (by omega), zrw_succ T n c ((i : Int) + j) (by omega)] at e
    have a := h i (by omega) (by omega)
    have b := h ((i : Int) + j) (by omega) (by omega)
    have d := h ((i : Int) + 1) (by omega) (by omega)
    rw [zrw_succ T n c i (by omega)] at d
    exact zT_inj hT hc ⟨a.1, by omega⟩ ⟨b.1, by omega⟩ (by omega) e
theorem zLn_ok {T : Int → Int → Int} {n : Int} (hT : zTab T n) {c : Int} (hc : 0 ≤ c ∧ c < 12) (hf : zFs T n c ≠ -1) : (1 ≤ zLn T n c ∧ zLn T n c ≤ 12) ∧ (zrw T n c (zLn T n c) = -1 ∨ zrw T n c (zLn T n c) = zFs T n c) ∧ ∀ i, 1 ≤ i → i < zLn T n c → zrw T n c i ≠ -1 ∧ zrw T n c i ≠ zFs T n c := by
  have hn := hT.2.1
  have fr : 0 ≤ zFs T n c ∧ zFs T n c < n := by
    rcases zFs_c hT hc with q | q
    · exact (hf q.1).elim
    · exact q.1
  have e : zLn T n c = zFi (fun i => zrw T n c i = -1 ∨ zrw T n c i = zFs T n c) 12 1 := if_neg hf
  rw [e]
  rcases zFi_spec (p := fun i => zrw T n c i = -1 ∨ zrw T n c i = zFs T n c) 12 1 (by decide) with q | q
  · exfalso
    have all : ∀ i : Int, 1 ≤ i → i ≤ 12 → zrw T n c i ≠ -1 ∧ zrw T n c i ≠ zFs T n c := fun i h1 h2 => ⟨fun g => q.2 i h1 (by omega) (Or.inl g), fun g => q.2 i h1 (by omega) (Or.inr g)⟩
    have rg : ∀ k : Int, 0 ≤ k → k ≤ 12 → 0 ≤ zrw T n c k ∧ zrw T n c k < n := fun k k0 k1 => by
      have := zrw_rg hT hc fr k.toNat fun i h1 h2 => (all i h1 (by omega)).1
      rw [show ((k.toNat : Nat) : Int) = k by omega] at this
      exact this
    obtain ⟨i, j, h1, h2, h3⟩ := zpig 12 (fun i => zrw T n c i) fun i hi => by
      have := rg i (by omega) (by omega)
      exact ⟨this.1, by omega⟩
    have := zrw_eq hT hc i (j - i) (fun k k0 k1 => rg k k0 (by omega)) (by rw [show (i : Int) + ((j - i : Nat) : Int) = j by omega]; exact h3)
    exact (all ((j - i : Nat) : Int) (by omega) (by omega)).2 this.symm
  · exact ⟨⟨q.1, by omega⟩, q.2.2.1, fun i h1 h2 => ⟨fun g => q.2.2.2 i h1 h2 (Or.inl g), fun g => q.2.2.2 i h1 h2 (Or.inr g)⟩⟩
theorem zNb_P (T : Int → Int → Int) (n c : Int) : zNb T n c = zSm (fun a => if ¬ zap T c a then 1 else 0) n.toNat 0 := by
  unfold zNb
  refine zSm_congr _ 0 fun j _ _ => ?_
  show (if zap T c j then (0 : Int) else 1) = if ¬ zap T c j then 1 else 0
  by_cases g : zap T c j
  · rw [if_pos g, if_neg (fun q => q g)]
  · rw [if_neg g, if_pos g]
/-- a walk as long as there are neighbors: the row -/
theorem zLn_rw {T : Int → Int → Int} {n : Int} (hT : zTab T n) {c : Int} (hc : 0 ≤ c ∧ c < n) (h : zLn T n c = zNb T n c) : zRw1 T n c := by
  have hn := hT.2.1
  have c12 : 0 ≤ c ∧ c < 12 := ⟨hc.1, by omega⟩
  rcases zFs_c hT c12 with ⟨q1, q2⟩ | ⟨fr, q2⟩
  · have e0 : zLn T n c = 0 := if_pos q1
    rw [e0] at h
    refine ⟨by omega, fun i h1 h2 => by omega, fun q => by omega, fun i j h1 h2 h3 => by omega, fun a a0 a1 g => (g (q2 a a0 a1)).elim⟩
  · have hf : zFs T n c ≠ -1 := by omega
    obtain ⟨l1, l2, l3⟩ := zLn_ok hT c12 hf
    rw [h] at l1 l2 l3
    have rg : ∀ k : Int, 0 ≤ k → k < zNb T n c → 0 ≤ zrw T n c k ∧ zrw T n c k < n := fun k k0 k1 => by
      have := zrw_rg hT c12 fr k.toNat fun i h1 h2 => (l3 i h1 (by omega)).1
      rw [show ((k.toNat : Nat) : Int) = k by omega] at this
      exact this
    have step : ∀ k : Int, 1 ≤ k → k < zNb T n c → T c (zrw T n c (k - 1)) = zrw T n c k := fun k k0 k1 => by
      rw [← zrw_succ T n c (k - 1) (by omega), show k - 1 + 1 = k by omega]
    have nb : ∀ k : Int, 0 ≤ k → k < zNb T n c → ¬ zap T c (zrw T n c k) := fun k k0 k1 => by
      by_cases g : k = 0
      · rw [g]; exact q2
      · have r := rg (k - 1) (by omega) (by omega)
        have r2 := rg k k0 k1
        have e := step k (by omega) k1
        have p := zT_p1 hT c12 (t := zrw T n c (k - 1)) ⟨r.1, by omega⟩ (by omega)
        rw [e] at p
        intro z
        have := z.2
        omega
    have di : ∀ i j : Int, 0 ≤ i → i < j → j < zNb T n c → zrw T n c i ≠ zrw T n c j := fun i j i0 ij j1 e => by
      have := zrw_eq hT c12 i.toNat (j - i).toNat (fun k k0 k1 => rg k k0 (by omega)) (by rw [show ((i.toNat : Nat) : Int) = i by omega, show i + (((j - i).toNat : Nat) : Int) = j by omega]; exact e)
      rw [show (((j - i).toNat : Nat) : Int) = j - i by omega] at this
      exact (l3 (j - i) (by omega) (by omega)).2 this.symm
    have ccn : ∀ k : Int, 0 ≤ k → k < zNb T n c → zrw T n c k ≠ c := fun k k0 k1 e => by
      have := nb k k0 k1
      rw [e] at this
      refine this ?_
      have : T c c = -1 := by
        by_cases g : T c c = -1
        · exact g
        · exact ((zT_p1 hT c12 c12 g).2.2.2.1 rfl).elim
      exact ⟨this, this⟩
    have lt12 : zNb T n c < 12 := by
      have := zcnt ((zNb T n c).toNat + 1) (fun i => if i < (zNb T n c).toNat then zrw T n c i else c) (fun _ => True) n.toNat (fun i hi => by
        show 0 ≤ (if i < (zNb T n c).toNat then zrw T n c i else c) ∧ (if i < (zNb T n c).toNat then zrw T n c i else c) < (n.toNat : Int) ∧ True
        by_cases g : i < (zNb T n c).toNat
        · rw [if_pos g]
          have := rg i (by omega) (by omega)
          exact ⟨this.1, by omega, True.intro⟩
        · rw [if_neg g]; exact ⟨hc.1, by omega, True.intro⟩) (fun i j ij hj => by
        show (if i < (zNb T n c).toNat then zrw T n c i else c) ≠ (if j < (zNb T n c).toNat then zrw T n c j else c)
        rw [if_pos (by omega)]
        by_cases g : j < (zNb T n c).toNat
        · rw [if_pos g]; exact di i j (by omega) (by omega) (by omega)
        · rw [if_neg g]; exact ccn i (by omega) (by omega))
      have up := (zSm_rg01 (f := fun _ => if True then 1 else 0) n.toNat 0 fun j => by
        show (if True then (1 : Int) else 0) = 0 ∨ (if True then (1 : Int) else 0) = 1
        exact Or.inr (if_pos True.intro)).2
      omega
    have sur : ∀ a, 0 ≤ a → a < n → ¬ zap T c a → ∃ i, 0 ≤ i ∧ i < zNb T n c ∧ zrw T n c i = a := fun a a0 a1 g => Classical.byContradiction fun no => by
      have no : ∀ i : Int, 0 ≤ i → i < zNb T n c → zrw T n c i ≠ a := fun i i0 i1 e => no ⟨i, i0, i1, e⟩
      have := zcnt ((zNb T n c).toNat + 1) (fun i => if i < (zNb T n c).toNat then zrw T n c i else a) (fun x => ¬ zap T c x) n.toNat (fun i hi => by
        show 0 ≤ (if i < (zNb T n c).toNat then zrw T n c i else a) ∧ (if i < (zNb T n c).toNat then zrw T n c i else a) < (n.toNat : Int) ∧ ¬ zap T c (if i < (zNb T n c).toNat then zrw T n c i else a)
        by_cases g2 : i < (zNb T n c).toNat
        · rw [if_pos g2]
          have := rg i (by omega) (by omega)
          exact ⟨this.1, by omega, nb i (by omega) (by omega)⟩
        · rw [if_neg g2]; exact ⟨a0, by omega, g⟩) (fun i j ij hj => by
        show (if i < (zNb T n c).toNat then zrw T n c i else a) ≠ (if j < (zNb T n c).toNat then zrw T n c j else a)
        rw [if_pos (by omega)]
        by_cases g2 : j < (zNb T n c).toNat
        · rw [if_pos g2]; exact di i j (by omega) (by omega) (by omega)
        · rw [if_neg g2]; exact no i (by omega) (by omega))
      rw [← zNb_P] at this
      omega
    refine ⟨lt12, fun i i0 i1 => ⟨(rg i i0 i1).1, (rg i i0 i1).2, nb i i0 i1⟩, fun h0 => ?_, di, sur⟩
    have ah := zAh_i hT c12 (x := zFs T n c) ⟨fr.1, by omega⟩
    by_cases k0 : zKd T n c = 0
    · rw [if_pos k0]
      have tf : T (zFs T n c) c ≠ -1 := fun q => by
        unfold zKd at k0
        rw [if_neg (by omega), if_pos (ah.mpr q)] at k0
        omega
      have p := zT_p1 hT (c := zFs T n c) ⟨fr.1, by omega⟩ c12 tf
      obtain ⟨i, i0, i1, e⟩ := sur (T (zFs T n c) c) p.2.2.1.1 p.2.2.1.2 (fun z => by have := z.1; rw [p.2.1] at this; exact hf this)
      have e2 : zrw T n c (i + 1) = zFs T n c := by rw [zrw_succ T n c i i0, e]; exact p.2.1
      by_cases g : i + 1 < zNb T n c
      · exact ((l3 (i + 1) (by omega) g).2 e2).elim
      · rw [show zNb T n c = i + 1 by omega]; exact e2
    · rw [if_neg k0]
      rcases l2 with e | e
      · exact e
      · exfalso
        have r := rg (zNb T n c - 1) (by omega) (by omega)
        have es : T c (zrw T n c (zNb T n c - 1)) = zFs T n c := by
          rw [← zrw_succ T n c (zNb T n c - 1) (by omega), show zNb T n c - 1 + 1 = zNb T n c by omega]; exact e
        have p := zT_p1 hT c12 (t := zrw T n c (zNb T n c - 1)) ⟨r.1, by omega⟩ (by rw [es]; exact hf)
        rw [es] at p
        refine k0 ?_
        unfold zKd
        rw [if_neg (by omega), if_neg fun q => by have := ah.mp q; omega]

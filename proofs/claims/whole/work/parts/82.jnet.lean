/-! ===== class and model read the same net: the tables (written by wip/whole/gen_c.py) ===== -/
def zTeq (T T' : Int → Int → Int) : Prop := ∀ x y, 0 ≤ x → x < 12 → 0 ≤ y → y < 12 → T x y = T' x y
theorem zTq_zap {T T' : Int → Int → Int} (h : zTeq T T') {x y : Int} (hx : 0 ≤ x ∧ x < 12) (hy : 0 ≤ y ∧ y < 12) : zap T x y ↔ zap T' x y := by
  unfold zap
  rw [h x y hx.1 hx.2 hy.1 hy.2, h y x hy.1 hy.2 hx.1 hx.2]
theorem zTq_nb {T T' : Int → Int → Int} (h : zTeq T T') {n c : Int} (hn : n ≤ 12) (hc : 0 ≤ c ∧ c < 12) : zNb T n c = zNb T' n c := by
  unfold zNb
  refine zSm_congr _ 0 fun j j0 j1 => ?_
  have z := zTq_zap h hc (y := j) ⟨j0, by omega⟩
  show (if zap T c j then (0 : Int) else 1) = if zap T' c j then 0 else 1
  by_cases g : zap T c j
  · rw [if_pos g, if_pos (z.mp g)]
  · rw [if_neg g, if_neg fun q => g (z.mpr q)]
theorem zTq_ah {T T' : Int → Int → Int} (h : zTeq T T') {n c x : Int} (hn : n ≤ 12) (hc : 0 ≤ c ∧ c < 12) : zAh T n c x = zAh T' n c x := by
  unfold zAh
  refine zFi_congr _ 0 fun j j0 j1 => ?_
  rw [h c j hc.1 hc.2 j0 (by omega)]
theorem zTq_fs {T T' : Int → Int → Int} (h : zTeq T T') {n c : Int} (hn : n ≤ 12) (hc : 0 ≤ c ∧ c < 12) : zFs T n c = zFs T' n c := by
  have e1 : zF1 T n c = zF1 T' n c := by
    unfold zF1
    refine zFi_congr _ 0 fun j j0 j1 => ?_
    rw [zTq_ah h hn hc]
    have z := zTq_zap h hc (y := j) ⟨j0, by omega⟩
    exact ⟨fun q => ⟨fun g => q.1 (z.mpr g), q.2⟩, fun q => ⟨fun g => q.1 (z.mp g), q.2⟩⟩
  have e2 : zLw T n c = zLw T' n c := by
    unfold zLw
    refine zFi_congr _ 0 fun j j0 j1 => ?_
    have z := zTq_zap h hc (y := j) ⟨j0, by omega⟩
    exact ⟨fun q g => q (z.mpr g), fun q g => q (z.mp g)⟩
  unfold zFs
  rw [e1, e2]
theorem zTq_kd {T T' : Int → Int → Int} (h : zTeq T T') {n c : Int} (hn : n ≤ 12) (hc : 0 ≤ c ∧ c < 12) : zKd T n c = zKd T' n c := by
  unfold zKd
  rw [zTq_nb h hn hc, zTq_fs h hn hc, zTq_ah h hn hc]
theorem zTq_tab {T T' : Int → Int → Int} (h : zTeq T T') {n : Int} (hT : zTab T n) : zTab T' n := by
  refine ⟨hT.1, hT.2.1, fun a b a0 a1 b0 b1 => ?_⟩
  have e := h a b a0 a1 b0 b1
  rcases hT.2.2 a b a0 a1 b0 b1 with q | ⟨q1, q2, q3, q4, q5, q6, q7⟩
  · exact Or.inl (by rw [← e]; exact q)
  · have hn := hT.2.1
    have e2 := h b (T a b) b0 b1 q3 (by omega)
    have e3 := h (T a b) a q3 (by omega) a0 a1
    rw [e2] at q6
    rw [e3] at q7
    rw [e] at q3 q4 q6 q7
    exact Or.inr ⟨q1, q2, q3, q4, q5, q6, q7⟩
theorem zTq_rw {T T' : Int → Int → Int} (h : zTeq T T') {n c : Int} (hT : zTab T n) (hc : 0 ≤ c ∧ c < 12) (hf : 0 ≤ zFs T n c ∧ zFs T n c < n) : ∀ k : Nat, (∀ i : Int, 1 ≤ i → i < k → zrw T n c i ≠ -1) → zrw T n c k = zrw T' n c k := by
  intro k
  have hn := hT.2.1
  induction k with
  | zero => intro _; exact zTq_fs h hn hc
  | succ k ih =>
    intro q
    have e := ih fun i i0 i1 => q i i0 (by omega)
    have r := zrw_rg hT hc hf k fun i i0 i1 => q i i0 (by omega)
    rw [show ((k + 1 : Nat) : Int) = (k : Int) + 1 by omega, zrw_succ T n c k (by omega), zrw_succ T' n c k (by omega), ← e]
    exact h c _ hc.1 hc.2 r.1 (by omega)
theorem zTq_ln {T T' : Int → Int → Int} (h : zTeq T T') {n c : Int} (hT : zTab T n) (hc : 0 ≤ c ∧ c < 12) : zLn T n c = zLn T' n c ∧ ∀ i, 0 ≤ i → i < zLn T n c → zrw T n c i = zrw T' n c i := by
  have hn := hT.2.1
  have ef := zTq_fs h hn hc
  by_cases g : zFs T n c = -1
  · have e0 : zLn T n c = 0 := if_pos g
    have e1 : zLn T' n c = 0 := if_pos (by rw [← ef]; exact g)
    exact ⟨by omega, fun i i0 i1 => by omega⟩
  · have fr : 0 ≤ zFs T n c ∧ zFs T n c < n := by
      rcases zFs_c hT hc with q | q
      · exact (g q.1).elim
      · exact q.1
    obtain ⟨l1, l2, l3⟩ := zLn_ok hT hc g
    have er : ∀ i, 0 ≤ i → i ≤ zLn T n c → zrw T n c i = zrw T' n c i := fun i i0 i1 => by
      have := zTq_rw h hT hc fr i.toNat fun j j0 j1 => (l3 j j0 (by omega)).1
      rw [show ((i.toNat : Nat) : Int) = i by omega] at this
      exact this
    refine ⟨?_, fun i i0 i1 => er i i0 (by omega)⟩
    have e1 : zLn T' n c = zFi (fun i => zrw T' n c i = -1 ∨ zrw T' n c i = zFs T' n c) 12 1 := if_neg (by rw [← ef]; exact g)
    rw [e1]
    refine (zFi_eq (by decide) l1.1 (by omega) ?_ fun j j0 j1 => ?_).symm
    · rw [← er _ (by omega) (by omega), ← ef]; exact l2
    · rw [← er j (by omega) (by omega), ← ef]
      have := l3 j j0 j1
      exact fun q => q.elim this.1 this.2
theorem zRg_kd {T : Int → Int → Int} {n c : Int} (hT : zTab T n) (hc : 0 ≤ c ∧ c < 12) : zRg T n c = if zKd T n c = 0 then 1 else 0 := by
  have hn := hT.2.1
  unfold zRg
  rcases zFs_c hT hc with ⟨q1, q2⟩ | ⟨q1, q2⟩
  · have n0 : zNb T n c = 0 := by
      unfold zNb
      refine zSm_zero _ 0 fun j j0 j1 => ?_
      exact if_pos (q2 j j0 (by have := hT.1; omega))
    have k2 : zKd T n c = 2 := if_pos n0
    rw [if_pos q1, k2, if_neg (by decide)]
  · rw [if_neg (by omega)]
    have ah := zAh_i hT hc (x := zFs T n c) ⟨q1.1, by omega⟩
    have n0 : zNb T n c ≠ 0 := fun q => by
      have := zcnt 1 (fun _ => zFs T n c) (fun x => ¬ zap T c x) n.toNat (fun i hi => ⟨q1.1, by omega, q2⟩) (fun i j hi hj => by omega)
      rw [← zNb_P] at this
      omega
    by_cases t : T (zFs T n c) c = -1
    · have k1 : zKd T n c = 1 := (if_neg n0).trans (if_pos (ah.mpr t))
      rw [if_pos t, k1, if_neg (by decide)]
    · have k0 : zKd T n c = 0 := (if_neg n0).trans (if_neg fun q => t (ah.mp q))
      rw [if_neg t, if_pos k0]
/-- the draft's faces and the model's table are one -/
theorem zDn_T {a b : zW} (d : zDn a b) : zTeq (zTC a) (zg1 b) ∧ zTab (zg1 b) (b 95 1) ∧ zCT a := by
  obtain ⟨⟨h1, h2, h3, h4, h5, h6⟩, hc, hk, hf, hs⟩ := d
  have tb : zTab (zg1 b) (b 95 1) := by
    refine ⟨h3, h4, fun x y x0 x1 y0 y1 => ?_⟩
    rcases hs x y x0 x1 y0 y1 with ⟨_, q2⟩ | ⟨f, i, f0, f1, i0, i1, e1, e2⟩
    · exact Or.inl q2
    · refine Or.inr ?_
      obtain ⟨g1, g2, g3⟩ := hf f i f0 f1 i0 i1
      obtain ⟨g4, g5, g6⟩ := hf f ((i + 1) % 3) f0 f1 (by omega) (by omega)
      obtain ⟨g7, g8, g9⟩ := hf f ((i + 2) % 3) f0 f1 (by omega) (by omega)
      have k0 := hk (3 * f + i) (by omega) (by omega)
      have k1 := hk (3 * f + (i + 1) % 3) (by omega) (by omega)
      have k2 := hk (3 * f + (i + 2) % 3) (by omega) (by omega)
      rw [show ((i + 1) % 3 + 1) % 3 = (i + 2) % 3 by omega, show ((i + 1) % 3 + 2) % 3 = i by omega] at g5
      rw [show ((i + 2) % 3 + 1) % 3 = i by omega, show ((i + 2) % 3 + 2) % 3 = (i + 1) % 3 by omega] at g8
      rw [e1, e2, g2]
      exact ⟨k0.2.2, k1.2.2, k2.2.1, k2.2.2, g3, g5, g8⟩
  have te : zTeq (zTC a) (zg1 b) := fun x y x0 x1 y0 y1 => by
    rcases hs x y x0 x1 y0 y1 with ⟨q1, q2⟩ | ⟨f, i, f0, f1, i0, i1, e1, e2⟩
    · unfold zTC
      rw [q1, q2]
      show (if (-1 : Int) = x ∨ (-1 : Int) = y then _ else (-1 : Int)) = -1
      exact if_neg (by omega)
    · obtain ⟨g1, g2, g3⟩ := hf f i f0 f1 i0 i1
      obtain ⟨g4, g5, g6⟩ := hf f ((i + 1) % 3) f0 f1 (by omega) (by omega)
      obtain ⟨g7, g8, g9⟩ := hf f ((i + 2) % 3) f0 f1 (by omega) (by omega)
      rw [show ((i + 1) % 3 + 1) % 3 = (i + 2) % 3 by omega] at g6
      rw [show ((i + 2) % 3 + 1) % 3 = i by omega] at g9
      have k0 := hk (3 * f) (by omega) (by omega)
      have k1 := hk (3 * f + 1) (by omega) (by omega)
      have k2 := hk (3 * f + 2) (by omega) (by omega)
      rw [e1, e2, g2]
      unfold zTC
      rw [g1]
      have v0 : zTV f (a 18) 0 = zcr1 b (3 * f) := (if_neg (by omega)).trans (by rw [show 3 * f + 0 % 3 = 3 * f by omega]; exact k0.1)
      have v1 : zTV f (a 18) 1 = zcr1 b (3 * f + 1) := (if_neg (by omega)).trans (by rw [show 3 * f + 1 % 3 = 3 * f + 1 by omega]; exact k1.1)
      have v2 : zTV f (a 18) 2 = zcr1 b (3 * f + 2) := (if_neg (by omega)).trans (by rw [show 3 * f + 2 % 3 = 3 * f + 2 by omega]; exact k2.1)
      unfold zTC1
      rw [v0, v1, v2]
      have i3 : i = 0 ∨ i = 1 ∨ i = 2 := by omega
      rcases i3 with e | e | e
      · rw [e] at g3 g6 g9 ⊢
        simp only [Int.add_zero, show ((0 : Int) + 1) % 3 = 1 by decide, show ((0 : Int) + 2) % 3 = 2 by decide, Int.zero_add, show (1 : Int) % 3 = 1 by decide, show (2 : Int) % 3 = 2 by decide] at g3 g6 g9 ⊢
        rw [if_pos (Or.inl True.intro), if_pos (Or.inr True.intro), if_neg fun q => q.elim (fun q => g9 q) fun q => g6 q.symm]
      · rw [e] at g3 g6 g9 ⊢
        simp only [show ((1 : Int) + 1) % 3 = 2 by decide, show ((1 : Int) + 2) % 3 = 0 by decide, Int.add_zero] at g3 g6 g9 ⊢
        rw [if_neg fun q => q.elim (fun q => g9 q) fun q => g6 q.symm]
      · rw [e] at g3 g6 g9 ⊢
        simp only [show ((2 : Int) + 1) % 3 = 0 by decide, show ((2 : Int) + 2) % 3 = 1 by decide, Int.add_zero] at g3 g6 g9 ⊢
        rw [if_pos (Or.inr True.intro), if_neg fun q => q.elim (fun q => g9 q) fun q => g6 q.symm]
  refine ⟨te, tb, ⟨by omega, by omega⟩, ⟨by omega, by omega⟩, fun x y x0 x1 y0 y1 => ?_, ?_⟩
  · have e := te x y x0 x1 y0 y1
    rcases hs x y x0 x1 y0 y1 with ⟨q1, q2⟩ | ⟨f, i, f0, f1, i0, i1, e1, e2⟩
    · rw [q1, e, q2]; exact ⟨by decide, by omega, Iff.rfl⟩
    · obtain ⟨g1, g2, g3⟩ := hf f i f0 f1 i0 i1
      have k2 := hk (3 * f + (i + 2) % 3) (by omega) (by omega)
      rw [e, e1, e2, g1, g2]
      omega
  · rw [h1]
    exact zTq_tab (fun x y x0 x1 y0 y1 => (te x y x0 x1 y0 y1).symm) tb

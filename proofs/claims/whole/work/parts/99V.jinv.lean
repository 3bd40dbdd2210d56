/-! ===== the invariant of the law: class and model side by side (written by wip/whole/gen_c.py) ===== -/
/-- a packing: the class's rows and the model's -/
def zPQ (n : Int) (R X Y P O : Nat → Int) (u : Int) (R' O' X' Y' : Nat → Int) (u' : Int) : Prop :=
  (∀ c : Int, 0 ≤ c → c < n → R c.toNat = R' c.toNat ∧ 1 ≤ R c.toNat ∧ R c.toNat ≤ 1000000) ∧ (u = u' ∧ 0 ≤ u' ∧ u' ≤ 12) ∧
  (∀ i : Int, 0 ≤ i → i < u' → O i.toNat = O' i.toNat ∧ 0 ≤ O' i.toNat ∧ O' i.toNat < 12) ∧
  (∀ i j : Int, 0 ≤ i → i < j → j < u' → O' i.toNat ≠ O' j.toNat) ∧
  (∀ c : Int, 0 ≤ c → c < 12 → P c.toNat = if zFi (fun k => O' k.toNat = c) u'.toNat 0 = -1 then 0 else 1) ∧
  (∀ c : Int, 0 ≤ c → c < 12 → P c.toNat = 1 → X c.toNat = X' c.toNat ∧ Y c.toNat = Y' c.toNat) ∧ zPg X Y (fun c => P c.toNat = 1) n
theorem zPQ.cg {n u u' v v' m : Int} {R X Y P O R' O' X' Y' : Nat → Int} {S A B Q D S' D' A' B' : Nat → Int} (h : zPQ n R X Y P O u R' O' X' Y' u') (hn : n ≤ 12) (em : m = n)
    (e1 : ∀ k, k < 12 → S k = R k) (e2 : ∀ k, k < 12 → A k = X k) (e3 : ∀ k, k < 12 → B k = Y k) (e4 : ∀ k, k < 12 → Q k = P k) (e5 : ∀ k, k < 12 → D k = O k) (e6 : v = u)
    (f1 : ∀ k, k < 12 → S' k = R' k) (f2 : ∀ k, k < 12 → D' k = O' k) (f3 : ∀ k, k < 12 → A' k = X' k) (f4 : ∀ k, k < 12 → B' k = Y' k) (f5 : v' = u') : zPQ m S A B Q D v S' D' A' B' v' := by
  subst em; subst e6; subst f5
  obtain ⟨h1, h2, h3, h4, h5, h6, h7, h8⟩ := h
  refine ⟨fun c c0 c1 => ?_, h2, fun i i0 i1 => ?_, fun i j i0 i1 j1 => ?_, fun c c0 c1 => ?_, fun c c0 c1 => ?_, fun c c0 c1 => ?_, fun a b a0 a1 b0 b1 => ?_⟩
  · rw [e1 _ (by omega), f1 _ (by omega)]; exact h1 c c0 c1
  · rw [e5 _ (by omega), f2 _ (by omega)]; exact h3 i i0 i1
  · rw [f2 _ (by omega), f2 _ (by omega)]; exact h4 i j i0 i1 j1
  · rw [e4 _ (by omega), h5 c c0 c1]
    have q : zFi (fun k => D' k.toNat = c) v'.toNat 0 = zFi (fun k => O' k.toNat = c) v'.toNat 0 := zFi_congr _ 0 fun j j0 j1 => by rw [f2 _ (by omega)]
    rw [q]
  · rw [e4 _ (by omega), e2 _ (by omega), e3 _ (by omega), f3 _ (by omega), f4 _ (by omega)]; exact h6 c c0 c1
  · show Q c.toNat = 1 → _
    rw [e4 _ (by omega), e2 _ (by omega), e3 _ (by omega)]; exact h7 c c0 c1
  · show Q a.toNat = 1 → Q b.toNat = 1 → _
    rw [e4 _ (by omega), e4 _ (by omega), e2 _ (by omega), e3 _ (by omega), e2 _ (by omega), e3 _ (by omega)]; exact h8 a b a0 a1 b0 b1
/-- the packing in use -/
def zPJ (w : zW) : Prop := zPQ (w 95 0) (w 30) (w 31) (w 32) (w 33) (w 34) (w 29 5) (w 98) (w 103) (w 104) (w 105) (w 102 0)
/-- a packing that can be brought back -/
def zPH (w : zW) (p x : Nat) : Prop := zPQ (w 95 0) (w (p + 1)) (w (p + 2)) (w (p + 3)) (w (p + 4)) (w (p + 5)) (w p 5) (fun k => w 108 (x + k)) (fun k => w 108 (x + 12 + k)) (fun k => w 108 (x + 24 + k)) (fun k => w 108 (x + 36 + k)) (w 108 (x + 48))
def zHJ (w : zW) : Prop := ((0 ≤ w 37 1 ∧ w 37 1 < 6) ∧ w 37 2 = w 93 31 ∧ 0 ≤ w 93 31 ∧ w 93 31 ≤ 5) ∧ ∀ i : Int, 0 ≤ i → i < w 93 31 → zPH w (39 + 6 * ((w 37 1 - w 93 31 + i + 6) % 6).toNat) (49 * i.toNat)
def zSJ (w : zW) : Prop := (w 0 13 = w 93 24 ∧ (w 93 24 = 0 ∨ w 93 24 = 1)) ∧ (w 93 24 = 1 → zNet 75 2 w ∧ zRow 75 2 w ∧ zPQ (w 95 2) (w 85) (w 86) (w 87) (w 88) (w 89) (w 84 5) (fun k => w 98 (24 + k)) (fun k => w 103 (24 + k)) (fun k => w 104 (24 + k)) (fun k => w 105 (24 + k)) (w 102 2))
def zRJ (w : zW) : Prop := (w 90 1 = w 93 44 ∧ 0 ≤ w 93 44 ∧ w 93 44 ≤ 492) ∧ ((w 93 45 = 0 → w 93 44 = 0) ∧ (w 93 45 = 0 ∨ w 93 45 = 1)) ∧ ∀ i : Int, 0 ≤ i → i < w 93 44 → w 91 i.toNat % 256 = w 115 i.toNat
def zJv (w : zW) : Prop := zNt w ∧ zPJ w ∧ zTt w w ∧ (w 3 7 = w 93 10 ∧ w 3 8 = w 93 11) ∧ zHJ w ∧ zSJ w ∧ zRJ w
theorem zPJ.rl {w : zW} (hN : zNt w) (h : zPJ w) : zRl w w := by
  have hn := hN.n
  obtain ⟨h1, h2, h3, h4, h5, h6, h7⟩ := h
  refine ⟨⟨⟨hN, fun p hp => rfl, fun c c0 c1 => (h1 c c0 c1).1⟩, ⟨h2.1, h2.2.1⟩, fun c c0 c1 => h5 c c0 c1, fun i i0 i1 => (h3 i i0 i1).1, fun c c0 c1 x => h6 c c0 c1 (by rw [h5 c c0 c1]; exact x)⟩, h4, ⟨hN, fun c c0 c1 => (h1 c c0 c1).2, h7, ⟨by omega, by omega⟩, fun c c0 c1 => ?_, fun i i0 i1 => ?_⟩, hN⟩
  · rw [h5 c c0 c1]
    by_cases g : zFi (fun k => w 103 k.toNat = c) (w 102 0).toNat 0 = -1
    · rw [if_pos g]; exact Or.inl rfl
    · rw [if_neg g]; exact Or.inr rfl
  · rw [(h3 i i0 (by omega)).1]
    exact (h3 i i0 (by omega)).2
theorem zRl.pj {a b v : zW} (h : zRl a b) (ea : ∀ p, p = 29 ∨ p = 30 ∨ p = 31 ∨ p = 32 ∨ p = 33 ∨ p = 34 ∨ p = 95 → v p = a p) (eb : ∀ p, p = 98 ∨ p = 102 ∨ p = 103 ∨ p = 104 ∨ p = 105 → v p = b p) : zPJ v := by
  obtain ⟨⟨⟨n1, n2, n3⟩, ⟨h2, h2'⟩, h3, h4, h5⟩, d, ⟨g1, g2, g3, g4, g5, g6⟩, _⟩ := h
  unfold zPJ
  rw [ea 29 (by decide), ea 30 (by decide), ea 31 (by decide), ea 32 (by decide), ea 33 (by decide), ea 34 (by decide), ea 95 (by decide), eb 98 (by decide), eb 102 (by decide), eb 103 (by decide), eb 104 (by decide), eb 105 (by decide)]
  refine ⟨fun c c0 c1 => ⟨n3 c c0 c1, g2 c c0 c1⟩, ⟨h2, h2', by omega⟩, fun i i0 i1 => ⟨h4 i i0 i1, ?_⟩, d, fun c c0 c1 => h3 c c0 c1, fun c c0 c1 x => h5 c c0 c1 (by rw [← h3 c c0 c1]; exact x), g3⟩
  rw [← h4 i i0 i1]
  exact g6 i i0 (by omega)
theorem zJv.rl {w : zW} (h : zJv w) : zRl w w := h.2.1.rl h.1
theorem zJv.i {w : zW} (h : zJv w) : zRd 30 w ∧ zPC w ∧ zRd 98 w ∧ zPM w ∧ zHr w := by
  have r := h.rl
  have i := zRl_i w w r
  have k := h.2.2.2.2.1.1
  exact ⟨r.2.2.1.2.1, r.2.2.1.2.2, i.2.1, i.2.2, k.1, by omega, by omega⟩
theorem zPH_fr {w v : zW} {p x : Nat} (e : ∀ q, p ≤ q → q < p + 6 → v q = w q) (e95 : v 95 = w 95) (e108 : v 108 = w 108) (h : zPH w p x) : zPH v p x := by
  unfold zPH at h ⊢
  rw [e95, e108, e p (by omega) (by omega), e (p + 1) (by omega) (by omega), e (p + 2) (by omega) (by omega), e (p + 3) (by omega) (by omega), e (p + 4) (by omega) (by omega), e (p + 5) (by omega) (by omega)]
  exact h
theorem zNet_fr {q o : Nat} {w v : zW} (e : ∀ p, q ≤ p → p < q + 9 → v p = w p) (f : ∀ p, 95 ≤ p ∧ p ≤ 101 ∧ p ≠ 98 → v p = w p) (h : zNet q o w ∧ zRow q o w) : zNet q o v ∧ zRow q o v := by
  have z1 : zfw v o = zfw w o := by funext a b; unfold zfw; rw [f 100 (by decide)]
  have z2 : zco v o = zco w o := by funext a; unfold zco; rw [f 99 (by decide)]
  unfold zNet zRow at h ⊢
  rw [z1, z2, e q (by omega) (by omega), e (q + 1) (by omega) (by omega), e (q + 2) (by omega) (by omega), e (q + 4) (by omega) (by omega), e (q + 5) (by omega) (by omega), e (q + 6) (by omega) (by omega), e (q + 7) (by omega) (by omega), e (q + 8) (by omega) (by omega), f 95 (by decide), f 96 (by decide), f 97 (by decide), f 101 (by decide)]
  exact h
theorem zHJ_fr {w v : zW} (e : ∀ p, 37 ≤ p → p < 75 → v p = w p) (e95 : v 95 = w 95) (e108 : v 108 = w 108) (e31 : v 93 31 = w 93 31) (h : zHJ w) : zHJ v := by
  obtain ⟨h1, h2⟩ := h
  unfold zHJ
  rw [e 37 (by decide) (by decide), e31]
  refine ⟨h1, fun i i0 i1 => zPH_fr (fun q q0 q1 => e q (by omega) (by omega)) e95 e108 (h2 i i0 i1)⟩
theorem zSJ_fr {w v : zW} (e : ∀ p, 75 ≤ p → p < 90 → v p = w p) (f : ∀ p, 95 ≤ p → p ≤ 101 → p ≠ 98 → v p = w p) (f2 : ∀ p, p = 98 ∨ p = 103 ∨ p = 104 ∨ p = 105 → ∀ k : Nat, 24 ≤ k → v p k = w p k) (f3 : v 102 2 = w 102 2) (e0 : v 0 = w 0) (e24 : v 93 24 = w 93 24) (h : zSJ w) : zSJ v := by
  obtain ⟨h1, h2⟩ := h
  unfold zSJ
  rw [e0, e24]
  refine ⟨h1, fun x => ?_⟩
  obtain ⟨g1, g2, g3⟩ := h2 x
  have q := zNet_fr (v := v) (fun p p0 p1 => e p (by omega) (by omega)) (fun p hp => f p (by omega) (by omega) (by omega)) ⟨g1, g2⟩
  refine ⟨q.1, q.2, ?_⟩
  have z : ∀ p, p = 98 ∨ p = 103 ∨ p = 104 ∨ p = 105 → (fun k => v p (24 + k)) = fun k => w p (24 + k) := fun p hp => funext fun k => f2 p hp (24 + k) (by omega)
  rw [f 95 (by decide) (by decide) (by decide), z 98 (by decide), z 103 (by decide), z 104 (by decide), z 105 (by decide), f3, e 84 (by decide) (by decide), e 85 (by decide) (by decide), e 86 (by decide) (by decide), e 87 (by decide) (by decide), e 88 (by decide) (by decide), e 89 (by decide) (by decide)]
  exact g3
theorem zRJ_fr {w v : zW} (e90 : v 90 = w 90) (e91 : v 91 = w 91) (e115 : v 115 = w 115) (e44 : v 93 44 = w 93 44) (e45 : v 93 45 = w 93 45) (h : zRJ w) : zRJ v := by
  unfold zRJ at h ⊢
  rw [e90, e91, e115, e44, e45]
  exact h
theorem zTt_fr {w v : zW} (e1 : v 1 = w 1) (e2 : v 2 = w 2) (e94 : v 94 = w 94) (e932 : v 93 2 = w 93 2) (h : zTt w w) : zTt v v := by
  unfold zTt at h ⊢
  rw [e1, e2, e94, e932]
  exact h
theorem zPJ_fr {w v : zW} (e : ∀ p, (29 ≤ p ∧ p < 35) ∨ p = 95 ∨ p = 98 ∨ (102 ≤ p ∧ p < 106) → v p = w p) (h : zPJ w) : zPJ v := by
  unfold zPJ at h ⊢
  rw [e 29 (by decide), e 30 (by decide), e 31 (by decide), e 32 (by decide), e 33 (by decide), e 34 (by decide), e 95 (by decide), e 98 (by decide), e 102 (by decide), e 103 (by decide), e 104 (by decide), e 105 (by decide)]
  exact h
/-- what a question may change -/
theorem zJv_fr {w v : zW} (h : zJv w) (e : ∀ p, p ≠ 92 → p ≠ 93 → p ≠ 106 → p ≠ 107 → p ≠ 116 → v p = w p) (f : ∀ k, k ≠ 0 → k ≠ 32 → k ≠ 33 → v 93 k = w 93 k) : zJv v := by
  obtain ⟨h1, h2, h3, h4, h5, h6, h7⟩ := h
  refine ⟨zNt_fr (fun p hp => e p (by omega) (by omega) (by omega) (by omega) (by omega)) h1, zPJ_fr (fun p hp => e p (by omega) (by omega) (by omega) (by omega) (by omega)) h2,
    zTt_fr (e 1 (by decide) (by decide) (by decide) (by decide) (by decide)) (e 2 (by decide) (by decide) (by decide) (by decide) (by decide)) (e 94 (by decide) (by decide) (by decide) (by decide) (by decide)) (f 2 (by decide) (by decide) (by decide)) h3, ?_,
    zHJ_fr (fun p p0 p1 => e p (by omega) (by omega) (by omega) (by omega) (by omega)) (e 95 (by decide) (by decide) (by decide) (by decide) (by decide)) (e 108 (by decide) (by decide) (by decide) (by decide) (by decide)) (f 31 (by decide) (by decide) (by decide)) h5,
    zSJ_fr (fun p p0 p1 => e p (by omega) (by omega) (by omega) (by omega) (by omega)) (fun p p0 p1 _ => e p (by omega) (by omega) (by omega) (by omega) (by omega)) (fun p hp k _ => by rw [e p (by omega) (by omega) (by omega) (by omega) (by omega)]) (by rw [e 102 (by decide) (by decide) (by decide) (by decide) (by decide)]) (e 0 (by decide) (by decide) (by decide) (by decide) (by decide)) (f 24 (by decide) (by decide) (by decide)) h6,
    zRJ_fr (e 90 (by decide) (by decide) (by decide) (by decide) (by decide)) (e 91 (by decide) (by decide) (by decide) (by decide) (by decide)) (e 115 (by decide) (by decide) (by decide) (by decide) (by decide)) (f 44 (by decide) (by decide) (by decide)) (f 45 (by decide) (by decide) (by decide)) h7⟩
  rw [e 3 (by decide) (by decide) (by decide) (by decide) (by decide), f 10 (by decide) (by decide) (by decide), f 11 (by decide) (by decide) (by decide)]
  exact h4

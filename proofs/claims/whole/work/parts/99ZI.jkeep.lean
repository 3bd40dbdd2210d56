/-! ===== the invariant behind calls that keep (written by wip/whole/gen_c.py) ===== -/
theorem zMs_lt {b w : zW} {p : Nat} (h : p < 93) : zMs b w p = w p := by
  unfold zMs
  cases q : (Nat.ble 93 p && Nat.blt p 116) with
  | false => rfl
  | true =>
    simp only [Bool.and_eq_true] at q
    have := Nat.le_of_ble_eq_true q.1
    omega
theorem zMs_in {b w : zW} {p : Nat} (h : 93 ≤ p) (h2 : p < 116) : zMs b w p = b p := by
  unfold zMs
  rw [Nat.ble_eq_true_of_le h, Nat.blt_eq.mpr h2]
  rfl
theorem zCs_in {b w : zW} {p : Nat} (h : 29 ≤ p) (h2 : p < 75) : zCs b w p = b p := by
  unfold zCs
  rw [Nat.ble_eq_true_of_le h, Nat.blt_eq.mpr h2]
  rfl
theorem zCs_out {b w : zW} {p : Nat} (h : p < 29 ∨ 75 ≤ p) : zCs b w p = w p := by
  unfold zCs
  cases q : (Nat.ble 29 p && Nat.blt p 75) with
  | false => rfl
  | true =>
    simp only [Bool.and_eq_true] at q
    have := Nat.le_of_ble_eq_true q.1
    have := Nat.blt_eq.mp q.2
    omega
theorem zkpr_fr {v w : zW} (e : ∀ p, 98 ≤ p → p ≤ 108 → v p = w p) (e31 : v 93 31 = w 93 31) (k : Nat) : zkpr v k = zkpr w k := by
  unfold zkpr zpk
  rw [e31, e 98 (by decide) (by decide), e 102 (by decide) (by decide), e 103 (by decide) (by decide), e 104 (by decide) (by decide), e 105 (by decide) (by decide), e 108 (by decide) (by decide)]
/-- class and model have kept what was before, and then done the same -/
theorem zJv_keep {w A B W1 : zW} (J : zJv w) (hW : ∀ p, p ≠ 116 → W1 p = zCs A w p) (hA : ∀ p, 37 ≤ p → p < 75 → A p = zkC w p) (hB : ∀ p, p ≠ 98 → (p < 102 ∨ 105 < p) → B p = zkpm (zupd W1 93 0 0) p) (hi : zHi2 B (zkpm (zupd W1 93 0 0))) (hr : zRl A B) : zJv (zupd (zMs B W1) 93 0 0) := by
  have hn := J.1.n
  have w1 : ∀ p, (p < 29 ∨ 75 ≤ p) → p ≠ 116 → W1 p = w p := fun p h1 h2 => by rw [hW p h2, zCs_out h1]
  have lo : ∀ p, p < 93 → zupd (zMs B W1) 93 0 0 p = W1 p := fun p h => by rw [zune (by omega), zMs_lt h]
  have hg : ∀ p, 93 < p → p < 116 → zupd (zMs B W1) 93 0 0 p = B p := fun p h h2 => by rw [zune (by omega), zMs_in (by omega) h2]
  have h9 : ∀ k, k ≠ 0 → k ≠ 31 → zupd (zMs B W1) 93 0 0 93 k = w 93 k := fun k h h2 => by
    rw [zuk h, zMs_in (by decide) (by decide), hB 93 (by decide) (by decide), zkpm_93 h2, zuk h, w1 93 (by decide) (by decide)]
  have b : ∀ p, 94 ≤ p → p < 116 → p ≠ 98 → (p < 102 ∨ 105 < p) → p ≠ 108 → zupd (zMs B W1) 93 0 0 p = w p := fun p p0 p1 p2 p3 p4 => by
    rw [hg p (by omega) p1, hB p p2 p3, zBn (by omega) p4, w1 p (by omega) (by omega)]
  have bk : ∀ p, 94 ≤ p → p < 116 → p ≠ 108 → zkpm (zupd W1 93 0 0) p = w p := fun p p0 p1 p4 => by rw [zBn (by omega) p4, w1 p (by omega) (by omega)]
  have e31 : zupd W1 93 0 0 93 31 = w 93 31 := by rw [zuk (by decide), w1 93 (by decide) (by decide)]
  have l2 : ∀ p, p < 29 ∨ (75 ≤ p ∧ p < 93) → zupd (zMs B W1) 93 0 0 p = w p := fun p h => by rw [lo p (by omega), w1 p (by omega) (by omega)]
  have lA : ∀ p, 29 ≤ p → p < 75 → zupd (zMs B W1) 93 0 0 p = A p := fun p h h2 => by rw [lo p (by omega), hW p (by omega), zCs_in h h2]
  obtain ⟨j1, j2, j3, j4, j5, j6, j7⟩ := J
  refine ⟨zNt_fr (fun p hp => ?_) j1, hr.pj (fun p hp => ?_) (fun p hp => hg p (by omega) (by omega)), zTt_fr (l2 1 (by decide)) (l2 2 (by decide)) (b 94 (by decide) (by decide) (by decide) (by decide) (by decide)) (h9 2 (by decide) (by decide)) j3, ?_,
    zHJ_kp j5 j2 (by omega) (by rw [b 95 (by decide) (by decide) (by decide) (by decide) (by decide)]) (fun p p0 p1 => by rw [lA p (by omega) p1, hA p p0 p1]) ?_ (fun k hk => ?_),
    zSJ_fr (fun p p0 p1 => l2 p (by omega)) (fun p p0 p1 p2 => b p (by omega) (by omega) p2 (by omega) (by omega)) (fun p hp k hk => ?_) ?_ (l2 0 (by decide)) (h9 24 (by decide) (by decide)) j6,
    zRJ_fr (l2 90 (by decide)) (l2 91 (by decide)) (b 115 (by decide) (by decide) (by decide) (by decide) (by decide)) (h9 44 (by decide) (by decide)) (h9 45 (by decide) (by decide)) j7⟩
  · rcases hp with q | q
    · exact l2 p (by omega)
    · exact b p (by omega) (by omega) q.2.2 (by omega) (by omega)
  · by_cases q : p = 95
    · rw [q, hg 95 (by decide) (by decide)]
      exact hr.1.1.2.1 95 (by decide)
    · exact lA p (by omega) (by omega)
  · rw [l2 3 (by decide), h9 10 (by decide) (by decide), h9 11 (by decide) (by decide)]
    exact j4
  · rw [zuk (by decide), zMs_in (by decide) (by decide), hB 93 (by decide) (by decide), zkpm_31, e31]
  · rw [hg 108 (by decide) (by decide), hB 108 (by decide) (by decide), zkpm_108]
    exact zkpr_fr (fun p p0 p1 => by rw [zune (by omega), w1 p (by omega) (by omega)]) e31 k
  · rw [hg p (by omega) (by omega), hi.1 p hp k hk, bk p (by omega) (by omega) (by omega)]
  · rw [hg 102 (by decide) (by decide), hi.2, bk 102 (by decide) (by decide) (by decide)]
/-- before the two do the same -/
theorem zRl_fr2 {a b a' b' : zW} (ea : ∀ p, p < 37 ∨ (75 ≤ p ∧ p < 102) → a' p = a p) (eb : ∀ p, p < 13 ∨ (95 ≤ p ∧ p ≤ 105) → b' p = b p) (h : zRl a b) : zRl a' b' := by
  obtain ⟨⟨⟨n1, n2, n3⟩, h2, h3, h4, h5⟩, d, ⟨g1, g2, g3⟩, g4⟩ := h
  have z : zml b' = zml b := zml_fr (eb 102 (by decide)) (eb 103 (by decide))
  have na : zNt a' := zNt_fr (fun p hp => ea p (by omega)) n1
  refine ⟨⟨⟨na, fun p hp => by rw [eb p (by omega), ea p (by omega)]; exact n2 p hp, fun c c0 c1 => ?_⟩, ?_⟩, zQd_fr d (eb 102 (by decide)) (eb 103 (by decide)), ⟨na, zRd_fr (ea 95 (by decide)) (ea 30 (by decide)) g2, ?_⟩, zNt_fr (fun p hp => eb p (by omega)) g4⟩
  · rw [ea 95 (by decide)] at c1
    rw [ea 30 (by decide), eb 98 (by decide)]
    exact n3 c c0 c1
  · rw [z, ea 29 (by decide), ea 31 (by decide), ea 32 (by decide), ea 33 (by decide), ea 34 (by decide), eb 102 (by decide), eb 103 (by decide), eb 104 (by decide), eb 105 (by decide)]
    exact ⟨h2, h3, h4, h5⟩
  · unfold zPC at g3 ⊢
    rw [ea 29 (by decide), ea 31 (by decide), ea 32 (by decide), ea 33 (by decide), ea 34 (by decide), ea 95 (by decide)]
    exact g3
theorem zJv.kb {w W1 : zW} (J : zJv w) (hW : ∀ p, p < 13 ∨ (95 ≤ p ∧ p ≤ 105) → W1 p = w p) : zRl (zkC w) (zkpm (zupd W1 93 0 0)) :=
  zRl_fr2 (fun p hp => zkC_ne J.i.2.2.2.2 (by omega)) (fun p hp => by rw [zBn (by omega) (by omega), hW p hp]) J.rl
theorem zRl.set {a b : zW} (h : zRl a b) {c x : Int} (c0 : 0 ≤ c) (c1 : c < a 95 0) (hx : 1 ≤ x ∧ x ≤ 1000000) : zRl (zupd a 30 c.toNat x) (zupd b 98 c.toNat x) :=
  (zRl_c a b 2 c x c x h (Or.inr (Or.inl ⟨rfl, rfl, ⟨c0, by rw [h.1.1.2.1 95 (by decide)]; exact c1⟩, rfl, hx⟩))).2
theorem zRl.sw {a b : zW} (h : zRl a b) : zRl (zSwp 30 a) (zSwp 98 b) ∧ zSwn 30 a = zSwn 98 b :=
  ⟨(zRl_c a b 1 0 1 1 0 h (Or.inr (Or.inr (Or.inl ⟨rfl, rfl, by decide, by decide⟩)))).2, h.1.1.sw.2⟩
theorem zRl.stl : ∀ (m : Nat) (i : Int) (a b : zW), zRl a b → zRl (zStl 30 m i a).2 (zStl 98 m i b).2 ∧ (zStl 30 m i a).1 = (zStl 98 m i b).1 := by
  intro m
  induction m with
  | zero => exact fun i a b h => ⟨h.sw.1, rfl⟩
  | succ m ih =>
    intro i a b h
    have ea : zStl 30 (m + 1) i a = if zSwn 30 a = 0 then (i, zSwp 30 a) else zStl 30 m (i + 1) (zSwp 30 a) := rfl
    have eb : zStl 98 (m + 1) i b = if zSwn 98 b = 0 then (i, zSwp 98 b) else zStl 98 m (i + 1) (zSwp 98 b) := rfl
    have s := h.sw
    rw [ea, eb, ← s.2]
    by_cases g : zSwn 30 a = 0
    · rw [if_pos g, if_pos g]; exact ⟨s.1, rfl⟩
    · rw [if_neg g, if_neg g]; exact ih _ _ _ s.1
theorem zRl.la {a b : zW} (h : zRl a b) {f : Int} (f0 : 0 ≤ f) (f1 : f < a 96 0) : zRl (zLa a f) (zLam b f) := by
  have q := h.1.la f0 f1
  exact ⟨q.1, q.2, ⟨zNt_lay (fun p hp => zLa_ne hp) h.2.2.1.1, zRd_lay (fun p hp => zLa_ne hp) h.2.2.1.2.1, (zLa_li h.2.2.1.1 f0 f1).pc⟩, zNt_laym (fun p hp => zLam_ne hp) h.2.2.2⟩
theorem zRl.tn {a b : zW} (h : zRl a b) : zRl (ztn a 12) (ztnm b) :=
  ⟨h.1.tn, zQd_fr h.2.1 (ztnm_ne (by decide) (by decide)) (ztnm_ne (by decide) (by decide)), ⟨zNt_fr (fun p hp => ztn_ne (by omega) (by omega)) h.2.2.1.1, zRd_fr (ztn_ne (by decide) (by decide)) (ztn_ne (by decide) (by decide)) h.2.2.1.2.1, ztn_pc h.2.2.1.2.2⟩, zNt_fr (fun p hp => ztnm_ne (by omega) (by omega)) h.2.2.2⟩
theorem zsft_ne {w : zW} {x y : Int} {p : Nat} (h1 : p ≠ 31) (h2 : p ≠ 32) : zsft w x y 12 p = w p := zss_ne h1 h2
theorem zsft_31 {w : zW} {x y : Int} {i : Nat} (h : i < 12) : zsft w x y 12 31 i = if w 33 i = 0 then w 31 i else w 31 i + x := by
  unfold zsft
  rw [zset_ne (by decide), zset_lt h]
theorem zsft_32 {w : zW} {x y : Int} {i : Nat} (h : i < 12) : zsft w x y 12 32 i = if w 33 i = 0 then w 32 i else w 32 i + y := by
  unfold zsft
  rw [zset_lt h]
theorem zsft_pc {w : zW} {x y : Int} (h : zPC w) (no : ∀ c : Int, 0 ≤ c → c < 12 → ¬ (w 33 c.toNat = 1 ∧ (zTf (w 31 c.toNat + x) ∨ zTf (w 32 c.toNat + y)))) : zPC (zsft w x y 12) := by
  obtain ⟨⟨p1, p2⟩, p3, p4, p5⟩ := h
  unfold zPC
  rw [zsft_ne (p := 33) (by decide) (by decide), zsft_ne (p := 95) (by decide) (by decide), zsft_ne (p := 29) (by decide) (by decide), zsft_ne (p := 34) (by decide) (by decide)]
  refine ⟨⟨fun c c0 c1 m => ?_, fun a b a0 a1 b0 b1 ma mb => ?_⟩, p3, p4, p5⟩
  · have m : w 33 c.toNat = 1 := m
    have q := p1 c c0 c1 m
    have n := no c c0 c1
    rw [zsft_31 (by omega), zsft_32 (by omega), if_neg (by omega), if_neg (by omega)]
    unfold zTf at n
    refine ⟨q.1, ?_⟩
    omega
  · have ma : w 33 a.toNat = 1 := ma
    have mb : w 33 b.toNat = 1 := mb
    have q := p2 a b a0 a1 b0 b1 ma mb
    rw [zsft_31 (by omega), zsft_32 (by omega), zsft_31 (by omega), zsft_32 (by omega), if_neg (by omega), if_neg (by omega), if_neg (by omega), if_neg (by omega)]
    omega
theorem zRl.sf {a b : zW} (h : zRl a b) {x y : Int} (no : ∀ c : Int, 0 ≤ c → c < 12 → ¬ (a 33 c.toNat = 1 ∧ (zTf (a 31 c.toNat + x) ∨ zTf (a 32 c.toNat + y)))) : zRl (zsft a x y 12) (zsfm b x y) := by
  obtain ⟨⟨⟨n1, n2, n3⟩, h2, h3, h4, h5⟩, d, ⟨g1, g2, g3⟩, g4⟩ := h
  have z : zml (zsfm b x y) = zml b := zml_fr (zsfm_ne (by decide) (by decide)) (zsfm_ne (by decide) (by decide))
  have na : zNt (zsft a x y 12) := zNt_fr (fun p hp => zsft_ne (by omega) (by omega)) n1
  refine ⟨⟨⟨na, fun p hp => by rw [zsfm_ne (by omega) (by omega), zsft_ne (by omega) (by omega)]; exact n2 p hp, fun c c0 c1 => ?_⟩, ?_, fun c c0 c1 => ?_, fun i i0 i1 => ?_, fun c c0 c1 m => ?_⟩, zQd_fr d (zsfm_ne (by decide) (by decide)) (zsfm_ne (by decide) (by decide)), ⟨na, zRd_fr (zsft_ne (by decide) (by decide)) (zsft_ne (by decide) (by decide)) g2, zsft_pc g3 no⟩, zNt_fr (fun p hp => zsfm_ne (by omega) (by omega)) g4⟩
  · rw [zsft_ne (p := 95) (by decide) (by decide)] at c1
    rw [zsft_ne (p := 30) (by decide) (by decide), zsfm_ne (p := 98) (by decide) (by decide)]
    exact n3 c c0 c1
  · rw [zsft_ne (p := 29) (by decide) (by decide), zsfm_ne (p := 102) (by decide) (by decide)]; exact h2
  · rw [z, zsft_ne (p := 33) (by decide) (by decide)]; exact h3 c c0 c1
  · rw [zsfm_ne (p := 102) (by decide) (by decide)] at i1
    rw [zsft_ne (p := 34) (by decide) (by decide), zsfm_ne (p := 103) (by decide) (by decide)]; exact h4 i i0 i1
  · rw [z] at m
    have s := h3 c c0 c1
    have g := h5 c c0 c1 m
    have cc : ((c.toNat : Nat) : Int) = c := by omega
    have mk : zmk b (b 102 0).toNat (c.toNat : Int) = 1 := by rw [cc]; exact m
    have x1 : zsfm b x y 104 c.toNat = b 104 c.toNat + x := by
      show (if zmk b (b 102 0).toNat (c.toNat : Int) = 0 then b 104 c.toNat else b 104 c.toNat + x) = _
      rw [if_neg (by rw [mk]; decide)]
    have x2 : zsfm b x y 105 c.toNat = b 105 c.toNat + y := by
      show (if zmk b (b 102 0).toNat (c.toNat : Int) = 0 then b 105 c.toNat else b 105 c.toNat + y) = _
      rw [if_neg (by rw [mk]; decide)]
    rw [zsft_31 (by omega), zsft_32 (by omega), if_neg (by omega), if_neg (by omega), x1, x2, g.1, g.2]
    exact ⟨rfl, rfl⟩
theorem zSR_pos {w : zW} {q : Nat} {c : Int} (h : zSb w c) : 1 ≤ zSR w q c ∧ zSR w q c ≤ 1000000 := by
  unfold zSR
  rw [if_pos h]
  exact zSv_rg (zSvP_ex 1000000 (by omega) fun u h1 h2 => by omega)
theorem zkC_sb {w : zW} {c : Int} (hH : zHr w) (h : zSb w c) : zSb (zkC w) c := by
  have e3 : zF0 (zkC w) = zF0 w := zF0_fr (zkC_ne hH (by decide))
  unfold zSb
  rw [zkC_ne hH (a := 97) (by decide), zkC_ne hH (a := 95) (by decide), e3]
  exact h

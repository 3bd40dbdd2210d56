/-! ===== class and model find the same next command (written by wip/whole/gen_c.py) ===== -/
def zRw (V L : Nat → Int) (b : zW) (k : Nat) (q : Int) : Prop := q = zdp V k ∧ ∀ j : Int, 0 ≤ j → j < zdp V k → b 112 j.toNat = zsl V j k ∧ b 113 j.toNat = L (zsl V j k).toNat
theorem zSq.wf {a b : zW} (q : zSq a b) (h0 : a 23 8 = 0) (h1 : a 23 6 ≤ 60) : zWf (a 24) (a 26) (a 23 6).toNat := by
  obtain ⟨_, _, j0, j1, j2, _⟩ := q
  refine ⟨fun i hi c => ?_, fun i hi c => ?_, by rw [← j2]; exact h0, by omega⟩
  · have e := j1 i (by omega)
    rcases e.2 with x | x | x | x | x | x | x
    · have := e.1; have := x.1; omega
    · have := e.1; have := x.1; omega
    · have := e.1; have := x.1; omega
    · have := e.1; have := x.1; omega
    · have := e.1; omega
    · have := e.1; have := x.1; omega
    · exact x.2
  · have e := j1 i (by omega)
    rcases e.2 with x | x | x | x | x | x | x
    · have := e.1; have := x.1; omega
    · have := e.1; have := x.1; omega
    · have := e.1; have := x.1; omega
    · have := e.1; have := x.1; omega
    · have := e.1; omega
    · have := x.2.1; have := x.2.2.1; have := x.2.2.2; omega
    · have := e.1; have := x.1; omega
theorem zSq.k6 {a b : zW} (q : zSq a b) {k : Nat} (hk : (k : Int) < a 23 6) : (a 24 k = 1007 + b 109 k) ∧ (a 24 k = 1013 → b 110 k = a 26 k) := by
  have e := q.2.2.2.1 k hk
  refine ⟨e.1, fun c => ?_⟩
  rcases e.2 with x | x | x | x | x | x | x
  · have := e.1; have := x.1; omega
  · have := e.1; have := x.1; omega
  · have := e.1; have := x.1; omega
  · have := e.1; have := x.1; omega
  · have := e.1; omega
  · exact x.2.1.symm
  · have := e.1; have := x.1; omega
theorem zSq_fr {a a' b b' : zW} (ea : ∀ p, p ≠ 27 → a' p = a p) (eb : ∀ p, p ≠ 112 → p ≠ 113 → b' p = b p) (h : zSq a b) : zSq a' b' := by
  unfold zSq at h ⊢
  rw [ea 23 (by decide), ea 24 (by decide), ea 25 (by decide), ea 26 (by decide), ea 28 (by decide), ea 4 (by decide), ea 5 (by decide), eb 93 (by decide) (by decide), eb 95 (by decide) (by decide), eb 101 (by decide) (by decide), eb 109 (by decide) (by decide), eb 110 (by decide) (by decide), eb 111 (by decide) (by decide)]
  exact h
theorem zRw_o {V L : Nat → Int} {b : zW} {k : Nat} {q y : Int} (hb : ∀ i, i < k → V i = 1014 → 1 ≤ zdp V i) (r0 : 0 ≤ zdp V k) (h : zRw V L b k q) (c : V k = 1013) : zRw V (zupL L k y) (zupd (zupd b 112 q.toNat k) 113 q.toNat y) (k + 1) (q + 1) := by
  obtain ⟨h1, h2⟩ := h
  have sk : zdp V (k + 1) = zdp V k + 1 := by rw [zdp_s, if_pos c]
  refine ⟨by omega, fun j j0 j1 => ?_⟩
  show (if j.toNat = q.toNat then (k : Int) else b 112 j.toNat) = _ ∧ (if j.toNat = q.toNat then y else b 113 j.toNat) = _
  rw [zsl_s]
  by_cases e : zdp V k = j
  · rw [if_pos (show V k = 1013 ∧ zdp V k = j from ⟨c, e⟩), if_pos (by omega), if_pos (by omega), show ((k : Int)).toNat = k from rfl, zupL_y]
    exact ⟨rfl, rfl⟩
  · rw [if_neg (show ¬ (V k = 1013 ∧ zdp V k = j) from fun x => e x.2), if_neg (by omega), if_neg (by omega)]
    have g := h2 j j0 (by omega)
    have z := (zsl_b k hb j j0 (by omega)).1
    rw [zupL_n (by omega)]
    exact g
theorem zRw_e {V L : Nat → Int} {b : zW} {k s k' : Nat} {q q' : Int} (hb : ∀ i, i < k → V i = 1014 → 1 ≤ zdp V i) (h : zRw V L b k q) (w1 : 1 ≤ zdp V k) (hs : (s : Int) = zsl V (zdp V k - 1) k) (e1 : q' = zdp V k') (e2 : zdp V k' ≤ zdp V k) (e3 : ∀ j : Int, 0 ≤ j → j < zdp V k' → zsl V j k' = zsl V j k) : zRw V (zupL L s (L s - 1)) (zupd b 113 (q - 1).toNat (b 113 (q - 1).toNat - 1)) k' q' := by
  obtain ⟨h1, h2⟩ := h
  refine ⟨e1, fun j j0 j1 => ?_⟩
  rw [e3 j j0 j1]
  have g := h2 j j0 (by omega)
  refine ⟨g.1, ?_⟩
  show (if j.toNat = (q - 1).toNat then b 113 (q - 1).toNat - 1 else b 113 j.toNat) = _
  by_cases e : j = zdp V k - 1
  · rw [if_pos (by omega), show q - 1 = j by omega, g.2, e, ← hs, show ((s : Int)).toNat = s from rfl, zupL_y]
  · have x1 := zsl_b k hb j j0 (by omega)
    have x2 := zsl_b k hb (zdp V k - 1) (by omega) (by omega)
    have ne : (zsl V j k).toNat ≠ s := fun x => by
      have q1 := x1.2.2.1
      have q2 := x2.2.2.1
      rw [← hs, show ((s : Int)).toNat = s from rfl] at q2
      rw [x] at q1
      omega
    rw [if_neg (by omega), zupL_n ne]
    exact g.2
theorem zsr (n : Nat) : ∀ (M k : Nat) (p q d g : Int) (a b : zW), zSq a b → a 23 8 = 0 → (a 23 6 = n ∧ n ≤ 60) → k ≤ n → zLvs (a 24) (a 27) k → zRw (a 24) (a 27) b k q → zPo (a 24) (a 27) n k p → 0 ≤ p → p ≤ M → g ≠ 0 → d < 20 →
    ∃ (t k' : Nat) (b' : zW) (q' : Int), (t : Int) ≤ p ∧ (∀ m, zmr (m + t) d q k g b = zmr m d q' k' g b') ∧ (∀ m, zmrE m d q' k' g b' → zmrE (m + t) d q k g b) ∧ (((zcf M k a).1 = -1 ∧ k' = n) ∨ ((zcf M k a).1 = k' ∧ k' < n ∧ a 24 k' ≠ 1013 ∧ a 24 k' ≠ 1014)) ∧ k' ≤ n ∧ zLvs (a 24) ((zcf M k a).2 27) k' ∧ zRw (a 24) ((zcf M k a).2 27) b' k' q' ∧ ∀ x, x ≠ 112 → x ≠ 113 → b' x = b x := by
  intro M
  induction M with
  | zero =>
    intro k p q d g a b hq h8 hn hk hL hR hP p0 pM hg hd
    have hw := hq.wf h8 (by omega)
    rw [show (a 23 6).toNat = n by omega] at hw
    have hb := zsl_b (V := a 24) k (fun i hi x => (hw.1 i (by omega) x).1)
    have ek : k = n := by
      rcases hP with ⟨e, hp⟩ | ⟨e, e0, a1, a2, hp⟩ | ⟨e, e0, e1, ⟨a1, f1⟩, a2, f2, hp⟩
      · omega
      · have l0 := hL 0 (by omega) (by omega)
        have b0 := hb 0 (by omega) (by omega)
        have c0 := a2.1
        have n0 : 0 ≤ (a 27 (zsl (a 24) 0 k).toNat - 1) * (10 * (e0 - zsl (a 24) 0 k)) := Int.mul_nonneg (by omega) (by omega)
        omega
      · have l0 := hL 0 (by omega) (by omega)
        have b0 := hb 0 (by omega) (by omega)
        have l1 := hL 1 (by omega) (by omega)
        have b1 := hb 1 (by omega) (by omega)
        have c0 := a2.1
        have c1 := f2.1
        have n0 : 0 ≤ (a 27 (zsl (a 24) 0 k).toNat - 1) * (10 * (e0 - zsl (a 24) 0 k)) := Int.mul_nonneg (by omega) (by omega)
        have n1 : 0 ≤ (a 27 (zsl (a 24) 1 k).toNat - 1) * (e1 - zsl (a 24) 1 k) := Int.mul_nonneg (by omega) (by omega)
        omega
    exact ⟨0, k, b, q, by omega, fun m => rfl, fun m x => x, Or.inl ⟨rfl, ek⟩, hk, hL, hR, fun x _ _ => rfl⟩
  | succ M ih =>
    intro k p q d g a b hq h8 hn hk hL hR hP p0 pM hg hd
    have hw := hq.wf h8 (by omega)
    rw [show (a 23 6).toNat = n by omega] at hw
    have eZ : zcf (M + 1) k a = if 0 ≤ (k : Int) ∧ (k : Int) < a 23 6 then (if a 24 ((k : Int)).toNat = 1013 ∨ a 24 ((k : Int)).toNat = 1014 then zcf M (zcfn a k) (zcw a k) else ((k : Int), a)) else (-1, a) := rfl
    rw [show ((k : Int)).toNat = k from rfl] at eZ
    by_cases c : k = n
    · rw [eZ, if_neg (by omega)]
      exact ⟨0, k, b, q, by omega, fun m => rfl, fun m x => x, Or.inl ⟨rfl, c⟩, hk, hL, hR, fun x _ _ => rfl⟩
    have hkn : k < n := by omega
    have hlt : (k : Int) < a 23 6 := by omega
    have k6 := hq.k6 hlt
    have q39 : a 23 6 = b 93 39 := hq.1.1
    have cond : g ≠ 0 ∧ (k : Int) < b 93 39 ∧ d < 20 := ⟨hg, by omega, hd⟩
    have hb : ∀ i, i < k → a 24 i = 1014 → 1 ≤ zdp (a 24) i := fun i hi x => (hw.1 i (by omega) x).1
    have r := zdp_rg hw k hk
    rw [if_pos ⟨by omega, hlt⟩] at eZ
    by_cases c3 : a 24 k = 1013
    · rw [if_pos (Or.inl c3)] at eZ
      have ew : zcw a k = zupd a 27 k (a 26 k) := zcw_o (i := (k : Int)) c3
      have en : zcfn a k = ((k + 1 : Nat) : Int) := if_pos c3
      rw [ew, en] at eZ
      obtain ⟨⟨p', P1, P2, P3⟩, L1⟩ := zPo_o hw hkn hL c3 hP
      have w2 := hw.2.1 k hkn c3
      have R1 := zRw_o (y := b 110 k) hb r.1 hR c3
      have ey : b 110 k = a 26 k := k6.2 c3
      rw [ey] at R1
      have q2 : zSq (zupd a 27 k (a 26 k)) (zupd (zupd b 112 q.toNat k) 113 q.toNat (a 26 k)) := zSq_fr (fun x hx => zune hx) (fun x h1 h2 => by rw [zune h2, zune h1]) hq
      obtain ⟨t, k', b', q', i0, i1, i2, i3, i4, i5, i6, i7⟩ := ih (k + 1) p' (q + 1) d g (zupd a 27 k (a 26 k)) (zupd (zupd b 112 q.toNat k) 113 q.toNat (a 26 k)) q2 h8 hn (by omega) L1 R1 P1 P2 (by omega) hg hd
      have b6 : b 109 k = 6 := by omega
      rw [eZ]
      refine ⟨t + 1, k', b', q', by omega, fun m => ?_, fun m x => ?_, i3, i4, i5, i6, fun x h1 h2 => by rw [i7 x h1 h2, zune h2, zune h1]⟩
      · rw [← i1 m, ← ey]
        show (if _ then (if _ then _ else _) else _) = _
        rw [if_pos cond, if_pos (show b 109 ((k : Int)).toNat = 6 from b6)]
        rfl
      · have y := i2 m x
        rw [← ey] at y
        exact fun _ => ⟨⟨by omega, by omega⟩, fun _ => ⟨⟨by have := hR.1; omega, by have := hR.1; omega⟩, y⟩, fun z => absurd (b6.symm.trans z) (by decide), fun z => (z b6).elim⟩
    · by_cases c4 : a 24 k = 1014
      · rw [if_pos (Or.inr c4)] at eZ
        have w1 := hw.1 k hkn c4
        have x2 := zsl_b k hb (zdp (a 24) k - 1) (by omega) (by omega)
        have lx := hL (zdp (a 24) k - 1) (by omega) (by omega)
        obtain ⟨s, hs⟩ : ∃ s : Nat, (s : Int) = zsl (a 24) (zdp (a 24) k - 1) k := ⟨(zsl (a 24) (zdp (a 24) k - 1) k).toNat, by omega⟩
        have hN : a 26 k = s := by rw [w1.2, hs]
        rw [← hs, show ((s : Int)).toNat = s from rfl] at lx
        obtain ⟨E1, E2, E3, E4, E5, E6, E7⟩ := zPo_e hw hkn hL c4 hs hP
        have ez : z32 (a 27 s - 1) = a 27 s - 1 := z32_id ⟨by omega, by omega⟩
        have ew : zcw a k = zupd a 27 s (a 27 s - 1) := by
          have e := zcw_c (w := a) (i := (k : Int)) c4
          rw [show ((k : Int)).toNat = k from rfl, hN, show ((s : Int)).toNat = s from rfl, ez] at e
          exact e
        have en : zcfn a k = if 0 < a 27 s - 1 then ((s + 1 : Nat) : Int) else ((k + 1 : Nat) : Int) := by
          unfold zcfn
          rw [show ((k : Int)).toNat = k from rfl, if_neg c3, hN, show ((s : Int)).toNat = s from rfl, ez]
          rfl
        have b7 : b 109 k = 7 := by omega
        have hR2 := hR.2 (zdp (a 24) k - 1) (by omega) (by omega)
        have hq1 := hR.1
        rw [← hs, show ((s : Int)).toNat = s from rfl, show zdp (a 24) k - 1 = q - 1 by omega] at hR2
        have q2 : zSq (zupd a 27 s (a 27 s - 1)) (zupd b 113 (q - 1).toNat (b 113 (q - 1).toNat - 1)) := zSq_fr (fun x hx => zune hx) (fun x h1 h2 => by rw [zune h2]) hq
        rw [eZ, ew, en]
        by_cases l1 : 0 < a 27 s - 1
        · rw [if_pos l1]
          obtain ⟨⟨p', P1, P2, P3⟩, L1⟩ := E1 l1
          have R1 := zRw_e (k' := s + 1) (q' := q) hb hR w1.1 hs (by omega) (by omega) (fun j j0 j1 => E5 j j0 (by omega))
          obtain ⟨t, k', b', q', i0, i1, i2, i3, i4, i5, i6, i7⟩ := ih (s + 1) p' q d g (zupd a 27 s (a 27 s - 1)) (zupd b 113 (q - 1).toNat (b 113 (q - 1).toNat - 1)) q2 h8 hn (by omega) L1 R1 P1 P2 (by omega) hg hd
          have l2 : 0 < b 113 (q - 1).toNat - 1 := by rw [hR2.2]; exact l1
          have ek : b 112 (q - 1).toNat + 1 = ((s + 1 : Nat) : Int) := by rw [hR2.1]; rfl
          refine ⟨t + 1, k', b', q', by omega, fun m => ?_, fun m x => ?_, i3, i4, i5, i6, fun x h1 h2 => by rw [i7 x h1 h2, zune h2]⟩
          · rw [← i1 m, ← ek]
            show (if _ then (if _ then _ else (if _ then (if _ then _ else _) else _)) else _) = _
            rw [if_pos cond, if_neg (show ¬ b 109 ((k : Int)).toNat = 6 from fun z => absurd (b7.symm.trans z) (by decide)), if_pos (show b 109 ((k : Int)).toNat = 7 from b7), if_pos l2]
            rfl
          · have y := i2 m x
            rw [← ek] at y
            exact fun _ => ⟨⟨by omega, by omega⟩, fun z => absurd (b7.symm.trans z) (by decide), fun _ => ⟨⟨by omega, by omega⟩, by rw [hR2.2]; exact lx, by rw [hR2.1]; omega, by rw [if_pos l2]; exact y⟩, fun _ z => (z b7).elim⟩
        · rw [if_neg l1]
          obtain ⟨⟨p', P1, P2, P3⟩, L1⟩ := E2 l1
          have R1 := zRw_e (k' := k + 1) (q' := q - 1) hb hR w1.1 hs (by omega) (by omega) (fun j j0 j1 => E7 j)
          obtain ⟨t, k', b', q', i0, i1, i2, i3, i4, i5, i6, i7⟩ := ih (k + 1) p' (q - 1) d g (zupd a 27 s (a 27 s - 1)) (zupd b 113 (q - 1).toNat (b 113 (q - 1).toNat - 1)) q2 h8 hn (by omega) L1 R1 P1 P2 (by omega) hg hd
          have l2 : ¬ 0 < b 113 (q - 1).toNat - 1 := by rw [hR2.2]; exact l1
          refine ⟨t + 1, k', b', q', by omega, fun m => ?_, fun m x => ?_, i3, i4, i5, i6, fun x h1 h2 => by rw [i7 x h1 h2, zune h2]⟩
          · rw [← i1 m]
            show (if _ then (if _ then _ else (if _ then (if _ then _ else _) else _)) else _) = _
            rw [if_pos cond, if_neg (show ¬ b 109 ((k : Int)).toNat = 6 from fun z => absurd (b7.symm.trans z) (by decide)), if_pos (show b 109 ((k : Int)).toNat = 7 from b7), if_neg l2]
            rfl
          · have y := i2 m x
            exact fun _ => ⟨⟨by omega, by omega⟩, fun z => absurd (b7.symm.trans z) (by decide), fun _ => ⟨⟨by omega, by omega⟩, by rw [hR2.2]; exact lx, by rw [hR2.1]; omega, by rw [if_neg l2]; exact y⟩, fun _ z => (z b7).elim⟩
      · rw [if_neg fun x => x.elim c3 c4] at eZ
        rw [eZ]
        exact ⟨0, k, b, q, by omega, fun m => rfl, fun m x => x, Or.inr ⟨rfl, hkn, c3, c4⟩, hk, hL, hR, fun x _ _ => rfl⟩

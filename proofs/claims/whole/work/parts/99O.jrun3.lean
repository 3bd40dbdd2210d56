/-! ===== class and model run the same script: the relation (written by wip/whole/gen_c.py) ===== -/
def zRl (a b : zW) : Prop := zQl a b ∧ zQd b ∧ zPN a ∧ zNt b
theorem zQl.pm {a b : zW} (h : zQl a b) (d : zQd b) (hP : zPC a) : zPM b := by
  obtain ⟨h1, ⟨h2, _⟩, h3, h4, h5⟩ := h
  obtain ⟨⟨p1, p2⟩, p3, _, p5⟩ := hP
  have e95 := h1.2.1 95 (by decide)
  refine ⟨⟨fun c c0 c1 x => ?_, fun c e c0 c1 e0 e1 x y => ?_⟩, by omega, fun i i0 i1 => ?_, d⟩
  · have x : zml b c = 1 := x
    have m := h3 c c0 c1
    have g := h5 c c0 c1 x
    have q := p1 c c0 c1 (by show a 33 c.toNat = 1; omega)
    rw [e95, ← g.1, ← g.2]
    exact q
  · have x : zml b c = 1 := x
    have y : zml b e = 1 := y
    have m := h3 c c0 c1
    have m2 := h3 e e0 e1
    have g := h5 c c0 c1 x
    have g2 := h5 e e0 e1 y
    have q := p2 c e c0 c1 e0 e1 (by show a 33 c.toNat = 1; omega) (by show a 33 e.toNat = 1; omega)
    rw [← g.1, ← g.2, ← g2.1, ← g2.2]
    exact q
  · rw [← h4 i i0 i1]
    exact p5 i i0 (by omega)
theorem zRl_i (a b : zW) (h : zRl a b) : zNt b ∧ zRd 98 b ∧ zPM b := by
  obtain ⟨h1, h2, h3, h4⟩ := h
  have e95 := h1.1.2.1 95 (by decide)
  refine ⟨h4, fun c c0 c1 => ?_, h1.pm h2 h3.2.2⟩
  rw [e95] at c1
  rw [← h1.1.2.2 c c0 c1]
  exact h3.2.1 c c0 c1
theorem zRl_f (a b a' b' : zW) (ea : ∀ p, p ≠ 27 → a' p = a p) (eb : ∀ p, p ≠ 112 → p ≠ 113 → b' p = b p) (h : zRl a b) : zRl a' b' := by
  obtain ⟨⟨⟨n1, n2, n3⟩, h2, h3, h4, h5⟩, d, ⟨g1, g2, g3⟩, g4⟩ := h
  have z : zml b' = zml b := zml_fr (eb 102 (by decide) (by decide)) (eb 103 (by decide) (by decide))
  have na : zNt a' := zNt_fr (fun p hp => ea p (by omega)) n1
  refine ⟨⟨⟨na, fun p hp => by rw [eb p (by omega) (by omega), ea p (by omega)]; exact n2 p hp, fun c c0 c1 => ?_⟩, ?_⟩, zQd_fr d (eb 102 (by decide) (by decide)) (eb 103 (by decide) (by decide)), ⟨na, zRd_fr (ea 95 (by decide)) (ea 30 (by decide)) g2, zPC_fr (fun p hp => ea p (by omega)) g3⟩, zNt_fr (fun p hp => eb p (by omega) (by omega)) g4⟩
  · rw [ea 95 (by decide)] at c1
    rw [ea 30 (by decide), eb 98 (by decide) (by decide)]
    exact n3 c c0 c1
  · rw [z, ea 29 (by decide), ea 31 (by decide), ea 32 (by decide), ea 33 (by decide), ea 34 (by decide), eb 102 (by decide) (by decide), eb 103 (by decide) (by decide), eb 104 (by decide) (by decide), eb 105 (by decide) (by decide)]
    exact ⟨h2, h3, h4, h5⟩
theorem zArg.a {a : zW} {x c n y z : Int} (h : zArg x c n y z (a 95 0)) : zcA a (1007 + x) c n ∧ (1007 + x = 1009 → 1 ≤ n ∧ n ≤ 1000000) := by
  unfold zcA
  rcases h with h | h | h | h | h
  · have := h.1; have := h.2.1; have := h.2.2; exact ⟨⟨by omega, fun _ => by omega, fun _ => by omega, fun _ => by omega, fun _ => by omega⟩, fun _ => by omega⟩
  · have := h.1; have := h.2.1; have := h.2.2.1; have := h.2.2.2; exact ⟨⟨by omega, fun _ => by omega, fun _ => by omega, fun _ => by omega, fun _ => by omega⟩, fun _ => by omega⟩
  · have := h.1; have := h.2; exact ⟨⟨by omega, fun _ => by omega, fun _ => by omega, fun _ => by omega, fun _ => by omega⟩, fun _ => by omega⟩
  · have := h.1; have := h.2; exact ⟨⟨by omega, fun _ => by omega, fun _ => by omega, fun _ => by omega, fun _ => by omega⟩, fun _ => by omega⟩
  · exact ⟨⟨by omega, fun _ => by omega, fun _ => by omega, fun _ => by omega, fun _ => by omega⟩, fun _ => by omega⟩
theorem zRl_c (a b : zW) (x c n y z : Int) (h : zRl a b) (hA : zArg x c n y z (b 95 0)) : (zcC a (1007 + x) c n).1 = (zcM b x y z).1 ∧ zRl (zcC a (1007 + x) c n).2 (zcM b x y z).2 := by
  obtain ⟨h1, h2, h3, h4⟩ := h
  have e95 := h1.1.2.1 95 (by decide)
  have q := zC_q h1 h2 hA
  rw [e95] at hA
  have A := hA.a
  exact ⟨q.1, q.2.1, q.2.2, zcC_iv h3 A.1 A.2, zNt_fr (fun p hp => zcM_ne (by omega)) h4⟩
/-- class and model run the same script alike -/
theorem zJrun2 (n m k : Nat) (i q d : Int) (a b : zW) (hq : zSq a b) (h8 : a 23 8 = 0) (hn : a 23 6 = n ∧ n ≤ 60) (hk : k ≤ n) (hL : zLvs (a 24) (a 27) k) (hR : zRw (a 24) (a 27) b k q) (hr : zRl a b) (hd : d + m = 20) (hi : (i = -1 ∧ k = n) ∨ (i = k ∧ k < n ∧ a 24 k ≠ 1013 ∧ a 24 k ≠ 1014)) :
    ∃ T : Nat, T ≤ 6001 * m ∧ zmrE T d q k 1 b ∧ (zmr T d q k 1 b).1 = (zrq m i d a).1 ∧ zRl (zrq m i d a).2 (zmr T d q k 1 b).2 :=
  zJrun zRl zRl_i zRl_f zRl_c n m k i q d a b hq h8 hn hk hL hR hr hd hi

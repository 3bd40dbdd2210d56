/-! ===== a command of a script, class and model (written by wip/whole/gen_c.py) ===== -/
theorem zQl.r {a b a' b' : zW} (h : zQl a b) (ea : ∀ p, p ≠ 30 → a' p = a p) (eb : ∀ p, p ≠ 98 → b' p = b p) (q : zQr a' b') : zQl a' b' := by
  obtain ⟨_, h2, h3, h4, h5⟩ := h
  have z : zml b' = zml b := zml_fr (eb 102 (by decide)) (eb 103 (by decide))
  unfold zQl
  rw [z, ea 29 (by decide), ea 31 (by decide), ea 32 (by decide), ea 33 (by decide), ea 34 (by decide), eb 102 (by decide), eb 103 (by decide), eb 104 (by decide), eb 105 (by decide)]
  exact ⟨q, h2, h3, h4, h5⟩
theorem zQd_fr {b b' : zW} (h : zQd b) (e2 : b' 102 = b 102) (e3 : b' 103 = b 103) : zQd b' := by
  unfold zQd at h ⊢
  rw [e2, e3]; exact h
theorem ztn_33 {a : zW} : ztn a 12 33 = a 33 := ztn_ne (by decide) (by decide)
theorem zQl.tn {a b : zW} (h : zQl a b) : zQl (ztn a 12) (ztnm b) := by
  obtain ⟨⟨n1, n2, n3⟩, h2, h3, h4, h5⟩ := h
  have z : zml (ztnm b) = zml b := zml_fr (ztnm_ne (by decide) (by decide)) (ztnm_ne (by decide) (by decide))
  have Q : zQr (ztn a 12) (ztnm b) := by
    refine ⟨zNt_fr (fun p hp => ztn_ne (by omega) (by omega)) n1, fun p hp => ?_, fun c c0 c1 => ?_⟩
    · rw [ztnm_ne (by omega) (by omega), ztn_ne (by omega) (by omega)]; exact n2 p hp
    · rw [ztn_ne (p := 95) (by decide) (by decide)] at c1
      rw [ztn_ne (p := 30) (by decide) (by decide), ztnm_ne (p := 98) (by decide) (by decide)]
      exact n3 c c0 c1
  refine ⟨Q, ?_, fun c c0 c1 => ?_, fun i i0 i1 => ?_, fun c c0 c1 x => ?_⟩
  · rw [ztn_ne (p := 29) (by decide) (by decide), ztnm_ne (p := 102) (by decide) (by decide)]; exact h2
  · rw [z, ztn_33]; exact h3 c c0 c1
  · rw [ztnm_ne (p := 102) (by decide) (by decide)] at i1
    rw [ztn_ne (p := 34) (by decide) (by decide), ztnm_ne (p := 103) (by decide) (by decide)]; exact h4 i i0 i1
  · rw [z] at x
    have m := h3 c c0 c1
    have g := h5 c c0 c1 x
    have cc : ((c.toNat : Nat) : Int) = c := by omega
    have mk : zmk b (b 102 0).toNat (c.toNat : Int) = 1 := by rw [cc]; exact x
    have x1 : ztnm b 104 c.toNat = -b 105 c.toNat := by
      show (if zmk b (b 102 0).toNat (c.toNat : Int) = 0 then b 104 c.toNat else -b 105 c.toNat) = _
      rw [if_neg (by rw [mk]; decide)]
    have x2 : ztnm b 105 c.toNat = b 104 c.toNat := by
      show (if zmk b (b 102 0).toNat (c.toNat : Int) = 0 then b 105 c.toNat else b 104 c.toNat) = _
      rw [if_neg (by rw [mk]; decide)]
    rw [ztn_31 (by omega), ztn_32 (by omega), if_neg (by omega), if_neg (by omega), x1, x2, g.1, g.2]
    exact ⟨rfl, rfl⟩
theorem zC_q {a b : zW} {x c n y z : Int} (h : zQl a b) (d : zQd b) (hA : zArg x c n y z (b 95 0)) : (zcC a (1007 + x) c n).1 = (zcM b x y z).1 ∧ zQl (zcC a (1007 + x) c n).2 (zcM b x y z).2 ∧ zQd (zcM b x y z).2 := by
  have e95 := h.1.2.1 95 (by decide)
  have e96 := h.1.2.1 96 (by decide)
  unfold zcC zcM
  rcases hA with ⟨r, s, t0, t1⟩ | ⟨r, s, ⟨t0, t1⟩, u, _⟩ | ⟨r, s, t0, _⟩ | ⟨r, s, t0, _⟩ | r
  · subst r; subst s
    rw [if_pos (show (1007 + 0 : Int) = 1007 by decide), if_pos (show (0 : Int) = 0 from rfl)]
    by_cases g : zSb a c
    · rw [if_pos g, if_pos ((h.1.sb c).mp g), h.1.sr t0 (by rw [← e95]; exact t1)]
      exact ⟨rfl, h.r (fun p hp => zune hp) (fun p hp => zune hp) (h.1.up t0 _), zQd_fr d rfl rfl⟩
    · rw [if_neg g, if_neg fun q => g ((h.1.sb c).mpr q)]
      exact ⟨rfl, h, d⟩
  · subst r; subst s; subst u
    rw [if_neg (show ¬ (1007 + 2 : Int) = 1007 by decide), if_neg (show ¬ (1007 + 2 : Int) = 1008 by decide), if_pos (show (1007 + 2 : Int) = 1009 by decide), if_neg (show ¬ (2 : Int) = 0 by decide), if_neg (show ¬ (2 : Int) = 1 by decide), if_pos (show (2 : Int) = 2 from rfl)]
    exact ⟨rfl, h.r (fun p hp => zune hp) (fun p hp => zune hp) (h.1.up t0 _), zQd_fr d rfl rfl⟩
  · subst r; subst s
    rw [if_neg (show ¬ (1007 + 1 : Int) = 1007 by decide), if_pos (show (1007 + 1 : Int) = 1008 by decide), if_neg (show ¬ (1 : Int) = 0 by decide), if_pos (show (1 : Int) = 1 from rfl)]
    exact ⟨rfl, h.r (fun p hp => zIt_ne hp _ _) (fun p hp => zIt_ne hp _ _) (zQr.it _ h.1), zQd_fr d (zIt_ne (by decide) _ _) (zIt_ne (by decide) _ _)⟩
  · subst s
    rcases r with r | r
    · subst r
      rw [if_neg (show ¬ (1007 + 3 : Int) = 1007 by decide), if_neg (show ¬ (1007 + 3 : Int) = 1008 by decide), if_neg (show ¬ (1007 + 3 : Int) = 1009 by decide), if_pos (show (1007 + 3 : Int) = 1010 by decide), if_neg (show ¬ (3 : Int) = 0 by decide), if_neg (show ¬ (3 : Int) = 1 by decide), if_neg (show ¬ (3 : Int) = 2 by decide), if_pos (show (3 : Int) = 3 from rfl), e96]
      by_cases g : n < a 96 0
      · rw [if_pos g, if_pos g]
        exact ⟨rfl, h.la t0 g⟩
      · rw [if_neg g, if_neg g]
        exact ⟨rfl, h, d⟩
    · subst r
      rw [if_neg (show ¬ (1007 + 5 : Int) = 1007 by decide), if_neg (show ¬ (1007 + 5 : Int) = 1008 by decide), if_neg (show ¬ (1007 + 5 : Int) = 1009 by decide), if_neg (show ¬ (1007 + 5 : Int) = 1010 by decide), if_neg (show ¬ (1007 + 5 : Int) = 1011 by decide), if_neg (show ¬ (5 : Int) = 0 by decide), if_neg (show ¬ (5 : Int) = 1 by decide), if_neg (show ¬ (5 : Int) = 2 by decide), if_neg (show ¬ (5 : Int) = 3 by decide), if_neg (show ¬ (5 : Int) = 4 by decide)]
      have q := zQr.cm (bd := 1000 * n) 6 h.1
      refine ⟨?_, h.r (fun p hp => zCm_ne hp _ _) (fun p hp => zCm_ne hp _ _) q, zQd_fr d (zCm_ne (by decide) _ _) (zCm_ne (by decide) _ _)⟩
      show (if zUn (zCm 30 (1000 * n) 6 a) 30 ≤ 1000 * n then (1 : Int) else 0) = if zUn (zCm 98 (1000 * n) 6 b) 98 ≤ 1000 * n then 1 else 0
      rw [q.un]
  · subst r
    rw [if_neg (show ¬ (1007 + 4 : Int) = 1007 by decide), if_neg (show ¬ (1007 + 4 : Int) = 1008 by decide), if_neg (show ¬ (1007 + 4 : Int) = 1009 by decide), if_neg (show ¬ (1007 + 4 : Int) = 1010 by decide), if_pos (show (1007 + 4 : Int) = 1011 by decide), if_neg (show ¬ (4 : Int) = 0 by decide), if_neg (show ¬ (4 : Int) = 1 by decide), if_neg (show ¬ (4 : Int) = 2 by decide), if_neg (show ¬ (4 : Int) = 3 by decide), if_pos (show (4 : Int) = 4 from rfl), h.2.1.1]
    exact ⟨rfl, h.tn, zQd_fr (b' := ztnm b) d (ztnm_ne (p := 102) (by decide) (by decide)) (ztnm_ne (p := 103) (by decide) (by decide))⟩

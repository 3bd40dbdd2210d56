/-! ===== class and model run the same script (written by wip/whole/gen_c.py) ===== -/
theorem zcM_ne {w : zW} {c a b : Int} {p : Nat} (h : p ≠ 98 ∧ (p < 102 ∨ 105 < p)) : (zcM w c a b).2 p = w p := by
  have a1 : p ≠ 98 := h.1
  unfold zcM
  repeat' split
  all_goals first | rfl | exact zune a1 | exact zIt_ne a1 _ _ | exact zLam_ne h.2 | exact ztnm_ne (by omega) (by omega) | exact zCm_ne a1 _ _
theorem zSq_f2 {a a' b b' : zW} (ea : ∀ p, p < 29 → p ≠ 27 → a' p = a p) (eb : ∀ p, p ≠ 98 → (p < 102 ∨ 105 < p) → p ≠ 112 → p ≠ 113 → b' p = b p) (h : zSq a b) : zSq a' b' := by
  unfold zSq at h ⊢
  rw [ea 23 (by decide) (by decide), ea 24 (by decide) (by decide), ea 25 (by decide) (by decide), ea 26 (by decide) (by decide), ea 28 (by decide) (by decide), ea 4 (by decide) (by decide), ea 5 (by decide) (by decide), eb 93 (by decide) (by decide) (by decide) (by decide), eb 95 (by decide) (by decide) (by decide) (by decide), eb 101 (by decide) (by decide) (by decide) (by decide), eb 109 (by decide) (by decide) (by decide) (by decide), eb 110 (by decide) (by decide) (by decide) (by decide), eb 111 (by decide) (by decide) (by decide) (by decide)]
  exact h
/-- a command's circle and number, class and model -/
def zArg (x c n y z nn : Int) : Prop := (x = 0 ∧ c = y ∧ 0 ≤ y ∧ y < nn) ∨ (x = 2 ∧ c = y ∧ (0 ≤ y ∧ y < nn) ∧ n = z ∧ 1 ≤ z ∧ z ≤ 1000000) ∨ (x = 1 ∧ n = y ∧ 1 ≤ y ∧ y ≤ 6) ∨ ((x = 3 ∨ x = 5) ∧ n = y ∧ 0 ≤ y ∧ y ≤ 999999) ∨ x = 4
theorem zSq.ar {a b : zW} (q : zSq a b) {k : Nat} (hk : (k : Int) < a 23 6) (c3 : a 24 k ≠ 1013) (c4 : a 24 k ≠ 1014) : zArg (b 109 k) (a 25 k) (a 26 k) (b 110 k) (b 111 k) (b 95 0) ∧ a 24 k = 1007 + b 109 k := by
  have e := q.2.2.2.1 k hk
  have e1 := e.1
  refine ⟨?_, e1⟩
  rcases e.2 with x | x | x | x | x | x | x
  · exact Or.inl x
  · exact Or.inr (Or.inl x)
  · exact Or.inr (Or.inr (Or.inl x))
  · exact Or.inr (Or.inr (Or.inr (Or.inl x)))
  · exact Or.inr (Or.inr (Or.inr (Or.inr x)))
  · have := x.1; omega
  · have := x.1; omega
theorem zArg.b {w : zW} {x c n y z : Int} (h : zArg x c n y z (w 95 0)) : zcB w x y z := by
  unfold zcB
  rcases h with h | h | h | h | h
  · have := h.1; have := h.2.2; refine ⟨by omega, fun _ => by omega, fun _ => by omega, fun _ => by omega, fun _ => by omega⟩
  · have := h.1; have := h.2.2.1; refine ⟨by omega, fun _ => by omega, fun _ => by omega, fun _ => by omega, fun _ => by omega⟩
  · have := h.1; have := h.2.2; refine ⟨by omega, fun _ => by omega, fun _ => by omega, fun _ => by omega, fun _ => by omega⟩
  · have := h.1; have := h.2.2; refine ⟨by omega, fun _ => by omega, fun _ => by omega, fun _ => by omega, fun _ => by omega⟩
  · refine ⟨by omega, fun _ => by omega, fun _ => by omega, fun _ => by omega, fun _ => by omega⟩
/-- the run, for any relation of packings that the commands keep -/
theorem zJrun (Rl : zW → zW → Prop) (hI : ∀ a b, Rl a b → zNt b ∧ zRd 98 b ∧ zPM b)
    (hF : ∀ a b a' b', (∀ p, p ≠ 27 → a' p = a p) → (∀ p, p ≠ 112 → p ≠ 113 → b' p = b p) → Rl a b → Rl a' b')
    (hC : ∀ a b x c n y z, Rl a b → zArg x c n y z (b 95 0) → (zcC a (1007 + x) c n).1 = (zcM b x y z).1 ∧ Rl (zcC a (1007 + x) c n).2 (zcM b x y z).2) (n : Nat) :
    ∀ (m k : Nat) (i q d : Int) (a b : zW), zSq a b → a 23 8 = 0 → (a 23 6 = n ∧ n ≤ 60) → k ≤ n → zLvs (a 24) (a 27) k → zRw (a 24) (a 27) b k q → Rl a b → d + m = 20 → ((i = -1 ∧ k = n) ∨ (i = k ∧ k < n ∧ a 24 k ≠ 1013 ∧ a 24 k ≠ 1014)) →
    ∃ T : Nat, T ≤ 6001 * m ∧ zmrE T d q k 1 b ∧ (zmr T d q k 1 b).1 = (zrq m i d a).1 ∧ Rl (zrq m i d a).2 (zmr T d q k 1 b).2 := by
  intro m
  induction m with
  | zero =>
    intro k i q d a b hq h8 hn hk hL hR hr hd hi
    exact ⟨0, by omega, fun x => by omega, rfl, hr⟩
  | succ m ih =>
    intro k i q d a b hq h8 hn hk hL hR hr hd hi
    have q39 : a 23 6 = b 93 39 := hq.1.1
    rcases hi with ⟨i1, i2⟩ | ⟨i1, i2, c3, c4⟩
    · have e : zrq (m + 1) i d a = (d, a) := if_pos i1
      rw [e]
      exact ⟨0, by omega, fun x => by omega, rfl, hr⟩
    · subst i1
      have e : zrq (m + 1) k d a = if (k : Int) = -1 then (d, a) else if (zcC a (a 24 k) (a 25 k) (a 26 k)).1 = 0 then (d, (zcC a (a 24 k) (a 25 k) (a 26 k)).2) else zrq m (zcf 6000 (k + 1) (zcC a (a 24 k) (a 25 k) (a 26 k)).2).1 (d + 1) (zcf 6000 (k + 1) (zcC a (a 24 k) (a 25 k) (a 26 k)).2).2 := rfl
      rw [if_neg (by omega)] at e
      obtain ⟨ar, ev⟩ := hq.ar (k := k) (by omega) c3 c4
      obtain ⟨C1, C2⟩ := hC a b (b 109 k) (a 25 k) (a 26 k) (b 110 k) (b 111 k) hr ar
      rw [← ev] at C1 C2
      have J := hI a b hr
      have n6 : b 109 k ≠ 6 := by omega
      have n7 : b 109 k ≠ 7 := by omega
      have cond : (1 : Int) ≠ 0 ∧ (k : Int) < b 93 39 ∧ d < 20 := ⟨by decide, by omega, by omega⟩
      have eM : ∀ t, zmr (t + 1) d q k 1 b = zmr t (d + (zcM b (b 109 k) (b 110 k) (b 111 k)).1) q (k + 1) (zcM b (b 109 k) (b 110 k) (b 111 k)).1 (zcM b (b 109 k) (b 110 k) (b 111 k)).2 := fun t => by
        show (if _ then (if _ then _ else (if _ then _ else _)) else _) = _
        rw [if_pos cond, if_neg (show ¬ b 109 ((k : Int)).toNat = 6 from n6), if_neg (show ¬ b 109 ((k : Int)).toNat = 7 from n7)]
        rfl
      have eE : ∀ t, zmrE t (d + (zcM b (b 109 k) (b 110 k) (b 111 k)).1) q (k + 1) (zcM b (b 109 k) (b 110 k) (b 111 k)).1 (zcM b (b 109 k) (b 110 k) (b 111 k)).2 → zmrE (t + 1) d q k 1 b := fun t y =>
        fun _ => ⟨⟨by omega, by omega⟩, fun z => (n6 z).elim, fun z => (n7 z).elim, fun _ _ => ⟨⟨J.1, J.2.1, J.2.2, ar.b⟩, y⟩⟩
      by_cases g : (zcC a (a 24 k) (a 25 k) (a 26 k)).1 = 0
      · rw [if_pos g] at e
        have g2 : (zcM b (b 109 k) (b 110 k) (b 111 k)).1 = 0 := by rw [← C1]; exact g
        have y : zmrE 0 (d + (zcM b (b 109 k) (b 110 k) (b 111 k)).1) q (k + 1) (zcM b (b 109 k) (b 110 k) (b 111 k)).1 (zcM b (b 109 k) (b 110 k) (b 111 k)).2 := fun x => x.1 g2
        refine ⟨1, by omega, eE 0 y, ?_, ?_⟩
        · rw [eM 0, e]
          show d + (zcM b (b 109 k) (b 110 k) (b 111 k)).1 = d
          rw [g2, Int.add_zero]
        · rw [eM 0, e]
          exact C2
      · rw [if_neg g] at e
        have g2 : (zcM b (b 109 k) (b 110 k) (b 111 k)).1 = 1 := by
          rcases zcM_01 b (b 109 k) (b 110 k) (b 111 k) with x | x
          · rw [← C1] at x; exact (g x).elim
          · exact x
        have fa : ∀ p, p < 29 → (zcC a (a 24 k) (a 25 k) (a 26 k)).2 p = a p := fun p hp => zcC_ne (Or.inl hp)
        have fb : ∀ p, p ≠ 98 → (p < 102 ∨ 105 < p) → (zcM b (b 109 k) (b 110 k) (b 111 k)).2 p = b p := fun p h1 h2 => zcM_ne ⟨h1, h2⟩
        have q2 : zSq (zcC a (a 24 k) (a 25 k) (a 26 k)).2 (zcM b (b 109 k) (b 110 k) (b 111 k)).2 := zSq_f2 (fun p hp _ => fa p hp) (fun p h1 h2 _ _ => fb p h1 h2) hq
        have hw := hq.wf h8 (by omega)
        rw [show (a 23 6).toNat = n by omega] at hw
        have sk : zdp (a 24) (k + 1) = zdp (a 24) k := by rw [zdp_s, if_neg c3, if_neg c4, Int.add_zero]
        have so : ∀ j, zsl (a 24) j (k + 1) = zsl (a 24) j k := fun j => by rw [zsl_s, if_neg fun x => c3 x.1]
        have L2 : zLvs ((zcC a (a 24 k) (a 25 k) (a 26 k)).2 24) ((zcC a (a 24 k) (a 25 k) (a 26 k)).2 27) (k + 1) := by
          rw [fa 24 (by decide), fa 27 (by decide)]
          intro j j0 j1
          rw [so j]
          exact hL j j0 (by omega)
        have R2 : zRw ((zcC a (a 24 k) (a 25 k) (a 26 k)).2 24) ((zcC a (a 24 k) (a 25 k) (a 26 k)).2 27) (zcM b (b 109 k) (b 110 k) (b 111 k)).2 (k + 1) q := by
          rw [fa 24 (by decide), fa 27 (by decide)]
          refine ⟨by rw [sk]; exact hR.1, fun j j0 j1 => ?_⟩
          rw [so j, fb 112 (by decide) (by decide), fb 113 (by decide) (by decide)]
          exact hR.2 j j0 (by omega)
        have hw2 : zWf ((zcC a (a 24 k) (a 25 k) (a 26 k)).2 24) ((zcC a (a 24 k) (a 25 k) (a 26 k)).2 26) n := by rw [fa 24 (by decide), fa 26 (by decide)]; exact hw
        obtain ⟨p, P1, P2, P3⟩ := zPo_ex hw2 (k := k + 1) (by omega) L2
        have hn2 : (zcC a (a 24 k) (a 25 k) (a 26 k)).2 23 6 = n ∧ n ≤ 60 := by rw [fa 23 (by decide)]; exact hn
        have h82 : (zcC a (a 24 k) (a 25 k) (a 26 k)).2 23 8 = 0 := by rw [fa 23 (by decide)]; exact h8
        by_cases d20 : d + 1 < 20
        · obtain ⟨t, k', b', q', s0, s1, s2, s3, s4, s5, s6, s7⟩ := zsr n 6000 (k + 1) p q (d + 1) 1 (zcC a (a 24 k) (a 25 k) (a 26 k)).2 (zcM b (b 109 k) (b 110 k) (b 111 k)).2 q2 h82 hn2 (by omega) L2 R2 P1 P2 (by omega) (by decide) d20
          have ne : ∀ x, x ≠ 27 → (zcf 6000 ((k + 1 : Nat) : Int) (zcC a (a 24 k) (a 25 k) (a 26 k)).2).2 x = (zcC a (a 24 k) (a 25 k) (a 26 k)).2 x := fun x hx => zcf_ne hx _ _ _
          have q3 : zSq (zcf 6000 ((k + 1 : Nat) : Int) (zcC a (a 24 k) (a 25 k) (a 26 k)).2).2 b' := zSq_fr ne s7 q2
          obtain ⟨T, t0, t1, t2, t3⟩ := ih k' (zcf 6000 ((k + 1 : Nat) : Int) (zcC a (a 24 k) (a 25 k) (a 26 k)).2).1 q' (d + 1) (zcf 6000 ((k + 1 : Nat) : Int) (zcC a (a 24 k) (a 25 k) (a 26 k)).2).2 b' q3 (by rw [ne 23 (by decide)]; exact h82) (by rw [ne 23 (by decide)]; exact hn2) s4 (by rw [ne 24 (by decide)]; exact s5) (by rw [ne 24 (by decide)]; exact s6) (hF _ _ _ _ ne s7 C2) (by omega) (by rw [ne 24 (by decide)]; exact s3)
          have z1 := s1 T
          have z2 := s2 T t1
          refine ⟨T + t + 1, by omega, eE (T + t) (by rw [g2]; exact z2), ?_, ?_⟩
          · rw [eM (T + t), e, g2]
            exact (congrArg Prod.fst z1).trans t2
          · rw [eM (T + t), e, g2]
            have z3 : (zmr (T + t) (d + 1) q (k + 1) 1 (zcM b (b 109 k) (b 110 k) (b 111 k)).2).2 = (zmr T (d + 1) q' k' 1 b').2 := congrArg Prod.snd z1
            rw [z3]
            exact t3
        · have y : zmrE 0 (d + (zcM b (b 109 k) (b 110 k) (b 111 k)).1) q (k + 1) (zcM b (b 109 k) (b 110 k) (b 111 k)).1 (zcM b (b 109 k) (b 110 k) (b 111 k)).2 := fun x => by
            have := x.2.2
            omega
          have m0 : m = 0 := by omega
          subst m0
          refine ⟨1, by omega, eE 0 y, ?_, ?_⟩
          · rw [eM 0, e, g2]; rfl
          · rw [eM 0, e]
            exact hF _ _ _ _ (fun x hx => zcf_ne hx _ _ _) (fun x _ _ => rfl) C2

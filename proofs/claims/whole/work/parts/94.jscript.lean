/-! ===== class and model write the same entries (written by wip/whole/gen_c.py) ===== -/
def zSq (a b : zW) : Prop := (a 23 6 = b 93 39 ∧ a 23 7 = b 93 40 ∧ a 23 8 = b 93 41) ∧ (a 4 0 = b 95 0 ∧ (0 ≤ b 95 0 ∧ b 95 0 ≤ 12) ∧ ∀ c : Int, 0 ≤ c → c < b 95 0 → znm (a 5 c.toNat) (b 101 c.toNat)) ∧ zSj (a 24) (a 25) (a 26) (a 28) (b 109) (b 110) (b 111) (a 23 6) (a 23 8) (b 95 0)
theorem zSq_add {a b a' v : zW} {x c n y z : Int} (h : zSq a b)
    (hV : ∀ i, a' 24 i = if i = (a 23 6).toNat then 1007 + x else a 24 i) (hC : ∀ i, a' 25 i = if i = (a 23 6).toNat then c else a 25 i) (hN : ∀ i, a' 26 i = if i = (a 23 6).toNat then n else a 26 i)
    (hx : ∀ i, v 109 i = if i = (b 93 39).toNat then x else b 109 i) (hy : ∀ i, v 110 i = if i = (b 93 39).toNat then y else b 110 i) (hz : ∀ i, v 111 i = if i = (b 93 39).toNat then z else b 111 i)
    (e6 : a' 23 6 = a 23 6 + 1) (e39 : v 93 39 = b 93 39 + 1) (e7 : a' 23 7 = v 93 40) (e8 : a' 23 8 = v 93 41) (f4 : a' 4 = a 4) (f5 : a' 5 = a 5) (g95 : v 95 = b 95) (g101 : v 101 = b 101)
    (e : zSE (a' 24) c n x y z (b 95 0) (a 23 6).toNat) (hd : a' 23 8 = zdp (a' 24) ((a 23 6).toNat + 1)) (hO : ∀ j : Nat, (j : Int) < a' 23 8 → a' 28 j = zsl (a' 24) j ((a 23 6).toNat + 1)) : zSq a' v := by
  obtain ⟨⟨q1, q2, q3⟩, q4, q5⟩ := h
  refine ⟨⟨by omega, e7, e8⟩, ?_, ?_⟩
  · rw [f4, f5, g95, g101]; exact q4
  · rw [g95, e6]
    have q0 := q5.1
    refine zSj_add q5 (fun i hi => by rw [hV, if_neg (by omega)]) (fun i hi => by rw [hC, if_neg (by omega)]) (fun i hi => by rw [hN, if_neg (by omega)]) (fun i hi => by rw [hx, if_neg (by omega)]) (fun i hi => by rw [hy, if_neg (by omega)]) (fun i hi => by rw [hz, if_neg (by omega)]) ?_ hd hO
    rw [hC, hN, hx, hy, hz, if_pos rfl, if_pos rfl, ← q1, if_pos rfl, if_pos rfl, if_pos rfl]
    exact e
theorem zSq_d {a b a' v : zW} {x c n y z : Int} (h : zSq a b)
    (hV : ∀ i, a' 24 i = if i = (a 23 6).toNat then 1007 + x else a 24 i) (hC : ∀ i, a' 25 i = if i = (a 23 6).toNat then c else a 25 i) (hN : ∀ i, a' 26 i = if i = (a 23 6).toNat then n else a 26 i)
    (hx : ∀ i, v 109 i = if i = (b 93 39).toNat then x else b 109 i) (hy : ∀ i, v 110 i = if i = (b 93 39).toNat then y else b 110 i) (hz : ∀ i, v 111 i = if i = (b 93 39).toNat then z else b 111 i)
    (e6 : a' 23 6 = a 23 6 + 1) (e39 : v 93 39 = b 93 39 + 1) (e7 : a' 23 7 = v 93 40) (e8 : a' 23 8 = v 93 41) (f4 : a' 4 = a 4) (f5 : a' 5 = a 5) (g95 : v 95 = b 95) (g101 : v 101 = b 101) : zdp (a' 24) (a 23 6).toNat = a 23 8 ∧ (∀ j : Nat, (j : Int) < a 23 8 → zsl (a' 24) j (a 23 6).toNat = a 28 j) ∧ a' 24 (a 23 6).toNat = 1007 + x := by
  obtain ⟨_, _, q5⟩ := h
  have cc : ∀ i, i < (a 23 6).toNat → a' 24 i = a 24 i := fun i hi => by rw [hV, if_neg (by omega)]
  refine ⟨by rw [zdp_c _ cc]; exact q5.2.2.1.symm, fun j hj => by rw [zsl_c _ _ cc]; exact (q5.2.2.2 j hj).symm, by rw [hV, if_pos rfl]⟩
theorem zSq_p {a b a' v : zW} {x c n y z : Int} (h : zSq a b)
    (hV : ∀ i, a' 24 i = if i = (a 23 6).toNat then 1007 + x else a 24 i) (hC : ∀ i, a' 25 i = if i = (a 23 6).toNat then c else a 25 i) (hN : ∀ i, a' 26 i = if i = (a 23 6).toNat then n else a 26 i)
    (hx : ∀ i, v 109 i = if i = (b 93 39).toNat then x else b 109 i) (hy : ∀ i, v 110 i = if i = (b 93 39).toNat then y else b 110 i) (hz : ∀ i, v 111 i = if i = (b 93 39).toNat then z else b 111 i)
    (e6 : a' 23 6 = a 23 6 + 1) (e39 : v 93 39 = b 93 39 + 1) (e7 : a' 23 7 = v 93 40) (e8 : a' 23 8 = v 93 41) (f4 : a' 4 = a 4) (f5 : a' 5 = a 5) (g95 : v 95 = b 95) (g101 : v 101 = b 101) (k8 : a' 23 8 = a 23 8) (f28 : a' 28 = a 28) (r : (x = 0 ∧ c = y ∧ 0 ≤ y ∧ y < b 95 0) ∨ (x = 2 ∧ c = y ∧ (0 ≤ y ∧ y < b 95 0) ∧ n = z ∧ 1 ≤ z ∧ z ≤ 1000000) ∨ (x = 1 ∧ n = y ∧ 1 ≤ y ∧ y ≤ 6) ∨ ((x = 3 ∨ x = 5) ∧ n = y ∧ 0 ≤ y ∧ y ≤ 999999) ∨ x = 4) : zSq a' v := by
  obtain ⟨d1, d2, d3⟩ := zSq_d h hV hC hN hx hy hz e6 e39 e7 e8 f4 f5 g95 g101
  refine zSq_add h hV hC hN hx hy hz e6 e39 e7 e8 f4 f5 g95 g101 ⟨d3, ?_⟩ ?_ ?_
  · rcases r with r | r | r | r | r
    · exact Or.inl r
    · exact Or.inr (Or.inl r)
    · exact Or.inr (Or.inr (Or.inl r))
    · exact Or.inr (Or.inr (Or.inr (Or.inl r)))
    · exact Or.inr (Or.inr (Or.inr (Or.inr (Or.inl r))))
  · show a' 23 8 = zdp (a' 24) (a 23 6).toNat + (if a' 24 (a 23 6).toNat = 1013 then 1 else if a' 24 (a 23 6).toNat = 1014 then -1 else 0)
    have xr : x = 0 ∨ x = 1 ∨ x = 2 ∨ x = 3 ∨ x = 4 ∨ x = 5 := by
      rcases r with r | r | r | r | r
      · exact Or.inl r.1
      · exact Or.inr (Or.inr (Or.inl r.1))
      · exact Or.inr (Or.inl r.1)
      · have := r.1; omega
      · omega
    clear r
    rw [d1, d3, if_neg (by omega), if_neg (by omega)]
    omega
  · intro j hj
    have xr : x ≠ 6 := by
      rcases r with r | r | r | r | r
      · have := r.1; omega
      · have := r.1; omega
      · have := r.1; omega
      · have := r.1; omega
      · omega
    clear r
    show a' 28 j = if a' 24 (a 23 6).toNat = 1013 ∧ zdp (a' 24) (a 23 6).toNat = j then (((a 23 6).toNat : Nat) : Int) else zsl (a' 24) j (a 23 6).toNat
    rw [d3, if_neg fun q => by omega, d2 j (by omega), f28]
theorem zSq_o {a b a' v : zW} {x c n y z : Int} (h : zSq a b)
    (hV : ∀ i, a' 24 i = if i = (a 23 6).toNat then 1007 + x else a 24 i) (hC : ∀ i, a' 25 i = if i = (a 23 6).toNat then c else a 25 i) (hN : ∀ i, a' 26 i = if i = (a 23 6).toNat then n else a 26 i)
    (hx : ∀ i, v 109 i = if i = (b 93 39).toNat then x else b 109 i) (hy : ∀ i, v 110 i = if i = (b 93 39).toNat then y else b 110 i) (hz : ∀ i, v 111 i = if i = (b 93 39).toNat then z else b 111 i)
    (e6 : a' 23 6 = a 23 6 + 1) (e39 : v 93 39 = b 93 39 + 1) (e7 : a' 23 7 = v 93 40) (e8 : a' 23 8 = v 93 41) (f4 : a' 4 = a 4) (f5 : a' 5 = a 5) (g95 : v 95 = b 95) (g101 : v 101 = b 101) (k8 : a' 23 8 = a 23 8 + 1) (k0 : 0 ≤ a 23 8 ∧ a 23 8 < 2) (f28 : ∀ i, a' 28 i = if i = (a 23 8).toNat then a 23 6 else a 28 i) (hx6 : x = 6) (r : n = y ∧ 1 ≤ y ∧ y ≤ 10) : zSq a' v := by
  obtain ⟨d1, d2, d3⟩ := zSq_d h hV hC hN hx hy hz e6 e39 e7 e8 f4 f5 g95 g101
  have q0 := h.2.2.1
  refine zSq_add h hV hC hN hx hy hz e6 e39 e7 e8 f4 f5 g95 g101 ⟨d3, by rw [d1]; exact Or.inr (Or.inr (Or.inr (Or.inr (Or.inr (Or.inl ⟨hx6, r.1, r.2, k0.2⟩)))))⟩ ?_ ?_
  · show a' 23 8 = zdp (a' 24) (a 23 6).toNat + (if a' 24 (a 23 6).toNat = 1013 then 1 else if a' 24 (a 23 6).toNat = 1014 then -1 else 0)
    rw [d1, d3, if_pos (by omega)]
    omega
  · intro j hj
    show a' 28 j = if a' 24 (a 23 6).toNat = 1013 ∧ zdp (a' 24) (a 23 6).toNat = j then (((a 23 6).toNat : Nat) : Int) else zsl (a' 24) j (a 23 6).toNat
    rw [d3, d1, f28]
    by_cases g : a 23 8 = j
    · rw [if_pos (by omega), if_pos ⟨by omega, g⟩]; omega
    · rw [if_neg (by omega), if_neg fun q => g q.2, d2 j (by omega)]
theorem zSq_e {a b a' v : zW} {x c n y z : Int} (h : zSq a b)
    (hV : ∀ i, a' 24 i = if i = (a 23 6).toNat then 1007 + x else a 24 i) (hC : ∀ i, a' 25 i = if i = (a 23 6).toNat then c else a 25 i) (hN : ∀ i, a' 26 i = if i = (a 23 6).toNat then n else a 26 i)
    (hx : ∀ i, v 109 i = if i = (b 93 39).toNat then x else b 109 i) (hy : ∀ i, v 110 i = if i = (b 93 39).toNat then y else b 110 i) (hz : ∀ i, v 111 i = if i = (b 93 39).toNat then z else b 111 i)
    (e6 : a' 23 6 = a 23 6 + 1) (e39 : v 93 39 = b 93 39 + 1) (e7 : a' 23 7 = v 93 40) (e8 : a' 23 8 = v 93 41) (f4 : a' 4 = a 4) (f5 : a' 5 = a 5) (g95 : v 95 = b 95) (g101 : v 101 = b 101) (k8 : a' 23 8 = a 23 8 - 1) (k0 : 1 ≤ a 23 8) (f28 : a' 28 = a 28) (hx7 : x = 7) (r : n = a 28 (a 23 8 - 1).toNat) : zSq a' v := by
  obtain ⟨d1, d2, d3⟩ := zSq_d h hV hC hN hx hy hz e6 e39 e7 e8 f4 f5 g95 g101
  refine zSq_add h hV hC hN hx hy hz e6 e39 e7 e8 f4 f5 g95 g101 ⟨d3, ?_⟩ ?_ ?_
  · rw [d1]
    have := d2 (a 23 8 - 1).toNat (by omega)
    rw [show (((a 23 8 - 1).toNat : Nat) : Int) = a 23 8 - 1 by omega] at this
    exact Or.inr (Or.inr (Or.inr (Or.inr (Or.inr (Or.inr ⟨hx7, k0, by rw [this]; exact r⟩)))))
  · show a' 23 8 = zdp (a' 24) (a 23 6).toNat + (if a' 24 (a 23 6).toNat = 1013 then 1 else if a' 24 (a 23 6).toNat = 1014 then -1 else 0)
    rw [d1, d3, if_neg (by omega), if_pos (by omega)]
    omega
  · intro j hj
    show a' 28 j = if a' 24 (a 23 6).toNat = 1013 ∧ zdp (a' 24) (a 23 6).toNat = j then (((a 23 6).toNat : Nat) : Int) else zsl (a' 24) j (a 23 6).toNat
    rw [d3, if_neg fun q => by omega, d2 j (by omega), f28]
/-- a word tells the same command to both -/
theorem zSy.cd {a b : zW} (h : zSy a b) (g : b 93 8 = 0) : (zcmd (a 3 4) → zcd b = a 3 4 - 1007 ∧ b 93 6 = 1) ∧ (¬ zcmd (a 3 4) → zcd b = -1) := by
  have w := h.wd
  have d := w.2.2.2.2.2
  clear w
  constructor
  · intro q
    have s1 : b 93 6 = 1 := by unfold zcmd at q; omega
    refine ⟨?_, s1⟩
    unfold zcd
    rw [if_pos ⟨g, s1⟩]
    unfold zcmd at q
    repeat' split
    all_goals omega
  · intro q
    unfold zcd
    by_cases g2 : b 93 8 = 0 ∧ b 93 6 = 1
    · rw [if_pos g2]
      have s1 := g2.2
      unfold zcmd at q
      repeat' split
      all_goals first | rfl | (exfalso; omega)
    · rw [if_neg g2]

/-! ===== the search for the next command: how long it may go on (written by wip/whole/gen_c.py) ===== -/
/-- the rounds left of the open repeats are in order -/
def zLvs (V L : Nat → Int) (k : Nat) : Prop := ∀ j : Int, 0 ≤ j → j < zdp V k → 1 ≤ L (zsl V j k).toNat ∧ L (zsl V j k).toNat ≤ 10
/-- what is left to be met, at most -/
def zPo (V L : Nat → Int) (n k : Nat) (p : Int) : Prop :=
  (zdp V k = 0 ∧ p = 100 * (n - k)) ∨
  (zdp V k = 1 ∧ ∃ e0, e0 < n ∧ zEnd V 0 k e0 ∧ p = 10 * (e0 + 1 - k) + (L (zsl V 0 k).toNat - 1) * (10 * (e0 - zsl V 0 k)) + 100 * (n - e0 - 1)) ∨
  (zdp V k = 2 ∧ ∃ e0 e1, (e0 < n ∧ e1 < e0) ∧ zEnd V 0 k e0 ∧ zEnd V 1 k e1 ∧ p = (e1 + 1 - k) + (L (zsl V 1 k).toNat - 1) * (e1 - zsl V 1 k) + 10 * (e0 - e1) + (L (zsl V 0 k).toNat - 1) * (10 * (e0 - zsl V 0 k)) + 100 * (n - e0 - 1))
theorem zPo_ex {V N L : Nat → Int} {n k : Nat} (h : zWf V N n) (hk : k ≤ n) (hL : zLvs V L k) : ∃ p, zPo V L n k p ∧ 0 ≤ p ∧ p ≤ 100 * n := by
  have r := zdp_rg h k hk
  have hb := zsl_b k (fun i hi => (fun x => (h.1 i (by omega) x).1))
  have h3 := h.2.2.1
  by_cases d0 : zdp V k = 0
  · exact ⟨_, Or.inl ⟨d0, rfl⟩, by omega, by omega⟩
  · obtain ⟨e0, a1, a2⟩ := zEnd_ex (V := V) (j := 0) (n := n) (by omega) (n - k) k (by omega) (by omega)
    have b0 := hb 0 (by omega) (by omega)
    have l0 := hL 0 (by omega) (by omega)
    have c0 := a2.1
    have m0 : (L (zsl V 0 k).toNat - 1) * (10 * (e0 - zsl V 0 k)) ≤ 9 * (10 * (e0 - zsl V 0 k)) := Int.mul_le_mul_of_nonneg_right (by omega) (by omega)
    have n0 : 0 ≤ (L (zsl V 0 k).toNat - 1) * (10 * (e0 - zsl V 0 k)) := Int.mul_nonneg (by omega) (by omega)
    by_cases d1 : zdp V k = 1
    · exact ⟨_, Or.inr (Or.inl ⟨d1, e0, a1, a2, rfl⟩), by omega, by omega⟩
    · have d2 : zdp V k = 2 := by omega
      have x1 : zdp V e0 ≤ 1 := by have := a2.2.2.1; omega
      have ke : k ≠ e0 := fun x => by rw [← x] at x1; omega
      obtain ⟨e1, f1, f2⟩ := zEnd_ex (V := V) (j := 1) (n := e0) x1 (e0 - k) k (by omega) (by omega)
      have b1 := hb 1 (by omega) (by omega)
      have l1 := hL 1 (by omega) (by omega)
      have c1 := f2.1
      have dd := zsl_d k (fun i hi => (fun x => (h.1 i (by omega) x).1)) 0 (by omega) (by omega)
      have s01 : zsl V 0 k < zsl V 1 k := by
        have q := b1.2.2.2 0 (by omega) (by omega)
        have g := zsl_b ((zsl V 1 k).toNat) (fun i hi => (fun x => (h.1 i (by omega) x).1)) 0 (by omega) (by rw [b1.2.2.1]; omega)
        have g2 : zsl V 0 ((zsl V 1 k).toNat + 1) = zsl V 0 (zsl V 1 k).toNat := by
          rw [zsl_s, if_neg fun x => by have := b1.2.2.1; omega]
        omega
      have m1 : (L (zsl V 1 k).toNat - 1) * (e1 - zsl V 1 k) ≤ 9 * (e1 - zsl V 1 k) := Int.mul_le_mul_of_nonneg_right (by omega) (by omega)
      have n1 : 0 ≤ (L (zsl V 1 k).toNat - 1) * (e1 - zsl V 1 k) := Int.mul_nonneg (by omega) (by omega)
      exact ⟨_, Or.inr (Or.inr ⟨d2, e0, e1, ⟨a1, f1⟩, a2, f2, rfl⟩), by omega, by omega⟩
def zupL (L : Nat → Int) (i : Nat) (x : Int) : Nat → Int := fun k => if k = i then x else L k
theorem zupL_y (L : Nat → Int) (i : Nat) (x : Int) : zupL L i x i = x := if_pos rfl
theorem zupL_n {L : Nat → Int} {i k : Nat} {x : Int} (h : k ≠ i) : zupL L i x k = L k := if_neg h
/-- a repeat begins -/
theorem zPo_o {V N L : Nat → Int} {n k : Nat} {p : Int} (h : zWf V N n) (hk : k < n) (hL : zLvs V L k) (c : V k = 1013) (hp : zPo V L n k p) : (∃ q, zPo V (zupL L k (N k)) n (k + 1) q ∧ 0 ≤ q ∧ q + 1 ≤ p) ∧ zLvs V (zupL L k (N k)) (k + 1) := by
  have r := zdp_rg h k (by omega)
  have w2 := h.2.1 k hk c
  have h3 := h.2.2.1
  have hb := zsl_b k (fun i hi => (fun x => (h.1 i (by omega) x).1))
  have sk : zdp V (k + 1) = zdp V k + 1 := by rw [zdp_s, if_pos c]
  have st : zsl V (zdp V k) (k + 1) = k := by rw [zsl_s, if_pos ⟨c, rfl⟩]
  have so : ∀ j, j ≠ zdp V k → zsl V j (k + 1) = zsl V j k := fun j hj => by rw [zsl_s, if_neg fun x => hj x.2.symm]
  have LS : zLvs V (zupL L k (N k)) (k + 1) := by
    intro j j0 j1
    by_cases e : j = zdp V k
    · rw [e, st, show ((k : Int)).toNat = k from rfl, zupL_y]; exact w2.2
    · rw [so j e, zupL_n (by have := (hb j j0 (by omega)).1; omega)]
      exact hL j j0 (by omega)
  refine ⟨?_, LS⟩
  have up : ∀ e j, zEnd V j k e → zEnd V j (k + 1) e := fun e j x => x.up fun y => by rw [← y] at x; have := x.2.1; omega
  rcases hp with ⟨d, hp⟩ | ⟨d, e0, a1, a2, hp⟩ | ⟨d, _⟩
  · obtain ⟨e0, a1, a2⟩ := zEnd_ex (V := V) (j := 0) (n := n) (by omega) (n - (k + 1)) (k + 1) (by omega) (by omega)
    have s0 : zsl V 0 (k + 1) = k := by rw [← d]; exact st
    have c0 := a2.1
    have m0 : (N k - 1) * (10 * ((e0 : Int) - k)) ≤ 9 * (10 * ((e0 : Int) - k)) := Int.mul_le_mul_of_nonneg_right (by omega) (by omega)
    have n0 : 0 ≤ (N k - 1) * (10 * ((e0 : Int) - k)) := Int.mul_nonneg (by omega) (by omega)
    refine ⟨_, Or.inr (Or.inl ⟨by omega, e0, a1, a2, rfl⟩), ?_, ?_⟩
    · rw [s0, show ((k : Int)).toNat = k from rfl, zupL_y]; omega
    · rw [s0, show ((k : Int)).toNat = k from rfl, zupL_y]; omega
  · have x1 : zdp V e0 ≤ 1 := by have := a2.2.2.1; omega
    have a3 := up e0 0 a2
    obtain ⟨e1, f1, f2⟩ := zEnd_ex (V := V) (j := 1) (n := e0) x1 (e0 - (k + 1)) (k + 1) (by have := a3.1; omega) (by omega)
    have s1 : zsl V 1 (k + 1) = k := by rw [← d]; exact st
    have s0 : zsl V 0 (k + 1) = zsl V 0 k := so 0 (by omega)
    have b0 := hb 0 (by omega) (by omega)
    have l0 := hL 0 (by omega) (by omega)
    have c1 := f2.1
    have z0 : zupL L k (N k) (zsl V 0 k).toNat = L (zsl V 0 k).toNat := zupL_n (by omega)
    have m1 : (N k - 1) * ((e1 : Int) - k) ≤ 9 * ((e1 : Int) - k) := Int.mul_le_mul_of_nonneg_right (by omega) (by omega)
    have n1 : 0 ≤ (N k - 1) * ((e1 : Int) - k) := Int.mul_nonneg (by omega) (by omega)
    have n0 : 0 ≤ (L (zsl V 0 k).toNat - 1) * (10 * (e0 - zsl V 0 k)) := Int.mul_nonneg (by omega) (by have := a2.1; omega)
    refine ⟨_, Or.inr (Or.inr ⟨by omega, e0, e1, ⟨a1, f1⟩, a3, f2, rfl⟩), ?_, ?_⟩
    · rw [s1, s0, show ((k : Int)).toNat = k from rfl, zupL_y, z0]; omega
    · rw [s1, s0, show ((k : Int)).toNat = k from rfl, zupL_y, z0]; omega
  · omega

/-! ===== the search for the next command: the end of a repeat (written by wip/whole/gen_c.py) ===== -/
theorem zPo_e {V N L : Nat → Int} {n k s : Nat} {p : Int} (h : zWf V N n) (hk : k < n) (hL : zLvs V L k) (c : V k = 1014) (hs : (s : Int) = zsl V (zdp V k - 1) k) (hp : zPo V L n k p) :
    (0 < L s - 1 → (∃ q, zPo V (zupL L s (L s - 1)) n (s + 1) q ∧ 0 ≤ q ∧ q + 1 ≤ p) ∧ zLvs V (zupL L s (L s - 1)) (s + 1)) ∧
    (¬ 0 < L s - 1 → (∃ q, zPo V (zupL L s (L s - 1)) n (k + 1) q ∧ 0 ≤ q ∧ q + 1 ≤ p) ∧ zLvs V (zupL L s (L s - 1)) (k + 1)) ∧
    (s < k ∧ zdp V (s + 1) = zdp V k ∧ (∀ j : Int, 0 ≤ j → j < zdp V k → zsl V j (s + 1) = zsl V j k) ∧ zdp V (k + 1) = zdp V k - 1 ∧ ∀ j : Int, zsl V j (k + 1) = zsl V j k) := by
  have r := zdp_rg h k (by omega)
  have w1 := (h.1 k hk c).1
  have hb := zsl_b k (fun i hi => (fun x => (h.1 i (by omega) x).1))
  have dd := zsl_d k (fun i hi => (fun x => (h.1 i (by omega) x).1))
  have bs := hb (zdp V k - 1) (by omega) (by omega)
  have ls := hL (zdp V k - 1) (by omega) (by omega)
  rw [← hs] at bs ls
  rw [show ((s : Int)).toNat = s from rfl] at bs ls
  have sk : zdp V (k + 1) = zdp V k - 1 := by rw [zdp_s, if_neg (by omega), if_pos c]; omega
  have so : ∀ j, zsl V j (k + 1) = zsl V j k := fun j => by rw [zsl_s, if_neg fun x => by omega]
  have ss : zdp V (s + 1) = zdp V k := by rw [zdp_s, if_pos bs.2.1, bs.2.2.1]; omega
  have sl : ∀ j : Int, 0 ≤ j → j < zdp V k → zsl V j (s + 1) = zsl V j k := fun j j0 j1 => bs.2.2.2 j j0 (by omega)
  have ne : ∀ j : Int, 0 ≤ j → j < zdp V k - 1 → (zsl V j k).toNat ≠ s := fun j j0 j1 x => by
    have q := (hb j j0 (by omega)).2.2.1
    rw [x, bs.2.2.1] at q
    omega
  have LA : 0 < L s - 1 → zLvs V (zupL L s (L s - 1)) (s + 1) := fun l1 j j0 j1 => by
    rw [ss] at j1
    rw [sl j j0 j1]
    by_cases e : j = zdp V k - 1
    · rw [e, ← hs, show ((s : Int)).toNat = s from rfl, zupL_y]; omega
    · rw [zupL_n (ne j j0 (by omega))]
      exact hL j j0 j1
  have LB : zLvs V (zupL L s (L s - 1)) (k + 1) := fun j j0 j1 => by
    rw [sk] at j1
    rw [so j, zupL_n (ne j j0 j1)]
    exact hL j j0 (by omega)
  refine ⟨fun l1 => ⟨?_, LA l1⟩, fun l1 => ⟨?_, LB⟩, by omega, ss, sl, sk, so⟩
  · rcases hp with ⟨d, _⟩ | ⟨d, e0, a1, a2, hp⟩ | ⟨d, e0, e1, ⟨a1, f1⟩, a2, f2, hp⟩
    · omega
    · have ek := a2.me c (by omega)
      subst ek
      have hs0 : zsl V 0 e0 = s := by rw [hs, d]; rfl
      have s0 : zsl V 0 (s + 1) = s := (sl 0 (by omega) (by omega)).trans hs0
      have E0 : zEnd V 0 (s + 1) e0 := ⟨by omega, a2.2.1, a2.2.2.1, fun i i0 i1 => dd 0 (by omega) (by omega) i (by rw [hs0]; omega) i1⟩
      rw [hs0, show ((s : Int)).toNat = s from rfl] at hp
      have m0 : (L s - 1 - 1) * (10 * ((e0 : Int) - s)) = (L s - 1) * (10 * ((e0 : Int) - s)) - 10 * ((e0 : Int) - s) := by rw [Int.sub_mul (L s - 1) 1, Int.one_mul]
      have n0 : 0 ≤ (L s - 1 - 1) * (10 * ((e0 : Int) - s)) := Int.mul_nonneg (by omega) (by omega)
      refine ⟨_, Or.inr (Or.inl ⟨by omega, e0, a1, E0, rfl⟩), ?_, ?_⟩
      · rw [s0, show ((s : Int)).toNat = s from rfl, zupL_y]; omega
      · rw [s0, show ((s : Int)).toNat = s from rfl, zupL_y]; omega
    · have ek := f2.me c (by omega)
      subst ek
      have hs1 : zsl V 1 e1 = s := by rw [hs, d]; rfl
      have s1 : zsl V 1 (s + 1) = s := (sl 1 (by omega) (by omega)).trans hs1
      have s0 : zsl V 0 (s + 1) = zsl V 0 e1 := sl 0 (by omega) (by omega)
      have l0 := hL 0 (by omega) (by omega)
      have b0 := hb 0 (by omega) (by omega)
      have E1 : zEnd V 1 (s + 1) e1 := ⟨by omega, f2.2.1, f2.2.2.1, fun i i0 i1 => dd 1 (by omega) (by omega) i (by rw [hs1]; omega) i1⟩
      have E0 : zEnd V 0 (s + 1) e0 := ⟨by omega, a2.2.1, a2.2.2.1, fun i i0 i1 => by
        by_cases x : i ≤ e1
        · have := E1.2.2.2 i i0 x; omega
        · exact a2.2.2.2 i (by omega) i1⟩
      have z0 : zupL L s (L s - 1) (zsl V 0 e1).toNat = L (zsl V 0 e1).toNat := zupL_n (ne 0 (by omega) (by omega))
      rw [hs1, show ((s : Int)).toNat = s from rfl] at hp
      have m1 : (L s - 1 - 1) * ((e1 : Int) - s) = (L s - 1) * ((e1 : Int) - s) - ((e1 : Int) - s) := by rw [Int.sub_mul (L s - 1) 1, Int.one_mul]
      have n1 : 0 ≤ (L s - 1 - 1) * ((e1 : Int) - s) := Int.mul_nonneg (by omega) (by omega)
      have n0 : 0 ≤ (L (zsl V 0 e1).toNat - 1) * (10 * (e0 - zsl V 0 e1)) := Int.mul_nonneg (by omega) (by omega)
      refine ⟨_, Or.inr (Or.inr ⟨by omega, e0, e1, ⟨a1, f1⟩, E0, E1, rfl⟩), ?_, ?_⟩
      · rw [s1, s0, show ((s : Int)).toNat = s from rfl, zupL_y, z0]; omega
      · rw [s1, s0, show ((s : Int)).toNat = s from rfl, zupL_y, z0]; omega
  · have l2 : L s - 1 = 0 := by omega
    rcases hp with ⟨d, _⟩ | ⟨d, e0, a1, a2, hp⟩ | ⟨d, e0, e1, ⟨a1, f1⟩, a2, f2, hp⟩
    · omega
    · have ek := a2.me c (by omega)
      subst ek
      have hs0 : zsl V 0 e0 = s := by rw [hs, d]; rfl
      rw [hs0, show ((s : Int)).toNat = s from rfl, l2, Int.zero_mul] at hp
      exact ⟨_, Or.inl ⟨by omega, rfl⟩, by omega, by omega⟩
    · have ek := f2.me c (by omega)
      subst ek
      have hs1 : zsl V 1 e1 = s := by rw [hs, d]; rfl
      rw [hs1, show ((s : Int)).toNat = s from rfl, l2, Int.zero_mul] at hp
      have l0 := hL 0 (by omega) (by omega)
      have b0 := hb 0 (by omega) (by omega)
      have z0 : zupL L s (L s - 1) (zsl V 0 e1).toNat = L (zsl V 0 e1).toNat := zupL_n (ne 0 (by omega) (by omega))
      have n0 : 0 ≤ (L (zsl V 0 e1).toNat - 1) * (10 * (e0 - zsl V 0 e1)) := Int.mul_nonneg (by omega) (by omega)
      refine ⟨_, Or.inr (Or.inl ⟨by omega, e0, a1, a2.up (by omega), rfl⟩), ?_, ?_⟩
      · rw [so 0, z0]; omega
      · rw [so 0, z0]; omega

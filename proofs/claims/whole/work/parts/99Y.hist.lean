/-! ===== what can be undone: class and model (written by wip/whole/gen_c.py) ===== -/
theorem zkC_o {w : zW} {s p : Nat} (hs : 39 + 6 * s ≤ p ∧ p < 45 + 6 * s) (hd : s ≠ (w 37 1).toNat) : zkC w p = w p := by
  unfold zkC
  rw [zkpc_ne (by omega), zpcp_ne (by omega)]
theorem zkC_s {w : zW} {t i : Nat} (t1 : 1 ≤ t) (t2 : t ≤ 5) (hi : i < 12) : zkC w (39 + 6 * (w 37 1).toNat + t) i = w (29 + t) i := by
  unfold zkC
  rw [zkpc_ne (by omega)]
  exact zpcp_at (Or.inl (by omega)) t1 t2 i hi
theorem zkC_p {w : zW} : zkC w (39 + 6 * (w 37 1).toNat) 5 = w 29 5 := by
  unfold zkC
  rw [zkpc_ne (by omega)]
  exact zpcp_puts
theorem zkC_371 {w : zW} : zkC w 37 1 = (w 37 1 + 1) % 6 := by
  unfold zkC zkpc
  rw [zuat, if_neg (by decide), zuat, if_pos rfl, zpcp_ne (a := 37) (by omega)]
theorem zkC_372 {w : zW} : zkC w 37 2 = min (w 37 2 + 1) 5 := by
  unfold zkC zkpc
  rw [zuat, if_pos rfl, zpcp_ne (a := 37) (by omega)]
theorem zPH_old {w v : zW} {p x y : Nat} (hn : w 95 0 ≤ 12) (e95 : v 95 0 = w 95 0) (e : ∀ q, p ≤ q → q < p + 6 → v q = w q) (m : ∀ k, k < 49 → v 108 (y + k) = w 108 (x + k)) (h : zPH w p x) : zPH v p y :=
  zPQ.cg h hn e95 (fun k _ => by rw [e (p + 1) (by omega) (by omega)]) (fun k _ => by rw [e (p + 2) (by omega) (by omega)]) (fun k _ => by rw [e (p + 3) (by omega) (by omega)]) (fun k _ => by rw [e (p + 4) (by omega) (by omega)]) (fun k _ => by rw [e (p + 5) (by omega) (by omega)]) (by rw [e p (by omega) (by omega)])
    (fun k hk => m k (by omega)) (fun k hk => by have := m (12 + k) (by omega); rw [← Nat.add_assoc, ← Nat.add_assoc] at this; exact this) (fun k hk => by have := m (24 + k) (by omega); rw [← Nat.add_assoc, ← Nat.add_assoc] at this; exact this) (fun k hk => by have := m (36 + k) (by omega); rw [← Nat.add_assoc, ← Nat.add_assoc] at this; exact this) (m 48 (by omega))
theorem zPH_new {w v : zW} {p x : Nat} (hn : w 95 0 ≤ 12) (e95 : v 95 0 = w 95 0) (e : ∀ t, 1 ≤ t → t ≤ 5 → ∀ i, i < 12 → v (p + t) i = w (29 + t) i) (e5 : v p 5 = w 29 5) (m : ∀ k, k < 49 → v 108 (x + k) = zpk w k) (h : zPJ w) : zPH v p x :=
  zPQ.cg h hn e95 (fun k hk => e 1 (by decide) (by decide) k hk) (fun k hk => e 2 (by decide) (by decide) k hk) (fun k hk => e 3 (by decide) (by decide) k hk) (fun k hk => e 4 (by decide) (by decide) k hk) (fun k hk => e 5 (by decide) (by decide) k hk) e5
    (fun k hk => (m k (by omega)).trans (zpk_0 hk)) (fun k hk => by have := (m (12 + k) (by omega)).trans (zpk_1 hk); rw [← Nat.add_assoc] at this; exact this) (fun k hk => by have := (m (24 + k) (by omega)).trans (zpk_2 hk); rw [← Nat.add_assoc] at this; exact this) (fun k hk => by have := (m (36 + k) (by omega)).trans (zpk_3 hk); rw [← Nat.add_assoc] at this; exact this) ((m 48 (by omega)).trans zpk_4)
/-- what keeps() lays into the row -/
def zkpr (w : zW) (k : Nat) : Int := if w 93 31 = 5 then (if 196 ≤ k ∧ k < 245 then zpk w (k - 196) else if k < 196 then w 108 (k + 49) else w 108 k) else if 49 * (w 93 31).toNat ≤ k ∧ k < 49 * (w 93 31).toNat + 49 then zpk w (k - 49 * (w 93 31).toNat) else w 108 k
theorem zkpm_108 {w : zW} (k : Nat) : zkpm w 108 k = zkpr w k := by
  unfold zkpm zkpr
  by_cases g : w 93 31 = 5
  · rw [if_pos g, if_pos g]
    rfl
  · rw [if_neg g, if_neg g]
    rfl
theorem zkpm_31 {w : zW} : zkpm w 93 31 = if w 93 31 = 5 then 5 else w 93 31 + 1 := by
  unfold zkpm
  by_cases g : w 93 31 = 5
  · rw [if_pos g, if_pos g]
    rfl
  · rw [if_neg g, if_neg g]
    rfl
/-- a packing was kept -/
theorem zHJ_kp {w v : zW} (h : zHJ w) (cur : zPJ w) (hn : w 95 0 ≤ 12) (e95 : v 95 0 = w 95 0) (ec : ∀ p, 37 ≤ p → p < 75 → v p = zkC w p) (e31 : v 93 31 = if w 93 31 = 5 then 5 else w 93 31 + 1) (e108 : ∀ k : Nat, k < 245 → v 108 k = zkpr w k) : zHJ v := by
  obtain ⟨⟨⟨a0, a1⟩, a2, a3, a4⟩, hs⟩ := h
  have n1 : v 37 1 = (w 37 1 + 1) % 6 := by rw [ec 37 (by decide) (by decide)]; exact zkC_371
  have n2 : v 37 2 = min (w 37 2 + 1) 5 := by rw [ec 37 (by decide) (by decide)]; exact zkC_372
  have new : ∀ x : Nat, x ≤ 196 → (∀ k, k < 49 → zkpr w (x + k) = zpk w k) → zPH v (39 + 6 * (w 37 1).toNat) x := fun x x1 m => by
    refine zPH_new hn e95 (fun t t1 t2 i hi => ?_) ?_ (fun k hk => by rw [e108 _ (by omega)]; exact m k hk) cur
    · rw [ec _ (by omega) (by omega)]; exact zkC_s t1 t2 hi
    · rw [ec _ (by omega) (by omega)]; exact zkC_p
  have old : ∀ (s x y : Nat), s < 6 → s ≠ (w 37 1).toNat → y ≤ 196 → (∀ k, k < 49 → zkpr w (y + k) = w 108 (x + k)) → zPH w (39 + 6 * s) x → zPH v (39 + 6 * s) y := fun s x y s6 sd y1 m q => by
    refine zPH_old hn e95 (fun p p0 p1 => ?_) (fun k hk => by rw [e108 _ (by omega)]; exact m k hk) q
    rw [ec _ (by omega) (by omega)]
    exact zkC_o (s := s) (by omega) sd
  by_cases g : w 93 31 = 5
  · rw [if_pos g] at e31
    refine ⟨⟨by omega, by omega, by omega, by omega⟩, fun i i0 i1 => ?_⟩
    by_cases gi : i = 4
    · have es : (v 37 1 - v 93 31 + i + 6) % 6 = w 37 1 := by omega
      have ex : 49 * i.toNat = 196 := by omega
      rw [es, ex]
      refine new 196 (by omega) fun k hk => ?_
      unfold zkpr
      rw [if_pos g, if_pos (by omega), show 196 + k - 196 = k by omega]
    · have es : (v 37 1 - v 93 31 + i + 6) % 6 = (w 37 1 - w 93 31 + (i + 1) + 6) % 6 := by omega
      rw [es]
      refine old _ (49 * (i + 1).toNat) _ (by omega) (by omega) (by omega) (fun k hk => ?_) (hs (i + 1) (by omega) (by omega))
      unfold zkpr
      rw [if_pos g, if_neg (by omega), if_pos (by omega), show 49 * i.toNat + k + 49 = 49 * (i + 1).toNat + k by omega]
  · rw [if_neg g] at e31
    refine ⟨⟨by omega, by omega, by omega, by omega⟩, fun i i0 i1 => ?_⟩
    have es : (v 37 1 - v 93 31 + i + 6) % 6 = (w 37 1 - w 93 31 + i + 6) % 6 := by omega
    rw [es]
    by_cases gi : i = w 93 31
    · have es : (w 37 1 - w 93 31 + i + 6) % 6 = w 37 1 := by omega
      rw [es]
      refine new _ (by omega) fun k hk => ?_
      unfold zkpr
      rw [if_neg g, if_pos (by omega), show 49 * i.toNat + k - 49 * (w 93 31).toNat = k by omega]
    · refine old _ (49 * i.toNat) _ (by omega) (by omega) (by omega) (fun k hk => ?_) (hs i i0 (by omega))
      unfold zkpr
      rw [if_neg g, if_neg (by omega)]
/-- a packing was brought back -/
theorem zHJ_un {w v : zW} (h : zHJ w) (hn : w 95 0 ≤ 12) (hu : w 93 31 ≠ 0) (e95 : v 95 0 = w 95 0) (e1 : v 37 1 = (w 37 1 + 5) % 6) (e2 : v 37 2 = w 37 2 - 1) (ec : ∀ p, 39 ≤ p → p < 75 → v p = w p) (e31 : v 93 31 = w 93 31 - 1) (e108 : v 108 = w 108) : zHJ v := by
  obtain ⟨⟨⟨a0, a1⟩, a2, a3, a4⟩, hs⟩ := h
  refine ⟨⟨by omega, by omega, by omega, by omega⟩, fun i i0 i1 => ?_⟩
  have es : (v 37 1 - v 93 31 + i + 6) % 6 = (w 37 1 - w 93 31 + i + 6) % 6 := by omega
  rw [es]
  exact zPH_old hn e95 (fun p p0 p1 => ec _ (by omega) (by omega)) (fun k hk => by rw [e108]) (hs i i0 (by omega))
theorem zPJ_un {w v : zW} {p x : Nat} (h : zPH w p x) (hn : w 95 0 ≤ 12) (e95 : v 95 0 = w 95 0) (e : ∀ t, 1 ≤ t → t ≤ 5 → ∀ i, i < 12 → v (29 + t) i = w (p + t) i) (e5 : v 29 5 = w p 5)
    (m1 : ∀ k, k < 12 → v 98 k = w 108 (x + k)) (m2 : ∀ k, k < 12 → v 103 k = w 108 (x + 12 + k)) (m3 : ∀ k, k < 12 → v 104 k = w 108 (x + 24 + k)) (m4 : ∀ k, k < 12 → v 105 k = w 108 (x + 36 + k)) (m5 : v 102 0 = w 108 (x + 48)) : zPJ v :=
  zPQ.cg h hn e95 (fun k hk => e 1 (by decide) (by decide) k hk) (fun k hk => e 2 (by decide) (by decide) k hk) (fun k hk => e 3 (by decide) (by decide) k hk) (fun k hk => e 4 (by decide) (by decide) k hk) (fun k hk => e 5 (by decide) (by decide) k hk) e5 m1 m2 m3 m4 m5
theorem zHJ_0 {v : zW} (h1 : 0 ≤ v 37 1 ∧ v 37 1 < 6) (h2 : v 37 2 = 0) (h3 : v 93 31 = 0) : zHJ v := ⟨⟨h1, by omega, by omega, by omega⟩, fun i i0 i1 => by omega⟩

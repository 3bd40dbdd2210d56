/-! ===== what a call leaves of the model: the saved areas (written by wip/whole/gen_c.py) ===== -/
/-- from 24 on the rows, and the third number of puts, are as before -/
def zHi2 (v w : zW) : Prop := (∀ p, p = 98 ∨ p = 103 ∨ p = 104 ∨ p = 105 → ∀ k : Nat, 24 ≤ k → v p k = w p k) ∧ v 102 2 = w 102 2
theorem zHi2.r (w : zW) : zHi2 w w := ⟨fun _ _ _ _ => rfl, rfl⟩
theorem zHi2.tr {a b c : zW} (h : zHi2 a b) (g : zHi2 b c) : zHi2 a c := ⟨fun p hp k hk => (h.1 p hp k hk).trans (g.1 p hp k hk), h.2.trans g.2⟩
theorem zHi2.ne {v w : zW} (h : ∀ p, p = 98 ∨ p = 102 ∨ p = 103 ∨ p = 104 ∨ p = 105 → v p = w p) : zHi2 v w := ⟨fun p hp k _ => by rw [h p (by omega)], by rw [h 102 (by decide)]⟩
theorem zHi2.up {w : zW} {p k : Nat} {x : Int} (h : ¬ ((p = 98 ∨ p = 103 ∨ p = 104 ∨ p = 105) ∧ 24 ≤ k) ∧ ¬ (p = 102 ∧ k = 2)) : zHi2 (zupd w p k x) w := by
  refine ⟨fun q hq j hj => ?_, ?_⟩
  · unfold zupd
    by_cases g : q = p
    · rw [if_pos g, if_neg (by omega)]
    · rw [if_neg g]
  · unfold zupd
    by_cases g : 102 = p
    · rw [if_pos g, if_neg (by omega)]
    · rw [if_neg g]
theorem zSwL_h2 : ∀ (m : Nat) (i : Int) (w : zW), i + m ≤ 12 → zHi2 (zSwL 98 m i w).1 w := by
  intro m
  induction m with
  | zero => exact fun i w _ => zHi2.r w
  | succ m ih =>
    intro i w h
    have e : zSwL 98 (m + 1) i w = if zSR w 98 i = -1 ∨ zSR w 98 i = w 98 i.toNat then zSwL 98 m (i + 1) w else ((zSwL 98 m (i + 1) (zupd w 98 i.toNat (zSR w 98 i))).1, 1 + (zSwL 98 m (i + 1) (zupd w 98 i.toNat (zSR w 98 i))).2) := rfl
    rw [e]
    by_cases g : zSR w 98 i = -1 ∨ zSR w 98 i = w 98 i.toNat
    · rw [if_pos g]
      exact ih _ _ (by omega)
    · rw [if_neg g]
      exact (ih _ _ (by omega)).tr (zHi2.up (by omega))
theorem zSwp_h2 {w : zW} (h : 0 ≤ w 95 0 ∧ w 95 0 ≤ 12) : zHi2 (zSwp 98 w) w := zSwL_h2 _ _ _ (by omega)
theorem zStl_h2 : ∀ (m : Nat) (i : Int) (w : zW), (0 ≤ w 95 0 ∧ w 95 0 ≤ 12) → zHi2 (zStl 98 m i w).2 w := by
  intro m
  induction m with
  | zero => exact fun i w h => zSwp_h2 h
  | succ m ih =>
    intro i w h
    have e : zStl 98 (m + 1) i w = if zSwn 98 w = 0 then (i, zSwp 98 w) else zStl 98 m (i + 1) (zSwp 98 w) := rfl
    rw [e]
    by_cases g : zSwn 98 w = 0
    · rw [if_pos g]; exact zSwp_h2 h
    · rw [if_neg g]
      exact (ih _ _ (by rw [zSwp_ne (by decide)]; exact h)).tr (zSwp_h2 h)
theorem zIt_h2 : ∀ (m : Nat) (w : zW), (0 ≤ w 95 0 ∧ w 95 0 ≤ 12) → zHi2 (zIt (zSwp 98) m w) w := by
  intro m
  induction m with
  | zero => exact fun w _ => zHi2.r w
  | succ m ih =>
    intro w h
    rw [zIt_succ]
    exact (zSwp_h2 (by rw [zIt_ne (by decide)]; exact h)).tr (ih w h)
theorem zCm_h2 {b : Int} : ∀ (m : Nat) (w : zW), (0 ≤ w 95 0 ∧ w 95 0 ≤ 12) → zHi2 (zCm 98 b m w) w := by
  intro m
  induction m with
  | zero => exact fun w _ => zHi2.r w
  | succ m ih =>
    intro w h
    have e : zCm 98 b (m + 1) w = if b < zUn w 98 then zCm 98 b m (zSwp 98 w) else w := rfl
    rw [e]
    by_cases g : b < zUn w 98
    · rw [if_pos g]
      exact (ih _ (by rw [zSwp_ne (by decide)]; exact h)).tr (zSwp_h2 h)
    · rw [if_neg g]; exact zHi2.r w
theorem zputm_h2 {w : zW} {c x y : Int} (hc : 0 ≤ c ∧ c < 12) (h : 0 ≤ w 102 0 ∧ w 102 0 < 24) : zHi2 (zputm w c x y) w := by
  unfold zputm
  refine zHi2.tr (zHi2.up (by omega)) (zHi2.tr (zHi2.up ?_) (zHi2.tr (zHi2.up (by omega)) (zHi2.up (by omega))))
  omega
theorem zpb3_h2 {w : zW} (hN : zNt w) {f k : Int} (f0 : 0 ≤ f) (f1 : f < w 96 0) (k0 : 0 ≤ k) (k1 : k < 3) (h : 0 ≤ w 102 0 ∧ w 102 0 < 24) : zHi2 (zpb3 w f k) w := by
  have hn := hN.n
  have c := hN.cor (k := 3 * f + k) (by omega) (by omega)
  unfold zpb3 zpbm
  exact zputm_h2 (by omega) h
theorem zLlm_h2 : ∀ (m : Nat) (w : zW), zNt w → (0 ≤ w 102 0 ∧ w 102 0 + m ≤ 24) → zHi2 (zLlm m w) w := by
  intro m
  induction m with
  | zero => exact fun w _ _ => zHi2.r w
  | succ m ih =>
    intro w hN h
    have e : zLlm (m + 1) w = if zFi (fun f => zln w f ≠ -1) (w 96 0).toNat 0 = -1 then w else zLlm m (zpb3 w (zFi (fun f => zln w f ≠ -1) (w 96 0).toNat 0) (zln w (zFi (fun f => zln w f ≠ -1) (w 96 0).toNat 0))) := rfl
    rw [e]
    by_cases g : zFi (fun f => zln w f ≠ -1) (w 96 0).toNat 0 = -1
    · rw [if_pos g]; exact zHi2.r w
    · rw [if_neg g]
      have hn := hN.n
      rcases zFi_spec (p := fun f => zln w f ≠ -1) (w 96 0).toNat 0 (by omega) with ⟨x, _⟩ | ⟨g1, g2, g3, _⟩
      · exact (g x).elim
      · have l := zln_rg w (zFi (fun f => zln w f ≠ -1) (w 96 0).toNat 0)
        have g3 : zln w (zFi (fun f => zln w f ≠ -1) (w 96 0).toNat 0) ≠ -1 := g3
        refine (ih _ (zNt_laym (fun p hp => zpb3_ne hp) hN) ?_).tr (zpb3_h2 hN g1 (by omega) (by omega) (by omega) (by omega))
        have e2 : ∀ f k, zpb3 w f k 102 0 = w 102 0 + 1 := fun f k => rfl
        rw [e2]
        omega
theorem zLam_h2 {w : zW} (hN : zNt w) {f : Int} (f0 : 0 ≤ f) (f1 : f < w 96 0) : zHi2 (zLam w f) w := by
  have hn := hN.n
  obtain ⟨k0, k1, k2⟩ := hN.cor3 f0 f1
  unfold zLam
  have n0 : zNt (zupd w 102 0 0) := zNt_fr (fun p hp => zune (by omega)) hN
  have n1 : zNt (zputm (zputm (zupd w 102 0 0) (w 99 (3 * f).toNat) 0 0) (w 99 (3 * f + 1).toNat) (w 98 (w 99 (3 * f).toNat).toNat + w 98 (w 99 (3 * f + 1).toNat).toNat) 0) := zNt_laym (fun p hp => zputm_ne hp) (zNt_laym (fun p hp => zputm_ne hp) n0)
  refine (zLlm_h2 12 _ (zNt_laym (fun p hp => zpb3_ne hp) n1) ⟨by show (0 : Int) ≤ 0 + 1 + 1 + 1; decide, by show (0 : Int) + 1 + 1 + 1 + ((12 : Nat) : Int) ≤ 24; decide⟩).tr ?_
  refine (zpb3_h2 n1 f0 (by exact f1) (by decide) (by decide) ⟨by show (0 : Int) ≤ 0 + 1 + 1; decide, by show (0 : Int) + 1 + 1 < 24; decide⟩).tr ?_
  refine (zputm_h2 (by omega) ⟨by show (0 : Int) ≤ 0 + 1; decide, by show (0 : Int) + 1 < 24; decide⟩).tr ?_
  refine (zputm_h2 (by omega) ⟨by show (0 : Int) ≤ 0; decide, by show (0 : Int) < 24; decide⟩).tr ?_
  exact zHi2.up (by decide)
theorem zmv_h2 {w : zW} {m : Nat} {f g : Nat → Int} (h : ∀ i : Int, 0 ≤ i → i < m → 0 ≤ w 103 i.toNat ∧ w 103 i.toNat < 12) : zHi2 (zmv w m f g) w := by
  have z : ∀ k : Nat, 24 ≤ k → zmk w m (k : Int) = 0 := fun k hk => by
    rcases zmk_01 w m (k : Int) with q | q
    · exact q
    · obtain ⟨i, i0, i1, i2⟩ := zmk_1.mp q
      have := h i i0 i1
      omega
  refine ⟨fun p hp k hk => ?_, by rw [zmv_ne (by decide) (by decide)]⟩
  rcases hp with e | e | e | e <;> subst e
  · rw [zmv_ne (by decide) (by decide)]
  · rw [zmv_ne (by decide) (by decide)]
  · rw [zmv_104]; exact if_pos (z k hk)
  · rw [zmv_105]; exact if_pos (z k hk)
theorem zcM_h2 {w : zW} {c a b : Int} (hN : zNt w) (hP : zPM w) (hA : zcB w c a b) : zHi2 (zcM w c a b).2 w := by
  have hn := hN.n
  obtain ⟨a0, a1, a2, a3, a4⟩ := hA
  unfold zcM
  by_cases g0 : c = 0
  · rw [if_pos g0]
    have := a1 (Or.inl g0)
    by_cases g : zSb w a
    · rw [if_pos g]; exact zHi2.up (by omega)
    · rw [if_neg g]; exact zHi2.r w
  · rw [if_neg g0]
    by_cases g1 : c = 1
    · rw [if_pos g1]; exact zIt_h2 _ _ (by omega)
    · rw [if_neg g1]
      by_cases g2 : c = 2
      · rw [if_pos g2]
        have := a1 (Or.inr g2)
        exact zHi2.up (by omega)
      · rw [if_neg g2]
        by_cases g3 : c = 3
        · rw [if_pos g3]
          by_cases g : a < w 96 0
          · rw [if_pos g]; exact zLam_h2 hN (a3 g3) g
          · rw [if_neg g]; exact zHi2.r w
        · rw [if_neg g3]
          by_cases g4 : c = 4
          · rw [if_pos g4]
            exact zmv_h2 fun i i0 i1 => hP.2.2.1 i i0 (by have := hP.2.1; omega)
          · rw [if_neg g4]
            exact zCm_h2 _ _ (by omega)

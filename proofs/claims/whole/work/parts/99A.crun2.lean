/-! ===== a command of a script keeps the packing in order (written by wip/whole/gen_c.py) ===== -/
theorem zIt_ne {q p : Nat} (hp : p ≠ q) : ∀ (m : Nat) (w : zW), zIt (zSwp q) m w p = w p := by
  intro m
  induction m with
  | zero => intros; rfl
  | succ m ih =>
    intro w
    rw [zIt_succ, zSwp_ne hp, ih]
theorem zIt_rd {q : Nat} (hq : q = 30 ∨ q = 98) : ∀ (m : Nat) (w : zW), zRd q w → zRd q (zIt (zSwp q) m w) := by
  intro m
  induction m with
  | zero => exact fun w h => h
  | succ m ih =>
    intro w h
    rw [zIt_succ]
    exact zSwp_rd hq (ih w h)
theorem zCm_ne {q p : Nat} {b : Int} (hp : p ≠ q) : ∀ (m : Nat) (w : zW), zCm q b m w p = w p := by
  intro m
  induction m with
  | zero => intros; rfl
  | succ m ih =>
    intro w
    have e : zCm q b (m + 1) w = if b < zUn w q then zCm q b m (zSwp q w) else w := rfl
    rw [e]
    split
    · rw [ih, zSwp_ne hp]
    · rfl
theorem zCm_rd {q : Nat} {b : Int} (hq : q = 30 ∨ q = 98) : ∀ (m : Nat) (w : zW), zRd q w → zRd q (zCm q b m w) := by
  intro m
  induction m with
  | zero => exact fun w h => h
  | succ m ih =>
    intro w h
    have e : zCm q b (m + 1) w = if b < zUn w q then zCm q b m (zSwp q w) else w := rfl
    rw [e]
    split
    · exact ih _ (zSwp_rd hq h)
    · exact h
theorem zLa_li {w : zW} {f : Int} (hN : zNt w) (f0 : 0 ≤ f) (f1 : f < w 96 0) : zLi (zLa w f) := by
  obtain ⟨d1, d2, d3⟩ := hN.tri f0 f1
  have hn := hN.n
  have k0 := (hN.cor (k := 3 * f) (by omega) (by omega)).2
  have k1 := (hN.cor (k := 3 * f + 1) (by omega) (by omega)).2
  have L0 : zLi (zclr w) := zLi_clr
  have p0 : zclr w 33 (w 99 (3 * f).toNat).toNat = 0 := zclr_33 w _ (by omega)
  have L1 : zLi (zput (zclr w) (w 99 (3 * f).toNat) 0 0) := L0.put k0.1 (by omega) (by rw [zclr_ne (by decide) (by decide)]; exact k0.2) p0
  have p1 : zput (zclr w) (w 99 (3 * f).toNat) 0 0 33 (w 99 (3 * f + 1).toNat).toNat = 0 := by
    rw [zput_33, if_neg (by omega)]; exact zclr_33 w _ (by omega)
  have fr1 : ∀ p, (p < 29 ∨ p = 30 ∨ 35 ≤ p) → zput (zput (zclr w) (w 99 (3 * f).toNat) 0 0) (w 99 (3 * f + 1).toNat) (w 30 (w 99 (3 * f).toNat).toNat + w 30 (w 99 (3 * f + 1).toNat).toNat) 0 p = w p := fun p hp => by
    rw [zput_ne hp, zput_ne hp, zclr_ne (by omega) (by omega)]
  have L2 : zLi (zput (zput (zclr w) (w 99 (3 * f).toNat) 0 0) (w 99 (3 * f + 1).toNat) (w 30 (w 99 (3 * f).toNat).toNat + w 30 (w 99 (3 * f + 1).toNat).toNat) 0) := L1.put k1.1 (by omega) (by rw [zput_ne (by omega), zclr_ne (by decide) (by decide)]; exact k1.2) p1
  have N2 := zNt_lay fr1 hN
  have L3 := zp3_li N2 L2 f0 (by rw [fr1 96 (by omega)]; exact f1)
  exact zLl_li 12 _ (zNt_lay (fun p hp => zp3_ne hp) N2) L3
theorem zLi.pc {w : zW} (h : zLi w) : zPC w := by
  refine ⟨⟨fun c c0 c1 p => ?_, fun a b a0 a1 b0 b1 pa pb => ?_⟩, h.n, fun c c0 c1 => ?_, h.2.2⟩
  · rcases h.1 c c0 c1 with q | q
    · have p : w 33 c.toNat = 1 := p
      omega
    · omega
  · have pa : w 33 a.toNat = 1 := pa
    have pb : w 33 b.toNat = 1 := pb
    rcases h.1 a a0 a1 with q | q
    · omega
    · rcases h.1 b b0 b1 with r | r
      · omega
      · omega
  · rcases h.1 c c0 c1 with q | q
    · exact Or.inl q
    · exact Or.inr q.1
theorem ztn_ne {w : zW} {n p : Nat} (h1 : p ≠ 31) (h2 : p ≠ 32) : ztn w n p = w p := zss_ne h1 h2
theorem ztn_31 {w : zW} {i : Nat} (h : i < 12) : ztn w 12 31 i = if w 33 i = 0 then w 31 i else -w 32 i := by
  unfold ztn
  rw [zset_ne (by decide), zset_lt h]
theorem ztn_32 {w : zW} {i : Nat} (h : i < 12) : ztn w 12 32 i = if w 33 i = 0 then w 32 i else w 31 i := by
  unfold ztn
  rw [zset_lt h]
theorem ztn_pc {w : zW} (h : zPC w) : zPC (ztn w 12) := by
  obtain ⟨⟨h1, h2⟩, h3, h4, h5⟩ := h
  unfold zPC
  rw [ztn_ne (p := 33) (by decide) (by decide), ztn_ne (p := 95) (by decide) (by decide), ztn_ne (p := 29) (by decide) (by decide), ztn_ne (p := 34) (by decide) (by decide)]
  refine ⟨⟨fun c c0 c1 p => ?_, fun a b a0 a1 b0 b1 pa pb => ?_⟩, h3, h4, h5⟩
  · have p : w 33 c.toNat = 1 := p
    have q := h1 c c0 c1 p
    rw [ztn_31 (by omega), ztn_32 (by omega), if_neg (by omega), if_neg (by omega)]
    omega
  · have pa : w 33 a.toNat = 1 := pa
    have pb : w 33 b.toNat = 1 := pb
    have q := h2 a b a0 a1 b0 b1 pa pb
    rw [ztn_31 (by omega), ztn_32 (by omega), if_neg (by omega), if_neg (by omega), ztn_31 (by omega), ztn_32 (by omega), if_neg (by omega), if_neg (by omega)]
    omega
theorem zPC_fr {w v : zW} (e : ∀ p, p = 29 ∨ 31 ≤ p → v p = w p) (h : zPC w) : zPC v := by
  unfold zPC at h ⊢
  rw [e 29 (by omega), e 31 (by omega), e 32 (by omega), e 33 (by omega), e 34 (by omega), e 95 (by omega)]
  exact h
theorem zcC_ne {w : zW} {v c n : Int} {p : Nat} (h : p < 29 ∨ 35 ≤ p) : (zcC w v c n).2 p = w p := by
  have a : p ≠ 30 := by omega
  have b : p < 29 ∨ p = 30 ∨ 35 ≤ p := by omega
  unfold zcC
  repeat' split
  all_goals first | rfl | exact zune a | exact zIt_ne a _ _ | exact zLa_ne b | exact ztn_ne (by omega) (by omega) | exact zCm_ne a _ _
def zPN (w : zW) : Prop := zNt w ∧ zRd 30 w ∧ zPC w
theorem zcC_iv {w : zW} {v c n : Int} (h : zPN w) (hA : zcA w v c n) (h9 : v = 1009 → 1 ≤ n ∧ n ≤ 1000000) : zPN (zcC w v c n).2 := by
  obtain ⟨hN, hR, hP⟩ := h
  refine ⟨zNt_fr (fun p hp => zcC_ne (by omega)) hN, ?_⟩
  have k30 : ∀ u : zW, (∀ p, p ≠ 30 → u p = w p) → zPC u := fun u e => zPC_fr (fun p hp => e p (by omega)) hP
  unfold zcC
  by_cases v0 : v = 1007
  · rw [if_pos v0]
    split
    · rename_i s
      refine ⟨zRd_upd (by decide) hR ?_, k30 _ fun p hp => zune hp⟩
      have := zSR_rg w 30 c
      have e : zSR w 30 c = zSv (fun v => zHq w 30 c v 0) (zTgt (w 97 c.toNat)) := if_pos s
      rw [e]
      exact zSv_rg (zSvP_ex 1000000 (by omega) fun u h1 h2 => by omega)
    · exact ⟨hR, hP⟩
  rw [if_neg v0]
  by_cases v1 : v = 1008
  · rw [if_pos v1]
    exact ⟨zIt_rd (Or.inl rfl) _ _ hR, k30 _ fun p hp => zIt_ne hp _ _⟩
  rw [if_neg v1]
  by_cases v2 : v = 1009
  · rw [if_pos v2]
    exact ⟨zRd_upd (by decide) hR (h9 v2), k30 _ fun p hp => zune hp⟩
  rw [if_neg v2]
  by_cases v3 : v = 1010
  · rw [if_pos v3]
    split
    · rename_i s
      exact ⟨zRd_lay (fun p hp => zLa_ne hp) hR, (zLa_li hN (hA.2.2.2.1 v3) s).pc⟩
    · exact ⟨hR, hP⟩
  rw [if_neg v3]
  by_cases v4 : v = 1011
  · rw [if_pos v4]
    exact ⟨zRd_fr (ztn_ne (w := w) (n := 12) (p := 95) (by decide) (by decide)) (ztn_ne (w := w) (n := 12) (p := 30) (by decide) (by decide)) hR, ztn_pc hP⟩
  rw [if_neg v4]
  exact ⟨zCm_rd (Or.inl rfl) _ _ hR, k30 _ fun p hp => zCm_ne hp _ _⟩

/-! ===== angles and sums fall with the own radius, grow with the others (written by wip/whole/gen_c.py) ===== -/
theorem zdiv_den {x a b : Int} (hx : 0 ≤ x) (ha : 0 < a) (h : a ≤ b) : x / b ≤ x / a := by
  refine Int.le_ediv_of_mul_le ha ?_
  have h1 : x / b * b ≤ x := Int.ediv_mul_le x (by omega)
  have h2 : 0 ≤ x / b := Int.ediv_nonneg hx (by omega)
  have h3 : x / b * a ≤ x / b * b := Int.mul_le_mul_of_nonneg_left h h2
  omega
/-- P c / (a + c) grows with P and c -/
theorem zdiv_gr {P P' a c c' : Int} (hP : 0 ≤ P) (hPP : P ≤ P') (ha : 1 ≤ a) (hc : 1 ≤ c) (hcc : c ≤ c') : P * c / (a + c) ≤ P' * c' / (a + c') := by
  refine Int.le_ediv_of_mul_le (by omega) ?_
  have h1 : P * c / (a + c) * (a + c) ≤ P * c := Int.ediv_mul_le _ (by omega)
  have h2 : P * c / (a + c) ≤ P := by
    have : P * c ≤ P * (a + c) := Int.mul_le_mul_of_nonneg_left (by omega) hP
    have := Int.ediv_le_ediv (c := a + c) (by omega) this
    rwa [Int.mul_ediv_cancel _ (by omega)] at this
  generalize P * c / (a + c) = q at *
  have h3 : q * (c' - c) ≤ P * (c' - c) := Int.mul_le_mul_of_nonneg_right h2 (by omega)
  have h4 : P * c' ≤ P' * c' := Int.mul_le_mul_of_nonneg_right hPP (by omega)
  have e1 : q * (a + c') = q * (a + c) + q * (c' - c) := by rw [← Int.mul_add]; congr 1; omega
  have e2 : P * c' = P * c + P * (c' - c) := by rw [← Int.mul_add]; congr 1; omega
  omega
theorem zw0_own {a a' b c : Int} (ha : 1 ≤ a) (h : a ≤ a') (hb : 1 ≤ b) (hc : 1 ≤ c) : zw0 a b c ≤ zw0 a' b c := by
  unfold zw0
  have h1 : 2000000000 * b / (a' + b) ≤ 2000000000 * b / (a + b) := zdiv_den (by omega) (by omega) (by omega)
  have h0 : 0 ≤ 2000000000 * b / (a' + b) := Int.ediv_nonneg (by omega) (by omega)
  generalize 2000000000 * b / (a' + b) = q' at *
  generalize 2000000000 * b / (a + b) = q at *
  have h2 : q' * c ≤ q * c := Int.mul_le_mul_of_nonneg_right h1 (by omega)
  have h3 : q' * c / (a' + c) ≤ q' * c / (a + c) := zdiv_den (Int.mul_nonneg h0 (by omega)) (by omega) (by omega)
  have h4 : q' * c / (a + c) ≤ q * c / (a + c) := Int.ediv_le_ediv (by omega) h2
  omega
theorem zw0_oth {a b b' c c' : Int} (ha : 1 ≤ a) (hb : 1 ≤ b) (hbb : b ≤ b') (hc : 1 ≤ c) (hcc : c ≤ c') : zw0 a b' c' ≤ zw0 a b c := by
  unfold zw0
  have h1 : 2000000000 * b / (a + b) ≤ 2000000000 * b' / (a + b') := zdiv_gr (by omega) (Int.le_refl _) ha hb hbb
  have h0 : 0 ≤ 2000000000 * b / (a + b) := Int.ediv_nonneg (by omega) (by omega)
  generalize 2000000000 * b / (a + b) = q at *
  generalize 2000000000 * b' / (a + b') = q' at *
  have := zdiv_gr (a := a) h0 h1 ha hc hcc
  omega
theorem zit_mono : ∀ (n : Nat) (u v : Int), u ≤ v → zit n u ≤ zit n v
  | 0, u, v, h => h
  | n + 1, u, v, h => zit_mono n _ _ (zqr_mono (Int.ediv_le_ediv (by decide) (by omega)))
theorem zan_w {a b c a' b' c' : Int} (h : zw0 a b c ≤ zw0 a' b' c') : zan a' b' c' ≤ zan a b c := by
  unfold zan
  have h1 := zit_mono 6 _ _ h
  have := zqr_mono (show 2000000000 * (1000000000 - zit 6 (zw0 a' b' c')) ≤ 2000000000 * (1000000000 - zit 6 (zw0 a b c)) by omega)
  omega
theorem zan_mono {a b c a' b' c' : Int} (ha : 1 ≤ a') (haa : a' ≤ a) (hb : 1 ≤ b) (hbb : b ≤ b') (hc : 1 ≤ c) (hcc : c ≤ c') : zan a b c ≤ zan a' b' c' :=
  zan_w (Int.le_trans (zw0_oth ha hb hbb hc hcc) (zw0_own ha haa hb hc))
theorem zH_mono {T : Int → Int → Int} {n : Int} {r : Int → Int} {c own own' ch ch' : Int} (ho : 1 ≤ own') (hoo : own' ≤ own) (hh : ch ≤ ch') : zH T n r c own ch ≤ zH T n r c own' ch' := by
  refine zSm_le _ 0 fun a a0 a1 => ?_
  by_cases e : T c a = -1
  · rw [if_pos e, if_pos e]; omega
  · rw [if_neg e, if_neg e]
    exact zan_mono ho hoo (by omega) (by omega) (by omega) (by omega)
/-- the greatest radius with which the sum is the target at least -/
def zSvP (f : Int → Int) (tg v : Int) : Prop := 1 ≤ v ∧ v ≤ 1000000 ∧ (v = 1 ∨ tg ≤ f v) ∧ ∀ u, v < u → u ≤ 1000000 → f u < tg
noncomputable def zSv (f : Int → Int) (tg : Int) : Int := Classical.epsilon (zSvP f tg)
theorem zSv_eq {f : Int → Int} {tg v : Int} (h : zSvP f tg v) : zSv f tg = v := by
  have h2 : zSvP f tg (zSv f tg) := Classical.epsilon_spec ⟨v, h⟩
  obtain ⟨a1, a2, a3, a4⟩ := h
  obtain ⟨b1, b2, b3, b4⟩ := h2
  rcases Int.lt_trichotomy (zSv f tg) v with q | q | q
  · have := b4 v q a2
    omega
  · exact q
  · have := a4 _ q b2
    omega
/-- where the search ends -/
theorem zSvP_end {f : Int → Int} {tg e t : Int} (hf : ∀ u v, 1 ≤ u → u ≤ v → f v ≤ f u) (e0 : 0 ≤ e) (e1 : e ≤ 1000000) (h1 : e = 0 ∨ tg ≤ f e) (h2 : t = 1000001 ∨ f t < tg) (h3 : t = e + 1) : zSvP f tg (max 1 e) := by
  refine ⟨by omega, by omega, ?_, fun u u0 u1 => ?_⟩
  · rcases h1 with q | q
    · left; omega
    · by_cases q0 : e = 0
      · left; omega
      · right; rw [show max 1 e = e by omega]; exact q
  · rcases h2 with q | q
    · omega
    · have := hf t u (by omega) (by omega)
      omega
theorem zSv_congr {f g : Int → Int} {tg : Int} (h : ∀ v, f v = g v) : zSv f tg = zSv g tg := by
  have : f = g := funext h
  rw [this]
theorem zpow20 {i : Nat} {s : Int} (hs : s = ((2 ^ i : Nat) : Int)) (h : s ≤ 2000000) : i ≤ 20 := by
  by_cases q : i ≤ 20
  · exact q
  · have h1 : 2 ^ 21 ≤ 2 ^ i := Nat.pow_le_pow_right (by decide) (by omega)
    have h2 : (2 ^ 21 : Nat) = 2097152 := by decide
    omega
theorem zpow2 (i : Nat) : ((2 ^ (i + 1) : Nat) : Int) = 2 * ((2 ^ i : Nat) : Int) := by rw [Nat.pow_succ]; omega
theorem zpow_le {i j : Nat} (h : i ≤ j) : ((2 ^ i : Nat) : Int) ≤ ((2 ^ j : Nat) : Int) := by
  have := Nat.pow_le_pow_right (show 0 < 2 by decide) h
  omega
theorem zpow_pos (i : Nat) : 1 ≤ ((2 ^ i : Nat) : Int) := by
  have := Nat.pow_pos (n := i) (show 0 < 2 by decide)
  omega

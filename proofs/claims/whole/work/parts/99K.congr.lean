/-! ===== the solver on the class radii and on the model radii (written by wip/whole/gen_c.py) ===== -/
/-- a (the class's radii) and b (the model's) hold the same net and the same radii -/
def zQr (a b : zW) : Prop := zNt a ∧ (∀ p, (95 ≤ p ∧ p ≤ 101 ∧ p ≠ 98) → b p = a p) ∧ ∀ c : Int, 0 ≤ c → c < a 95 0 → a 30 c.toNat = b 98 c.toNat
theorem zHs_cg {T : Int → Int → Int} {n c : Int} {F G : Int → Int → Int} (hT : zTab T n) (c0 : 0 ≤ c) (c1 : c < 12) (h : ∀ x y, 0 ≤ x → x < n → 0 ≤ y → y < n → F x y = G x y) : zHs T n c F = zHs T n c G := by
  unfold zHs
  refine zSm_congr _ 0 fun j j0 j1 => ?_
  obtain ⟨t0, t1, t2⟩ := hT
  show (if T c j = -1 then 0 else F j (T c j)) = if T c j = -1 then 0 else G j (T c j)
  by_cases g : T c j = -1
  · rw [if_pos g, if_pos g]
  · rw [if_neg g, if_neg g]
    rcases t2 c j c0 c1 j0 (by omega) with q | q
    · exact (g q).elim
    · exact h j (T c j) j0 (by omega) q.2.2.1 q.2.2.2.1
theorem zF0_f2 {a b : zW} (h : b 100 = a 100) : zF0 b = zF0 a := by
  funext x y
  show zfw b 0 x y = zfw a 0 x y
  unfold zfw
  rw [h]
theorem zQr.hq {a b : zW} (h : zQr a b) {c own ch : Int} (c0 : 0 ≤ c) (c1 : c < a 95 0) : zHq a 30 c own ch = zHq b 98 c own ch := by
  obtain ⟨hN, h1, h2⟩ := h
  have hn := hN.n
  unfold zHq zH
  rw [zF0_f2 (h1 100 (by decide)), h1 95 (by decide)]
  refine zHs_cg hN.1.tab c0 (by omega) fun x y x0 x1 y0 y1 => ?_
  show zan own (max 1 (a 30 x.toNat + ch)) (max 1 (a 30 y.toNat + ch)) = zan own (max 1 (b 98 x.toNat + ch)) (max 1 (b 98 y.toNat + ch))
  rw [h2 x x0 x1, h2 y y0 y1]
theorem zQr.sb {a b : zW} (h : zQr a b) (c : Int) : zSb a c ↔ zSb b c := by
  unfold zSb
  rw [zF0_f2 (h.2.1 100 (by decide)), h.2.1 95 (by decide), h.2.1 97 (by decide)]
theorem zQr.sr {a b : zW} (h : zQr a b) {c : Int} (c0 : 0 ≤ c) (c1 : c < a 95 0) : zSR a 30 c = zSR b 98 c := by
  unfold zSR
  by_cases g : zSb a c
  · rw [if_pos g, if_pos ((h.sb c).mp g), h.2.1 97 (by decide)]
    exact zSv_congr fun v => h.hq c0 c1
  · rw [if_neg g, if_neg fun x => g ((h.sb c).mpr x)]
theorem zQr.up {a b : zW} (h : zQr a b) {c : Int} (c0 : 0 ≤ c) (x : Int) : zQr (zupd a 30 c.toNat x) (zupd b 98 c.toNat x) := by
  obtain ⟨hN, h1, h2⟩ := h
  refine ⟨zNt_fr (fun p hp => zune (by omega)) hN, fun p hp => ?_, fun e e0 e1 => ?_⟩
  · rw [zune hp.2.2, zune (by omega)]; exact h1 p hp
  · have e1 : e < a 95 0 := e1
    rw [zuat, zuat]
    by_cases g : e.toNat = c.toNat
    · rw [if_pos g, if_pos g]
    · rw [if_neg g, if_neg g]; exact h2 e e0 e1
theorem zSwL_q : ∀ (m : Nat) (i : Int) (a b : zW), zQr a b → 0 ≤ i → i + m = a 95 0 → zQr (zSwL 30 m i a).1 (zSwL 98 m i b).1 ∧ (zSwL 30 m i a).2 = (zSwL 98 m i b).2 := by
  intro m
  induction m with
  | zero => exact fun i a b h _ _ => ⟨h, rfl⟩
  | succ m ih =>
    intro i a b h i0 i1
    have ea : zSwL 30 (m + 1) i a = if zSR a 30 i = -1 ∨ zSR a 30 i = a 30 i.toNat then zSwL 30 m (i + 1) a else ((zSwL 30 m (i + 1) (zupd a 30 i.toNat (zSR a 30 i))).1, 1 + (zSwL 30 m (i + 1) (zupd a 30 i.toNat (zSR a 30 i))).2) := rfl
    have eb : zSwL 98 (m + 1) i b = if zSR b 98 i = -1 ∨ zSR b 98 i = b 98 i.toNat then zSwL 98 m (i + 1) b else ((zSwL 98 m (i + 1) (zupd b 98 i.toNat (zSR b 98 i))).1, 1 + (zSwL 98 m (i + 1) (zupd b 98 i.toNat (zSR b 98 i))).2) := rfl
    rw [ea, eb, ← h.sr i0 (by omega), ← h.2.2 i i0 (by omega)]
    by_cases g : zSR a 30 i = -1 ∨ zSR a 30 i = a 30 i.toNat
    · rw [if_pos g, if_pos g]
      exact ih (i + 1) a b h (by omega) (by omega)
    · rw [if_neg g, if_neg g]
      have r := ih (i + 1) _ _ (h.up i0 (zSR a 30 i)) (by omega) (by show i + 1 + m = a 95 0; omega)
      exact ⟨r.1, by show 1 + _ = 1 + _; rw [r.2]⟩
theorem zQr.sw {a b : zW} (h : zQr a b) : zQr (zSwp 30 a) (zSwp 98 b) ∧ zSwn 30 a = zSwn 98 b := by
  have hn := h.1.n
  unfold zSwp zSwn
  rw [h.2.1 95 (by decide)]
  exact zSwL_q (a 95 0).toNat 0 a b h (by decide) (by omega)
theorem zQr.it : ∀ (m : Nat) {a b : zW}, zQr a b → zQr (zIt (zSwp 30) m a) (zIt (zSwp 98) m b) := by
  intro m
  induction m with
  | zero => exact fun h => h
  | succ m ih =>
    intro a b h
    rw [zIt_succ, zIt_succ]
    exact (ih h).sw.1
theorem zQr.un {a b : zW} (h : zQr a b) : zUn a 30 = zUn b 98 := by
  have hn := h.1.n
  unfold zUn
  rw [h.2.1 95 (by decide), h.2.1 97 (by decide)]
  refine zSm_congr _ 0 fun j j0 j1 => ?_
  have e : zDf a 30 j = zDf b 98 j := by
    unfold zDf
    rw [h.2.1 97 (by decide), h.hq j0 (by omega), h.2.2 j j0 (by omega)]
  show (if 0 < a 97 j.toNat then zab (zDf a 30 j) else 0) = if 0 < a 97 j.toNat then zab (zDf b 98 j) else 0
  rw [e]
theorem zQr.cm {bd : Int} : ∀ (m : Nat) {a b : zW}, zQr a b → zQr (zCm 30 bd m a) (zCm 98 bd m b) := by
  intro m
  induction m with
  | zero => exact fun h => h
  | succ m ih =>
    intro a b h
    have ea : zCm 30 bd (m + 1) a = if bd < zUn a 30 then zCm 30 bd m (zSwp 30 a) else a := rfl
    have eb : zCm 98 bd (m + 1) b = if bd < zUn b 98 then zCm 98 bd m (zSwp 98 b) else b := rfl
    rw [ea, eb, ← h.un]
    by_cases g : bd < zUn a 30
    · rw [if_pos g, if_pos g]; exact ih h.sw.1
    · rw [if_neg g, if_neg g]; exact h

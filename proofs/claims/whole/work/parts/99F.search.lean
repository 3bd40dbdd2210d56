/-! ===== the search for the next command ends in time (written by wip/whole/gen_c.py) ===== -/
theorem zmr_mo : ∀ (m : Nat) (d q k g : Int) (w : zW), zmrE m d q k g w → ∀ t : Nat, zmr (m + t) d q k g w = zmr m d q k g w ∧ zmrE (m + t) d q k g w := by
  intro m
  induction m with
  | zero =>
    intro d q k g w h t
    have h : ¬ (g ≠ 0 ∧ k < w 93 39 ∧ d < 20) := h
    cases t with
    | zero => exact ⟨rfl, h⟩
    | succ t =>
      rw [Nat.zero_add]
      exact ⟨if_neg h, fun x => (h x).elim⟩
  | succ m ih =>
    intro d q k g w h t
    rw [show m + 1 + t = (m + t) + 1 by omega]
    by_cases c : g ≠ 0 ∧ k < w 93 39 ∧ d < 20
    · obtain ⟨k0, hO, hE, hC⟩ := h c
      by_cases c6 : w 109 k.toNat = 6
      · have r := ih _ _ _ _ _ (hO c6).2 t
        refine ⟨?_, fun _ => ⟨k0, fun _ => ⟨(hO c6).1, r.2⟩, fun x => absurd (c6.symm.trans x) (by decide), fun x => (x c6).elim⟩⟩
        show (if _ then (if _ then _ else _) else _) = (if _ then (if _ then _ else _) else _)
        rw [if_pos c, if_pos c, if_pos c6, if_pos c6, r.1]
      · by_cases c7 : w 109 k.toNat = 7
        · obtain ⟨e1, e2, e3, e4⟩ := hE c7
          by_cases c8 : 0 < w 113 (q - 1).toNat - 1
          · rw [if_pos c8] at e4
            have r := ih _ _ _ _ _ e4 t
            refine ⟨?_, fun _ => ⟨k0, fun x => (c6 x).elim, fun _ => ⟨e1, e2, e3, by rw [if_pos c8]; exact r.2⟩, fun _ x => (x c7).elim⟩⟩
            show (if _ then (if _ then _ else (if _ then (if _ then _ else _) else _)) else _) = (if _ then (if _ then _ else (if _ then (if _ then _ else _) else _)) else _)
            rw [if_pos c, if_pos c, if_neg c6, if_neg c6, if_pos c7, if_pos c7, if_pos c8, if_pos c8, r.1]
          · rw [if_neg c8] at e4
            have r := ih _ _ _ _ _ e4 t
            refine ⟨?_, fun _ => ⟨k0, fun x => (c6 x).elim, fun _ => ⟨e1, e2, e3, by rw [if_neg c8]; exact r.2⟩, fun _ x => (x c7).elim⟩⟩
            show (if _ then (if _ then _ else (if _ then (if _ then _ else _) else _)) else _) = (if _ then (if _ then _ else (if _ then (if _ then _ else _) else _)) else _)
            rw [if_pos c, if_pos c, if_neg c6, if_neg c6, if_pos c7, if_pos c7, if_neg c8, if_neg c8, r.1]
        · have r := ih _ _ _ _ _ (hC c6 c7).2 t
          refine ⟨?_, fun _ => ⟨k0, fun x => (c6 x).elim, fun x => (c7 x).elim, fun _ _ => ⟨(hC c6 c7).1, r.2⟩⟩⟩
          show (if _ then (if _ then _ else (if _ then _ else _)) else _) = (if _ then (if _ then _ else (if _ then _ else _)) else _)
          rw [if_pos c, if_pos c, if_neg c6, if_neg c6, if_neg c7, if_neg c7, r.1]
    · refine ⟨?_, fun x => (c x).elim⟩
      show (if _ then _ else _) = (if _ then _ else _)
      rw [if_neg c, if_neg c]
theorem zdp_s (V : Nat → Int) (k : Nat) : zdp V (k + 1) = zdp V k + if V k = 1013 then 1 else if V k = 1014 then -1 else 0 := rfl
theorem zsl_s (V : Nat → Int) (j : Int) (k : Nat) : zsl V j (k + 1) = if V k = 1013 ∧ zdp V k = j then (k : Int) else zsl V j k := rfl
/-- inside an open repeat it is deeper -/
theorem zsl_d {V : Nat → Int} : ∀ k : Nat, (∀ i, i < k → V i = 1014 → 1 ≤ zdp V i) → ∀ j : Int, 0 ≤ j → j < zdp V k → ∀ i : Nat, zsl V j k < i → i ≤ k → j + 1 ≤ zdp V i := by
  intro k
  induction k with
  | zero => intro _ j j0 j1; exact absurd (show j < 0 from j1) (by omega)
  | succ k ih =>
    intro h j j0 j1 i i0 i1
    by_cases e : i = k + 1
    · rw [e]; omega
    · rw [zdp_s] at j1
      rw [zsl_s] at i0
      by_cases g : V k = 1013
      · rw [if_pos g] at j1
        by_cases g2 : zdp V k = j
        · rw [if_pos ⟨g, g2⟩] at i0; omega
        · rw [if_neg fun q => g2 q.2] at i0
          exact ih (fun i hi => h i (by omega)) j j0 (by omega) i i0 (by omega)
      · rw [if_neg fun q => g q.1] at i0
        rw [if_neg g] at j1
        refine ih (fun i hi => h i (by omega)) j j0 ?_ i i0 (by omega)
        by_cases g3 : V k = 1014
        · rw [if_pos g3] at j1; omega
        · rw [if_neg g3] at j1; omega
/-- the matching end -/
def zEnd (V : Nat → Int) (j : Int) (k e : Nat) : Prop := k ≤ e ∧ V e = 1014 ∧ zdp V e = j + 1 ∧ ∀ i : Nat, k ≤ i → i ≤ e → j + 1 ≤ zdp V i
theorem zEnd_ex {V : Nat → Int} {j : Int} {n : Nat} (hn : zdp V n ≤ j) : ∀ (t k : Nat), k + t = n → j + 1 ≤ zdp V k → ∃ e, e < n ∧ zEnd V j k e := by
  intro t
  induction t with
  | zero => intro k hk h; rw [show k = n by omega] at h; omega
  | succ t ih =>
    intro k hk h
    by_cases c : V k = 1014 ∧ zdp V k = j + 1
    · exact ⟨k, by omega, Nat.le_refl k, c.1, c.2, fun i i0 i1 => by rw [show i = k by omega]; exact h⟩
    · have h2 : j + 1 ≤ zdp V (k + 1) := by
        rw [zdp_s]
        by_cases g : V k = 1013
        · rw [if_pos g]; omega
        · rw [if_neg g]
          by_cases g2 : V k = 1014
          · rw [if_pos g2]
            have : zdp V k ≠ j + 1 := fun x => c ⟨g2, x⟩
            omega
          · rw [if_neg g2]; omega
      obtain ⟨e, e0, e1, e2, e3, e4⟩ := ih (k + 1) (by omega) h2
      refine ⟨e, e0, by omega, e2, e3, fun i i0 i1 => ?_⟩
      by_cases x : i = k
      · rw [x]; exact h
      · exact e4 i (by omega) i1
theorem zEnd.up {V : Nat → Int} {j : Int} {k e : Nat} (h : zEnd V j k e) (c : k ≠ e) : zEnd V j (k + 1) e := ⟨by have := h.1; omega, h.2.1, h.2.2.1, fun i i0 i1 => h.2.2.2 i (by omega) i1⟩
theorem zEnd.me {V : Nat → Int} {j : Int} {k e : Nat} (h : zEnd V j k e) (c : V k = 1014) (d : zdp V k = j + 1) : e = k := by
  by_cases x : e = k
  · exact x
  · have q := h.2.2.2 (k + 1) (by omega) (by have := h.1; omega)
    rw [zdp_s, if_neg (by omega), if_pos c] at q
    omega
/-- a whole nest of repeats: V the verbs, N the numbers -/
def zWf (V N : Nat → Int) (n : Nat) : Prop := (∀ i, i < n → V i = 1014 → 1 ≤ zdp V i ∧ N i = zsl V (zdp V i - 1) i) ∧ (∀ i, i < n → V i = 1013 → zdp V i < 2 ∧ 1 ≤ N i ∧ N i ≤ 10) ∧ zdp V n = 0 ∧ n ≤ 60
theorem zdp_rg {V N : Nat → Int} {n : Nat} (h : zWf V N n) : ∀ k, k ≤ n → 0 ≤ zdp V k ∧ zdp V k ≤ 2 := by
  intro k
  induction k with
  | zero => intro _; exact (show (0 : Int) ≤ 0 ∧ (0 : Int) ≤ 2 by decide)
  | succ k ih =>
    intro hk
    have i1 := ih (by omega)
    rw [zdp_s]
    by_cases g : V k = 1013
    · rw [if_pos g]
      have := (h.2.1 k (by omega) g).1
      omega
    · rw [if_neg g]
      by_cases g2 : V k = 1014
      · rw [if_pos g2]
        have := (h.1 k (by omega) g2).1
        omega
      · rw [if_neg g2]; omega

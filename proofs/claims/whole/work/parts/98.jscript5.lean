/-! ===== class and model read the same script (written by wip/whole/gen_c.py) ===== -/
def zSF (v : zW) : zW := if v 93 8 = 0 ∧ 0 < v 93 41 then zwr v 1 else v
def zOs (r : Int × zW) (v : zW) : Prop := (r.1 = 1 ∧ v 93 8 = 0 ∧ v 93 41 = 0 ∧ zSq r.2 v ∧ zSK r.2) ∨ (r.1 = 0 ∧ zEr r.2 (zSF v))
theorem zCl_s {w : zW} (h : ¬ (0 < w 93 41 ∧ zcT w)) : ∀ j : Nat, zCl j w = w := by
  intro j
  cases j with
  | zero => rfl
  | succ j => exact if_neg h
theorem zSL_s {w : zW} (h : ¬ (w 93 8 = 0 ∧ w 93 6 ≠ 0)) : ∀ m : Nat, zSL m w = w ∧ zSe m w := by
  intro m
  cases m with
  | zero => exact ⟨rfl, h⟩
  | succ m => exact ⟨if_neg h, fun q => (h q).elim⟩
theorem zSF_n {v : zW} (h : v 93 8 ≠ 0) : zSF v = v := if_neg fun q => h q.1
theorem zSq.ms {a b : zW} (q : zSq a b) (s : zSK a) : zMS b := by
  have := q.1
  unfold zSK at s
  unfold zMS
  omega
theorem zOs_bad {r : Int × zW} {v : zW} {m j : Nat} (h1 : r.1 = 0) (h2 : zEr r.2 v) : zSe m (zCl j v) ∧ zOs (0, r.2) (zSL m (zCl j v)) := by
  have n8 : v 93 8 ≠ 0 := by have := h2.1; omega
  rw [zCl_s (fun q => n8 q.2.1)]
  obtain ⟨e1, e2⟩ := zSL_s (w := v) (fun q => n8 q.1) m
  rw [e1]
  exact ⟨e2, Or.inr ⟨rfl, by rw [zSF_n n8]; exact h2⟩⟩
theorem zJX : ∀ (M m j : Nat) (a b : zW), zSy a b → b 93 8 = 0 → zSq a b → zSK a → a 3 2 ≤ a 1 1 → a 1 1 - a 3 2 ≤ m → ((a 1 1 - a 3 2 + 1 ≤ M) ∨ (a 23 8 = 0 ∧ a 1 1 - a 3 2 ≤ M)) → b 93 41 ≤ j → zSe m (zCl j b) ∧ zOs (zkL M a) (zSL m (zCl j b)) := by
  intro M
  induction M with
  | zero =>
    intro m j a b h g q sk hB hm hM hj
    have k : a 3 1 = -1 := by
      by_cases k : a 3 1 = -1
      · exact k
      · have := h.lt k
        have := h.2.2.1.2.2.1 k
        omega
    have k6 := h.kd.1.mp k
    have q1 := q.1
    rw [zCl_s (fun q => by omega)]
    obtain ⟨e1, e2⟩ := zSL_s (w := b) (fun q => q.2 k6) m
    rw [e1]
    exact ⟨e2, Or.inl ⟨rfl, g, by omega, q, sk⟩⟩
  | succ M ih =>
    intro m j a b h g q sk hB hm hM hj
    have eL : zkL (M + 1) a = if a 3 1 ≠ -1 ∨ 0 < a 23 8 then (if (zkP a).1 = 0 then (0, (zkP a).2) else zkL M (zkP a).2) else (1, a) := rfl
    have q1 := q.1
    have pn := zkP_n h.2.2.1 sk
    have s := sk
    unfold zSK at s
    by_cases k : a 3 1 = -1
    · have k6 := h.kd.1.mp k
      rw [zCl_s (fun q => by have := q.2.2.1; omega)]
      obtain ⟨e1, e2⟩ := zSL_s (w := b) (fun q => q.2 k6) m
      rw [e1, eL]
      by_cases o : 0 < a 23 8
      · have d0 : a 3 4 = 1000 := by
          rcases h.2.2.2.2 with q | q
          · exact q.2.2
          · exact (q.1 k).elim
        have ep : zkP a = (0, zfl a 1) := by
          unfold zkP zkO
          rw [if_neg (by omega), if_neg (by unfold zcmd; omega)]
        rw [if_pos (Or.inr o), ep, if_pos (show ((0 : Int), zfl a 1).1 = 0 from rfl)]
        refine ⟨e2, Or.inr ⟨rfl, ?_⟩⟩
        have eF : zSF b = zwr b 1 := if_pos ⟨g, by omega⟩
        rw [eF]
        exact zEr_fl h (by decide) fun _ => rfl
      · rw [if_neg fun q => q.elim (fun q => q k) o]
        exact ⟨e2, Or.inl ⟨rfl, g, by omega, q, sk⟩⟩
    · have l := h.lt k
      have le := h.2.2.1.2.2.1 k
      have e11 : (zkP a).2 1 = a 1 := zkP_ne (by decide) (by decide) (by decide)
      rw [eL, if_pos (Or.inl k)]
      by_cases c : a 3 1 = 41 ∧ 0 < a 23 8
      · have ep : zkP a = zcR a := if_pos c
        rw [ep] at pn e11 ⊢
        have t := (h.kd.2.2.2 41 (by decide)).mp c.1
        have hT : 0 < b 93 41 ∧ zcT b := ⟨by omega, g, t⟩
        cases j with
        | zero => exact absurd hT.1 (by omega)
        | succ j =>
          have eC : zCl (j + 1) b = zCl j (zcS b) := if_pos hT
          rw [eC]
          rcases zJe h g q k (by omega) with ⟨p1, p2, p3, p4, p5, p6⟩ | ⟨p1, p2⟩
          · rw [if_neg (by rw [p1]; decide)]
            refine ih m j (zcR a).2 (zcS b) p3 p2 p4 pn.2 p6 (by rw [e11]; omega) (Or.inl (by rw [e11]; omega)) ?_
            rw [zcS_41]; omega
          · rw [if_pos p1]
            exact zOs_bad p1 p2
      · have ep : zkP a = zkO a := if_neg c
        rw [ep] at pn e11 ⊢
        have nT : ¬ (0 < b 93 41 ∧ zcT b) := fun qq => c ⟨(h.kd.2.2.2 41 (by decide)).mpr qq.2.2, by omega⟩
        rw [zCl_s nT]
        have b6 : b 93 6 ≠ 0 := fun qq => k (h.kd.1.mpr qq)
        cases m with
        | zero => exact absurd hm (by omega)
        | succ m =>
          have eS : zSL (m + 1) b = zSL m (zCl 2 (zmV b)) := if_pos ⟨g, b6⟩
          have eE : zSe (m + 1) b = (b 93 8 = 0 ∧ b 93 6 ≠ 0 → (zMP b ∧ zMS b) ∧ zSe m (zCl 2 (zmV b))) := rfl
          rw [eS, eE]
          have pre : zMP b ∧ zMS b := ⟨h.mp (by omega), q.ms sk⟩
          rcases zJO h g q sk k with ⟨p1, p2, p3, p4, p5, p6⟩ | ⟨p1, p2⟩
          · rw [if_neg (by rw [p1]; decide)]
            have s2 := pn.2
            unfold zSK at s2
            have q2 := p4.1
            have r := ih m 2 (zkO a).2 (zmV b) p3 p2 p4 pn.2 p6 (by rw [e11]; omega) (Or.inl (by rw [e11]; omega)) (by omega)
            exact ⟨fun _ => ⟨pre, r.1⟩, r.2⟩
          · rw [if_pos p1]
            have r := zOs_bad (m := m) (j := 2) p1 p2
            exact ⟨fun _ => ⟨pre, r.1⟩, r.2⟩

/-! ===== calls that measure ways: what they leave (written by wip/whole/gen_c.py) ===== -/
theorem zfl_of {w v : zW} {q : Nat} (h : ∀ p : Nat, p ≠ q → v p = w p) : ∃ D : Nat → Int, v = zfill w q D := by
  refine ⟨v q, ?_⟩
  funext p k
  unfold zfill
  by_cases g : p = q
  · rw [if_pos g, g]
  · rw [if_neg g, h p g]
/-! .steps -/
set_option maxRecDepth 100000 in
theorem zk136b (a b : Int) (w : zW) (K : zK) (h : (zNt w ∧ zRd 30 w) ∧ (if (0 ≤ a ∧ a < w 95 0) ∧ 0 ≤ b ∧ b < w 95 0 then (∀ D : Nat → Int, (True) → (K (0, some (0, zYe w 30 0 a b.toNat)) (zfill w 92 D) 238)) else K (3, none) w 238)) : zcall 136 [(2, 0), (0, a), (0, b)] w 238 K := by
  obtain ⟨hg, h⟩ := h
  refine zk136_0 a b w K ⟨hg, ?_⟩
  by_cases hc : (0 ≤ a ∧ a < w 95 0) ∧ 0 ≤ b ∧ b < w 95 0
  · rw [if_pos hc] at h ⊢
    intro v hv
    obtain ⟨D, rfl⟩ := zfl_of hv
    exact h D trivial
  · rw [if_neg hc] at h ⊢
    exact h
noncomputable def zb136b (l0 : List zV) (w : zW) (K : zK) : Prop := cond (zis0 (zar l0 0)) (zA l0 1 fun a => zA l0 2 fun b => (zNt w ∧ zRd 30 w) ∧ (if (0 ≤ a ∧ a < w 95 0) ∧ 0 ≤ b ∧ b < w 95 0 then (∀ D : Nat → Int, (True) → (K (0, some (0, zYe w 30 0 a b.toNat)) (zfill w 92 D) 238)) else K (3, none) w 238)) False
noncomputable def zT263 : zSum := zsm1 136 [2, 0, 0] zb136b zT262
theorem zT263_ok : zSok zT263 := zsm1_ok zT262_ok fun l0 w K h => by
  unfold zb136b at h
  cases q0 : zis0 (zar l0 0) with
  | true =>
    rw [q0, cond_true] at h
    have e : zar l0 0 = 0 := zis0_e q0
    show zcall 136 [(2, zar l0 0), (0, zar l0 1), (0, zar l0 2)] w 238 K
    rw [e]
    exact zk136b (zar l0 1) (zar l0 2) w K (zA_e (zA_e h))
  | false =>
    rw [q0, cond_false] at h
    exact h.elim
/-! .distance -/
set_option maxRecDepth 100000 in
theorem zk140b (a b : Int) (w : zW) (K : zK) (h : (zNt w ∧ zRd 30 w) ∧ (if (0 ≤ a ∧ a < w 95 0) ∧ 0 ≤ b ∧ b < w 95 0 then (∀ D : Nat → Int, (True) → (K (0, some (1, zYe w 30 1 a b.toNat)) (zfill w 92 D) 238)) else K (3, none) w 238)) : zcall 140 [(2, 0), (0, a), (0, b)] w 238 K := by
  obtain ⟨hg, h⟩ := h
  refine zk140_0 a b w K ⟨hg, ?_⟩
  by_cases hc : (0 ≤ a ∧ a < w 95 0) ∧ 0 ≤ b ∧ b < w 95 0
  · rw [if_pos hc] at h ⊢
    intro v hv
    obtain ⟨D, rfl⟩ := zfl_of hv
    exact h D trivial
  · rw [if_neg hc] at h ⊢
    exact h
noncomputable def zb140b (l0 : List zV) (w : zW) (K : zK) : Prop := cond (zis0 (zar l0 0)) (zA l0 1 fun a => zA l0 2 fun b => (zNt w ∧ zRd 30 w) ∧ (if (0 ≤ a ∧ a < w 95 0) ∧ 0 ≤ b ∧ b < w 95 0 then (∀ D : Nat → Int, (True) → (K (0, some (1, zYe w 30 1 a b.toNat)) (zfill w 92 D) 238)) else K (3, none) w 238)) False
noncomputable def zT264 : zSum := zsm1 140 [2, 0, 0] zb140b zT263
theorem zT264_ok : zSok zT264 := zsm1_ok zT263_ok fun l0 w K h => by
  unfold zb140b at h
  cases q0 : zis0 (zar l0 0) with
  | true =>
    rw [q0, cond_true] at h
    have e : zar l0 0 = 0 := zis0_e q0
    show zcall 140 [(2, zar l0 0), (0, zar l0 1), (0, zar l0 2)] w 238 K
    rw [e]
    exact zk140b (zar l0 1) (zar l0 2) w K (zA_e (zA_e h))
  | false =>
    rw [q0, cond_false] at h
    exact h.elim
/-! .parts -/
set_option maxRecDepth 100000 in
theorem zk137b (w : zW) (K : zK) (h : (zNt w ∧ zRd 30 w) ∧ ((∀ D : Nat → Int, (True) → (K (0, some (0, zSm (fun c => zYg w 30 c) (w 95 0).toNat 0)) (zfill w 92 D) 238)))) : zcall 137 [(2, 0), (9, 0), (9, 0)] w 238 K := by
  obtain ⟨hg, h⟩ := h
  refine zk137_0 w K ⟨hg, fun v hv => ?_⟩
  obtain ⟨D, rfl⟩ := zfl_of hv
  exact h D trivial
noncomputable def zb137b (l0 : List zV) (w : zW) (K : zK) : Prop := cond (zis0 (zar l0 0)) ((zNt w ∧ zRd 30 w) ∧ ((∀ D : Nat → Int, (True) → (K (0, some (0, zSm (fun c => zYg w 30 c) (w 95 0).toNat 0)) (zfill w 92 D) 238)))) False
noncomputable def zT265 : zSum := zsm1 137 [2, 9, 9] zb137b zT264
theorem zT265_ok : zSok zT265 := zsm1_ok zT264_ok fun l0 w K h => by
  unfold zb137b at h
  cases q0 : zis0 (zar l0 0) with
  | true =>
    rw [q0, cond_true] at h
    have e : zar l0 0 = 0 := zis0_e q0
    show zcall 137 [(2, zar l0 0), (9, 0), (9, 0)] w 238 K
    rw [e]
    exact zk137b  w K h
  | false =>
    rw [q0, cond_false] at h
    exact h.elim
/-! Model.parts -/
set_option maxRecDepth 100000 in
theorem zk251b (w : zW) (K : zK) (h : (zNt w) ∧ ((∀ D : Nat → Int, (True) → (K (0, some (0, zSm (fun c => zYg w 30 c) (w 95 0).toNat 0)) (zfill (zupd w 93 0 0) 106 D) 238)))) : zcall 251 [(2, 93), (9, 0), (9, 0), (9, 0), (9, 0)] w 238 K := by
  obtain ⟨hg, h⟩ := h
  refine zk251_93 w K ⟨hg, fun v hv => ?_⟩
  obtain ⟨D, rfl⟩ := zfl_of hv
  exact h D trivial
noncomputable def zb251b (l0 : List zV) (w : zW) (K : zK) : Prop := cond (zpe (zar l0 0) 93) ((zNt w) ∧ ((∀ D : Nat → Int, (True) → (K (0, some (0, zSm (fun c => zYg w 30 c) (w 95 0).toNat 0)) (zfill (zupd w 93 0 0) 106 D) 238)))) False
noncomputable def zT266 : zSum := zsm1 251 [2, 9, 9, 9, 9] zb251b zT265
theorem zT266_ok : zSok zT266 := zsm1_ok zT265_ok fun l0 w K h => by
  unfold zb251b at h
  cases q0 : zpe (zar l0 0) 93 with
  | true =>
    rw [q0, cond_true] at h
    have e : zar l0 0 = 93 := zpe_e q0
    show zcall 251 [(2, zar l0 0), (9, 0), (9, 0), (9, 0), (9, 0)] w 238 K
    rw [e]
    exact zk251b  w K h
  | false =>
    rw [q0, cond_false] at h
    exact h.elim

/-! ===== ways: the model, steps (written by wip/whole/gen_c.py) ===== -/
noncomputable def zYh (w : zW) (f : Int) : Nat → Int := zYz w f fun _ => 0
theorem zYE_t {A : Int → Int → Prop} {i c : Int} {D D' : Nat → Int} (hc : c < 12) (h : zYE D D') : zYE (zYt A i c D) (zYt A i c D') := by
  unfold zYt
  rw [h c.toNat (by omega)]
  by_cases g : D' c.toNat = i
  · rw [if_pos g, if_pos g]; exact zYE_p h
  · rw [if_neg g, if_neg g]; exact h
theorem zYE_u {A : Int → Int → Prop} {i : Int} : ∀ (m : Nat) (c : Int) (D D' : Nat → Int), c + m ≤ 12 → zYE D D' → zYE (zYu A i m c D) (zYu A i m c D') := by
  intro m
  induction m with
  | zero => intro c D D' _ h; exact h
  | succ m ih => intro c D D' hc h; exact ih (c + 1) _ _ (by omega) (zYE_t (by omega) h)
theorem zYE_v {A : Int → Int → Prop} {n : Int} (hn : n ≤ 12) : ∀ (m : Nat) (i : Int) (D D' : Nat → Int), zYE D D' → zYE (zYv A n m i D) (zYv A n m i D') := by
  intro m
  induction m with
  | zero => intro i D D' h; exact h
  | succ m ih => intro i D D' h; exact ih _ _ _ (zYE_u _ _ _ _ (by omega) h)
theorem zYz_e {w : zW} (hn : w 95 0 ≤ 12) (f : Int) (D : Nat → Int) {k : Nat} (hk : k < 12) : zYz w f D k = zYh w f k := by
  refine zYE_v hn 12 0 _ _ (fun j hj => ?_) k hk
  unfold zYi
  rw [if_pos (show (j : Int) < 12 by omega), if_pos (show (j : Int) < 12 by omega)]
/-! Model.steps -/
set_option maxRecDepth 100000 in
theorem zk250_93 (a b : Int) (w : zW) (K : zK) (h : (zNt w) ∧ (if (0 ≤ a ∧ a < w 95 0) ∧ 0 ≤ b ∧ b < w 95 0 then K (0, some (0, zYh w a b.toNat)) (zYW (zupd w 93 0 0) a) 238 else K (0, some (0, 0)) (zupd w 93 0 1) 238)) : zcall 250 [(2, 93), (0, a), (0, b)] w 238 K := by
  obtain ⟨hg, h⟩ := h
  refine (show (if a < 0 then K (0, some (0, 0)) (zupd w 93 0 1) 238 else if z32 ((w 95 0) - 1) < a then K (0, some (0, 0)) (zupd w 93 0 1) 238 else if b < 0 then K (0, some (0, 0)) (zupd w 93 0 1) 238 else if z32 ((w 95 0) - 1) < b then K (0, some (0, 0)) (zupd w 93 0 1) 238 else (zNt w) ∧ (zif False (0 ≤ b ∧ b < 12) (K (0, some (0, (zYW (zupd w 93 0 0) a) 106 b.toNat)) (zYW (zupd w 93 0 0) a) 238))) → _ from fun h => show zwp 250 0 [(2, 93), (0, a), (0, b)] [] w 238 0 K from zgo_imp zT155_ok (cut := fun pc => Nat.beq pc 6 || Nat.beq pc 14 || Nat.beq pc 25 || Nat.beq pc 35) 400 (show if a < 0 then zwp 250 6 [(2, 93), (0, a), (0, b)] [(0, 0), (2, 93)] w 238 0 K else if z32 ((w 95 0) - 1) < a then zwp 250 6 [(2, 93), (0, a), (0, b)] [(0, 0), (2, 93)] w 238 0 K else zwp 250 6 [(2, 93), (0, a), (0, b)] [(0, 1), (2, 93)] w 238 0 K from zmI (fun h => (fun h => show zwp 250 6 [(2, 93), (0, a), (0, b)] [(0, 0), (2, 93)] w 238 0 K from zgo_imp zT155_ok (cut := fun pc => Nat.beq pc 6 || Nat.beq pc 14 || Nat.beq pc 25 || Nat.beq pc 35) 400 (show zwp 250 25 [(2, 93), (0, a), (0, b)] [(0, 0)] (zupd w 93 0 1) 238 0 K from (fun h => show zwp 250 25 [(2, 93), (0, a), (0, b)] [(0, 0)] (zupd w 93 0 1) 238 0 K from zgo_imp zT155_ok (cut := fun pc => Nat.beq pc 6 || Nat.beq pc 14 || Nat.beq pc 25 || Nat.beq pc 35) 400 (show K (0, some (0, 0)) (zupd w 93 0 1) 238 from h)) h)) h) (fun h => zmI (fun h => (fun h => show zwp 250 6 [(2, 93), (0, a), (0, b)] [(0, 0), (2, 93)] w 238 0 K from zgo_imp zT155_ok (cut := fun pc => Nat.beq pc 6 || Nat.beq pc 14 || Nat.beq pc 25 || Nat.beq pc 35) 400 (show zwp 250 25 [(2, 93), (0, a), (0, b)] [(0, 0)] (zupd w 93 0 1) 238 0 K from (fun h => show zwp 250 25 [(2, 93), (0, a), (0, b)] [(0, 0)] (zupd w 93 0 1) 238 0 K from zgo_imp zT155_ok (cut := fun pc => Nat.beq pc 6 || Nat.beq pc 14 || Nat.beq pc 25 || Nat.beq pc 35) 400 (show K (0, some (0, 0)) (zupd w 93 0 1) 238 from h)) h)) h) (fun h => (fun h => show zwp 250 6 [(2, 93), (0, a), (0, b)] [(0, 1), (2, 93)] w 238 0 K from zgo_imp zT155_ok (cut := fun pc => Nat.beq pc 6 || Nat.beq pc 14 || Nat.beq pc 25 || Nat.beq pc 35) 400 (show if b < 0 then zwp 250 14 [(2, 93), (0, a), (0, b)] [(0, 0), (2, 93)] w 238 0 K else if z32 ((w 95 0) - 1) < b then zwp 250 14 [(2, 93), (0, a), (0, b)] [(0, 0), (2, 93)] w 238 0 K else zwp 250 14 [(2, 93), (0, a), (0, b)] [(0, 1), (2, 93)] w 238 0 K from zmI (fun h => (fun h => show zwp 250 14 [(2, 93), (0, a), (0, b)] [(0, 0), (2, 93)] w 238 0 K from zgo_imp zT155_ok (cut := fun pc => Nat.beq pc 6 || Nat.beq pc 14 || Nat.beq pc 25 || Nat.beq pc 35) 400 (show zwp 250 25 [(2, 93), (0, a), (0, b)] [(0, 0)] (zupd w 93 0 1) 238 0 K from (fun h => show zwp 250 25 [(2, 93), (0, a), (0, b)] [(0, 0)] (zupd w 93 0 1) 238 0 K from zgo_imp zT155_ok (cut := fun pc => Nat.beq pc 6 || Nat.beq pc 14 || Nat.beq pc 25 || Nat.beq pc 35) 400 (show K (0, some (0, 0)) (zupd w 93 0 1) 238 from h)) h)) h) (fun h => zmI (fun h => (fun h => show zwp 250 14 [(2, 93), (0, a), (0, b)] [(0, 0), (2, 93)] w 238 0 K from zgo_imp zT155_ok (cut := fun pc => Nat.beq pc 6 || Nat.beq pc 14 || Nat.beq pc 25 || Nat.beq pc 35) 400 (show zwp 250 25 [(2, 93), (0, a), (0, b)] [(0, 0)] (zupd w 93 0 1) 238 0 K from (fun h => show zwp 250 25 [(2, 93), (0, a), (0, b)] [(0, 0)] (zupd w 93 0 1) 238 0 K from zgo_imp zT155_ok (cut := fun pc => Nat.beq pc 6 || Nat.beq pc 14 || Nat.beq pc 25 || Nat.beq pc 35) 400 (show K (0, some (0, 0)) (zupd w 93 0 1) 238 from h)) h)) h) (fun h => (fun h => show zwp 250 14 [(2, 93), (0, a), (0, b)] [(0, 1), (2, 93)] w 238 0 K from zgo_imp zT155_ok (cut := fun pc => Nat.beq pc 6 || Nat.beq pc 14 || Nat.beq pc 25 || Nat.beq pc 35) 400 (show zwp 250 25 [(2, 93), (0, a), (0, b)] [(0, 1)] (zupd w 93 0 0) 238 0 K from (fun h => show zwp 250 25 [(2, 93), (0, a), (0, b)] [(0, 1)] (zupd w 93 0 0) 238 0 K from zgo_imp zT155_ok (cut := fun pc => Nat.beq pc 6 || Nat.beq pc 14 || Nat.beq pc 25 || Nat.beq pc 35) 400 (show (zNt w) ∧ (zwp 250 35 [(2, 93), (0, a), (0, b)] [] (zYW (zupd w 93 0 0) a) 238 0 K) from zmA (fun h => (fun h => show zwp 250 35 [(2, 93), (0, a), (0, b)] [] (zYW (zupd w 93 0 0) a) 238 0 K from zgo_imp zT155_ok (cut := fun pc => Nat.beq pc 6 || Nat.beq pc 14 || Nat.beq pc 25 || Nat.beq pc 35) 400 (show zif False (0 ≤ b ∧ b < 12) (K (0, some (0, (zYW (zupd w 93 0 0) a) 106 b.toNat)) (zYW (zupd w 93 0 0) a) 238) from h)) h) h)) h)) h) h) h)) h) h) h)) ?_
  have hN := hg
  have hn := hN.n
  rw [z32_id (x := w 95 0 - 1) ⟨by omega, by omega⟩]
  by_cases hc : (0 ≤ a ∧ a < w 95 0) ∧ 0 ≤ b ∧ b < w 95 0
  · rw [if_pos hc] at h
    refine ziF (by omega) (ziF (by omega) (ziF (by omega) (ziF (by omega) ?_)))
    rw [← zYz_e hN.n.2.2.1 a (w 106) (k := b.toNat) (by omega)] at h
    exact ⟨hN, zifI (by omega) h⟩
  · rw [if_neg hc] at h
    by_cases q1 : a < 0
    · exact ziT q1 h
    · refine ziF q1 ?_
      by_cases q2 : w 95 0 - 1 < a
      · exact ziT q2 h
      · refine ziF q2 ?_
        by_cases q3 : b < 0
        · exact ziT q3 h
        · exact ziF q3 (ziT (by omega) h)
noncomputable def zb250 (l0 : List zV) (w : zW) (K : zK) : Prop := cond (zpe (zar l0 0) 93) (zA l0 1 fun a => zA l0 2 fun b => (zNt w) ∧ (if (0 ≤ a ∧ a < w 95 0) ∧ 0 ≤ b ∧ b < w 95 0 then K (0, some (0, zYh w a b.toNat)) (zYW (zupd w 93 0 0) a) 238 else K (0, some (0, 0)) (zupd w 93 0 1) 238)) (False)
noncomputable def zT156 : zSum := zsm1 250 [2, 0, 0] zb250 zT155
theorem zT156_ok : zSok zT156 := zsm1_ok zT155_ok fun l0 w K h => by
  unfold zb250 at h
  cases q0 : zpe (zar l0 0) 93 with
  | true =>
    rw [q0, cond_true] at h
    have e : zar l0 0 = 93 := zpe_e q0
    show zcall 250 [(2, zar l0 0), (0, zar l0 1), (0, zar l0 2)] w 238 K
    rw [e]
    exact zk250_93 (zar l0 1) (zar l0 2) w K (zA_e (zA_e h))
  | false =>
  rw [q0, cond_false] at h
  exact h.elim

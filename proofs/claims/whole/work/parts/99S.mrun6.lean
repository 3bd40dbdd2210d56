/-! ===== the model runs a script: the method (written by wip/whole/gen_c.py) ===== -/
def zms0 (w : zW) : zW := zupd (zupd (zupd (zmgo (zupd (zupd (zupd (zupd (zupd w 93 3 (w 93 2)) 93 2 0) 93 4 0) 93 8 0) 93 9 (-1))) 93 39 0) 93 40 0) 93 41 0
noncomputable def zmSv (w : zW) : zW := zSF (zSL 800 (zms0 w))
/-! Model.runScript -/
set_option maxRecDepth 100000 in
theorem zk332_93 (w : zW) (K : zK) (h : ((0 ≤ w 93 2 ∧ w 93 2 ≤ 800) ∧ (0 ≤ w 95 0 ∧ w 95 0 ≤ 12) ∧ zSe 800 (zms0 w) ∧ 0 ≤ zSL 800 (zms0 w) 93 8 ∧ zmGp (zmSv w)) ∧ (K (0, some (0, zmGv (zmSv w))) (zmGw (zmSv w)) 238)) : zcall 332 [(2, 93), (9, 0), (9, 0)] w 238 K := by
  obtain ⟨hg, h⟩ := h
  refine (show (((0 ≤ (w 93 2) ∧ (w 93 2) ≤ 800) ∧ 0 ≤ (0 : Int) ∧ (0 : Int) ≤ (w 93 2)) ∧ (zwp 332 19 [(2, 93), (9, 0), (9, 0)] [] (zupd (zupd (zupd (zmgo (zupd (zupd (zupd (zupd (zupd w 93 3 (w 93 2)) 93 2 0) 93 4 0) 93 8 0) 93 9 (-1))) 93 39 0) 93 40 0) 93 41 0) 238 0 K)) → _ from fun h => show zwp 332 0 [(2, 93), (9, 0), (9, 0)] [] w 238 0 K from zgo_imp zT243_ok (cut := fun pc => Nat.beq pc 4 || Nat.beq pc 19 || Nat.beq pc 23 || Nat.beq pc 42 || Nat.beq pc 56 || Nat.beq pc 60 || Nat.beq pc 67 || Nat.beq pc 82 || Nat.beq pc 86 || Nat.beq pc 100 || Nat.beq pc 104 || Nat.beq pc 115 || Nat.beq pc 130 || Nat.beq pc 143) 400 (show ((0 ≤ (w 93 2) ∧ (w 93 2) ≤ 800) ∧ 0 ≤ (0 : Int) ∧ (0 : Int) ≤ (w 93 2)) ∧ (zwp 332 4 [(2, 93), (9, 0), (9, 0)] [] (zmgo (zupd (zupd (zupd (zupd (zupd w 93 3 (w 93 2)) 93 2 0) 93 4 0) 93 8 0) 93 9 (-1))) 238 0 K) from zmA (fun h => (fun h => show zwp 332 4 [(2, 93), (9, 0), (9, 0)] [] (zmgo (zupd (zupd (zupd (zupd (zupd w 93 3 (w 93 2)) 93 2 0) 93 4 0) 93 8 0) 93 9 (-1))) 238 0 K from zgo_imp zT243_ok (cut := fun pc => Nat.beq pc 4 || Nat.beq pc 19 || Nat.beq pc 23 || Nat.beq pc 42 || Nat.beq pc 56 || Nat.beq pc 60 || Nat.beq pc 67 || Nat.beq pc 82 || Nat.beq pc 86 || Nat.beq pc 100 || Nat.beq pc 104 || Nat.beq pc 115 || Nat.beq pc 130 || Nat.beq pc 143) 400 (show zwp 332 19 [(2, 93), (9, 0), (9, 0)] [] (zupd (zupd (zupd (zmgo (zupd (zupd (zupd (zupd (zupd w 93 3 (w 93 2)) 93 2 0) 93 4 0) 93 8 0) 93 9 (-1))) 93 39 0) 93 40 0) 93 41 0) 238 0 K from h)) h) h)) ?_
  obtain ⟨g1, g2, g3, g4, g5⟩ := hg
  exact ⟨⟨g1, by decide, g1.1⟩, zk332_L19 800 (zms0 w) g2 g3 (zk332_B63 (w := zSL 800 (zms0 w)) g4 g5 h)⟩
noncomputable def zb332 (l0 : List zV) (w : zW) (K : zK) : Prop := cond (zpe (zar l0 0) 93) (((0 ≤ w 93 2 ∧ w 93 2 ≤ 800) ∧ (0 ≤ w 95 0 ∧ w 95 0 ≤ 12) ∧ zSe 800 (zms0 w) ∧ 0 ≤ zSL 800 (zms0 w) 93 8 ∧ zmGp (zmSv w)) ∧ (K (0, some (0, zmGv (zmSv w))) (zmGw (zmSv w)) 238)) (False)
noncomputable def zT244 : zSum := zsm1 332 [2, 9, 9] zb332 zT243
theorem zT244_ok : zSok zT244 := zsm1_ok zT243_ok fun l0 w K h => by
  unfold zb332 at h
  cases q0 : zpe (zar l0 0) 93 with
  | true =>
    rw [q0, cond_true] at h
    have e : zar l0 0 = 93 := zpe_e q0
    show zcall 332 [(2, zar l0 0), (9, 0), (9, 0)] w 238 K
    rw [e]
    exact zk332_93  w K h
  | false =>
  rw [q0, cond_false] at h
  exact h.elim

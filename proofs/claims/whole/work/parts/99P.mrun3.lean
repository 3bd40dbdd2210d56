/-! ===== the model runs a script: the methods (written by wip/whole/gen_c.py) ===== -/
noncomputable def zmF2 (w : zW) : Int × zW := zmr 127000 0 0 0 1 w
def zmFE (w : zW) : Prop := zmrE 127000 0 0 0 1 w
theorem zmF2_of {w : zW} {T : Nat} (hT : T ≤ 127000) (h : zmrE T 0 0 0 1 w) : zmF2 w = zmr T 0 0 0 1 w ∧ zmFE w := by
  have r := zmr_mo T 0 0 0 1 w h (127000 - T)
  rw [show T + (127000 - T) = 127000 by omega] at r
  exact r
/-! Model.runs -/
set_option maxRecDepth 100000 in
theorem zk333_93 (w : zW) (K : zK) (h : (zmFE w) ∧ (K (0, some (0, (zmF2 w).1)) ((zmF2 w).2) 238)) : zcall 333 [(2, 93), (9, 0), (9, 0), (9, 0), (9, 0), (9, 0)] w 238 K := by
  obtain ⟨hg, h⟩ := h
  refine (show (zwp 333 9 [(2, 93), (0, 0), (0, 0), (0, 0), (0, 1), (9, 0)] [] w 238 0 K) → _ from fun h => show zwp 333 0 [(2, 93), (9, 0), (9, 0), (9, 0), (9, 0), (9, 0)] [] w 238 0 K from zgo_imp zT242_ok (cut := fun pc => Nat.beq pc 9 || Nat.beq pc 11 || Nat.beq pc 29 || Nat.beq pc 45 || Nat.beq pc 58 || Nat.beq pc 78 || Nat.beq pc 89 || Nat.beq pc 102 || Nat.beq pc 119 || Nat.beq pc 130 || Nat.beq pc 144 || Nat.beq pc 157 || Nat.beq pc 171 || Nat.beq pc 179) 400 (show zwp 333 9 [(2, 93), (0, 0), (0, 0), (0, 0), (0, 1), (9, 0)] [] w 238 0 K from h)) ?_
  exact zk333_L9 127000 0 0 0 1 w (by decide) hg h
noncomputable def zb333 (l0 : List zV) (w : zW) (K : zK) : Prop := cond (zpe (zar l0 0) 93) ((zmFE w) ∧ (K (0, some (0, (zmF2 w).1)) ((zmF2 w).2) 238)) (False)
noncomputable def zT243 : zSum := zsm1 333 [2, 9, 9, 9, 9, 9] zb333 zT242
theorem zT243_ok : zSok zT243 := zsm1_ok zT242_ok fun l0 w K h => by
  unfold zb333 at h
  cases q0 : zpe (zar l0 0) 93 with
  | true =>
    rw [q0, cond_true] at h
    have e : zar l0 0 = 93 := zpe_e q0
    show zcall 333 [(2, zar l0 0), (9, 0), (9, 0), (9, 0), (9, 0), (9, 0)] w 238 K
    rw [e]
    exact zk333_93  w K h
  | false =>
  rw [q0, cond_false] at h
  exact h.elim

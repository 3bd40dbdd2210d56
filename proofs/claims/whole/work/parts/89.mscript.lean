/-! ===== the model reads a script: commands, circles, entries (written by wip/whole/gen_c.py) ===== -/
/-! Model.isWord -/
set_option maxRecDepth 100000 in
theorem zk212_93 (x : Int) (w : zW) (K : zK) (h : K (0, some (0, (if w 93 8 = 0 ∧ w 93 6 = 1 ∧ w 93 12 = x then 1 else 0))) (w) 238) : zcall 212 [(2, 93), (1, x), (9, 0)] w 238 K := by
  refine (show (if w 93 8 = 0 then if w 93 6 = 1 then if w 93 12 = x then K (0, some (0, 1)) w 238 else K (0, some (0, 0)) w 238 else K (0, some (0, 0)) w 238 else K (0, some (0, 0)) w 238) → _ from fun h => show zwp 212 0 [(2, 93), (1, x), (9, 0)] [] w 238 0 K from zgo_imp zT227_ok (cut := fun pc => Nat.beq pc 19) 400 (show if w 93 8 = 0 then if w 93 6 = 1 then zwp 212 19 [(2, 93), (1, x), (9, 0)] [(1, w 93 12)] w 238 0 K else K (0, some (0, 0)) w 238 else K (0, some (0, 0)) w 238 from zmI (fun h => zmI (fun h => (fun h => show zwp 212 19 [(2, 93), (1, x), (9, 0)] [(1, w 93 12)] w 238 0 K from zgo_imp zT227_ok (cut := fun pc => Nat.beq pc 19) 400 (show if w 93 12 = x then K (0, some (0, 1)) w 238 else K (0, some (0, 0)) w 238 from h)) h) (fun h => h) h) (fun h => h) h)) ?_
  by_cases g : w 93 8 = 0
  · refine ziT g ?_
    by_cases g1 : w 93 6 = 1
    · refine ziT g1 ?_
      by_cases g2 : w 93 12 = x
      · rw [if_pos ⟨g, g1, g2⟩] at h; exact ziT g2 h
      · rw [if_neg fun q => g2 q.2.2] at h; exact ziF g2 h
    · rw [if_neg fun q => g1 q.2.1] at h; exact ziF g1 h
  · rw [if_neg fun q => g q.1] at h; exact ziF g h
noncomputable def zb212 (l0 : List zV) (w : zW) (K : zK) : Prop := cond (zpe (zar l0 0) 93) (zA l0 1 fun x => K (0, some (0, (if w 93 8 = 0 ∧ w 93 6 = 1 ∧ w 93 12 = x then 1 else 0))) (w) 238) (False)
noncomputable def zT228 : zSum := zsm1 212 [2, 1, 9] zb212 zT227
theorem zT228_ok : zSok zT228 := zsm1_ok zT227_ok fun l0 w K h => by
  unfold zb212 at h
  cases q0 : zpe (zar l0 0) 93 with
  | true =>
    rw [q0, cond_true] at h
    have e : zar l0 0 = 93 := zpe_e q0
    show zcall 212 [(2, zar l0 0), (1, zar l0 1), (9, 0)] w 238 K
    rw [e]
    exact zk212_93 (zar l0 1) w K (zA_e h)
  | false =>
  rw [q0, cond_false] at h
  exact h.elim
def zcd (w : zW) : Int := if w 93 8 = 0 ∧ w 93 6 = 1 then (if w 93 12 = 20427461 then 0 else if w 93 12 = 20681904 then 1 else if w 93 12 = 19636 then 2 else if w 93 12 = 12345 then 3 else if w 93 12 = 677454 then 4 else if w 93 12 = 99725 then 5 else if w 93 12 = 609752116 then 6 else -1) else -1
theorem zcd_rg (w : zW) : -1 ≤ zcd w ∧ zcd w ≤ 6 := by
  unfold zcd
  repeat' split
  all_goals decide
/-! Model.commandHere -/
set_option maxRecDepth 100000 in
theorem zk326_93 (w : zW) (K : zK) (h : K (0, some (0, zcd w)) (w) 238) : zcall 326 [(2, 93)] w 238 K := by
  refine (show (if ((if w 93 8 = 0 ∧ w 93 6 = 1 ∧ w 93 12 = (20427461 : Int) then 1 else 0) : Int) = 0 then if ((if w 93 8 = 0 ∧ w 93 6 = 1 ∧ w 93 12 = (20681904 : Int) then 1 else 0) : Int) = 0 then if ((if w 93 8 = 0 ∧ w 93 6 = 1 ∧ w 93 12 = (19636 : Int) then 1 else 0) : Int) = 0 then if ((if w 93 8 = 0 ∧ w 93 6 = 1 ∧ w 93 12 = (12345 : Int) then 1 else 0) : Int) = 0 then if ((if w 93 8 = 0 ∧ w 93 6 = 1 ∧ w 93 12 = (677454 : Int) then 1 else 0) : Int) = 0 then if ((if w 93 8 = 0 ∧ w 93 6 = 1 ∧ w 93 12 = (99725 : Int) then 1 else 0) : Int) = 0 then if ((if w 93 8 = 0 ∧ w 93 6 = 1 ∧ w 93 12 = (609752116 : Int) then 1 else 0) : Int) = 0 then K (0, some (0, (-1))) w 238 else K (0, some (0, 6)) w 238 else K (0, some (0, 5)) w 238 else K (0, some (0, 4)) w 238 else K (0, some (0, 3)) w 238 else K (0, some (0, 2)) w 238 else K (0, some (0, 1)) w 238 else K (0, some (0, 0)) w 238) → _ from fun h => show zwp 326 0 [(2, 93)] [] w 238 0 K from zgo_imp zT228_ok (cut := fun pc => Nat.beq pc 7 || Nat.beq pc 19 || Nat.beq pc 31 || Nat.beq pc 43 || Nat.beq pc 55 || Nat.beq pc 67 || Nat.beq pc 79) 400 (show zwp 326 7 [(2, 93)] [(0, ((if w 93 8 = 0 ∧ w 93 6 = 1 ∧ w 93 12 = (20427461 : Int) then 1 else 0) : Int))] w 238 0 K from (fun h => show zwp 326 7 [(2, 93)] [(0, ((if w 93 8 = 0 ∧ w 93 6 = 1 ∧ w 93 12 = (20427461 : Int) then 1 else 0) : Int))] w 238 0 K from zgo_imp zT228_ok (cut := fun pc => Nat.beq pc 7 || Nat.beq pc 19 || Nat.beq pc 31 || Nat.beq pc 43 || Nat.beq pc 55 || Nat.beq pc 67 || Nat.beq pc 79) 400 (show if ((if w 93 8 = 0 ∧ w 93 6 = 1 ∧ w 93 12 = (20427461 : Int) then 1 else 0) : Int) = 0 then zwp 326 19 [(2, 93)] [(0, ((if w 93 8 = 0 ∧ w 93 6 = 1 ∧ w 93 12 = (20681904 : Int) then 1 else 0) : Int))] w 238 0 K else K (0, some (0, 0)) w 238 from zmI (fun h => (fun h => show zwp 326 19 [(2, 93)] [(0, ((if w 93 8 = 0 ∧ w 93 6 = 1 ∧ w 93 12 = (20681904 : Int) then 1 else 0) : Int))] w 238 0 K from zgo_imp zT228_ok (cut := fun pc => Nat.beq pc 7 || Nat.beq pc 19 || Nat.beq pc 31 || Nat.beq pc 43 || Nat.beq pc 55 || Nat.beq pc 67 || Nat.beq pc 79) 400 (show if ((if w 93 8 = 0 ∧ w 93 6 = 1 ∧ w 93 12 = (20681904 : Int) then 1 else 0) : Int) = 0 then zwp 326 31 [(2, 93)] [(0, ((if w 93 8 = 0 ∧ w 93 6 = 1 ∧ w 93 12 = (19636 : Int) then 1 else 0) : Int))] w 238 0 K else K (0, some (0, 1)) w 238 from zmI (fun h => (fun h => show zwp 326 31 [(2, 93)] [(0, ((if w 93 8 = 0 ∧ w 93 6 = 1 ∧ w 93 12 = (19636 : Int) then 1 else 0) : Int))] w 238 0 K from zgo_imp zT228_ok (cut := fun pc => Nat.beq pc 7 || Nat.beq pc 19 || Nat.beq pc 31 || Nat.beq pc 43 || Nat.beq pc 55 || Nat.beq pc 67 || Nat.beq pc 79) 400 (show if ((if w 93 8 = 0 ∧ w 93 6 = 1 ∧ w 93 12 = (19636 : Int) then 1 else 0) : Int) = 0 then zwp 326 43 [(2, 93)] [(0, ((if w 93 8 = 0 ∧ w 93 6 = 1 ∧ w 93 12 = (12345 : Int) then 1 else 0) : Int))] w 238 0 K else K (0, some (0, 2)) w 238 from zmI (fun h => (fun h => show zwp 326 43 [(2, 93)] [(0, ((if w 93 8 = 0 ∧ w 93 6 = 1 ∧ w 93 12 = (12345 : Int) then 1 else 0) : Int))] w 238 0 K from zgo_imp zT228_ok (cut := fun pc => Nat.beq pc 7 || Nat.beq pc 19 || Nat.beq pc 31 || Nat.beq pc 43 || Nat.beq pc 55 || Nat.beq pc 67 || Nat.beq pc 79) 400 (show if ((if w 93 8 = 0 ∧ w 93 6 = 1 ∧ w 93 12 = (12345 : Int) then 1 else 0) : Int) = 0 then zwp 326 55 [(2, 93)] [(0, ((if w 93 8 = 0 ∧ w 93 6 = 1 ∧ w 93 12 = (677454 : Int) then 1 else 0) : Int))] w 238 0 K else K (0, some (0, 3)) w 238 from zmI (fun h => (fun h => show zwp 326 55 [(2, 93)] [(0, ((if w 93 8 = 0 ∧ w 93 6 = 1 ∧ w 93 12 = (677454 : Int) then 1 else 0) : Int))] w 238 0 K from zgo_imp zT228_ok (cut := fun pc => Nat.beq pc 7 || Nat.beq pc 19 || Nat.beq pc 31 || Nat.beq pc 43 || Nat.beq pc 55 || Nat.beq pc 67 || Nat.beq pc 79) 400 (show if ((if w 93 8 = 0 ∧ w 93 6 = 1 ∧ w 93 12 = (677454 : Int) then 1 else 0) : Int) = 0 then zwp 326 67 [(2, 93)] [(0, ((if w 93 8 = 0 ∧ w 93 6 = 1 ∧ w 93 12 = (99725 : Int) then 1 else 0) : Int))] w 238 0 K else K (0, some (0, 4)) w 238 from zmI (fun h => (fun h => show zwp 326 67 [(2, 93)] [(0, ((if w 93 8 = 0 ∧ w 93 6 = 1 ∧ w 93 12 = (99725 : Int) then 1 else 0) : Int))] w 238 0 K from zgo_imp zT228_ok (cut := fun pc => Nat.beq pc 7 || Nat.beq pc 19 || Nat.beq pc 31 || Nat.beq pc 43 || Nat.beq pc 55 || Nat.beq pc 67 || Nat.beq pc 79) 400 (show if ((if w 93 8 = 0 ∧ w 93 6 = 1 ∧ w 93 12 = (99725 : Int) then 1 else 0) : Int) = 0 then zwp 326 79 [(2, 93)] [(0, ((if w 93 8 = 0 ∧ w 93 6 = 1 ∧ w 93 12 = (609752116 : Int) then 1 else 0) : Int))] w 238 0 K else K (0, some (0, 5)) w 238 from zmI (fun h => (fun h => show zwp 326 79 [(2, 93)] [(0, ((if w 93 8 = 0 ∧ w 93 6 = 1 ∧ w 93 12 = (609752116 : Int) then 1 else 0) : Int))] w 238 0 K from zgo_imp zT228_ok (cut := fun pc => Nat.beq pc 7 || Nat.beq pc 19 || Nat.beq pc 31 || Nat.beq pc 43 || Nat.beq pc 55 || Nat.beq pc 67 || Nat.beq pc 79) 400 (show if ((if w 93 8 = 0 ∧ w 93 6 = 1 ∧ w 93 12 = (609752116 : Int) then 1 else 0) : Int) = 0 then K (0, some (0, (-1))) w 238 else K (0, some (0, 6)) w 238 from h)) h) (fun h => h) h)) h) (fun h => h) h)) h) (fun h => h) h)) h) (fun h => h) h)) h) (fun h => h) h)) h) (fun h => h) h)) h)) ?_
  unfold zcd at h
  by_cases g : w 93 8 = 0 ∧ w 93 6 = 1
  · rw [if_pos g] at h
    by_cases q0 : w 93 12 = 20427461
    · rw [if_pos q0] at h
      exact ziF (by rw [if_pos ⟨g.1, g.2, q0⟩]; decide) h
    · rw [if_neg q0] at h
      refine ziT (if_neg fun q => q0 q.2.2) ?_
      by_cases q1 : w 93 12 = 20681904
      · rw [if_pos q1] at h
        exact ziF (by rw [if_pos ⟨g.1, g.2, q1⟩]; decide) h
      · rw [if_neg q1] at h
        refine ziT (if_neg fun q => q1 q.2.2) ?_
        by_cases q2 : w 93 12 = 19636
        · rw [if_pos q2] at h
          exact ziF (by rw [if_pos ⟨g.1, g.2, q2⟩]; decide) h
        · rw [if_neg q2] at h
          refine ziT (if_neg fun q => q2 q.2.2) ?_
          by_cases q3 : w 93 12 = 12345
          · rw [if_pos q3] at h
            exact ziF (by rw [if_pos ⟨g.1, g.2, q3⟩]; decide) h
          · rw [if_neg q3] at h
            refine ziT (if_neg fun q => q3 q.2.2) ?_
            by_cases q4 : w 93 12 = 677454
            · rw [if_pos q4] at h
              exact ziF (by rw [if_pos ⟨g.1, g.2, q4⟩]; decide) h
            · rw [if_neg q4] at h
              refine ziT (if_neg fun q => q4 q.2.2) ?_
              by_cases q5 : w 93 12 = 99725
              · rw [if_pos q5] at h
                exact ziF (by rw [if_pos ⟨g.1, g.2, q5⟩]; decide) h
              · rw [if_neg q5] at h
                refine ziT (if_neg fun q => q5 q.2.2) ?_
                by_cases q6 : w 93 12 = 609752116
                · rw [if_pos q6] at h
                  exact ziF (by rw [if_pos ⟨g.1, g.2, q6⟩]; decide) h
                · rw [if_neg q6] at h
                  refine ziT (if_neg fun q => q6 q.2.2) ?_
                  exact h
  · rw [if_neg g] at h
    exact ziT (if_neg fun q => g ⟨q.1, q.2.1⟩) (ziT (if_neg fun q => g ⟨q.1, q.2.1⟩) (ziT (if_neg fun q => g ⟨q.1, q.2.1⟩) (ziT (if_neg fun q => g ⟨q.1, q.2.1⟩) (ziT (if_neg fun q => g ⟨q.1, q.2.1⟩) (ziT (if_neg fun q => g ⟨q.1, q.2.1⟩) (ziT (if_neg fun q => g ⟨q.1, q.2.1⟩) (h)))))))
noncomputable def zb326 (l0 : List zV) (w : zW) (K : zK) : Prop := cond (zpe (zar l0 0) 93) (K (0, some (0, zcd w)) (w) 238) (False)
noncomputable def zT229 : zSum := zsm1 326 [2] zb326 zT228
theorem zT229_ok : zSok zT229 := zsm1_ok zT228_ok fun l0 w K h => by
  unfold zb326 at h
  cases q0 : zpe (zar l0 0) 93 with
  | true =>
    rw [q0, cond_true] at h
    have e : zar l0 0 = 93 := zpe_e q0
    show zcall 326 [(2, zar l0 0)] w 238 K
    rw [e]
    exact zk326_93  w K h
  | false =>
  rw [q0, cond_false] at h
  exact h.elim
def zma (w : zW) (c a b : Int) : zW := zfill (zfill (zfill (zfill w 109 (fun k => if w 93 8 = 0 ∧ k = (w 93 39).toNat then c else w 109 k)) 110 (fun k => if w 93 8 = 0 ∧ k = (w 93 39).toNat then a else w 110 k)) 111 (fun k => if w 93 8 = 0 ∧ k = (w 93 39).toNat then b else w 111 k)) 93 (fun k => if w 93 8 = 0 ∧ k = 39 then w 93 39 + 1 else w 93 k)
theorem zfill_up {w : zW} {p j : Nat} {x : Int} {P : Prop} [Decidable P] (h : P) : zfill w p (fun k => if P ∧ k = j then x else w p k) = zupd w p j x := by
  funext q k
  unfold zfill zupd
  by_cases e : q = p
  · subst e
    rw [if_pos rfl, if_pos rfl]
    show (if P ∧ k = j then x else w q k) = if k = j then x else w q k
    by_cases e2 : k = j
    · rw [if_pos ⟨h, e2⟩, if_pos e2]
    · rw [if_neg fun q => e2 q.2, if_neg e2]
  · rw [if_neg e, if_neg e]
theorem zfill_un {w : zW} {p j : Nat} {x : Int} {P : Prop} [Decidable P] (h : ¬ P) : zfill w p (fun k => if P ∧ k = j then x else w p k) = w := by
  funext q k
  unfold zfill
  by_cases e : q = p
  · subst e
    rw [if_pos rfl]
    exact if_neg fun q => h q.1
  · rw [if_neg e]
theorem zma_y {w : zW} {c a b : Int} (h : w 93 8 = 0) : zma w c a b = zupd (zupd (zupd (zupd w 109 (w 93 39).toNat c) 110 (w 93 39).toNat a) 111 (w 93 39).toNat b) 93 39 (w 93 39 + 1) := by
  unfold zma
  rw [zfill_up (w := w) (p := 109) h]
  rw [show (fun k => if w 93 8 = 0 ∧ k = (w 93 39).toNat then a else w 110 k) = (fun k => if w 93 8 = 0 ∧ k = (w 93 39).toNat then a else (zupd w 109 (w 93 39).toNat c) 110 k) from rfl, zfill_up (w := zupd w 109 (w 93 39).toNat c) (p := 110) h]
  rw [show (fun k => if w 93 8 = 0 ∧ k = (w 93 39).toNat then b else w 111 k) = (fun k => if w 93 8 = 0 ∧ k = (w 93 39).toNat then b else (zupd (zupd w 109 (w 93 39).toNat c) 110 (w 93 39).toNat a) 111 k) from rfl, zfill_up (w := zupd (zupd w 109 (w 93 39).toNat c) 110 (w 93 39).toNat a) (p := 111) h]
  exact zfill_up (w := zupd (zupd (zupd w 109 (w 93 39).toNat c) 110 (w 93 39).toNat a) 111 (w 93 39).toNat b) (p := 93) h
theorem zma_n {w : zW} {c a b : Int} (h : w 93 8 ≠ 0) : zma w c a b = w := by
  unfold zma
  rw [zfill_un (w := w) (p := 109) h, zfill_un (w := w) (p := 110) h, zfill_un (w := w) (p := 111) h]
  exact zfill_un (w := w) (p := 93) h
/-! Model.adds -/
set_option maxRecDepth 100000 in
theorem zk325_93 (c a b : Int) (w : zW) (K : zK) (h : (w 93 8 = 0 → 0 ≤ w 93 39 ∧ w 93 39 < 60) ∧ (K (0, none) (zma w c a b) 238)) : zcall 325 [(2, 93), (0, c), (0, a), (0, b)] w 238 K := by
  obtain ⟨hg, h⟩ := h
  refine (show (if w 93 8 = 0 then zif False (0 ≤ w 93 39 ∧ w 93 39 < 60) (zif False (0 ≤ w 93 39 ∧ w 93 39 < 60) (zif False (0 ≤ w 93 39 ∧ w 93 39 < 60) (K (0, none) (zupd (zupd (zupd (zupd w 109 (w 93 39).toNat c) 110 (w 93 39).toNat a) 111 (w 93 39).toNat b) 93 39 (z32 ((w 93 39) + 1))) 238))) else K (0, none) w 238) → _ from fun h => show zwp 325 0 [(2, 93), (0, c), (0, a), (0, b)] [] w 238 0 K from zgo_imp zT229_ok (cut := fun pc => Nat.beq pc 4 || Nat.beq pc 19 || Nat.beq pc 36 || Nat.beq pc 49) 400 (show if w 93 8 = 0 then zwp 325 4 [(2, 93), (0, c), (0, a), (0, b)] [(0, 1)] w 238 0 K else zwp 325 4 [(2, 93), (0, c), (0, a), (0, b)] [(0, 0)] w 238 0 K from zmI (fun h => (fun h => show zwp 325 4 [(2, 93), (0, c), (0, a), (0, b)] [(0, 1)] w 238 0 K from zgo_imp zT229_ok (cut := fun pc => Nat.beq pc 4 || Nat.beq pc 19 || Nat.beq pc 36 || Nat.beq pc 49) 400 (show zif False (0 ≤ w 93 39 ∧ w 93 39 < 60) (zwp 325 19 [(2, 93), (0, c), (0, a), (0, b)] [(2, 93)] (zupd w 109 (w 93 39).toNat c) 238 0 K) from zmZ (fun h => (fun h => show zwp 325 19 [(2, 93), (0, c), (0, a), (0, b)] [(2, 93)] (zupd w 109 (w 93 39).toNat c) 238 0 K from zgo_imp zT229_ok (cut := fun pc => Nat.beq pc 4 || Nat.beq pc 19 || Nat.beq pc 36 || Nat.beq pc 49) 400 (show zif False (0 ≤ w 93 39 ∧ w 93 39 < 60) (zwp 325 36 [(2, 93), (0, c), (0, a), (0, b)] [(0, w 93 39), (2, 111)] (zupd (zupd w 109 (w 93 39).toNat c) 110 (w 93 39).toNat a) 238 0 K) from zmZ (fun h => (fun h => show zwp 325 36 [(2, 93), (0, c), (0, a), (0, b)] [(0, w 93 39), (2, 111)] (zupd (zupd w 109 (w 93 39).toNat c) 110 (w 93 39).toNat a) 238 0 K from zgo_imp zT229_ok (cut := fun pc => Nat.beq pc 4 || Nat.beq pc 19 || Nat.beq pc 36 || Nat.beq pc 49) 400 (show zif False (0 ≤ w 93 39 ∧ w 93 39 < 60) (K (0, none) (zupd (zupd (zupd (zupd w 109 (w 93 39).toNat c) 110 (w 93 39).toNat a) 111 (w 93 39).toNat b) 93 39 (z32 ((w 93 39) + 1))) 238) from h)) h) h)) h) h)) h) (fun h => (fun h => show zwp 325 4 [(2, 93), (0, c), (0, a), (0, b)] [(0, 0)] w 238 0 K from zgo_imp zT229_ok (cut := fun pc => Nat.beq pc 4 || Nat.beq pc 19 || Nat.beq pc 36 || Nat.beq pc 49) 400 (show K (0, none) w 238 from h)) h) h)) ?_
  by_cases g : w 93 8 = 0
  · have r := hg g
    rw [zma_y g] at h
    rw [z32_id (x := w 93 39 + 1) ⟨by omega, by omega⟩]
    exact ziT g (zifI r (zifI r (zifI r h)))
  · rw [zma_n g] at h
    exact ziF g h
noncomputable def zb325 (l0 : List zV) (w : zW) (K : zK) : Prop := cond (zpe (zar l0 0) 93) (zA l0 1 fun c => zA l0 2 fun a => zA l0 3 fun b => (w 93 8 = 0 → 0 ≤ w 93 39 ∧ w 93 39 < 60) ∧ (K (0, none) (zma w c a b) 238)) (False)
noncomputable def zT230 : zSum := zsm1 325 [2, 0, 0, 0] zb325 zT229
theorem zT230_ok : zSok zT230 := zsm1_ok zT229_ok fun l0 w K h => by
  unfold zb325 at h
  cases q0 : zpe (zar l0 0) 93 with
  | true =>
    rw [q0, cond_true] at h
    have e : zar l0 0 = 93 := zpe_e q0
    show zcall 325 [(2, zar l0 0), (0, zar l0 1), (0, zar l0 2), (0, zar l0 3)] w 238 K
    rw [e]
    exact zk325_93 (zar l0 1) (zar l0 2) (zar l0 3) w K (zA_e (zA_e (zA_e h)))
  | false =>
  rw [q0, cond_false] at h
  exact h.elim
/-- a circle of the net in use by its name, or their number -/
def zcq0 (w : zW) : Int := if zFi (fun c => w 101 c.toNat = w 93 12) (w 95 0).toNat 0 = -1 then w 95 0 else zFi (fun c => w 101 c.toNat = w 93 12) (w 95 0).toNat 0
def zcq1 (w : zW) : zW := zfill w 93 ((if w 93 8 = 0 ∧ zmNi (w 93 6) (w 93 12) = 0 then zwr w 1 else w) 93)
def zcq4 (w : zW) (c : Int) : zW := zfill w 93 ((if w 93 8 = 0 ∧ c = w 95 0 then zwr w 4 else w) 93)
def zcb (w : zW) : zW := zgg (zcq4 (zcq1 w) (zcq0 w))
theorem zcq1_e (w : zW) : zcq1 w = if w 93 8 = 0 ∧ zmNi (w 93 6) (w 93 12) = 0 then zwr w 1 else w := by
  refine zfill_e fun q hq => ?_
  split
  · exact zwr_ne hq
  · rfl
theorem zcq4_e (w : zW) (c : Int) : zcq4 w c = if w 93 8 = 0 ∧ c = w 95 0 then zwr w 4 else w := by
  refine zfill_e fun q hq => ?_
  split
  · exact zwr_ne hq
  · rfl
theorem zwr_z (w : zW) {k : Int} (h : 0 < k) : zwr w k 93 8 ≠ 0 := by
  show (if w 93 6 = 4 then 1 else k) ≠ 0
  split <;> omega
theorem zgg_n {w : zW} (h : w 93 8 ≠ 0) : zgg w = w := by rw [zgg_e, if_neg h]
set_option maxRecDepth 100000 in
theorem zk327_L21 {w : zW} {K : zK} (hn : 0 ≤ w 95 0 ∧ w 95 0 ≤ 12)  : ∀ (m : Nat) (c : Int), (0 ≤ c) → (c + m = w 95 0) → (zwp 327 51 [(2, 93), (0, if zFi (fun c => w 101 c.toNat = w 93 12) m c = -1 then w 95 0 else zFi (fun c => w 101 c.toNat = w 93 12) m c)] [] w 238 0 K) → zwp 327 21 [(2, 93), (0, c)] [] w 238 0 K := by
  
  intro m
  induction m with
  | zero =>
    intro c  h1 h2 h
    refine (show (if c < w 95 0 then zif False (0 ≤ c ∧ c < 36) (if w 101 c.toNat = w 93 12 then zwp 327 51 [(2, 93), (0, c)] [] w 238 0 K else zwp 327 21 [(2, 93), (0, z32 (c + 1))] [] w 238 0 K) else zwp 327 51 [(2, 93), (0, c)] [] w 238 0 K) → _ from fun h => show zwp 327 21 [(2, 93), (0, c)] [] w 238 0 K from zgo_imp zT230_ok (cut := fun pc => Nat.beq pc 4 || Nat.beq pc 11 || Nat.beq pc 19 || Nat.beq pc 21 || Nat.beq pc 32 || Nat.beq pc 51 || Nat.beq pc 55 || Nat.beq pc 70 || Nat.beq pc 73 || Nat.beq pc 77 || Nat.beq pc 84) 400 (show if c < w 95 0 then zwp 327 32 [(2, 93), (0, c)] [(2, 93)] w 238 0 K else zwp 327 51 [(2, 93), (0, c)] [] w 238 0 K from zmI (fun h => (fun h => show zwp 327 32 [(2, 93), (0, c)] [(2, 93)] w 238 0 K from zgo_imp zT230_ok (cut := fun pc => Nat.beq pc 4 || Nat.beq pc 11 || Nat.beq pc 19 || Nat.beq pc 21 || Nat.beq pc 32 || Nat.beq pc 51 || Nat.beq pc 55 || Nat.beq pc 70 || Nat.beq pc 73 || Nat.beq pc 77 || Nat.beq pc 84) 400 (show zif False (0 ≤ c ∧ c < 36) (if w 101 c.toNat = w 93 12 then zwp 327 51 [(2, 93), (0, c)] [] w 238 0 K else zwp 327 21 [(2, 93), (0, z32 (c + 1))] [] w 238 0 K) from h)) h) (fun h => h) h)) ?_
    rw [if_pos (show zFi (fun c => w 101 c.toNat = w 93 12) 0 c = -1 from rfl), show w 95 0 = c by omega] at h
    exact ziF (by omega) h
  | succ m ih =>
    intro c  h1 h2 h
    refine (show (if c < w 95 0 then zif False (0 ≤ c ∧ c < 36) (if w 101 c.toNat = w 93 12 then zwp 327 51 [(2, 93), (0, c)] [] w 238 0 K else zwp 327 21 [(2, 93), (0, z32 (c + 1))] [] w 238 0 K) else zwp 327 51 [(2, 93), (0, c)] [] w 238 0 K) → _ from fun h => show zwp 327 21 [(2, 93), (0, c)] [] w 238 0 K from zgo_imp zT230_ok (cut := fun pc => Nat.beq pc 4 || Nat.beq pc 11 || Nat.beq pc 19 || Nat.beq pc 21 || Nat.beq pc 32 || Nat.beq pc 51 || Nat.beq pc 55 || Nat.beq pc 70 || Nat.beq pc 73 || Nat.beq pc 77 || Nat.beq pc 84) 400 (show if c < w 95 0 then zwp 327 32 [(2, 93), (0, c)] [(2, 93)] w 238 0 K else zwp 327 51 [(2, 93), (0, c)] [] w 238 0 K from zmI (fun h => (fun h => show zwp 327 32 [(2, 93), (0, c)] [(2, 93)] w 238 0 K from zgo_imp zT230_ok (cut := fun pc => Nat.beq pc 4 || Nat.beq pc 11 || Nat.beq pc 19 || Nat.beq pc 21 || Nat.beq pc 32 || Nat.beq pc 51 || Nat.beq pc 55 || Nat.beq pc 70 || Nat.beq pc 73 || Nat.beq pc 77 || Nat.beq pc 84) 400 (show zif False (0 ≤ c ∧ c < 36) (if w 101 c.toNat = w 93 12 then zwp 327 51 [(2, 93), (0, c)] [] w 238 0 K else zwp 327 21 [(2, 93), (0, z32 (c + 1))] [] w 238 0 K) from h)) h) (fun h => h) h)) ?_
    have e : zFi (fun c => w 101 c.toNat = w 93 12) (m + 1) c = if w 101 c.toNat = w 93 12 then c else zFi (fun c => w 101 c.toNat = w 93 12) m (c + 1) := rfl
    rw [e] at h
    rw [z32_id (x := c + 1) ⟨by omega, by omega⟩]
    refine ziT (by omega) (zifI (by omega) ?_)
    by_cases g : w 101 c.toNat = w 93 12
    · rw [if_pos g, if_neg (by omega)] at h
      exact ziT g h
    · rw [if_neg g] at h
      exact ziF g (ih _ (by omega) (by omega) h)
set_option maxRecDepth 100000 in
theorem zk327_B51 {w : zW} {K : zK} (c : Int) (hm : zMP w) (h : K (0, some (0, c)) (zgg (zcq4 w c)) 238) : zwp 327 51 [(2, 93), (0, c)] [] w 238 0 K := by
  revert h
  intro h
  refine (show (if w 93 8 = 0 then if c = w 95 0 then if 0 < w 93 8 then if w 93 8 = 0 then ((0 ≤ w 93 3 ∧ w 93 3 ≤ 800) ∧ 0 ≤ w 93 4 ∧ w 93 4 ≤ w 93 3) ∧ (K (0, some (0, c)) (zmgo w) 238) else K (0, some (0, c)) w 238 else if w 93 6 = 4 then K (0, some (0, c)) (zupd (zupd w 93 8 1) 93 9 (w 93 5)) 238 else K (0, some (0, c)) (zupd (zupd w 93 8 4) 93 9 (w 93 5)) 238 else if w 93 8 = 0 then ((0 ≤ w 93 3 ∧ w 93 3 ≤ 800) ∧ 0 ≤ w 93 4 ∧ w 93 4 ≤ w 93 3) ∧ (K (0, some (0, c)) (zmgo w) 238) else K (0, some (0, c)) w 238 else if w 93 8 = 0 then ((0 ≤ w 93 3 ∧ w 93 3 ≤ 800) ∧ 0 ≤ w 93 4 ∧ w 93 4 ≤ w 93 3) ∧ (K (0, some (0, c)) (zmgo w) 238) else K (0, some (0, c)) w 238) → _ from fun h => show zwp 327 51 [(2, 93), (0, c)] [] w 238 0 K from zgo_imp zT230_ok (cut := fun pc => Nat.beq pc 4 || Nat.beq pc 11 || Nat.beq pc 19 || Nat.beq pc 32 || Nat.beq pc 51 || Nat.beq pc 55 || Nat.beq pc 70 || Nat.beq pc 73 || Nat.beq pc 77 || Nat.beq pc 84) 400 (show if w 93 8 = 0 then zwp 327 55 [(2, 93), (0, c)] [(0, 1)] w 238 0 K else zwp 327 55 [(2, 93), (0, c)] [(0, 0)] w 238 0 K from zmI (fun h => (fun h => show zwp 327 55 [(2, 93), (0, c)] [(0, 1)] w 238 0 K from zgo_imp zT230_ok (cut := fun pc => Nat.beq pc 4 || Nat.beq pc 11 || Nat.beq pc 19 || Nat.beq pc 32 || Nat.beq pc 51 || Nat.beq pc 55 || Nat.beq pc 70 || Nat.beq pc 73 || Nat.beq pc 77 || Nat.beq pc 84) 400 (show if c = w 95 0 then zwp 327 70 [(2, 93), (0, c)] [(0, 4), (2, 93)] w 238 0 K else zwp 327 73 [(2, 93), (0, c)] [] w 238 0 K from zmI (fun h => (fun h => show zwp 327 70 [(2, 93), (0, c)] [(0, 4), (2, 93)] w 238 0 K from zgo_imp zT230_ok (cut := fun pc => Nat.beq pc 4 || Nat.beq pc 11 || Nat.beq pc 19 || Nat.beq pc 32 || Nat.beq pc 51 || Nat.beq pc 55 || Nat.beq pc 70 || Nat.beq pc 73 || Nat.beq pc 77 || Nat.beq pc 84) 400 (show if 0 < w 93 8 then zwp 327 73 [(2, 93), (0, c)] [] w 238 0 K else if w 93 6 = 4 then zwp 327 73 [(2, 93), (0, c)] [] (zupd (zupd w 93 8 1) 93 9 (w 93 5)) 238 0 K else zwp 327 73 [(2, 93), (0, c)] [] (zupd (zupd w 93 8 4) 93 9 (w 93 5)) 238 0 K from zmI (fun h => (fun h => show zwp 327 73 [(2, 93), (0, c)] [] w 238 0 K from zgo_imp zT230_ok (cut := fun pc => Nat.beq pc 4 || Nat.beq pc 11 || Nat.beq pc 19 || Nat.beq pc 32 || Nat.beq pc 51 || Nat.beq pc 55 || Nat.beq pc 70 || Nat.beq pc 73 || Nat.beq pc 77 || Nat.beq pc 84) 400 (show if w 93 8 = 0 then zwp 327 77 [(2, 93), (0, c)] [(0, 1)] w 238 0 K else zwp 327 77 [(2, 93), (0, c)] [(0, 0)] w 238 0 K from zmI (fun h => (fun h => show zwp 327 77 [(2, 93), (0, c)] [(0, 1)] w 238 0 K from zgo_imp zT230_ok (cut := fun pc => Nat.beq pc 4 || Nat.beq pc 11 || Nat.beq pc 19 || Nat.beq pc 32 || Nat.beq pc 51 || Nat.beq pc 55 || Nat.beq pc 70 || Nat.beq pc 73 || Nat.beq pc 77 || Nat.beq pc 84) 400 (show ((0 ≤ w 93 3 ∧ w 93 3 ≤ 800) ∧ 0 ≤ w 93 4 ∧ w 93 4 ≤ w 93 3) ∧ (zwp 327 84 [(2, 93), (0, c)] [] (zmgo w) 238 0 K) from zmA (fun h => (fun h => show zwp 327 84 [(2, 93), (0, c)] [] (zmgo w) 238 0 K from zgo_imp zT230_ok (cut := fun pc => Nat.beq pc 4 || Nat.beq pc 11 || Nat.beq pc 19 || Nat.beq pc 32 || Nat.beq pc 51 || Nat.beq pc 55 || Nat.beq pc 70 || Nat.beq pc 73 || Nat.beq pc 77 || Nat.beq pc 84) 400 (show K (0, some (0, c)) (zmgo w) 238 from h)) h) h)) h) (fun h => (fun h => show zwp 327 77 [(2, 93), (0, c)] [(0, 0)] w 238 0 K from zgo_imp zT230_ok (cut := fun pc => Nat.beq pc 4 || Nat.beq pc 11 || Nat.beq pc 19 || Nat.beq pc 32 || Nat.beq pc 51 || Nat.beq pc 55 || Nat.beq pc 70 || Nat.beq pc 73 || Nat.beq pc 77 || Nat.beq pc 84) 400 (show zwp 327 84 [(2, 93), (0, c)] [] w 238 0 K from (fun h => show zwp 327 84 [(2, 93), (0, c)] [] w 238 0 K from zgo_imp zT230_ok (cut := fun pc => Nat.beq pc 4 || Nat.beq pc 11 || Nat.beq pc 19 || Nat.beq pc 32 || Nat.beq pc 51 || Nat.beq pc 55 || Nat.beq pc 70 || Nat.beq pc 73 || Nat.beq pc 77 || Nat.beq pc 84) 400 (show K (0, some (0, c)) w 238 from h)) h)) h) h)) h) (fun h => zmI (fun h => (fun h => show zwp 327 73 [(2, 93), (0, c)] [] (zupd (zupd w 93 8 1) 93 9 (w 93 5)) 238 0 K from zgo_imp zT230_ok (cut := fun pc => Nat.beq pc 4 || Nat.beq pc 11 || Nat.beq pc 19 || Nat.beq pc 32 || Nat.beq pc 51 || Nat.beq pc 55 || Nat.beq pc 70 || Nat.beq pc 73 || Nat.beq pc 77 || Nat.beq pc 84) 400 (show zwp 327 77 [(2, 93), (0, c)] [(0, 0)] (zupd (zupd w 93 8 1) 93 9 (w 93 5)) 238 0 K from (fun h => show zwp 327 77 [(2, 93), (0, c)] [(0, 0)] (zupd (zupd w 93 8 1) 93 9 (w 93 5)) 238 0 K from zgo_imp zT230_ok (cut := fun pc => Nat.beq pc 4 || Nat.beq pc 11 || Nat.beq pc 19 || Nat.beq pc 32 || Nat.beq pc 51 || Nat.beq pc 55 || Nat.beq pc 70 || Nat.beq pc 73 || Nat.beq pc 77 || Nat.beq pc 84) 400 (show zwp 327 84 [(2, 93), (0, c)] [] (zupd (zupd w 93 8 1) 93 9 (w 93 5)) 238 0 K from (fun h => show zwp 327 84 [(2, 93), (0, c)] [] (zupd (zupd w 93 8 1) 93 9 (w 93 5)) 238 0 K from zgo_imp zT230_ok (cut := fun pc => Nat.beq pc 4 || Nat.beq pc 11 || Nat.beq pc 19 || Nat.beq pc 32 || Nat.beq pc 51 || Nat.beq pc 55 || Nat.beq pc 70 || Nat.beq pc 73 || Nat.beq pc 77 || Nat.beq pc 84) 400 (show K (0, some (0, c)) (zupd (zupd w 93 8 1) 93 9 (w 93 5)) 238 from h)) h)) h)) h) (fun h => (fun h => show zwp 327 73 [(2, 93), (0, c)] [] (zupd (zupd w 93 8 4) 93 9 (w 93 5)) 238 0 K from zgo_imp zT230_ok (cut := fun pc => Nat.beq pc 4 || Nat.beq pc 11 || Nat.beq pc 19 || Nat.beq pc 32 || Nat.beq pc 51 || Nat.beq pc 55 || Nat.beq pc 70 || Nat.beq pc 73 || Nat.beq pc 77 || Nat.beq pc 84) 400 (show zwp 327 77 [(2, 93), (0, c)] [(0, 0)] (zupd (zupd w 93 8 4) 93 9 (w 93 5)) 238 0 K from (fun h => show zwp 327 77 [(2, 93), (0, c)] [(0, 0)] (zupd (zupd w 93 8 4) 93 9 (w 93 5)) 238 0 K from zgo_imp zT230_ok (cut := fun pc => Nat.beq pc 4 || Nat.beq pc 11 || Nat.beq pc 19 || Nat.beq pc 32 || Nat.beq pc 51 || Nat.beq pc 55 || Nat.beq pc 70 || Nat.beq pc 73 || Nat.beq pc 77 || Nat.beq pc 84) 400 (show zwp 327 84 [(2, 93), (0, c)] [] (zupd (zupd w 93 8 4) 93 9 (w 93 5)) 238 0 K from (fun h => show zwp 327 84 [(2, 93), (0, c)] [] (zupd (zupd w 93 8 4) 93 9 (w 93 5)) 238 0 K from zgo_imp zT230_ok (cut := fun pc => Nat.beq pc 4 || Nat.beq pc 11 || Nat.beq pc 19 || Nat.beq pc 32 || Nat.beq pc 51 || Nat.beq pc 55 || Nat.beq pc 70 || Nat.beq pc 73 || Nat.beq pc 77 || Nat.beq pc 84) 400 (show K (0, some (0, c)) (zupd (zupd w 93 8 4) 93 9 (w 93 5)) 238 from h)) h)) h)) h) h) h)) h) (fun h => (fun h => show zwp 327 73 [(2, 93), (0, c)] [] w 238 0 K from zgo_imp zT230_ok (cut := fun pc => Nat.beq pc 4 || Nat.beq pc 11 || Nat.beq pc 19 || Nat.beq pc 32 || Nat.beq pc 51 || Nat.beq pc 55 || Nat.beq pc 70 || Nat.beq pc 73 || Nat.beq pc 77 || Nat.beq pc 84) 400 (show if w 93 8 = 0 then zwp 327 77 [(2, 93), (0, c)] [(0, 1)] w 238 0 K else zwp 327 77 [(2, 93), (0, c)] [(0, 0)] w 238 0 K from zmI (fun h => (fun h => show zwp 327 77 [(2, 93), (0, c)] [(0, 1)] w 238 0 K from zgo_imp zT230_ok (cut := fun pc => Nat.beq pc 4 || Nat.beq pc 11 || Nat.beq pc 19 || Nat.beq pc 32 || Nat.beq pc 51 || Nat.beq pc 55 || Nat.beq pc 70 || Nat.beq pc 73 || Nat.beq pc 77 || Nat.beq pc 84) 400 (show ((0 ≤ w 93 3 ∧ w 93 3 ≤ 800) ∧ 0 ≤ w 93 4 ∧ w 93 4 ≤ w 93 3) ∧ (zwp 327 84 [(2, 93), (0, c)] [] (zmgo w) 238 0 K) from zmA (fun h => (fun h => show zwp 327 84 [(2, 93), (0, c)] [] (zmgo w) 238 0 K from zgo_imp zT230_ok (cut := fun pc => Nat.beq pc 4 || Nat.beq pc 11 || Nat.beq pc 19 || Nat.beq pc 32 || Nat.beq pc 51 || Nat.beq pc 55 || Nat.beq pc 70 || Nat.beq pc 73 || Nat.beq pc 77 || Nat.beq pc 84) 400 (show K (0, some (0, c)) (zmgo w) 238 from h)) h) h)) h) (fun h => (fun h => show zwp 327 77 [(2, 93), (0, c)] [(0, 0)] w 238 0 K from zgo_imp zT230_ok (cut := fun pc => Nat.beq pc 4 || Nat.beq pc 11 || Nat.beq pc 19 || Nat.beq pc 32 || Nat.beq pc 51 || Nat.beq pc 55 || Nat.beq pc 70 || Nat.beq pc 73 || Nat.beq pc 77 || Nat.beq pc 84) 400 (show zwp 327 84 [(2, 93), (0, c)] [] w 238 0 K from (fun h => show zwp 327 84 [(2, 93), (0, c)] [] w 238 0 K from zgo_imp zT230_ok (cut := fun pc => Nat.beq pc 4 || Nat.beq pc 11 || Nat.beq pc 19 || Nat.beq pc 32 || Nat.beq pc 51 || Nat.beq pc 55 || Nat.beq pc 70 || Nat.beq pc 73 || Nat.beq pc 77 || Nat.beq pc 84) 400 (show K (0, some (0, c)) w 238 from h)) h)) h) h)) h) h)) h) (fun h => (fun h => show zwp 327 55 [(2, 93), (0, c)] [(0, 0)] w 238 0 K from zgo_imp zT230_ok (cut := fun pc => Nat.beq pc 4 || Nat.beq pc 11 || Nat.beq pc 19 || Nat.beq pc 32 || Nat.beq pc 51 || Nat.beq pc 55 || Nat.beq pc 70 || Nat.beq pc 73 || Nat.beq pc 77 || Nat.beq pc 84) 400 (show zwp 327 73 [(2, 93), (0, c)] [] w 238 0 K from (fun h => show zwp 327 73 [(2, 93), (0, c)] [] w 238 0 K from zgo_imp zT230_ok (cut := fun pc => Nat.beq pc 4 || Nat.beq pc 11 || Nat.beq pc 19 || Nat.beq pc 32 || Nat.beq pc 51 || Nat.beq pc 55 || Nat.beq pc 70 || Nat.beq pc 73 || Nat.beq pc 77 || Nat.beq pc 84) 400 (show if w 93 8 = 0 then zwp 327 77 [(2, 93), (0, c)] [(0, 1)] w 238 0 K else zwp 327 77 [(2, 93), (0, c)] [(0, 0)] w 238 0 K from zmI (fun h => (fun h => show zwp 327 77 [(2, 93), (0, c)] [(0, 1)] w 238 0 K from zgo_imp zT230_ok (cut := fun pc => Nat.beq pc 4 || Nat.beq pc 11 || Nat.beq pc 19 || Nat.beq pc 32 || Nat.beq pc 51 || Nat.beq pc 55 || Nat.beq pc 70 || Nat.beq pc 73 || Nat.beq pc 77 || Nat.beq pc 84) 400 (show ((0 ≤ w 93 3 ∧ w 93 3 ≤ 800) ∧ 0 ≤ w 93 4 ∧ w 93 4 ≤ w 93 3) ∧ (zwp 327 84 [(2, 93), (0, c)] [] (zmgo w) 238 0 K) from zmA (fun h => (fun h => show zwp 327 84 [(2, 93), (0, c)] [] (zmgo w) 238 0 K from zgo_imp zT230_ok (cut := fun pc => Nat.beq pc 4 || Nat.beq pc 11 || Nat.beq pc 19 || Nat.beq pc 32 || Nat.beq pc 51 || Nat.beq pc 55 || Nat.beq pc 70 || Nat.beq pc 73 || Nat.beq pc 77 || Nat.beq pc 84) 400 (show K (0, some (0, c)) (zmgo w) 238 from h)) h) h)) h) (fun h => (fun h => show zwp 327 77 [(2, 93), (0, c)] [(0, 0)] w 238 0 K from zgo_imp zT230_ok (cut := fun pc => Nat.beq pc 4 || Nat.beq pc 11 || Nat.beq pc 19 || Nat.beq pc 32 || Nat.beq pc 51 || Nat.beq pc 55 || Nat.beq pc 70 || Nat.beq pc 73 || Nat.beq pc 77 || Nat.beq pc 84) 400 (show zwp 327 84 [(2, 93), (0, c)] [] w 238 0 K from (fun h => show zwp 327 84 [(2, 93), (0, c)] [] w 238 0 K from zgo_imp zT230_ok (cut := fun pc => Nat.beq pc 4 || Nat.beq pc 11 || Nat.beq pc 19 || Nat.beq pc 32 || Nat.beq pc 51 || Nat.beq pc 55 || Nat.beq pc 70 || Nat.beq pc 73 || Nat.beq pc 77 || Nat.beq pc 84) 400 (show K (0, some (0, c)) w 238 from h)) h)) h) h)) h)) h) h)) ?_
  rw [zcq4_e] at h
  by_cases g : w 93 8 = 0
  · refine ziT g ?_
    by_cases g1 : c = w 95 0
    · rw [if_pos ⟨g, g1⟩, zgg_n (zwr_z w (by decide))] at h
      unfold zwr at h
      refine ziT g1 (ziF (by omega) ?_)
      by_cases g4 : w 93 6 = 4
      · rw [if_pos g4] at h; exact ziT g4 h
      · rw [if_neg g4] at h; exact ziF g4 h
    · rw [if_neg fun q => g1 q.2, zgg_e, if_pos g] at h
      exact ziF g1 (ziT g ⟨⟨hm.1, hm.2.1⟩, h⟩)
  · rw [if_neg fun q => g q.1, zgg_n g] at h
    exact ziF g (ziF g h)
/-! Model.circleBehind -/
set_option maxRecDepth 100000 in
theorem zk327_93 (w : zW) (K : zK) (h : (zMP w ∧ 0 ≤ w 95 0 ∧ w 95 0 ≤ 12) ∧ (K (0, some (0, zcq0 w)) (zcb w) 238)) : zcall 327 [(2, 93), (9, 0)] w 238 K := by
  obtain ⟨hg, h⟩ := h
  refine (show (if w 93 8 = 0 then if zmNi (w 93 6) (w 93 12) = 0 then if 0 < w 93 8 then zwp 327 21 [(2, 93), (0, 0)] [] w 238 0 K else if w 93 6 = 4 then zwp 327 21 [(2, 93), (0, 0)] [] (zupd (zupd w 93 8 1) 93 9 (w 93 5)) 238 0 K else zwp 327 21 [(2, 93), (0, 0)] [] (zupd (zupd w 93 8 1) 93 9 (w 93 5)) 238 0 K else zwp 327 21 [(2, 93), (0, 0)] [] w 238 0 K else zwp 327 21 [(2, 93), (0, 0)] [] w 238 0 K) → _ from fun h => show zwp 327 0 [(2, 93), (9, 0)] [] w 238 0 K from zgo_imp zT230_ok (cut := fun pc => Nat.beq pc 4 || Nat.beq pc 11 || Nat.beq pc 19 || Nat.beq pc 21 || Nat.beq pc 32 || Nat.beq pc 51 || Nat.beq pc 55 || Nat.beq pc 70 || Nat.beq pc 73 || Nat.beq pc 77 || Nat.beq pc 84) 400 (show if w 93 8 = 0 then zwp 327 4 [(2, 93), (9, 0)] [(0, 1)] w 238 0 K else zwp 327 4 [(2, 93), (9, 0)] [(0, 0)] w 238 0 K from zmI (fun h => (fun h => show zwp 327 4 [(2, 93), (9, 0)] [(0, 1)] w 238 0 K from zgo_imp zT230_ok (cut := fun pc => Nat.beq pc 4 || Nat.beq pc 11 || Nat.beq pc 19 || Nat.beq pc 21 || Nat.beq pc 32 || Nat.beq pc 51 || Nat.beq pc 55 || Nat.beq pc 70 || Nat.beq pc 73 || Nat.beq pc 77 || Nat.beq pc 84) 400 (show zwp 327 11 [(2, 93), (9, 0)] [(0, zmNi (w 93 6) (w 93 12))] w 238 0 K from (fun h => show zwp 327 11 [(2, 93), (9, 0)] [(0, zmNi (w 93 6) (w 93 12))] w 238 0 K from zgo_imp zT230_ok (cut := fun pc => Nat.beq pc 4 || Nat.beq pc 11 || Nat.beq pc 19 || Nat.beq pc 21 || Nat.beq pc 32 || Nat.beq pc 51 || Nat.beq pc 55 || Nat.beq pc 70 || Nat.beq pc 73 || Nat.beq pc 77 || Nat.beq pc 84) 400 (show if zmNi (w 93 6) (w 93 12) = 0 then if 0 < w 93 8 then zwp 327 19 [(2, 93), (9, 0)] [] w 238 0 K else if w 93 6 = 4 then zwp 327 19 [(2, 93), (9, 0)] [] (zupd (zupd w 93 8 1) 93 9 (w 93 5)) 238 0 K else zwp 327 19 [(2, 93), (9, 0)] [] (zupd (zupd w 93 8 1) 93 9 (w 93 5)) 238 0 K else zwp 327 19 [(2, 93), (9, 0)] [] w 238 0 K from zmI (fun h => zmI (fun h => (fun h => show zwp 327 19 [(2, 93), (9, 0)] [] w 238 0 K from zgo_imp zT230_ok (cut := fun pc => Nat.beq pc 4 || Nat.beq pc 11 || Nat.beq pc 19 || Nat.beq pc 21 || Nat.beq pc 32 || Nat.beq pc 51 || Nat.beq pc 55 || Nat.beq pc 70 || Nat.beq pc 73 || Nat.beq pc 77 || Nat.beq pc 84) 400 (show zwp 327 21 [(2, 93), (0, 0)] [] w 238 0 K from h)) h) (fun h => zmI (fun h => (fun h => show zwp 327 19 [(2, 93), (9, 0)] [] (zupd (zupd w 93 8 1) 93 9 (w 93 5)) 238 0 K from zgo_imp zT230_ok (cut := fun pc => Nat.beq pc 4 || Nat.beq pc 11 || Nat.beq pc 19 || Nat.beq pc 21 || Nat.beq pc 32 || Nat.beq pc 51 || Nat.beq pc 55 || Nat.beq pc 70 || Nat.beq pc 73 || Nat.beq pc 77 || Nat.beq pc 84) 400 (show zwp 327 21 [(2, 93), (0, 0)] [] (zupd (zupd w 93 8 1) 93 9 (w 93 5)) 238 0 K from h)) h) (fun h => (fun h => show zwp 327 19 [(2, 93), (9, 0)] [] (zupd (zupd w 93 8 1) 93 9 (w 93 5)) 238 0 K from zgo_imp zT230_ok (cut := fun pc => Nat.beq pc 4 || Nat.beq pc 11 || Nat.beq pc 19 || Nat.beq pc 21 || Nat.beq pc 32 || Nat.beq pc 51 || Nat.beq pc 55 || Nat.beq pc 70 || Nat.beq pc 73 || Nat.beq pc 77 || Nat.beq pc 84) 400 (show zwp 327 21 [(2, 93), (0, 0)] [] (zupd (zupd w 93 8 1) 93 9 (w 93 5)) 238 0 K from h)) h) h) h) (fun h => (fun h => show zwp 327 19 [(2, 93), (9, 0)] [] w 238 0 K from zgo_imp zT230_ok (cut := fun pc => Nat.beq pc 4 || Nat.beq pc 11 || Nat.beq pc 19 || Nat.beq pc 21 || Nat.beq pc 32 || Nat.beq pc 51 || Nat.beq pc 55 || Nat.beq pc 70 || Nat.beq pc 73 || Nat.beq pc 77 || Nat.beq pc 84) 400 (show zwp 327 21 [(2, 93), (0, 0)] [] w 238 0 K from h)) h) h)) h)) h) (fun h => (fun h => show zwp 327 4 [(2, 93), (9, 0)] [(0, 0)] w 238 0 K from zgo_imp zT230_ok (cut := fun pc => Nat.beq pc 4 || Nat.beq pc 11 || Nat.beq pc 19 || Nat.beq pc 21 || Nat.beq pc 32 || Nat.beq pc 51 || Nat.beq pc 55 || Nat.beq pc 70 || Nat.beq pc 73 || Nat.beq pc 77 || Nat.beq pc 84) 400 (show zwp 327 19 [(2, 93), (9, 0)] [] w 238 0 K from (fun h => show zwp 327 19 [(2, 93), (9, 0)] [] w 238 0 K from zgo_imp zT230_ok (cut := fun pc => Nat.beq pc 4 || Nat.beq pc 11 || Nat.beq pc 19 || Nat.beq pc 21 || Nat.beq pc 32 || Nat.beq pc 51 || Nat.beq pc 55 || Nat.beq pc 70 || Nat.beq pc 73 || Nat.beq pc 77 || Nat.beq pc 84) 400 (show zwp 327 21 [(2, 93), (0, 0)] [] w 238 0 K from h)) h)) h) h)) ?_
  obtain ⟨hm, hn⟩ := hg
  unfold zcb at h
  rw [zcq1_e] at h
  have go : ∀ v : zW, zMP v → v 95 = w 95 → v 101 = w 101 → v 93 12 = w 93 12 → K (0, some (0, zcq0 w)) (zgg (zcq4 v (zcq0 w))) 238 → zwp 327 21 [(2, 93), (0, 0)] [] v 238 0 K := fun v m5 e5 e1 e2 k => by
    refine zk327_L21 (w := v) (by rw [e5]; exact hn) (w 95 0).toNat 0 (by decide) (by rw [e5]; omega) ?_
    rw [e5, e1, e2]
    exact zk327_B51 (w := v) (zcq0 w) m5 k
  by_cases g : w 93 8 = 0
  · refine ziT g ?_
    by_cases g1 : zmNi (w 93 6) (w 93 12) = 0
    · rw [if_pos ⟨g, g1⟩] at h
      have h := go (zwr w 1) (hm.wr (by decide)) rfl rfl rfl h
      unfold zwr at h
      refine ziT g1 (ziF (by omega) ?_)
      by_cases g4 : w 93 6 = 4
      · rw [if_pos g4] at h; exact ziT g4 h
      · rw [if_neg g4] at h; exact ziF g4 h
    · rw [if_neg fun q => g1 q.2] at h
      exact ziF g1 (go w hm rfl rfl rfl h)
  · rw [if_neg fun q => g q.1] at h
    exact ziF g (go w hm rfl rfl rfl h)
noncomputable def zb327 (l0 : List zV) (w : zW) (K : zK) : Prop := cond (zpe (zar l0 0) 93) ((zMP w ∧ 0 ≤ w 95 0 ∧ w 95 0 ≤ 12) ∧ (K (0, some (0, zcq0 w)) (zcb w) 238)) (False)
noncomputable def zT231 : zSum := zsm1 327 [2, 9] zb327 zT230
theorem zT231_ok : zSok zT231 := zsm1_ok zT230_ok fun l0 w K h => by
  unfold zb327 at h
  cases q0 : zpe (zar l0 0) 93 with
  | true =>
    rw [q0, cond_true] at h
    have e : zar l0 0 = 93 := zpe_e q0
    show zcall 327 [(2, zar l0 0), (9, 0)] w 238 K
    rw [e]
    exact zk327_93  w K h
  | false =>
  rw [q0, cond_false] at h
  exact h.elim

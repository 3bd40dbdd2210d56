/-! ===== the model reads a script (written by wip/whole/gen_c.py) ===== -/
def zcS (w : zW) : zW := zms (zmgo (zma (zupd w 93 41 (w 93 41 - 1)) 7 0 0)) 59
abbrev zcT (w : zW) : Prop := w 93 8 = 0 ∧ w 93 6 = 3 ∧ w 93 7 = 41
def zCl : Nat → zW → zW
  | 0, w => w
  | m + 1, w => if 0 < w 93 41 ∧ zcT w then zCl m (zcS w) else w
def zMS (w : zW) : Prop := (0 ≤ w 93 39 ∧ 0 ≤ w 93 41 ∧ w 93 41 ≤ 2) ∧ w 93 39 + w 93 41 ≤ 2 * w 93 40 ∧ w 93 40 ≤ 30
theorem zcS_j {w : zW} {j : Nat} (h : 13 ≤ j) (h1 : j ≠ 39) (h2 : j ≠ 41) : zcS w 93 j = w 93 j := by
  unfold zcS
  rw [zms_j h, zmgo_j h, zma_j h1, zuat, if_neg h2]
theorem zcS_41 (w : zW) : zcS w 93 41 = w 93 41 - 1 := by
  unfold zcS
  rw [zms_j (by decide), zmgo_j (by decide), zma_j (by decide), zuat, if_pos rfl]
theorem zcS_39 {w : zW} (h : w 93 8 = 0) : zcS w 93 39 = w 93 39 + 1 := by
  unfold zcS
  rw [zms_j (by decide), zmgo_j (by decide), zma_39 (w := zupd w 93 41 (w 93 41 - 1)) h]
  rfl
theorem zcS_MP {w : zW} (h : zMP w) : zMP (zcS w) := zMP.ms (zMP.go (zMP.ma (w := zupd w 93 41 (w 93 41 - 1)) h))
theorem zcS_MS {w : zW} (g : w 93 8 = 0) (h : zMS w) (o : 0 < w 93 41) : zMS (zcS w) := by
  unfold zMS at h ⊢
  rw [zcS_39 g, zcS_41, zcS_j (j := 40) (by decide) (by decide) (by decide)]
  omega
set_option maxRecDepth 100000 in
theorem zk329_L0 {K : zK}   : ∀ (m : Nat) (w : zW), (zMP w) → (zMS w) → (w 93 41 ≤ m) → (K (0, none) (zCl m w) 238) → zwp 329 0 [(2, 93)] [] w 238 0 K := by
  
  intro m
  induction m with
  | zero =>
    intro  w  hm hs ho h
    refine (show (if 0 < w 93 41 then if w 93 8 = 0 then if w 93 6 = 3 then if w 93 7 = 41 then ((w 93 8) = 0 → 0 ≤ (w 93 39) ∧ (w 93 39) < 60) ∧ (((0 ≤ ((zma (zupd w 93 41 (z32 ((w 93 41) - 1))) (7 : Int) (0 : Int) (0 : Int)) 93 3) ∧ ((zma (zupd w 93 41 (z32 ((w 93 41) - 1))) (7 : Int) (0 : Int) (0 : Int)) 93 3) ≤ 800) ∧ 0 ≤ ((zma (zupd w 93 41 (z32 ((w 93 41) - 1))) (7 : Int) (0 : Int) (0 : Int)) 93 4) ∧ ((zma (zupd w 93 41 (z32 ((w 93 41) - 1))) (7 : Int) (0 : Int) (0 : Int)) 93 4) ≤ ((zma (zupd w 93 41 (z32 ((w 93 41) - 1))) (7 : Int) (0 : Int) (0 : Int)) 93 3)) ∧ (((0 ≤ ((zma (zupd w 93 41 (z32 ((w 93 41) - 1))) (7 : Int) (0 : Int) (0 : Int)) 93 3) ∧ ((zma (zupd w 93 41 (z32 ((w 93 41) - 1))) (7 : Int) (0 : Int) (0 : Int)) 93 3) ≤ 800) ∧ (0 ≤ ((zmgo (zma (zupd w 93 41 (z32 ((w 93 41) - 1))) (7 : Int) (0 : Int) (0 : Int))) 93 4) ∧ ((zmgo (zma (zupd w 93 41 (z32 ((w 93 41) - 1))) (7 : Int) (0 : Int) (0 : Int))) 93 4) ≤ ((zma (zupd w 93 41 (z32 ((w 93 41) - 1))) (7 : Int) (0 : Int) (0 : Int)) 93 3)) ∧ (0 : Int) ≤ ((zma (zupd w 93 41 (z32 ((w 93 41) - 1))) (7 : Int) (0 : Int) (0 : Int)) 93 8)) ∧ (zwp 329 0 [(2, 93)] [] (zms (zmgo (zma (zupd w 93 41 (z32 ((w 93 41) - 1))) (7 : Int) (0 : Int) (0 : Int))) (59 : Int)) 238 0 K))) else K (0, none) w 238 else K (0, none) w 238 else K (0, none) w 238 else K (0, none) w 238) → _ from fun h => show zwp 329 0 [(2, 93)] [] w 238 0 K from zgo_imp zT233_ok (cut := fun pc => Nat.beq pc 0 || Nat.beq pc 13 || Nat.beq pc 29 || Nat.beq pc 34 || Nat.beq pc 38 || Nat.beq pc 44) 400 (show if 0 < w 93 41 then if w 93 8 = 0 then if w 93 6 = 3 then if w 93 7 = 41 then zwp 329 13 [(2, 93)] [(0, 1)] w 238 0 K else zwp 329 13 [(2, 93)] [(0, 0)] w 238 0 K else zwp 329 13 [(2, 93)] [(0, 0)] w 238 0 K else zwp 329 13 [(2, 93)] [(0, 0)] w 238 0 K else K (0, none) w 238 from zmI (fun h => zmI (fun h => zmI (fun h => zmI (fun h => (fun h => show zwp 329 13 [(2, 93)] [(0, 1)] w 238 0 K from zgo_imp zT233_ok (cut := fun pc => Nat.beq pc 0 || Nat.beq pc 13 || Nat.beq pc 29 || Nat.beq pc 34 || Nat.beq pc 38 || Nat.beq pc 44) 400 (show zwp 329 29 [(2, 93)] [(0, 7), (2, 93)] (zupd w 93 41 (z32 ((w 93 41) - 1))) 238 0 K from (fun h => show zwp 329 29 [(2, 93)] [(0, 7), (2, 93)] (zupd w 93 41 (z32 ((w 93 41) - 1))) 238 0 K from zgo_imp zT233_ok (cut := fun pc => Nat.beq pc 0 || Nat.beq pc 13 || Nat.beq pc 29 || Nat.beq pc 34 || Nat.beq pc 38 || Nat.beq pc 44) 400 (show ((w 93 8) = 0 → 0 ≤ (w 93 39) ∧ (w 93 39) < 60) ∧ (zwp 329 34 [(2, 93)] [] (zma (zupd w 93 41 (z32 ((w 93 41) - 1))) (7 : Int) (0 : Int) (0 : Int)) 238 0 K) from zmA (fun h => (fun h => show zwp 329 34 [(2, 93)] [] (zma (zupd w 93 41 (z32 ((w 93 41) - 1))) (7 : Int) (0 : Int) (0 : Int)) 238 0 K from zgo_imp zT233_ok (cut := fun pc => Nat.beq pc 0 || Nat.beq pc 13 || Nat.beq pc 29 || Nat.beq pc 34 || Nat.beq pc 38 || Nat.beq pc 44) 400 (show ((0 ≤ ((zma (zupd w 93 41 (z32 ((w 93 41) - 1))) (7 : Int) (0 : Int) (0 : Int)) 93 3) ∧ ((zma (zupd w 93 41 (z32 ((w 93 41) - 1))) (7 : Int) (0 : Int) (0 : Int)) 93 3) ≤ 800) ∧ 0 ≤ ((zma (zupd w 93 41 (z32 ((w 93 41) - 1))) (7 : Int) (0 : Int) (0 : Int)) 93 4) ∧ ((zma (zupd w 93 41 (z32 ((w 93 41) - 1))) (7 : Int) (0 : Int) (0 : Int)) 93 4) ≤ ((zma (zupd w 93 41 (z32 ((w 93 41) - 1))) (7 : Int) (0 : Int) (0 : Int)) 93 3)) ∧ (zwp 329 38 [(2, 93)] [] (zmgo (zma (zupd w 93 41 (z32 ((w 93 41) - 1))) (7 : Int) (0 : Int) (0 : Int))) 238 0 K) from zmA (fun h => (fun h => show zwp 329 38 [(2, 93)] [] (zmgo (zma (zupd w 93 41 (z32 ((w 93 41) - 1))) (7 : Int) (0 : Int) (0 : Int))) 238 0 K from zgo_imp zT233_ok (cut := fun pc => Nat.beq pc 0 || Nat.beq pc 13 || Nat.beq pc 29 || Nat.beq pc 34 || Nat.beq pc 38 || Nat.beq pc 44) 400 (show ((0 ≤ ((zma (zupd w 93 41 (z32 ((w 93 41) - 1))) (7 : Int) (0 : Int) (0 : Int)) 93 3) ∧ ((zma (zupd w 93 41 (z32 ((w 93 41) - 1))) (7 : Int) (0 : Int) (0 : Int)) 93 3) ≤ 800) ∧ (0 ≤ ((zmgo (zma (zupd w 93 41 (z32 ((w 93 41) - 1))) (7 : Int) (0 : Int) (0 : Int))) 93 4) ∧ ((zmgo (zma (zupd w 93 41 (z32 ((w 93 41) - 1))) (7 : Int) (0 : Int) (0 : Int))) 93 4) ≤ ((zma (zupd w 93 41 (z32 ((w 93 41) - 1))) (7 : Int) (0 : Int) (0 : Int)) 93 3)) ∧ (0 : Int) ≤ ((zma (zupd w 93 41 (z32 ((w 93 41) - 1))) (7 : Int) (0 : Int) (0 : Int)) 93 8)) ∧ (zwp 329 44 [(2, 93)] [] (zms (zmgo (zma (zupd w 93 41 (z32 ((w 93 41) - 1))) (7 : Int) (0 : Int) (0 : Int))) (59 : Int)) 238 0 K) from zmA (fun h => (fun h => show zwp 329 44 [(2, 93)] [] (zms (zmgo (zma (zupd w 93 41 (z32 ((w 93 41) - 1))) (7 : Int) (0 : Int) (0 : Int))) (59 : Int)) 238 0 K from zgo_imp zT233_ok (cut := fun pc => Nat.beq pc 0 || Nat.beq pc 13 || Nat.beq pc 29 || Nat.beq pc 34 || Nat.beq pc 38 || Nat.beq pc 44) 400 (show zwp 329 0 [(2, 93)] [] (zms (zmgo (zma (zupd w 93 41 (z32 ((w 93 41) - 1))) (7 : Int) (0 : Int) (0 : Int))) (59 : Int)) 238 0 K from h)) h) h)) h) h)) h) h)) h)) h) (fun h => (fun h => show zwp 329 13 [(2, 93)] [(0, 0)] w 238 0 K from zgo_imp zT233_ok (cut := fun pc => Nat.beq pc 0 || Nat.beq pc 13 || Nat.beq pc 29 || Nat.beq pc 34 || Nat.beq pc 38 || Nat.beq pc 44) 400 (show K (0, none) w 238 from h)) h) h) (fun h => (fun h => show zwp 329 13 [(2, 93)] [(0, 0)] w 238 0 K from zgo_imp zT233_ok (cut := fun pc => Nat.beq pc 0 || Nat.beq pc 13 || Nat.beq pc 29 || Nat.beq pc 34 || Nat.beq pc 38 || Nat.beq pc 44) 400 (show K (0, none) w 238 from h)) h) h) (fun h => (fun h => show zwp 329 13 [(2, 93)] [(0, 0)] w 238 0 K from zgo_imp zT233_ok (cut := fun pc => Nat.beq pc 0 || Nat.beq pc 13 || Nat.beq pc 29 || Nat.beq pc 34 || Nat.beq pc 38 || Nat.beq pc 44) 400 (show K (0, none) w 238 from h)) h) h) (fun h => h) h)) ?_
    exact ziF (by omega) h
  | succ m ih =>
    intro  w  hm hs ho h
    refine (show (if 0 < w 93 41 then if w 93 8 = 0 then if w 93 6 = 3 then if w 93 7 = 41 then ((w 93 8) = 0 → 0 ≤ (w 93 39) ∧ (w 93 39) < 60) ∧ (((0 ≤ ((zma (zupd w 93 41 (z32 ((w 93 41) - 1))) (7 : Int) (0 : Int) (0 : Int)) 93 3) ∧ ((zma (zupd w 93 41 (z32 ((w 93 41) - 1))) (7 : Int) (0 : Int) (0 : Int)) 93 3) ≤ 800) ∧ 0 ≤ ((zma (zupd w 93 41 (z32 ((w 93 41) - 1))) (7 : Int) (0 : Int) (0 : Int)) 93 4) ∧ ((zma (zupd w 93 41 (z32 ((w 93 41) - 1))) (7 : Int) (0 : Int) (0 : Int)) 93 4) ≤ ((zma (zupd w 93 41 (z32 ((w 93 41) - 1))) (7 : Int) (0 : Int) (0 : Int)) 93 3)) ∧ (((0 ≤ ((zma (zupd w 93 41 (z32 ((w 93 41) - 1))) (7 : Int) (0 : Int) (0 : Int)) 93 3) ∧ ((zma (zupd w 93 41 (z32 ((w 93 41) - 1))) (7 : Int) (0 : Int) (0 : Int)) 93 3) ≤ 800) ∧ (0 ≤ ((zmgo (zma (zupd w 93 41 (z32 ((w 93 41) - 1))) (7 : Int) (0 : Int) (0 : Int))) 93 4) ∧ ((zmgo (zma (zupd w 93 41 (z32 ((w 93 41) - 1))) (7 : Int) (0 : Int) (0 : Int))) 93 4) ≤ ((zma (zupd w 93 41 (z32 ((w 93 41) - 1))) (7 : Int) (0 : Int) (0 : Int)) 93 3)) ∧ (0 : Int) ≤ ((zma (zupd w 93 41 (z32 ((w 93 41) - 1))) (7 : Int) (0 : Int) (0 : Int)) 93 8)) ∧ (zwp 329 0 [(2, 93)] [] (zms (zmgo (zma (zupd w 93 41 (z32 ((w 93 41) - 1))) (7 : Int) (0 : Int) (0 : Int))) (59 : Int)) 238 0 K))) else K (0, none) w 238 else K (0, none) w 238 else K (0, none) w 238 else K (0, none) w 238) → _ from fun h => show zwp 329 0 [(2, 93)] [] w 238 0 K from zgo_imp zT233_ok (cut := fun pc => Nat.beq pc 0 || Nat.beq pc 13 || Nat.beq pc 29 || Nat.beq pc 34 || Nat.beq pc 38 || Nat.beq pc 44) 400 (show if 0 < w 93 41 then if w 93 8 = 0 then if w 93 6 = 3 then if w 93 7 = 41 then zwp 329 13 [(2, 93)] [(0, 1)] w 238 0 K else zwp 329 13 [(2, 93)] [(0, 0)] w 238 0 K else zwp 329 13 [(2, 93)] [(0, 0)] w 238 0 K else zwp 329 13 [(2, 93)] [(0, 0)] w 238 0 K else K (0, none) w 238 from zmI (fun h => zmI (fun h => zmI (fun h => zmI (fun h => (fun h => show zwp 329 13 [(2, 93)] [(0, 1)] w 238 0 K from zgo_imp zT233_ok (cut := fun pc => Nat.beq pc 0 || Nat.beq pc 13 || Nat.beq pc 29 || Nat.beq pc 34 || Nat.beq pc 38 || Nat.beq pc 44) 400 (show zwp 329 29 [(2, 93)] [(0, 7), (2, 93)] (zupd w 93 41 (z32 ((w 93 41) - 1))) 238 0 K from (fun h => show zwp 329 29 [(2, 93)] [(0, 7), (2, 93)] (zupd w 93 41 (z32 ((w 93 41) - 1))) 238 0 K from zgo_imp zT233_ok (cut := fun pc => Nat.beq pc 0 || Nat.beq pc 13 || Nat.beq pc 29 || Nat.beq pc 34 || Nat.beq pc 38 || Nat.beq pc 44) 400 (show ((w 93 8) = 0 → 0 ≤ (w 93 39) ∧ (w 93 39) < 60) ∧ (zwp 329 34 [(2, 93)] [] (zma (zupd w 93 41 (z32 ((w 93 41) - 1))) (7 : Int) (0 : Int) (0 : Int)) 238 0 K) from zmA (fun h => (fun h => show zwp 329 34 [(2, 93)] [] (zma (zupd w 93 41 (z32 ((w 93 41) - 1))) (7 : Int) (0 : Int) (0 : Int)) 238 0 K from zgo_imp zT233_ok (cut := fun pc => Nat.beq pc 0 || Nat.beq pc 13 || Nat.beq pc 29 || Nat.beq pc 34 || Nat.beq pc 38 || Nat.beq pc 44) 400 (show ((0 ≤ ((zma (zupd w 93 41 (z32 ((w 93 41) - 1))) (7 : Int) (0 : Int) (0 : Int)) 93 3) ∧ ((zma (zupd w 93 41 (z32 ((w 93 41) - 1))) (7 : Int) (0 : Int) (0 : Int)) 93 3) ≤ 800) ∧ 0 ≤ ((zma (zupd w 93 41 (z32 ((w 93 41) - 1))) (7 : Int) (0 : Int) (0 : Int)) 93 4) ∧ ((zma (zupd w 93 41 (z32 ((w 93 41) - 1))) (7 : Int) (0 : Int) (0 : Int)) 93 4) ≤ ((zma (zupd w 93 41 (z32 ((w 93 41) - 1))) (7 : Int) (0 : Int) (0 : Int)) 93 3)) ∧ (zwp 329 38 [(2, 93)] [] (zmgo (zma (zupd w 93 41 (z32 ((w 93 41) - 1))) (7 : Int) (0 : Int) (0 : Int))) 238 0 K) from zmA (fun h => (fun h => show zwp 329 38 [(2, 93)] [] (zmgo (zma (zupd w 93 41 (z32 ((w 93 41) - 1))) (7 : Int) (0 : Int) (0 : Int))) 238 0 K from zgo_imp zT233_ok (cut := fun pc => Nat.beq pc 0 || Nat.beq pc 13 || Nat.beq pc 29 || Nat.beq pc 34 || Nat.beq pc 38 || Nat.beq pc 44) 400 (show ((0 ≤ ((zma (zupd w 93 41 (z32 ((w 93 41) - 1))) (7 : Int) (0 : Int) (0 : Int)) 93 3) ∧ ((zma (zupd w 93 41 (z32 ((w 93 41) - 1))) (7 : Int) (0 : Int) (0 : Int)) 93 3) ≤ 800) ∧ (0 ≤ ((zmgo (zma (zupd w 93 41 (z32 ((w 93 41) - 1))) (7 : Int) (0 : Int) (0 : Int))) 93 4) ∧ ((zmgo (zma (zupd w 93 41 (z32 ((w 93 41) - 1))) (7 : Int) (0 : Int) (0 : Int))) 93 4) ≤ ((zma (zupd w 93 41 (z32 ((w 93 41) - 1))) (7 : Int) (0 : Int) (0 : Int)) 93 3)) ∧ (0 : Int) ≤ ((zma (zupd w 93 41 (z32 ((w 93 41) - 1))) (7 : Int) (0 : Int) (0 : Int)) 93 8)) ∧ (zwp 329 44 [(2, 93)] [] (zms (zmgo (zma (zupd w 93 41 (z32 ((w 93 41) - 1))) (7 : Int) (0 : Int) (0 : Int))) (59 : Int)) 238 0 K) from zmA (fun h => (fun h => show zwp 329 44 [(2, 93)] [] (zms (zmgo (zma (zupd w 93 41 (z32 ((w 93 41) - 1))) (7 : Int) (0 : Int) (0 : Int))) (59 : Int)) 238 0 K from zgo_imp zT233_ok (cut := fun pc => Nat.beq pc 0 || Nat.beq pc 13 || Nat.beq pc 29 || Nat.beq pc 34 || Nat.beq pc 38 || Nat.beq pc 44) 400 (show zwp 329 0 [(2, 93)] [] (zms (zmgo (zma (zupd w 93 41 (z32 ((w 93 41) - 1))) (7 : Int) (0 : Int) (0 : Int))) (59 : Int)) 238 0 K from h)) h) h)) h) h)) h) h)) h)) h) (fun h => (fun h => show zwp 329 13 [(2, 93)] [(0, 0)] w 238 0 K from zgo_imp zT233_ok (cut := fun pc => Nat.beq pc 0 || Nat.beq pc 13 || Nat.beq pc 29 || Nat.beq pc 34 || Nat.beq pc 38 || Nat.beq pc 44) 400 (show K (0, none) w 238 from h)) h) h) (fun h => (fun h => show zwp 329 13 [(2, 93)] [(0, 0)] w 238 0 K from zgo_imp zT233_ok (cut := fun pc => Nat.beq pc 0 || Nat.beq pc 13 || Nat.beq pc 29 || Nat.beq pc 34 || Nat.beq pc 38 || Nat.beq pc 44) 400 (show K (0, none) w 238 from h)) h) h) (fun h => (fun h => show zwp 329 13 [(2, 93)] [(0, 0)] w 238 0 K from zgo_imp zT233_ok (cut := fun pc => Nat.beq pc 0 || Nat.beq pc 13 || Nat.beq pc 29 || Nat.beq pc 34 || Nat.beq pc 38 || Nat.beq pc 44) 400 (show K (0, none) w 238 from h)) h) h) (fun h => h) h)) ?_
    have e : zCl (m + 1) w = if 0 < w 93 41 ∧ zcT w then zCl m (zcS w) else w := rfl
    have s := hs
    unfold zMS at s
    rw [e] at h
    rw [z32_id (x := w 93 41 - 1) ⟨by omega, by omega⟩]
    by_cases g : 0 < w 93 41
    · refine ziT g ?_
      by_cases g1 : w 93 8 = 0
      · refine ziT g1 ?_
        by_cases g2 : w 93 6 = 3
        · refine ziT g2 ?_
          by_cases g3 : w 93 7 = 41
          · rw [if_pos ⟨g, g1, g2, g3⟩] at h
            have m1 : zMP (zma (zupd w 93 41 (w 93 41 - 1)) 7 0 0) := zMP.ma (w := zupd w 93 41 (w 93 41 - 1)) hm
            have m2 := m1.go
            exact ziT g3 ⟨fun _ => by omega, ⟨m1.1, m1.2.1⟩, ⟨m2.1, m2.2.1, m2.2.2⟩, ih (zcS w) (zcS_MP hm) (zcS_MS g1 hs g) (by rw [zcS_41]; omega) h⟩
          · rw [if_neg fun q => g3 q.2.2.2] at h; exact ziF g3 h
        · rw [if_neg fun q => g2 q.2.2.1] at h; exact ziF g2 h
      · rw [if_neg fun q => g1 q.2.1] at h; exact ziF g1 h
    · rw [if_neg fun q => g q.1] at h; exact ziF g h
/-! Model.closes -/
set_option maxRecDepth 100000 in
theorem zk329_93 (w : zW) (K : zK) (h : (zMP w ∧ zMS w) ∧ (K (0, none) (zCl 2 w) 238)) : zcall 329 [(2, 93)] w 238 K := by
  obtain ⟨hg, h⟩ := h
  have s := hg.2
  unfold zMS at s
  exact zk329_L0 2 w hg.1 hg.2 (by omega) h
noncomputable def zb329 (l0 : List zV) (w : zW) (K : zK) : Prop := cond (zpe (zar l0 0) 93) ((zMP w ∧ zMS w) ∧ (K (0, none) (zCl 2 w) 238)) (False)
noncomputable def zT234 : zSum := zsm1 329 [2] zb329 zT233
theorem zT234_ok : zSok zT234 := zsm1_ok zT233_ok fun l0 w K h => by
  unfold zb329 at h
  cases q0 : zpe (zar l0 0) 93 with
  | true =>
    rw [q0, cond_true] at h
    have e : zar l0 0 = 93 := zpe_e q0
    show zcall 329 [(2, zar l0 0)] w 238 K
    rw [e]
    exact zk329_93  w K h
  | false =>
  rw [q0, cond_false] at h
  exact h.elim
theorem zma_ne {w : zW} {c a b : Int} {p : Nat} (h : p ≠ 93 ∧ p ≠ 109 ∧ p ≠ 110 ∧ p ≠ 111) : zma w c a b p = w p := by
  unfold zma
  rw [zfill_no h.1, zfill_no h.2.2.2, zfill_no h.2.2.1, zfill_no h.2.1]
theorem zcb_ne {w : zW} {p : Nat} (h : p ≠ 93) : zcb w p = w p := by
  unfold zcb zgg zcq4 zcq1
  rw [zfill_no h, zfill_no h, zfill_no h]
theorem zms_ne {w : zW} {c : Int} {p : Nat} (h : p ≠ 93) : zms w c p = w p := zfill_no h
theorem zmnu_ne {w : zW} {a b : Int} {p : Nat} (h : p ≠ 93) : zmnu w a b p = w p := zfill_no h
theorem zmK_ne {w : zW} {p : Nat} (h : p ≠ 93 ∧ p ≠ 109 ∧ p ≠ 110 ∧ p ≠ 111) : zmK w p = w p := by
  unfold zmK zmkk zmO zmK1
  repeat' split
  all_goals (repeat (first | rw [zma_ne h] | rw [zms_ne h.1] | rw [zmnu_ne h.1] | rw [zcb_ne h.1] | rw [zmgo_ne h.1] | rw [zwr_ne h.1] | rw [zune h.1]))
theorem zcS_ne {w : zW} {p : Nat} (h : p ≠ 93 ∧ p ≠ 109 ∧ p ≠ 110 ∧ p ≠ 111) : zcS w p = w p := by
  unfold zcS
  rw [zms_ne h.1, zmgo_ne h.1, zma_ne h, zune h.1]
theorem zCl_ne {p : Nat} (h : p ≠ 93 ∧ p ≠ 109 ∧ p ≠ 110 ∧ p ≠ 111) : ∀ (m : Nat) (w : zW), zCl m w p = w p := by
  intro m
  induction m with
  | zero => intros; rfl
  | succ m ih =>
    intro w
    have e : zCl (m + 1) w = if 0 < w 93 41 ∧ zcT w then zCl m (zcS w) else w := rfl
    rw [e]
    split
    · rw [ih, zcS_ne h]
    · rfl
theorem zmkk_MP {w : zW} {c : Int} (h : zMP w) : zMP (zmkk w c) := by
  unfold zmkk
  repeat' split
  · exact h.cb.nu.ma
  · exact h.cb.ma
  · exact h.ma
  · exact (zMP.ms (h.nu.ma) : zMP (zms (zma (zmnu w 1 10) c (w 93 7) 0) 40))
  · exact h.nu.ma
  · exact h.nu.ma
theorem zmE_rg (w : zW) : 0 ≤ zmE w := by
  unfold zmE
  repeat' split
  all_goals decide
theorem zmK_MP {w : zW} (h : zMP w) : zMP (zmK w) := by
  unfold zmK
  split
  · exact zmkk_MP (zMP.go (w := zupd w 93 40 (w 93 40 + 1)) h)
  · exact h.wr (zmE_rg w)
theorem zmkk_n {w : zW} {c : Int} : (zmkk w c 93 39 = w 93 39 ∨ zmkk w c 93 39 = w 93 39 + 1) ∧ zmkk w c 93 40 = w 93 40 ∧ zmkk w c 93 41 = w 93 41 + if c = 6 then 1 else 0 := by
  have m39 : ∀ v : zW, ∀ a b : Int, v 93 39 = w 93 39 → zma v c a b 93 39 = w 93 39 ∨ zma v c a b 93 39 = w 93 39 + 1 := fun v a b e => by
    by_cases g : v 93 8 = 0
    · rw [zma_39 g, e]; exact Or.inr rfl
    · rw [zma_n g, e]; exact Or.inl rfl
  have k0 : ∀ v : zW, ∀ a b : Int, c ≠ 6 → v 93 39 = w 93 39 → v 93 40 = w 93 40 → v 93 41 = w 93 41 → (zma v c a b 93 39 = w 93 39 ∨ zma v c a b 93 39 = w 93 39 + 1) ∧ zma v c a b 93 40 = w 93 40 ∧ zma v c a b 93 41 = w 93 41 + if c = 6 then 1 else 0 := fun v a b c6 e1 e2 e3 =>
    ⟨m39 v a b e1, (zma_j (by decide)).trans e2, (zma_j (by decide)).trans (by rw [if_neg c6, e3, Int.add_zero])⟩
  unfold zmkk
  by_cases g0 : c = 0 ∨ c = 2
  · rw [if_pos g0]
    by_cases g2 : c = 2
    · rw [if_pos g2]
      exact k0 _ _ _ (by omega) ((zmnu_j (by decide)).trans (zcb_j (by decide))) ((zmnu_j (by decide)).trans (zcb_j (by decide))) ((zmnu_j (by decide)).trans (zcb_j (by decide)))
    · rw [if_neg g2]
      exact k0 _ _ _ (by omega) (zcb_j (by decide)) (zcb_j (by decide)) (zcb_j (by decide))
  · rw [if_neg g0]
    by_cases g4 : c = 4
    · rw [if_pos g4]
      exact k0 _ _ _ (by omega) rfl rfl rfl
    · rw [if_neg g4]
      by_cases g6 : c = 6
      · rw [if_pos g6, if_pos g6]
        have a39 : zmO (zma (zmnu w 1 10) c (w 93 7) 0) 93 39 = zma (zmnu w 1 10) c (w 93 7) 0 93 39 := (zuat (w := zms (zma (zmnu w 1 10) c (w 93 7) 0) 40) 39).trans ((if_neg (by decide)).trans (zms_j (by decide)))
        have a40 : zmO (zma (zmnu w 1 10) c (w 93 7) 0) 93 40 = w 93 40 := (zuat (w := zms (zma (zmnu w 1 10) c (w 93 7) 0) 40) 40).trans ((if_neg (by decide)).trans ((zms_j (by decide)).trans ((zma_j (by decide)).trans (zmnu_j (by decide)))))
        have a41 : zms (zma (zmnu w 1 10) c (w 93 7) 0) 40 93 41 = w 93 41 := (zms_j (by decide)).trans ((zma_j (by decide)).trans (zmnu_j (by decide)))
        have b41 : zmO (zma (zmnu w 1 10) c (w 93 7) 0) 93 41 = zms (zma (zmnu w 1 10) c (w 93 7) 0) 40 93 41 + 1 := (zuat (w := zms (zma (zmnu w 1 10) c (w 93 7) 0) 40) 41).trans (if_pos rfl)
        rw [a39, a40, b41, a41]
        exact ⟨m39 _ _ _ (zmnu_j (by decide)), rfl, rfl⟩
      · rw [if_neg g6]
        by_cases g1 : c = 1
        · rw [if_pos g1]
          exact k0 _ _ _ g6 (zmnu_j (by decide)) (zmnu_j (by decide)) (zmnu_j (by decide))
        · rw [if_neg g1]
          exact k0 _ _ _ g6 (zmnu_j (by decide)) (zmnu_j (by decide)) (zmnu_j (by decide))
theorem zmK_MS {w : zW} (h : zMS w) : zMS (zmK w) := by
  unfold zMS at h
  unfold zmK
  by_cases e : zmE w = 0
  · rw [if_pos e]
    unfold zmE at e
    by_cases e1 : zcd w = -1
    · rw [if_pos e1] at e; exact absurd e (by decide)
    · rw [if_neg e1] at e
      by_cases e3 : zcd w = 6 ∧ w 93 41 = 2
      · rw [if_pos e3] at e; exact absurd e (by decide)
      · rw [if_neg e3] at e
        by_cases e5 : w 93 40 = 30
        · rw [if_pos e5] at e; exact absurd e (by decide)
        · obtain ⟨n1, n2, n3⟩ := zmkk_n (w := zmK1 w) (c := zcd w)
          have a1 : zmK1 w 93 39 = w 93 39 := zmgo_j (by decide)
          have a2 : zmK1 w 93 40 = w 93 40 + 1 := zmgo_j (by decide)
          have a3 : zmK1 w 93 41 = w 93 41 := zmgo_j (by decide)
          unfold zMS
          rw [a1] at n1
          rw [n2, n3, a2, a3]
          by_cases e6 : zcd w = 6
          · rw [if_pos e6]; omega
          · rw [if_neg e6]; omega
  · rw [if_neg e]
    unfold zMS
    rw [zwr_j (by decide), zwr_j (by decide), zwr_j (by decide)]
    exact h

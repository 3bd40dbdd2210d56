/-! ===== class and model read the same statements: the loops (written by wip/whole/gen_c.py) ===== -/
noncomputable def zrN' (a : zW) : zW := zupd (zrN a).2 13 2 ((zrN a).2 13 2 + 1)
noncomputable def zmN' (b : zW) : zW := zupd (zmT b) 93 27 (zmT b 93 27 + 1)
noncomputable def zRL : Nat → zW → Int × zW
  | 0, a => (1, a)
  | m + 1, a => if a 3 1 = -1 then (1, a) else if (zrN a).1 = 0 then (0, (zrN a).2) else zRL m (zrN' a)
noncomputable def zRp : Nat → zW → Prop
  | 0, _ => True
  | m + 1, a => a 3 1 = -1 ∨ ((zPT a ∧ (0 ≤ a 14 0 ∧ a 14 0 ≤ 12) ∧ 0 ≤ a 14 1 ∧ a 14 1 ≤ 20) ∧ ((zrT a).1 ≠ 0 → zPT (zrT a).2 ∧ 0 ≤ (zrT a).2 13 2 ∧ (zrT a).2 13 2 ≤ 800) ∧ ((zrN a).1 ≠ 0 → zRp m (zrN' a)))
noncomputable def zML : Nat → zW → zW
  | 0, b => b
  | m + 1, b => if b 93 8 = 0 ∧ b 93 6 ≠ 0 then zML m (zmN' b) else b
noncomputable def zMe : Nat → zW → Prop
  | 0, b => ¬ (b 93 8 = 0 ∧ b 93 6 ≠ 0)
  | m + 1, b => b 93 8 = 0 ∧ b 93 6 ≠ 0 → ((zMP b ∧ (0 ≤ b 95 1 ∧ b 95 1 ≤ 12) ∧ 0 ≤ b 96 1 ∧ b 96 1 ≤ 20) ∧ 0 ≤ b 93 27 ∧ b 93 27 ≤ 800) ∧ zMe m (zmN' b)
set_option maxRecDepth 100000 in
theorem zk46_L26 {K : zK}   : ∀ (m : Nat) (i : Int) (w : zW), (i + m = 800) → (0 ≤ i) → (zRp m w) → (if (zRL m w).1 = 0 then K (0, some (0, 0)) (zRL m w).2 238 else ∀ d1 : zV, zwp 46 81 [(2, 13), d1] [] (zRL m w).2 238 0 K) → zwp 46 26 [(2, 13), (0, i)] [] w 238 0 K := by
  
  intro m
  induction m with
  | zero =>
    intro i w  h1 h2 hp h
    refine (show (if i < 800 then if w 3 1 = (-1) then zwp 46 81 [(2, 13), (0, i)] [] w 238 0 K else (zPT w ∧ (0 ≤ w 14 0 ∧ w 14 0 ≤ 12) ∧ 0 ≤ w 14 1 ∧ w 14 1 ≤ 20) ∧ (if (zrT w).1 = 0 then K (0, some (0, 0)) ((zrT w).2) 238 else (zPT ((zrT w).2) ∧ (59 : Int) ≠ (-1 : Int)) ∧ (if (zps ((zrT w).2) (59 : Int)).1 = 0 then K (0, some (0, 0)) ((zps ((zrT w).2) (59 : Int)).2) 238 else zwp 46 26 [(2, 13), (0, z32 (i + 1))] [] (zupd ((zps ((zrT w).2) (59 : Int)).2) 13 2 (z32 ((((zrT w).2) 13 2) + 1))) 238 0 K)) else zwp 46 81 [(2, 13), (0, i)] [] w 238 0 K) → _ from fun h => show zwp 46 26 [(2, 13), (0, i)] [] w 238 0 K from zgo_imp zT197_ok (cut := fun pc => Nat.beq pc 7 || Nat.beq pc 24 || Nat.beq pc 26 || Nat.beq pc 41 || Nat.beq pc 48 || Nat.beq pc 60 || Nat.beq pc 75 || Nat.beq pc 81 || Nat.beq pc 88 || Nat.beq pc 100) 400 (show if i < 800 then zwp 46 41 [(2, 13), (0, i)] [(0, (-1)), (0, w 3 1)] w 238 0 K else zwp 46 81 [(2, 13), (0, i)] [] w 238 0 K from zmI (fun h => (fun h => show zwp 46 41 [(2, 13), (0, i)] [(0, (-1)), (0, w 3 1)] w 238 0 K from zgo_imp zT197_ok (cut := fun pc => Nat.beq pc 7 || Nat.beq pc 24 || Nat.beq pc 26 || Nat.beq pc 41 || Nat.beq pc 48 || Nat.beq pc 60 || Nat.beq pc 75 || Nat.beq pc 81 || Nat.beq pc 88 || Nat.beq pc 100) 400 (show if w 3 1 = (-1) then zwp 46 81 [(2, 13), (0, i)] [] w 238 0 K else (zPT w ∧ (0 ≤ w 14 0 ∧ w 14 0 ≤ 12) ∧ 0 ≤ w 14 1 ∧ w 14 1 ≤ 20) ∧ (zwp 46 48 [(2, 13), (0, i)] [(0, (zrT w).1)] ((zrT w).2) 238 0 K) from zmI (fun h => h) (fun h => zmA (fun h => (fun h => show zwp 46 48 [(2, 13), (0, i)] [(0, (zrT w).1)] ((zrT w).2) 238 0 K from zgo_imp zT197_ok (cut := fun pc => Nat.beq pc 7 || Nat.beq pc 24 || Nat.beq pc 26 || Nat.beq pc 41 || Nat.beq pc 48 || Nat.beq pc 60 || Nat.beq pc 75 || Nat.beq pc 81 || Nat.beq pc 88 || Nat.beq pc 100) 400 (show if (zrT w).1 = 0 then K (0, some (0, 0)) ((zrT w).2) 238 else (zPT ((zrT w).2) ∧ (59 : Int) ≠ (-1 : Int)) ∧ (zwp 46 60 [(2, 13), (0, i)] [(0, (zps ((zrT w).2) (59 : Int)).1)] ((zps ((zrT w).2) (59 : Int)).2) 238 0 K) from zmI (fun h => h) (fun h => zmA (fun h => (fun h => show zwp 46 60 [(2, 13), (0, i)] [(0, (zps ((zrT w).2) (59 : Int)).1)] ((zps ((zrT w).2) (59 : Int)).2) 238 0 K from zgo_imp zT197_ok (cut := fun pc => Nat.beq pc 7 || Nat.beq pc 24 || Nat.beq pc 26 || Nat.beq pc 41 || Nat.beq pc 48 || Nat.beq pc 60 || Nat.beq pc 75 || Nat.beq pc 81 || Nat.beq pc 88 || Nat.beq pc 100) 400 (show if (zps ((zrT w).2) (59 : Int)).1 = 0 then K (0, some (0, 0)) ((zps ((zrT w).2) (59 : Int)).2) 238 else zwp 46 75 [(2, 13), (0, i)] [] (zupd ((zps ((zrT w).2) (59 : Int)).2) 13 2 (z32 ((((zrT w).2) 13 2) + 1))) 238 0 K from zmI (fun h => h) (fun h => (fun h => show zwp 46 75 [(2, 13), (0, i)] [] (zupd ((zps ((zrT w).2) (59 : Int)).2) 13 2 (z32 ((((zrT w).2) 13 2) + 1))) 238 0 K from zgo_imp zT197_ok (cut := fun pc => Nat.beq pc 7 || Nat.beq pc 24 || Nat.beq pc 26 || Nat.beq pc 41 || Nat.beq pc 48 || Nat.beq pc 60 || Nat.beq pc 75 || Nat.beq pc 81 || Nat.beq pc 88 || Nat.beq pc 100) 400 (show zwp 46 26 [(2, 13), (0, z32 (i + 1))] [] (zupd ((zps ((zrT w).2) (59 : Int)).2) 13 2 (z32 ((((zrT w).2) 13 2) + 1))) 238 0 K from h)) h) h)) h) h) h)) h) h) h)) h) (fun h => h) h)) ?_
    rw [show zRL 0 w = (1, w) from rfl, if_neg (show ¬ ((1 : Int), w).1 = 0 from (by decide : ¬ (1 : Int) = 0))] at h
    exact ziF (by omega) (h _)
  | succ m ih =>
    intro i w  h1 h2 hp h
    refine (show (if i < 800 then if w 3 1 = (-1) then zwp 46 81 [(2, 13), (0, i)] [] w 238 0 K else (zPT w ∧ (0 ≤ w 14 0 ∧ w 14 0 ≤ 12) ∧ 0 ≤ w 14 1 ∧ w 14 1 ≤ 20) ∧ (if (zrT w).1 = 0 then K (0, some (0, 0)) ((zrT w).2) 238 else (zPT ((zrT w).2) ∧ (59 : Int) ≠ (-1 : Int)) ∧ (if (zps ((zrT w).2) (59 : Int)).1 = 0 then K (0, some (0, 0)) ((zps ((zrT w).2) (59 : Int)).2) 238 else zwp 46 26 [(2, 13), (0, z32 (i + 1))] [] (zupd ((zps ((zrT w).2) (59 : Int)).2) 13 2 (z32 ((((zrT w).2) 13 2) + 1))) 238 0 K)) else zwp 46 81 [(2, 13), (0, i)] [] w 238 0 K) → _ from fun h => show zwp 46 26 [(2, 13), (0, i)] [] w 238 0 K from zgo_imp zT197_ok (cut := fun pc => Nat.beq pc 7 || Nat.beq pc 24 || Nat.beq pc 26 || Nat.beq pc 41 || Nat.beq pc 48 || Nat.beq pc 60 || Nat.beq pc 75 || Nat.beq pc 81 || Nat.beq pc 88 || Nat.beq pc 100) 400 (show if i < 800 then zwp 46 41 [(2, 13), (0, i)] [(0, (-1)), (0, w 3 1)] w 238 0 K else zwp 46 81 [(2, 13), (0, i)] [] w 238 0 K from zmI (fun h => (fun h => show zwp 46 41 [(2, 13), (0, i)] [(0, (-1)), (0, w 3 1)] w 238 0 K from zgo_imp zT197_ok (cut := fun pc => Nat.beq pc 7 || Nat.beq pc 24 || Nat.beq pc 26 || Nat.beq pc 41 || Nat.beq pc 48 || Nat.beq pc 60 || Nat.beq pc 75 || Nat.beq pc 81 || Nat.beq pc 88 || Nat.beq pc 100) 400 (show if w 3 1 = (-1) then zwp 46 81 [(2, 13), (0, i)] [] w 238 0 K else (zPT w ∧ (0 ≤ w 14 0 ∧ w 14 0 ≤ 12) ∧ 0 ≤ w 14 1 ∧ w 14 1 ≤ 20) ∧ (zwp 46 48 [(2, 13), (0, i)] [(0, (zrT w).1)] ((zrT w).2) 238 0 K) from zmI (fun h => h) (fun h => zmA (fun h => (fun h => show zwp 46 48 [(2, 13), (0, i)] [(0, (zrT w).1)] ((zrT w).2) 238 0 K from zgo_imp zT197_ok (cut := fun pc => Nat.beq pc 7 || Nat.beq pc 24 || Nat.beq pc 26 || Nat.beq pc 41 || Nat.beq pc 48 || Nat.beq pc 60 || Nat.beq pc 75 || Nat.beq pc 81 || Nat.beq pc 88 || Nat.beq pc 100) 400 (show if (zrT w).1 = 0 then K (0, some (0, 0)) ((zrT w).2) 238 else (zPT ((zrT w).2) ∧ (59 : Int) ≠ (-1 : Int)) ∧ (zwp 46 60 [(2, 13), (0, i)] [(0, (zps ((zrT w).2) (59 : Int)).1)] ((zps ((zrT w).2) (59 : Int)).2) 238 0 K) from zmI (fun h => h) (fun h => zmA (fun h => (fun h => show zwp 46 60 [(2, 13), (0, i)] [(0, (zps ((zrT w).2) (59 : Int)).1)] ((zps ((zrT w).2) (59 : Int)).2) 238 0 K from zgo_imp zT197_ok (cut := fun pc => Nat.beq pc 7 || Nat.beq pc 24 || Nat.beq pc 26 || Nat.beq pc 41 || Nat.beq pc 48 || Nat.beq pc 60 || Nat.beq pc 75 || Nat.beq pc 81 || Nat.beq pc 88 || Nat.beq pc 100) 400 (show if (zps ((zrT w).2) (59 : Int)).1 = 0 then K (0, some (0, 0)) ((zps ((zrT w).2) (59 : Int)).2) 238 else zwp 46 75 [(2, 13), (0, i)] [] (zupd ((zps ((zrT w).2) (59 : Int)).2) 13 2 (z32 ((((zrT w).2) 13 2) + 1))) 238 0 K from zmI (fun h => h) (fun h => (fun h => show zwp 46 75 [(2, 13), (0, i)] [] (zupd ((zps ((zrT w).2) (59 : Int)).2) 13 2 (z32 ((((zrT w).2) 13 2) + 1))) 238 0 K from zgo_imp zT197_ok (cut := fun pc => Nat.beq pc 7 || Nat.beq pc 24 || Nat.beq pc 26 || Nat.beq pc 41 || Nat.beq pc 48 || Nat.beq pc 60 || Nat.beq pc 75 || Nat.beq pc 81 || Nat.beq pc 88 || Nat.beq pc 100) 400 (show zwp 46 26 [(2, 13), (0, z32 (i + 1))] [] (zupd ((zps ((zrT w).2) (59 : Int)).2) 13 2 (z32 ((((zrT w).2) 13 2) + 1))) 238 0 K from h)) h) h)) h) h) h)) h) h) h)) h) (fun h => h) h)) ?_
    have e : zRL (m + 1) w = if w 3 1 = -1 then (1, w) else if (zrN w).1 = 0 then (0, (zrN w).2) else zRL m (zrN' w) := rfl
    rw [z32_id (x := i + 1) ⟨by omega, by omega⟩]
    refine ziT (by omega) ?_
    by_cases g : w 3 1 = -1
    · have e2 : zRL (m + 1) w = (1, w) := e.trans (if_pos g)
      rw [e2, if_neg (show ¬ ((1 : Int), w).1 = 0 from (by decide : ¬ (1 : Int) = 0))] at h
      exact ziT g (h _)
    · rcases hp with hp | ⟨hp, hq, hr⟩
      · exact (g hp).elim
      · refine ziF g ⟨hp, ?_⟩
        by_cases g1 : (zrT w).1 = 0
        · have en : zrN w = (0, (zrT w).2) := if_pos g1
          have e2 : zRL (m + 1) w = (0, (zrT w).2) := e.trans ((if_neg g).trans (by rw [en]; exact if_pos rfl))
          rw [e2, if_pos (show ((0 : Int), (zrT w).2).1 = 0 from rfl)] at h
          exact ziT g1 h
        · have en : zrN w = zps (zrT w).2 59 := if_neg g1
          have q1 := hq g1
          refine ziF g1 ⟨⟨q1.1, by decide⟩, ?_⟩
          by_cases g2 : (zps (zrT w).2 59).1 = 0
          · have e2 : zRL (m + 1) w = (0, (zps (zrT w).2 59).2) := e.trans ((if_neg g).trans (by rw [en]; exact if_pos g2))
            rw [e2, if_pos (show ((0 : Int), (zps (zrT w).2 59).2).1 = 0 from rfl)] at h
            exact ziT g2 h
          · have e2 : zRL (m + 1) w = zRL m (zrN' w) := e.trans ((if_neg g).trans (if_neg (by rw [en]; exact g2)))
            rw [e2] at h
            have q2 := hr (by rw [en]; exact g2)
            refine ziF g2 ?_
            have es : z32 ((zrT w).2 13 2 + 1) = (zrT w).2 13 2 + 1 := z32_id ⟨by omega, by omega⟩
            rw [es]
            have ew : zupd (zps (zrT w).2 59).2 13 2 ((zrT w).2 13 2 + 1) = zrN' w := by
              unfold zrN'
              rw [en]; rfl
            rw [ew]
            exact ih (i + 1) (zrN' w) (by omega) (by omega) q2 h
set_option maxRecDepth 100000 in
theorem zk234_L25 {K : zK}   : ∀ (m : Nat) (w : zW) (d1 : zV), (zMe m w) → (zwp 234 56 [(2, 93), (9, 0)] [] (zML m w) 238 0 K) → zwp 234 25 [(2, 93), d1] [] w 238 0 K := by
  
  intro m
  induction m with
  | zero =>
    intro  w d1 hp h
    refine (show (if w 93 8 = 0 then if w 93 6 = 0 then zwp 234 56 [(2, 93), (9, 0)] [] w 238 0 K else (zMP w ∧ w 93 8 = (0 : Int) ∧ (0 ≤ w 95 1 ∧ w 95 1 ≤ 12) ∧ 0 ≤ w 96 1 ∧ w 96 1 ≤ 20) ∧ (zwp 234 25 [(2, 93), (9, 0)] [] (zupd (zmT w) 93 27 (z32 ((((zmT w)) 93 27) + 1))) 238 0 K) else zwp 234 56 [(2, 93), (9, 0)] [] w 238 0 K) → _ from fun h => show zwp 234 25 [(2, 93), d1] [] w 238 0 K from zgo_imp zT197_ok (cut := fun pc => Nat.beq pc 4 || Nat.beq pc 21 || Nat.beq pc 25 || Nat.beq pc 29 || Nat.beq pc 43 || Nat.beq pc 56 || Nat.beq pc 58 || Nat.beq pc 72 || Nat.beq pc 81 || Nat.beq pc 90 || Nat.beq pc 100 || Nat.beq pc 114 || Nat.beq pc 131 || Nat.beq pc 145 || Nat.beq pc 162) 400 (show if w 93 8 = 0 then zwp 234 29 [(2, 93), (9, 0)] [(0, 1)] w 238 0 K else zwp 234 29 [(2, 93), (9, 0)] [(0, 0)] w 238 0 K from zmI (fun h => (fun h => show zwp 234 29 [(2, 93), (9, 0)] [(0, 1)] w 238 0 K from zgo_imp zT197_ok (cut := fun pc => Nat.beq pc 4 || Nat.beq pc 21 || Nat.beq pc 25 || Nat.beq pc 29 || Nat.beq pc 43 || Nat.beq pc 56 || Nat.beq pc 58 || Nat.beq pc 72 || Nat.beq pc 81 || Nat.beq pc 90 || Nat.beq pc 100 || Nat.beq pc 114 || Nat.beq pc 131 || Nat.beq pc 145 || Nat.beq pc 162) 400 (show if w 93 6 = 0 then zwp 234 56 [(2, 93), (9, 0)] [] w 238 0 K else (zMP w ∧ w 93 8 = (0 : Int) ∧ (0 ≤ w 95 1 ∧ w 95 1 ≤ 12) ∧ 0 ≤ w 96 1 ∧ w 96 1 ≤ 20) ∧ (zwp 234 43 [(2, 93), (9, 0)] [] (zmT w) 238 0 K) from zmI (fun h => h) (fun h => zmA (fun h => (fun h => show zwp 234 43 [(2, 93), (9, 0)] [] (zmT w) 238 0 K from zgo_imp zT197_ok (cut := fun pc => Nat.beq pc 4 || Nat.beq pc 21 || Nat.beq pc 25 || Nat.beq pc 29 || Nat.beq pc 43 || Nat.beq pc 56 || Nat.beq pc 58 || Nat.beq pc 72 || Nat.beq pc 81 || Nat.beq pc 90 || Nat.beq pc 100 || Nat.beq pc 114 || Nat.beq pc 131 || Nat.beq pc 145 || Nat.beq pc 162) 400 (show zwp 234 25 [(2, 93), (9, 0)] [] (zupd (zmT w) 93 27 (z32 ((((zmT w)) 93 27) + 1))) 238 0 K from h)) h) h) h)) h) (fun h => (fun h => show zwp 234 29 [(2, 93), (9, 0)] [(0, 0)] w 238 0 K from zgo_imp zT197_ok (cut := fun pc => Nat.beq pc 4 || Nat.beq pc 21 || Nat.beq pc 25 || Nat.beq pc 29 || Nat.beq pc 43 || Nat.beq pc 56 || Nat.beq pc 58 || Nat.beq pc 72 || Nat.beq pc 81 || Nat.beq pc 90 || Nat.beq pc 100 || Nat.beq pc 114 || Nat.beq pc 131 || Nat.beq pc 145 || Nat.beq pc 162) 400 (show zwp 234 56 [(2, 93), (9, 0)] [] w 238 0 K from h)) h) h)) ?_
    have h : zwp 234 56 [(2, 93), (9, 0)] [] w 238 0 K := h
    have hp : ¬ (w 93 8 = 0 ∧ w 93 6 ≠ 0) := hp
    by_cases g : w 93 8 = 0
    · refine ziT g ?_
      by_cases g2 : w 93 6 = 0
      · exact ziT g2 h
      · exact (hp ⟨g, g2⟩).elim
    · exact ziF g h
  | succ m ih =>
    intro  w d1 hp h
    refine (show (if w 93 8 = 0 then if w 93 6 = 0 then zwp 234 56 [(2, 93), (9, 0)] [] w 238 0 K else (zMP w ∧ w 93 8 = (0 : Int) ∧ (0 ≤ w 95 1 ∧ w 95 1 ≤ 12) ∧ 0 ≤ w 96 1 ∧ w 96 1 ≤ 20) ∧ (zwp 234 25 [(2, 93), (9, 0)] [] (zupd (zmT w) 93 27 (z32 ((((zmT w)) 93 27) + 1))) 238 0 K) else zwp 234 56 [(2, 93), (9, 0)] [] w 238 0 K) → _ from fun h => show zwp 234 25 [(2, 93), d1] [] w 238 0 K from zgo_imp zT197_ok (cut := fun pc => Nat.beq pc 4 || Nat.beq pc 21 || Nat.beq pc 25 || Nat.beq pc 29 || Nat.beq pc 43 || Nat.beq pc 56 || Nat.beq pc 58 || Nat.beq pc 72 || Nat.beq pc 81 || Nat.beq pc 90 || Nat.beq pc 100 || Nat.beq pc 114 || Nat.beq pc 131 || Nat.beq pc 145 || Nat.beq pc 162) 400 (show if w 93 8 = 0 then zwp 234 29 [(2, 93), (9, 0)] [(0, 1)] w 238 0 K else zwp 234 29 [(2, 93), (9, 0)] [(0, 0)] w 238 0 K from zmI (fun h => (fun h => show zwp 234 29 [(2, 93), (9, 0)] [(0, 1)] w 238 0 K from zgo_imp zT197_ok (cut := fun pc => Nat.beq pc 4 || Nat.beq pc 21 || Nat.beq pc 25 || Nat.beq pc 29 || Nat.beq pc 43 || Nat.beq pc 56 || Nat.beq pc 58 || Nat.beq pc 72 || Nat.beq pc 81 || Nat.beq pc 90 || Nat.beq pc 100 || Nat.beq pc 114 || Nat.beq pc 131 || Nat.beq pc 145 || Nat.beq pc 162) 400 (show if w 93 6 = 0 then zwp 234 56 [(2, 93), (9, 0)] [] w 238 0 K else (zMP w ∧ w 93 8 = (0 : Int) ∧ (0 ≤ w 95 1 ∧ w 95 1 ≤ 12) ∧ 0 ≤ w 96 1 ∧ w 96 1 ≤ 20) ∧ (zwp 234 43 [(2, 93), (9, 0)] [] (zmT w) 238 0 K) from zmI (fun h => h) (fun h => zmA (fun h => (fun h => show zwp 234 43 [(2, 93), (9, 0)] [] (zmT w) 238 0 K from zgo_imp zT197_ok (cut := fun pc => Nat.beq pc 4 || Nat.beq pc 21 || Nat.beq pc 25 || Nat.beq pc 29 || Nat.beq pc 43 || Nat.beq pc 56 || Nat.beq pc 58 || Nat.beq pc 72 || Nat.beq pc 81 || Nat.beq pc 90 || Nat.beq pc 100 || Nat.beq pc 114 || Nat.beq pc 131 || Nat.beq pc 145 || Nat.beq pc 162) 400 (show zwp 234 25 [(2, 93), (9, 0)] [] (zupd (zmT w) 93 27 (z32 ((((zmT w)) 93 27) + 1))) 238 0 K from h)) h) h) h)) h) (fun h => (fun h => show zwp 234 29 [(2, 93), (9, 0)] [(0, 0)] w 238 0 K from zgo_imp zT197_ok (cut := fun pc => Nat.beq pc 4 || Nat.beq pc 21 || Nat.beq pc 25 || Nat.beq pc 29 || Nat.beq pc 43 || Nat.beq pc 56 || Nat.beq pc 58 || Nat.beq pc 72 || Nat.beq pc 81 || Nat.beq pc 90 || Nat.beq pc 100 || Nat.beq pc 114 || Nat.beq pc 131 || Nat.beq pc 145 || Nat.beq pc 162) 400 (show zwp 234 56 [(2, 93), (9, 0)] [] w 238 0 K from h)) h) h)) ?_
    have e : zML (m + 1) w = if w 93 8 = 0 ∧ w 93 6 ≠ 0 then zML m (zmN' w) else w := rfl
    rw [e] at h
    by_cases g : w 93 8 = 0
    · refine ziT g ?_
      by_cases g2 : w 93 6 = 0
      · rw [if_neg fun q => q.2 g2] at h
        exact ziT g2 h
      · rw [if_pos ⟨g, g2⟩] at h
        obtain ⟨⟨⟨p1, p2, p3⟩, p4⟩, p5⟩ := hp ⟨g, g2⟩
        refine ziF g2 ⟨⟨p1, g, p2, p3⟩, ?_⟩
        have e27 := zmT_27 w
        rw [z32_id (x := zmT w 93 27 + 1) ⟨by omega, by omega⟩]
        exact ih (zmN' w) _ p5 h
    · rw [if_neg fun q => g q.1] at h
      exact ziF g h
theorem zJL : ∀ (m : Nat) (a b : zW), zSy a b → zDr a b → b 93 8 = 0 → a 1 1 - a 3 2 ≤ m → 0 ≤ a 13 2 → a 13 2 + m ≤ 800 → zRp m a ∧ zMe m b ∧ zOut (zRL m a) (zML m b) ∧ ((zRL m a).1 = 1 → (zRL m a).2 3 1 = -1) := by
  intro m
  induction m with
  | zero =>
    intro a b h d g l s0 s1
    have k : a 3 1 = -1 := by
      rcases h.2.2.2.2 with q | q
      · exact q.1
      · have := h.1.2.2.1
        have := h.2.2.2.1
        omega
    have k6 := h.kd.1.mp k
    exact ⟨True.intro, fun q => q.2 k6, Or.inl ⟨rfl, g, h, d⟩, fun _ => k⟩
  | succ m ih =>
    intro a b h d g l s0 s1
    have eL : zRL (m + 1) a = if a 3 1 = -1 then (1, a) else if (zrN a).1 = 0 then (0, (zrN a).2) else zRL m (zrN' a) := rfl
    have eM : zML (m + 1) b = if b 93 8 = 0 ∧ b 93 6 ≠ 0 then zML m (zmN' b) else b := rfl
    by_cases k : a 3 1 = -1
    · have k6 := h.kd.1.mp k
      rw [eL, if_pos k, eM, if_neg fun q => q.2 k6]
      exact ⟨Or.inl k, fun q => (q.2 k6).elim, Or.inl ⟨rfl, g, h, d⟩, fun _ => k⟩
    · have k6 : b 93 6 ≠ 0 := fun q => k (h.kd.1.mpr q)
      have hn := d.1.1
      have hs := d.2.2.2
      have pre1 : zPT a ∧ (0 ≤ a 14 0 ∧ a 14 0 ≤ 12) ∧ 0 ≤ a 14 1 ∧ a 14 1 ≤ 20 := ⟨h.2.2.1, by omega, by omega⟩
      have pre2 : (zMP b ∧ (0 ≤ b 95 1 ∧ b 95 1 ≤ 12) ∧ 0 ≤ b 96 1 ∧ b 96 1 ≤ 20) ∧ 0 ≤ b 93 27 ∧ b 93 27 ≤ 800 := ⟨⟨h.mp (by omega), by omega, by omega⟩, by omega⟩
      rw [eL, if_neg k, eM, if_pos (show b 93 8 = 0 ∧ b 93 6 ≠ 0 from ⟨g, k6⟩)]
      obtain ⟨v, o1, ev⟩ := zJT h d g k
      have o2 : zOut (zrN a) (zmT b) := by rw [ev]; exact o1.ms
      have pre3 : (zrT a).1 ≠ 0 → zPT (zrT a).2 ∧ 0 ≤ (zrT a).2 13 2 ∧ (zrT a).2 13 2 ≤ 800 := fun q => by
        rcases o1 with o | o
        · have e27 := zmT_27 b
          rw [ev, zms_27] at e27
          have := o.2.2.2.2.2.2
          exact ⟨o.2.2.1.2.2.1, by omega⟩
        · exact (q o.1).elim
      rcases o2 with ⟨q1, q2, q3, q4⟩ | ⟨q1, q2⟩
      · have y := zrN_y (w := a) (by rw [q1]; decide)
        have e27 := zmT_27 b
        have e13 := q4.2.2.2
        have e1 : (zrN a).2 1 = a 1 := zrN_ne a (by decide) (by decide) (by decide) (by decide) (by decide) (by decide) (by decide) (by decide)
        have lt : a 3 2 < a 3 3 := by
          rcases h.2.2.2.2 with q | q
          · exact (k q.1).elim
          · exact q.2.2.1
        have s' : zSy (zrN' a) (zmN' b) := (q3.ta rfl rfl rfl rfl rfl rfl rfl rfl).tb rfl rfl rfl rfl rfl rfl rfl
        have d' : zDr (zrN' a) (zmN' b) := ⟨q4.1, q4.2.1, q4.2.2.1, by show (zrN a).2 13 2 + 1 = zmT b 93 27 + 1; rw [e13]⟩
        obtain ⟨i1, i2, i3, i4⟩ := ih (zrN' a) (zmN' b) s' d' q2 (by show (zrN a).2 1 1 - (zrN a).2 3 2 ≤ m; rw [e1]; omega) (by show 0 ≤ (zrN a).2 13 2 + 1; omega) (by show (zrN a).2 13 2 + 1 + m ≤ 800; omega)
        rw [if_neg (show ¬ (zrN a).1 = 0 by rw [q1]; decide)]
        exact ⟨Or.inr ⟨pre1, pre3, fun _ => i1⟩, fun _ => ⟨pre2, i2⟩, i3, i4⟩
      · rw [if_pos q1]
        have n8 : ¬ (zmN' b 93 8 = 0 ∧ zmN' b 93 6 ≠ 0) := fun q => by
          have := q2.1
          have q8 : zmT b 93 8 = 0 := q.1
          omega
        have eM2 : zML m (zmN' b) = zmN' b := by
          cases m with
          | zero => rfl
          | succ m => exact if_neg n8
        have me : zMe m (zmN' b) := by
          cases m with
          | zero => exact n8
          | succ m => exact fun q => (n8 q).elim
        rw [eM2]
        exact ⟨Or.inr ⟨pre1, pre3, fun q => (q q1).elim⟩, fun _ => ⟨pre2, me⟩, Or.inr ⟨rfl, q2⟩, fun q => absurd (show (0 : Int) = 1 from q) (by decide)⟩

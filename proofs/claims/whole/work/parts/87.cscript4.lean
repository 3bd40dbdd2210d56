/-! ===== the class reads a script (written by wip/whole/gen_c.py) ===== -/
theorem zae_ne {w : zW} {v c n : Int} {p : Nat} (h : p ≠ 23 ∧ p ≠ 24 ∧ p ≠ 25 ∧ p ≠ 26) : zae w v c n p = w p := by
  unfold zae
  rw [zune h.1, zune h.2.2.2, zune h.2.2.1, zune h.2.1]
theorem zkR_ne {w : zW} {p : Nat} (h3 : p ≠ 3) (h : p ≠ 23 ∧ p ≠ 24 ∧ p ≠ 25 ∧ p ≠ 26) : (zkR w).2 p = w p := by
  unfold zkR
  repeat' split
  all_goals (try dsimp only) <;> (repeat (first | rw [zae_ne h] | rw [zpn_ne h3] | rw [zad_ne h3] | rw [zune h3]))
theorem zkP_ne {w : zW} {p : Nat} (h3 : p ≠ 3) (h : p ≠ 23 ∧ p ≠ 24 ∧ p ≠ 25 ∧ p ≠ 26) (h8 : p ≠ 28) : (zkP w).2 p = w p := by
  unfold zkP zkO zkB zoR zoV zcR zcV zkN
  repeat' split
  all_goals (try dsimp only) <;> (repeat (first | rw [zps_ne h3] | rw [zkR_ne h3 h] | rw [zae_ne h] | rw [zpn_ne h3] | rw [zad_ne h3] | rw [zfl_ne h3] | rw [zune h.1] | rw [zune h8]))
noncomputable def zkL : Nat → zW → Int × zW
  | 0, w => (1, w)
  | m + 1, w => if w 3 1 ≠ -1 ∨ 0 < w 23 8 then (if (zkP w).1 = 0 then (0, (zkP w).2) else zkL m (zkP w).2) else (1, w)
def zsc0 (w : zW) : zW := zad (zupd (zupd (zupd (zupd (zupd (zupd w 23 6 0) 23 7 0) 23 8 0) 3 7 0) 3 8 (-1)) 3 3 0)
theorem zsc0_PT {w : zW} (h : 0 ≤ w 1 1 ∧ w 1 1 ≤ 800) : zPT (zsc0 w) := zPT_ad (w := zupd (zupd (zupd (zupd (zupd (zupd w 23 6 0) 23 7 0) 23 8 0) 3 7 0) 3 8 (-1)) 3 3 0) h ⟨Int.le_refl 0, h.1⟩
theorem zsc0_SK (w : zW) : zSK (zsc0 w) := show ((0 : Int) ≤ 0 ∧ (0 : Int) ≤ 0 ∧ (0 : Int) ≤ 2) ∧ (0 : Int) + 0 ≤ 2 * 0 ∧ (0 : Int) ≤ 30 by decide
theorem zkL_01 : ∀ (m : Nat) (w : zW), (zkL m w).1 = 0 ∨ (zkL m w).1 = 1 := by
  intro m
  induction m with
  | zero => exact fun w => Or.inr rfl
  | succ m ih =>
    intro w
    have e : zkL (m + 1) w = if w 3 1 ≠ -1 ∨ 0 < w 23 8 then (if (zkP w).1 = 0 then (0, (zkP w).2) else zkL m (zkP w).2) else (1, w) := rfl
    rw [e]
    by_cases g : w 3 1 ≠ -1 ∨ 0 < w 23 8
    · rw [if_pos g]
      by_cases g2 : (zkP w).1 = 0
      · rw [if_pos g2]; exact Or.inl rfl
      · rw [if_neg g2]; exact ih _
    · rw [if_neg g]; exact Or.inr rfl
set_option maxRecDepth 100000 in
theorem zk75_L24 {K : zK}   : ∀ (m : Nat) (i : Int) (w : zW), (i + m = 800) → (0 ≤ i) → (zPT w) → (zSK w) → (0 ≤ w 4 0 ∧ w 4 0 ≤ 12) → (K (0, some (0, (zkL m w).1)) (zkL m w).2 238) → zwp 75 24 [(2, 23), (2, 4), (0, i)] [] w 238 0 K := by
  
  intro m
  induction m with
  | zero =>
    intro i w  h1 h2 t0 s0 hn h
    refine (show (if i < 800 then if w 3 1 = (-1) then if 0 < w 23 8 then (zPT w ∧ zSK w ∧ 0 ≤ w 4 0 ∧ w 4 0 ≤ 12) ∧ (if (zkP w).1 = 0 then K (0, some (0, 0)) ((zkP w).2) 238 else zwp 75 24 [(2, 23), (2, 4), (0, z32 (i + 1))] [] ((zkP w).2) 238 0 K) else K (0, some (0, 1)) w 238 else (zPT w ∧ zSK w ∧ 0 ≤ w 4 0 ∧ w 4 0 ≤ 12) ∧ (if (zkP w).1 = 0 then K (0, some (0, 0)) ((zkP w).2) 238 else zwp 75 24 [(2, 23), (2, 4), (0, z32 (i + 1))] [] ((zkP w).2) 238 0 K) else K (0, some (0, 1)) w 238) → _ from fun h => show zwp 75 24 [(2, 23), (2, 4), (0, i)] [] w 238 0 K from zgo_imp zT224_ok (cut := fun pc => Nat.beq pc 15 || Nat.beq pc 22 || Nat.beq pc 24 || Nat.beq pc 39 || Nat.beq pc 54) 400 (show if i < 800 then zwp 75 39 [(2, 23), (2, 4), (0, i)] [(0, (-1)), (0, w 3 1)] w 238 0 K else K (0, some (0, 1)) w 238 from zmI (fun h => (fun h => show zwp 75 39 [(2, 23), (2, 4), (0, i)] [(0, (-1)), (0, w 3 1)] w 238 0 K from zgo_imp zT224_ok (cut := fun pc => Nat.beq pc 15 || Nat.beq pc 22 || Nat.beq pc 24 || Nat.beq pc 39 || Nat.beq pc 54) 400 (show if w 3 1 = (-1) then if 0 < w 23 8 then (zPT w ∧ zSK w ∧ 0 ≤ w 4 0 ∧ w 4 0 ≤ 12) ∧ (zwp 75 54 [(2, 23), (2, 4), (0, i)] [(0, (zkP w).1)] ((zkP w).2) 238 0 K) else K (0, some (0, 1)) w 238 else (zPT w ∧ zSK w ∧ 0 ≤ w 4 0 ∧ w 4 0 ≤ 12) ∧ (zwp 75 54 [(2, 23), (2, 4), (0, i)] [(0, (zkP w).1)] ((zkP w).2) 238 0 K) from zmI (fun h => zmI (fun h => zmA (fun h => (fun h => show zwp 75 54 [(2, 23), (2, 4), (0, i)] [(0, (zkP w).1)] ((zkP w).2) 238 0 K from zgo_imp zT224_ok (cut := fun pc => Nat.beq pc 15 || Nat.beq pc 22 || Nat.beq pc 24 || Nat.beq pc 39 || Nat.beq pc 54) 400 (show if (zkP w).1 = 0 then K (0, some (0, 0)) ((zkP w).2) 238 else zwp 75 24 [(2, 23), (2, 4), (0, z32 (i + 1))] [] ((zkP w).2) 238 0 K from h)) h) h) (fun h => h) h) (fun h => zmA (fun h => (fun h => show zwp 75 54 [(2, 23), (2, 4), (0, i)] [(0, (zkP w).1)] ((zkP w).2) 238 0 K from zgo_imp zT224_ok (cut := fun pc => Nat.beq pc 15 || Nat.beq pc 22 || Nat.beq pc 24 || Nat.beq pc 39 || Nat.beq pc 54) 400 (show if (zkP w).1 = 0 then K (0, some (0, 0)) ((zkP w).2) 238 else zwp 75 24 [(2, 23), (2, 4), (0, z32 (i + 1))] [] ((zkP w).2) 238 0 K from h)) h) h) h)) h) (fun h => h) h)) ?_
    exact ziF (by omega) h
  | succ m ih =>
    intro i w  h1 h2 t0 s0 hn h
    refine (show (if i < 800 then if w 3 1 = (-1) then if 0 < w 23 8 then (zPT w ∧ zSK w ∧ 0 ≤ w 4 0 ∧ w 4 0 ≤ 12) ∧ (if (zkP w).1 = 0 then K (0, some (0, 0)) ((zkP w).2) 238 else zwp 75 24 [(2, 23), (2, 4), (0, z32 (i + 1))] [] ((zkP w).2) 238 0 K) else K (0, some (0, 1)) w 238 else (zPT w ∧ zSK w ∧ 0 ≤ w 4 0 ∧ w 4 0 ≤ 12) ∧ (if (zkP w).1 = 0 then K (0, some (0, 0)) ((zkP w).2) 238 else zwp 75 24 [(2, 23), (2, 4), (0, z32 (i + 1))] [] ((zkP w).2) 238 0 K) else K (0, some (0, 1)) w 238) → _ from fun h => show zwp 75 24 [(2, 23), (2, 4), (0, i)] [] w 238 0 K from zgo_imp zT224_ok (cut := fun pc => Nat.beq pc 15 || Nat.beq pc 22 || Nat.beq pc 24 || Nat.beq pc 39 || Nat.beq pc 54) 400 (show if i < 800 then zwp 75 39 [(2, 23), (2, 4), (0, i)] [(0, (-1)), (0, w 3 1)] w 238 0 K else K (0, some (0, 1)) w 238 from zmI (fun h => (fun h => show zwp 75 39 [(2, 23), (2, 4), (0, i)] [(0, (-1)), (0, w 3 1)] w 238 0 K from zgo_imp zT224_ok (cut := fun pc => Nat.beq pc 15 || Nat.beq pc 22 || Nat.beq pc 24 || Nat.beq pc 39 || Nat.beq pc 54) 400 (show if w 3 1 = (-1) then if 0 < w 23 8 then (zPT w ∧ zSK w ∧ 0 ≤ w 4 0 ∧ w 4 0 ≤ 12) ∧ (zwp 75 54 [(2, 23), (2, 4), (0, i)] [(0, (zkP w).1)] ((zkP w).2) 238 0 K) else K (0, some (0, 1)) w 238 else (zPT w ∧ zSK w ∧ 0 ≤ w 4 0 ∧ w 4 0 ≤ 12) ∧ (zwp 75 54 [(2, 23), (2, 4), (0, i)] [(0, (zkP w).1)] ((zkP w).2) 238 0 K) from zmI (fun h => zmI (fun h => zmA (fun h => (fun h => show zwp 75 54 [(2, 23), (2, 4), (0, i)] [(0, (zkP w).1)] ((zkP w).2) 238 0 K from zgo_imp zT224_ok (cut := fun pc => Nat.beq pc 15 || Nat.beq pc 22 || Nat.beq pc 24 || Nat.beq pc 39 || Nat.beq pc 54) 400 (show if (zkP w).1 = 0 then K (0, some (0, 0)) ((zkP w).2) 238 else zwp 75 24 [(2, 23), (2, 4), (0, z32 (i + 1))] [] ((zkP w).2) 238 0 K from h)) h) h) (fun h => h) h) (fun h => zmA (fun h => (fun h => show zwp 75 54 [(2, 23), (2, 4), (0, i)] [(0, (zkP w).1)] ((zkP w).2) 238 0 K from zgo_imp zT224_ok (cut := fun pc => Nat.beq pc 15 || Nat.beq pc 22 || Nat.beq pc 24 || Nat.beq pc 39 || Nat.beq pc 54) 400 (show if (zkP w).1 = 0 then K (0, some (0, 0)) ((zkP w).2) 238 else zwp 75 24 [(2, 23), (2, 4), (0, z32 (i + 1))] [] ((zkP w).2) 238 0 K from h)) h) h) h)) h) (fun h => h) h)) ?_
    have e : zkL (m + 1) w = if w 3 1 ≠ -1 ∨ 0 < w 23 8 then (if (zkP w).1 = 0 then (0, (zkP w).2) else zkL m (zkP w).2) else (1, w) := rfl
    rw [z32_id (x := i + 1) ⟨by omega, by omega⟩]
    refine ziT (by omega) ?_
    have n := zkP_n t0 s0
    have n4 : (zkP w).2 4 = w 4 := zkP_ne (by decide) (by decide) (by decide)
    rw [e] at h
    by_cases g : w 3 1 = -1
    · refine ziT g ?_
      by_cases g2 : 0 < w 23 8
      · rw [if_pos (Or.inr g2)] at h
        refine ziT g2 ⟨⟨t0, s0, hn⟩, ?_⟩
        by_cases g3 : (zkP w).1 = 0
        · rw [if_pos g3] at h; exact ziT g3 h
        · rw [if_neg g3] at h; exact ziF g3 (ih (i + 1) (zkP w).2 (by omega) (by omega) n.1 n.2 (by rw [n4]; exact hn) h)
      · rw [if_neg fun q => q.elim (fun q => q g) g2] at h
        exact ziF g2 h
    · rw [if_pos (Or.inl g)] at h
      refine ziF g ⟨⟨t0, s0, hn⟩, ?_⟩
      by_cases g3 : (zkP w).1 = 0
      · rw [if_pos g3] at h; exact ziT g3 h
      · rw [if_neg g3] at h; exact ziF g3 (ih (i + 1) (zkP w).2 (by omega) (by omega) n.1 n.2 (by rw [n4]; exact hn) h)
/-! $Script.read -/
set_option maxRecDepth 100000 in
theorem zk75_23 (w : zW) (K : zK) (h : ((0 ≤ w 1 1 ∧ w 1 1 ≤ 800) ∧ 0 ≤ w 4 0 ∧ w 4 0 ≤ 12) ∧ (K (0, some (0, (zkL 800 (zsc0 w)).1)) ((zkL 800 (zsc0 w)).2) 238)) : zcall 75 [(2, 23), (2, 4), (9, 0)] w 238 K := by
  obtain ⟨hg, h⟩ := h
  refine (show (((0 ≤ (w 1 1) ∧ (w 1 1) ≤ 800) ∧ 0 ≤ (0 : Int) ∧ (0 : Int) ≤ (w 1 1)) ∧ (zwp 75 24 [(2, 23), (2, 4), (0, 0)] [] (zad (zupd (zupd (zupd (zupd (zupd (zupd w 23 6 0) 23 7 0) 23 8 0) 3 7 0) 3 8 (-1)) 3 3 0)) 238 0 K)) → _ from fun h => show zwp 75 0 [(2, 23), (2, 4), (9, 0)] [] w 238 0 K from zgo_imp zT224_ok (cut := fun pc => Nat.beq pc 15 || Nat.beq pc 22 || Nat.beq pc 24 || Nat.beq pc 39 || Nat.beq pc 54) 400 (show zwp 75 15 [(2, 23), (2, 4), (9, 0)] [] (zupd (zupd (zupd w 23 6 0) 23 7 0) 23 8 0) 238 0 K from (fun h => show zwp 75 15 [(2, 23), (2, 4), (9, 0)] [] (zupd (zupd (zupd w 23 6 0) 23 7 0) 23 8 0) 238 0 K from zgo_imp zT224_ok (cut := fun pc => Nat.beq pc 15 || Nat.beq pc 22 || Nat.beq pc 24 || Nat.beq pc 39 || Nat.beq pc 54) 400 (show ((0 ≤ (w 1 1) ∧ (w 1 1) ≤ 800) ∧ 0 ≤ (0 : Int) ∧ (0 : Int) ≤ (w 1 1)) ∧ (zwp 75 22 [(2, 23), (2, 4), (9, 0)] [] (zad (zupd (zupd (zupd (zupd (zupd (zupd w 23 6 0) 23 7 0) 23 8 0) 3 7 0) 3 8 (-1)) 3 3 0)) 238 0 K) from zmA (fun h => (fun h => show zwp 75 22 [(2, 23), (2, 4), (9, 0)] [] (zad (zupd (zupd (zupd (zupd (zupd (zupd w 23 6 0) 23 7 0) 23 8 0) 3 7 0) 3 8 (-1)) 3 3 0)) 238 0 K from zgo_imp zT224_ok (cut := fun pc => Nat.beq pc 15 || Nat.beq pc 22 || Nat.beq pc 24 || Nat.beq pc 39 || Nat.beq pc 54) 400 (show zwp 75 24 [(2, 23), (2, 4), (0, 0)] [] (zad (zupd (zupd (zupd (zupd (zupd (zupd w 23 6 0) 23 7 0) 23 8 0) 3 7 0) 3 8 (-1)) 3 3 0)) 238 0 K from h)) h) h)) h)) ?_
  exact ⟨⟨hg.1, by decide, hg.1.1⟩, zk75_L24 800 0 (zsc0 w) (by decide) (by decide) (zsc0_PT hg.1) (zsc0_SK w) hg.2 h⟩
noncomputable def zb75 (l0 : List zV) (w : zW) (K : zK) : Prop := cond (zpe (zar l0 0) 23) (cond (zpe (zar l0 1) 4) (((0 ≤ w 1 1 ∧ w 1 1 ≤ 800) ∧ 0 ≤ w 4 0 ∧ w 4 0 ≤ 12) ∧ (K (0, some (0, (zkL 800 (zsc0 w)).1)) ((zkL 800 (zsc0 w)).2) 238)) False) (False)
noncomputable def zT225 : zSum := zsm1 75 [2, 2, 9] zb75 zT224
theorem zT225_ok : zSok zT225 := zsm1_ok zT224_ok fun l0 w K h => by
  unfold zb75 at h
  cases q0 : zpe (zar l0 0) 23 with
  | true =>
    rw [q0, cond_true] at h
    have e : zar l0 0 = 23 := zpe_e q0
    show zcall 75 [(2, zar l0 0), (2, zar l0 1), (9, 0)] w 238 K
    rw [e]
    have hl0 : zar l0 1 = 4 := zlit h
    have h := zlit2 h
    rw [hl0]
    exact zk75_23  w K h
  | false =>
  rw [q0, cond_false] at h
  exact h.elim

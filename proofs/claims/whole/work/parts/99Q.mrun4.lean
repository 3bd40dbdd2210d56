/-! ===== the model keeps what was before the script (written by wip/whole/gen_c.py) ===== -/
def zpst (w : zW) (i : Int) : zW := zfill w 108 (fun j => if 49 * (w 93 31 - 1) ≤ (j : Int) ∧ (j : Int) < 49 * (w 93 31 - 1) + i then w 114 ((j : Int) - 49 * (w 93 31 - 1)).toNat else w 108 j)
theorem zpst_0 (w : zW) : zpst w 0 = w := by
  refine (congrArg (zfill w 108) (funext fun k => ?_)).trans (zfill_self w 108)
  exact if_neg (by omega)
theorem zpst_up {w : zW} {i : Int} (i0 : 0 ≤ i) (u : 1 ≤ w 93 31) : zupd (zpst w i) 108 (49 * (w 93 31 - 1) + i).toNat (w 114 i.toNat) = zpst w (i + 1) := by
  funext q k
  by_cases e : q = 108
  · subst e
    show (if k = (49 * (w 93 31 - 1) + i).toNat then w 114 i.toNat else if 49 * (w 93 31 - 1) ≤ (k : Int) ∧ (k : Int) < 49 * (w 93 31 - 1) + i then w 114 ((k : Int) - 49 * (w 93 31 - 1)).toNat else w 108 k) = if 49 * (w 93 31 - 1) ≤ (k : Int) ∧ (k : Int) < 49 * (w 93 31 - 1) + (i + 1) then w 114 ((k : Int) - 49 * (w 93 31 - 1)).toNat else w 108 k
    by_cases g : k = (49 * (w 93 31 - 1) + i).toNat
    · rw [if_pos g, if_pos (by omega), show ((k : Int) - 49 * (w 93 31 - 1)).toNat = i.toNat by omega]
    · rw [if_neg g]
      by_cases g2 : 49 * (w 93 31 - 1) ≤ (k : Int) ∧ (k : Int) < 49 * (w 93 31 - 1) + i
      · rw [if_pos g2, if_pos (by omega)]
      · rw [if_neg g2, if_neg (by omega)]
  · rw [zune e]
    unfold zpst
    rw [zfill_no e, zfill_no e]
set_option maxRecDepth 100000 in
theorem zk332_L117 {w : zW} {K : zK} (d : Int) (hu : 1 ≤ w 93 31 ∧ w 93 31 ≤ 5) : ∀ (m : Nat) (i : Int), (0 ≤ i) → (i + m = 49) → (K (0, some (0, d)) (zpst w 49) 238) → zwp 332 117 [(2, 93), (0, d), (0, i)] [] (zpst w i) 238 0 K := by
  
  intro m
  induction m with
  | zero =>
    intro i  h1 h2 h
    refine (show (if i < 49 then zif False (0 ≤ i ∧ i < 49) (zif False (0 ≤ z32 ((z32 (49 * (z32 ((w 93 31) - 1)))) + i) ∧ z32 ((z32 (49 * (z32 ((w 93 31) - 1)))) + i) < 245) (zwp 332 117 [(2, 93), (0, d), (0, z32 (i + 1))] [] (zupd (zpst w i) 108 (z32 ((z32 (49 * (z32 ((w 93 31) - 1)))) + i)).toNat (w 114 i.toNat)) 238 0 K)) else K (0, some (0, d)) (zpst w i) 238) → _ from fun h => show zwp 332 117 [(2, 93), (0, d), (0, i)] [] (zpst w i) 238 0 K from zgo_imp zT243_ok (cut := fun pc => Nat.beq pc 4 || Nat.beq pc 19 || Nat.beq pc 23 || Nat.beq pc 42 || Nat.beq pc 56 || Nat.beq pc 60 || Nat.beq pc 67 || Nat.beq pc 82 || Nat.beq pc 86 || Nat.beq pc 100 || Nat.beq pc 104 || Nat.beq pc 115 || Nat.beq pc 117 || Nat.beq pc 130 || Nat.beq pc 143) 400 (show if i < 49 then zwp 332 130 [(2, 93), (0, d), (0, i)] [(2, 93), (0, 49), (2, 108)] (zpst w i) 238 0 K else K (0, some (0, d)) (zpst w i) 238 from zmI (fun h => (fun h => show zwp 332 130 [(2, 93), (0, d), (0, i)] [(2, 93), (0, 49), (2, 108)] (zpst w i) 238 0 K from zgo_imp zT243_ok (cut := fun pc => Nat.beq pc 4 || Nat.beq pc 19 || Nat.beq pc 23 || Nat.beq pc 42 || Nat.beq pc 56 || Nat.beq pc 60 || Nat.beq pc 67 || Nat.beq pc 82 || Nat.beq pc 86 || Nat.beq pc 100 || Nat.beq pc 104 || Nat.beq pc 115 || Nat.beq pc 117 || Nat.beq pc 130 || Nat.beq pc 143) 400 (show zwp 332 143 [(2, 93), (0, d), (0, i)] [(0, i), (2, 114), (0, z32 ((z32 (49 * (z32 ((w 93 31) - 1)))) + i)), (2, 108)] (zpst w i) 238 0 K from (fun h => show zwp 332 143 [(2, 93), (0, d), (0, i)] [(0, i), (2, 114), (0, z32 ((z32 (49 * (z32 ((w 93 31) - 1)))) + i)), (2, 108)] (zpst w i) 238 0 K from zgo_imp zT243_ok (cut := fun pc => Nat.beq pc 4 || Nat.beq pc 19 || Nat.beq pc 23 || Nat.beq pc 42 || Nat.beq pc 56 || Nat.beq pc 60 || Nat.beq pc 67 || Nat.beq pc 82 || Nat.beq pc 86 || Nat.beq pc 100 || Nat.beq pc 104 || Nat.beq pc 115 || Nat.beq pc 117 || Nat.beq pc 130 || Nat.beq pc 143) 400 (show zif False (0 ≤ i ∧ i < 49) (zif False (0 ≤ z32 ((z32 (49 * (z32 ((w 93 31) - 1)))) + i) ∧ z32 ((z32 (49 * (z32 ((w 93 31) - 1)))) + i) < 245) (zwp 332 117 [(2, 93), (0, d), (0, z32 (i + 1))] [] (zupd (zpst w i) 108 (z32 ((z32 (49 * (z32 ((w 93 31) - 1)))) + i)).toNat (w 114 i.toNat)) 238 0 K)) from h)) h)) h) (fun h => h) h)) ?_
    rw [show i = 49 by omega]
    exact ziF (by decide) h
  | succ m ih =>
    intro i  h1 h2 h
    refine (show (if i < 49 then zif False (0 ≤ i ∧ i < 49) (zif False (0 ≤ z32 ((z32 (49 * (z32 ((w 93 31) - 1)))) + i) ∧ z32 ((z32 (49 * (z32 ((w 93 31) - 1)))) + i) < 245) (zwp 332 117 [(2, 93), (0, d), (0, z32 (i + 1))] [] (zupd (zpst w i) 108 (z32 ((z32 (49 * (z32 ((w 93 31) - 1)))) + i)).toNat (w 114 i.toNat)) 238 0 K)) else K (0, some (0, d)) (zpst w i) 238) → _ from fun h => show zwp 332 117 [(2, 93), (0, d), (0, i)] [] (zpst w i) 238 0 K from zgo_imp zT243_ok (cut := fun pc => Nat.beq pc 4 || Nat.beq pc 19 || Nat.beq pc 23 || Nat.beq pc 42 || Nat.beq pc 56 || Nat.beq pc 60 || Nat.beq pc 67 || Nat.beq pc 82 || Nat.beq pc 86 || Nat.beq pc 100 || Nat.beq pc 104 || Nat.beq pc 115 || Nat.beq pc 117 || Nat.beq pc 130 || Nat.beq pc 143) 400 (show if i < 49 then zwp 332 130 [(2, 93), (0, d), (0, i)] [(2, 93), (0, 49), (2, 108)] (zpst w i) 238 0 K else K (0, some (0, d)) (zpst w i) 238 from zmI (fun h => (fun h => show zwp 332 130 [(2, 93), (0, d), (0, i)] [(2, 93), (0, 49), (2, 108)] (zpst w i) 238 0 K from zgo_imp zT243_ok (cut := fun pc => Nat.beq pc 4 || Nat.beq pc 19 || Nat.beq pc 23 || Nat.beq pc 42 || Nat.beq pc 56 || Nat.beq pc 60 || Nat.beq pc 67 || Nat.beq pc 82 || Nat.beq pc 86 || Nat.beq pc 100 || Nat.beq pc 104 || Nat.beq pc 115 || Nat.beq pc 117 || Nat.beq pc 130 || Nat.beq pc 143) 400 (show zwp 332 143 [(2, 93), (0, d), (0, i)] [(0, i), (2, 114), (0, z32 ((z32 (49 * (z32 ((w 93 31) - 1)))) + i)), (2, 108)] (zpst w i) 238 0 K from (fun h => show zwp 332 143 [(2, 93), (0, d), (0, i)] [(0, i), (2, 114), (0, z32 ((z32 (49 * (z32 ((w 93 31) - 1)))) + i)), (2, 108)] (zpst w i) 238 0 K from zgo_imp zT243_ok (cut := fun pc => Nat.beq pc 4 || Nat.beq pc 19 || Nat.beq pc 23 || Nat.beq pc 42 || Nat.beq pc 56 || Nat.beq pc 60 || Nat.beq pc 67 || Nat.beq pc 82 || Nat.beq pc 86 || Nat.beq pc 100 || Nat.beq pc 104 || Nat.beq pc 115 || Nat.beq pc 117 || Nat.beq pc 130 || Nat.beq pc 143) 400 (show zif False (0 ≤ i ∧ i < 49) (zif False (0 ≤ z32 ((z32 (49 * (z32 ((w 93 31) - 1)))) + i) ∧ z32 ((z32 (49 * (z32 ((w 93 31) - 1)))) + i) < 245) (zwp 332 117 [(2, 93), (0, d), (0, z32 (i + 1))] [] (zupd (zpst w i) 108 (z32 ((z32 (49 * (z32 ((w 93 31) - 1)))) + i)).toNat (w 114 i.toNat)) 238 0 K)) from h)) h)) h) (fun h => h) h)) ?_
    rw [z32_id (x := i + 1) ⟨by omega, by omega⟩, z32_id (x := w 93 31 - 1) ⟨by omega, by omega⟩, z32_id (x := 49 * (w 93 31 - 1)) ⟨by omega, by omega⟩, z32_id (x := 49 * (w 93 31 - 1) + i) ⟨by omega, by omega⟩]
    refine ziT (by omega) (zifI (by omega) (zifI (by omega) ?_))
    rw [zpst_up h1 hu.1]
    exact ih (i + 1) (by omega) (by omega) h

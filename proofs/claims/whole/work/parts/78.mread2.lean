/-! ===== the model reads a net (written by wip/whole/gen_c.py) ===== -/
theorem zap_n (T : Int → Int → Int) (n c : Int) : True := True.intro
set_option maxRecDepth 100000 in
theorem zk233_L13 {w : zW} {K : zK} (n c : Int) (hA : zAr w n) (hT : zTab (zfw w n.toNat) (w 95 n.toNat)) (hc : 0 ≤ c ∧ c < w 95 n.toNat)  : ∀ (m : Nat) (i x : Int), (0 ≤ i) → (i + m = zLn (zfw w n.toNat) (w 95 n.toNat) c) → (x = zrw (zfw w n.toNat) (w 95 n.toNat) c i) → (K (0, some (0, if zLn (zfw w n.toNat) (w 95 n.toNat) c = zNb (zfw w n.toNat) (w 95 n.toNat) c then 1 else 0)) w 238) → zwp 233 13 [(2, 93), (0, n), (0, c), (0, zFs (zfw w n.toNat) (w 95 n.toNat) c), (0, i), (0, x)] [] w 238 0 K := by
  
  intro m
  induction m with
  | zero =>
    intro i x  h1 h2 hx h
    refine (show (if x = (-1) then (zAr w n ∧ 0 ≤ c ∧ c < 12) ∧ (if i = zNb (zfw w n.toNat) (w 95 n.toNat) c then K (0, some (0, 1)) w 238 else K (0, some (0, 0)) w 238) else if i = 0 then ((0 ≤ n ∧ n < 3) ∧ (0 ≤ c ∧ c < 12) ∧ (0 ≤ x ∧ x < 12)) ∧ (zwp 233 13 [(2, 93), (0, n), (0, c), (0, zFs (zfw w n.toNat) (w 95 n.toNat) c), (0, z32 (i + 1)), (0, zfw w n.toNat c x)] [] w 238 0 K) else if x = zFs (zfw w n.toNat) (w 95 n.toNat) c then (zAr w n ∧ 0 ≤ c ∧ c < 12) ∧ (if i = zNb (zfw w n.toNat) (w 95 n.toNat) c then K (0, some (0, 1)) w 238 else K (0, some (0, 0)) w 238) else ((0 ≤ n ∧ n < 3) ∧ (0 ≤ c ∧ c < 12) ∧ (0 ≤ x ∧ x < 12)) ∧ (zwp 233 13 [(2, 93), (0, n), (0, c), (0, zFs (zfw w n.toNat) (w 95 n.toNat) c), (0, z32 (i + 1)), (0, zfw w n.toNat c x)] [] w 238 0 K)) → _ from fun h => show zwp 233 13 [(2, 93), (0, n), (0, c), (0, zFs (zfw w n.toNat) (w 95 n.toNat) c), (0, i), (0, x)] [] w 238 0 K from zgo_imp zT213_ok (cut := fun pc => Nat.beq pc 6 || Nat.beq pc 13 || Nat.beq pc 21 || Nat.beq pc 38 || Nat.beq pc 41 || Nat.beq pc 54) 400 (show if x = (-1) then (zAr w n ∧ 0 ≤ c ∧ c < 12) ∧ (zwp 233 54 [(2, 93), (0, n), (0, c), (9, 0), (0, i), (9, 0)] [(0, zNb (zfw w n.toNat) (w 95 n.toNat) c), (0, i)] w 238 0 K) else zwp 233 21 [(2, 93), (0, n), (0, c), (0, zFs (zfw w n.toNat) (w 95 n.toNat) c), (0, i), (0, x)] [(0, i)] w 238 0 K from zmI (fun h => zmA (fun h => (fun h => show zwp 233 54 [(2, 93), (0, n), (0, c), (9, 0), (0, i), (9, 0)] [(0, zNb (zfw w n.toNat) (w 95 n.toNat) c), (0, i)] w 238 0 K from zgo_imp zT213_ok (cut := fun pc => Nat.beq pc 6 || Nat.beq pc 13 || Nat.beq pc 21 || Nat.beq pc 38 || Nat.beq pc 41 || Nat.beq pc 54) 400 (show if i = zNb (zfw w n.toNat) (w 95 n.toNat) c then K (0, some (0, 1)) w 238 else K (0, some (0, 0)) w 238 from h)) h) h) (fun h => (fun h => show zwp 233 21 [(2, 93), (0, n), (0, c), (0, zFs (zfw w n.toNat) (w 95 n.toNat) c), (0, i), (0, x)] [(0, i)] w 238 0 K from zgo_imp zT213_ok (cut := fun pc => Nat.beq pc 6 || Nat.beq pc 13 || Nat.beq pc 21 || Nat.beq pc 38 || Nat.beq pc 41 || Nat.beq pc 54) 400 (show if i = 0 then zwp 233 38 [(2, 93), (0, n), (0, c), (0, zFs (zfw w n.toNat) (w 95 n.toNat) c), (0, z32 (i + 1)), (0, x)] [(0, x), (0, c), (0, n), (2, 93)] w 238 0 K else if x = zFs (zfw w n.toNat) (w 95 n.toNat) c then (zAr w n ∧ 0 ≤ c ∧ c < 12) ∧ (zwp 233 54 [(2, 93), (0, n), (0, c), (9, 0), (0, i), (9, 0)] [(0, zNb (zfw w n.toNat) (w 95 n.toNat) c), (0, i)] w 238 0 K) else zwp 233 38 [(2, 93), (0, n), (0, c), (0, zFs (zfw w n.toNat) (w 95 n.toNat) c), (0, z32 (i + 1)), (0, x)] [(0, x), (0, c), (0, n), (2, 93)] w 238 0 K from zmI (fun h => (fun h => show zwp 233 38 [(2, 93), (0, n), (0, c), (0, zFs (zfw w n.toNat) (w 95 n.toNat) c), (0, z32 (i + 1)), (0, x)] [(0, x), (0, c), (0, n), (2, 93)] w 238 0 K from zgo_imp zT213_ok (cut := fun pc => Nat.beq pc 6 || Nat.beq pc 13 || Nat.beq pc 21 || Nat.beq pc 38 || Nat.beq pc 41 || Nat.beq pc 54) 400 (show ((0 ≤ n ∧ n < 3) ∧ (0 ≤ c ∧ c < 12) ∧ (0 ≤ x ∧ x < 12)) ∧ (zwp 233 41 [(2, 93), (0, n), (0, c), (0, zFs (zfw w n.toNat) (w 95 n.toNat) c), (0, z32 (i + 1)), (0, x)] [(0, zfw w n.toNat c x)] w 238 0 K) from zmA (fun h => (fun h => show zwp 233 41 [(2, 93), (0, n), (0, c), (0, zFs (zfw w n.toNat) (w 95 n.toNat) c), (0, z32 (i + 1)), (0, x)] [(0, zfw w n.toNat c x)] w 238 0 K from zgo_imp zT213_ok (cut := fun pc => Nat.beq pc 6 || Nat.beq pc 13 || Nat.beq pc 21 || Nat.beq pc 38 || Nat.beq pc 41 || Nat.beq pc 54) 400 (show zwp 233 13 [(2, 93), (0, n), (0, c), (0, zFs (zfw w n.toNat) (w 95 n.toNat) c), (0, z32 (i + 1)), (0, zfw w n.toNat c x)] [] w 238 0 K from h)) h) h)) h) (fun h => zmI (fun h => zmA (fun h => (fun h => show zwp 233 54 [(2, 93), (0, n), (0, c), (9, 0), (0, i), (9, 0)] [(0, zNb (zfw w n.toNat) (w 95 n.toNat) c), (0, i)] w 238 0 K from zgo_imp zT213_ok (cut := fun pc => Nat.beq pc 6 || Nat.beq pc 13 || Nat.beq pc 21 || Nat.beq pc 38 || Nat.beq pc 41 || Nat.beq pc 54) 400 (show if i = zNb (zfw w n.toNat) (w 95 n.toNat) c then K (0, some (0, 1)) w 238 else K (0, some (0, 0)) w 238 from h)) h) h) (fun h => (fun h => show zwp 233 38 [(2, 93), (0, n), (0, c), (0, zFs (zfw w n.toNat) (w 95 n.toNat) c), (0, z32 (i + 1)), (0, x)] [(0, x), (0, c), (0, n), (2, 93)] w 238 0 K from zgo_imp zT213_ok (cut := fun pc => Nat.beq pc 6 || Nat.beq pc 13 || Nat.beq pc 21 || Nat.beq pc 38 || Nat.beq pc 41 || Nat.beq pc 54) 400 (show ((0 ≤ n ∧ n < 3) ∧ (0 ≤ c ∧ c < 12) ∧ (0 ≤ x ∧ x < 12)) ∧ (zwp 233 41 [(2, 93), (0, n), (0, c), (0, zFs (zfw w n.toNat) (w 95 n.toNat) c), (0, z32 (i + 1)), (0, x)] [(0, zfw w n.toNat c x)] w 238 0 K) from zmA (fun h => (fun h => show zwp 233 41 [(2, 93), (0, n), (0, c), (0, zFs (zfw w n.toNat) (w 95 n.toNat) c), (0, z32 (i + 1)), (0, x)] [(0, zfw w n.toNat c x)] w 238 0 K from zgo_imp zT213_ok (cut := fun pc => Nat.beq pc 6 || Nat.beq pc 13 || Nat.beq pc 21 || Nat.beq pc 38 || Nat.beq pc 41 || Nat.beq pc 54) 400 (show zwp 233 13 [(2, 93), (0, n), (0, c), (0, zFs (zfw w n.toNat) (w 95 n.toNat) c), (0, z32 (i + 1)), (0, zfw w n.toNat c x)] [] w 238 0 K from h)) h) h)) h) h) h)) h) h)) ?_
    have hA2 := hA.2
    have c12 : 0 ≤ c ∧ c < 12 := ⟨hc.1, by omega⟩
    have ei : i = zLn (zfw w n.toNat) (w 95 n.toNat) c := by omega
    have stop : ∀ X : Prop, X → (if x = (-1) then X else X) := fun X k => by split <;> exact k
    by_cases g : zFs (zfw w n.toNat) (w 95 n.toNat) c = -1
    · have e0 : zLn (zfw w n.toNat) (w 95 n.toNat) c = 0 := if_pos g
      have ex : x = -1 := by rw [hx, show i = 0 by omega]; exact g
      refine ziT ex ⟨⟨hA, c12⟩, ?_⟩
      by_cases q : zLn (zfw w n.toNat) (w 95 n.toNat) c = zNb (zfw w n.toNat) (w 95 n.toNat) c
      · rw [if_pos q] at h
        exact ziT (by rw [ei]; exact q) h
      · rw [if_neg q] at h
        exact ziF (by rw [ei]; exact q) h
    · obtain ⟨l1, l2, l3⟩ := zLn_ok hT c12 g
      rw [← ei] at l2
      rw [← hx] at l2
      by_cases gx : x = -1
      · refine ziT gx ⟨⟨hA, c12⟩, ?_⟩
        by_cases q : zLn (zfw w n.toNat) (w 95 n.toNat) c = zNb (zfw w n.toNat) (w 95 n.toNat) c
        · rw [if_pos q] at h
          exact ziT (by rw [ei]; exact q) h
        · rw [if_neg q] at h
          exact ziF (by rw [ei]; exact q) h
      · refine ziF gx (ziF (by omega) (ziT (l2.resolve_left gx) ⟨⟨hA, c12⟩, ?_⟩))
        by_cases q : zLn (zfw w n.toNat) (w 95 n.toNat) c = zNb (zfw w n.toNat) (w 95 n.toNat) c
        · rw [if_pos q] at h
          exact ziT (by rw [ei]; exact q) h
        · rw [if_neg q] at h
          exact ziF (by rw [ei]; exact q) h
  | succ m ih =>
    intro i x  h1 h2 hx h
    refine (show (if x = (-1) then (zAr w n ∧ 0 ≤ c ∧ c < 12) ∧ (if i = zNb (zfw w n.toNat) (w 95 n.toNat) c then K (0, some (0, 1)) w 238 else K (0, some (0, 0)) w 238) else if i = 0 then ((0 ≤ n ∧ n < 3) ∧ (0 ≤ c ∧ c < 12) ∧ (0 ≤ x ∧ x < 12)) ∧ (zwp 233 13 [(2, 93), (0, n), (0, c), (0, zFs (zfw w n.toNat) (w 95 n.toNat) c), (0, z32 (i + 1)), (0, zfw w n.toNat c x)] [] w 238 0 K) else if x = zFs (zfw w n.toNat) (w 95 n.toNat) c then (zAr w n ∧ 0 ≤ c ∧ c < 12) ∧ (if i = zNb (zfw w n.toNat) (w 95 n.toNat) c then K (0, some (0, 1)) w 238 else K (0, some (0, 0)) w 238) else ((0 ≤ n ∧ n < 3) ∧ (0 ≤ c ∧ c < 12) ∧ (0 ≤ x ∧ x < 12)) ∧ (zwp 233 13 [(2, 93), (0, n), (0, c), (0, zFs (zfw w n.toNat) (w 95 n.toNat) c), (0, z32 (i + 1)), (0, zfw w n.toNat c x)] [] w 238 0 K)) → _ from fun h => show zwp 233 13 [(2, 93), (0, n), (0, c), (0, zFs (zfw w n.toNat) (w 95 n.toNat) c), (0, i), (0, x)] [] w 238 0 K from zgo_imp zT213_ok (cut := fun pc => Nat.beq pc 6 || Nat.beq pc 13 || Nat.beq pc 21 || Nat.beq pc 38 || Nat.beq pc 41 || Nat.beq pc 54) 400 (show if x = (-1) then (zAr w n ∧ 0 ≤ c ∧ c < 12) ∧ (zwp 233 54 [(2, 93), (0, n), (0, c), (9, 0), (0, i), (9, 0)] [(0, zNb (zfw w n.toNat) (w 95 n.toNat) c), (0, i)] w 238 0 K) else zwp 233 21 [(2, 93), (0, n), (0, c), (0, zFs (zfw w n.toNat) (w 95 n.toNat) c), (0, i), (0, x)] [(0, i)] w 238 0 K from zmI (fun h => zmA (fun h => (fun h => show zwp 233 54 [(2, 93), (0, n), (0, c), (9, 0), (0, i), (9, 0)] [(0, zNb (zfw w n.toNat) (w 95 n.toNat) c), (0, i)] w 238 0 K from zgo_imp zT213_ok (cut := fun pc => Nat.beq pc 6 || Nat.beq pc 13 || Nat.beq pc 21 || Nat.beq pc 38 || Nat.beq pc 41 || Nat.beq pc 54) 400 (show if i = zNb (zfw w n.toNat) (w 95 n.toNat) c then K (0, some (0, 1)) w 238 else K (0, some (0, 0)) w 238 from h)) h) h) (fun h => (fun h => show zwp 233 21 [(2, 93), (0, n), (0, c), (0, zFs (zfw w n.toNat) (w 95 n.toNat) c), (0, i), (0, x)] [(0, i)] w 238 0 K from zgo_imp zT213_ok (cut := fun pc => Nat.beq pc 6 || Nat.beq pc 13 || Nat.beq pc 21 || Nat.beq pc 38 || Nat.beq pc 41 || Nat.beq pc 54) 400 (show if i = 0 then zwp 233 38 [(2, 93), (0, n), (0, c), (0, zFs (zfw w n.toNat) (w 95 n.toNat) c), (0, z32 (i + 1)), (0, x)] [(0, x), (0, c), (0, n), (2, 93)] w 238 0 K else if x = zFs (zfw w n.toNat) (w 95 n.toNat) c then (zAr w n ∧ 0 ≤ c ∧ c < 12) ∧ (zwp 233 54 [(2, 93), (0, n), (0, c), (9, 0), (0, i), (9, 0)] [(0, zNb (zfw w n.toNat) (w 95 n.toNat) c), (0, i)] w 238 0 K) else zwp 233 38 [(2, 93), (0, n), (0, c), (0, zFs (zfw w n.toNat) (w 95 n.toNat) c), (0, z32 (i + 1)), (0, x)] [(0, x), (0, c), (0, n), (2, 93)] w 238 0 K from zmI (fun h => (fun h => show zwp 233 38 [(2, 93), (0, n), (0, c), (0, zFs (zfw w n.toNat) (w 95 n.toNat) c), (0, z32 (i + 1)), (0, x)] [(0, x), (0, c), (0, n), (2, 93)] w 238 0 K from zgo_imp zT213_ok (cut := fun pc => Nat.beq pc 6 || Nat.beq pc 13 || Nat.beq pc 21 || Nat.beq pc 38 || Nat.beq pc 41 || Nat.beq pc 54) 400 (show ((0 ≤ n ∧ n < 3) ∧ (0 ≤ c ∧ c < 12) ∧ (0 ≤ x ∧ x < 12)) ∧ (zwp 233 41 [(2, 93), (0, n), (0, c), (0, zFs (zfw w n.toNat) (w 95 n.toNat) c), (0, z32 (i + 1)), (0, x)] [(0, zfw w n.toNat c x)] w 238 0 K) from zmA (fun h => (fun h => show zwp 233 41 [(2, 93), (0, n), (0, c), (0, zFs (zfw w n.toNat) (w 95 n.toNat) c), (0, z32 (i + 1)), (0, x)] [(0, zfw w n.toNat c x)] w 238 0 K from zgo_imp zT213_ok (cut := fun pc => Nat.beq pc 6 || Nat.beq pc 13 || Nat.beq pc 21 || Nat.beq pc 38 || Nat.beq pc 41 || Nat.beq pc 54) 400 (show zwp 233 13 [(2, 93), (0, n), (0, c), (0, zFs (zfw w n.toNat) (w 95 n.toNat) c), (0, z32 (i + 1)), (0, zfw w n.toNat c x)] [] w 238 0 K from h)) h) h)) h) (fun h => zmI (fun h => zmA (fun h => (fun h => show zwp 233 54 [(2, 93), (0, n), (0, c), (9, 0), (0, i), (9, 0)] [(0, zNb (zfw w n.toNat) (w 95 n.toNat) c), (0, i)] w 238 0 K from zgo_imp zT213_ok (cut := fun pc => Nat.beq pc 6 || Nat.beq pc 13 || Nat.beq pc 21 || Nat.beq pc 38 || Nat.beq pc 41 || Nat.beq pc 54) 400 (show if i = zNb (zfw w n.toNat) (w 95 n.toNat) c then K (0, some (0, 1)) w 238 else K (0, some (0, 0)) w 238 from h)) h) h) (fun h => (fun h => show zwp 233 38 [(2, 93), (0, n), (0, c), (0, zFs (zfw w n.toNat) (w 95 n.toNat) c), (0, z32 (i + 1)), (0, x)] [(0, x), (0, c), (0, n), (2, 93)] w 238 0 K from zgo_imp zT213_ok (cut := fun pc => Nat.beq pc 6 || Nat.beq pc 13 || Nat.beq pc 21 || Nat.beq pc 38 || Nat.beq pc 41 || Nat.beq pc 54) 400 (show ((0 ≤ n ∧ n < 3) ∧ (0 ≤ c ∧ c < 12) ∧ (0 ≤ x ∧ x < 12)) ∧ (zwp 233 41 [(2, 93), (0, n), (0, c), (0, zFs (zfw w n.toNat) (w 95 n.toNat) c), (0, z32 (i + 1)), (0, x)] [(0, zfw w n.toNat c x)] w 238 0 K) from zmA (fun h => (fun h => show zwp 233 41 [(2, 93), (0, n), (0, c), (0, zFs (zfw w n.toNat) (w 95 n.toNat) c), (0, z32 (i + 1)), (0, x)] [(0, zfw w n.toNat c x)] w 238 0 K from zgo_imp zT213_ok (cut := fun pc => Nat.beq pc 6 || Nat.beq pc 13 || Nat.beq pc 21 || Nat.beq pc 38 || Nat.beq pc 41 || Nat.beq pc 54) 400 (show zwp 233 13 [(2, 93), (0, n), (0, c), (0, zFs (zfw w n.toNat) (w 95 n.toNat) c), (0, z32 (i + 1)), (0, zfw w n.toNat c x)] [] w 238 0 K from h)) h) h)) h) h) h)) h) h)) ?_
    have hA2 := hA.2
    have c12 : 0 ≤ c ∧ c < 12 := ⟨hc.1, by omega⟩
    have l := zLn_rg hT c12
    have g : zFs (zfw w n.toNat) (w 95 n.toNat) c ≠ -1 := fun g => by
      have e0 : zLn (zfw w n.toNat) (w 95 n.toNat) c = 0 := if_pos g
      omega
    obtain ⟨l1, l2, l3⟩ := zLn_ok hT c12 g
    have fr : 0 ≤ zFs (zfw w n.toNat) (w 95 n.toNat) c ∧ zFs (zfw w n.toNat) (w 95 n.toNat) c < w 95 n.toNat := by
      rcases zFs_c hT c12 with q | q
      · exact (g q.1).elim
      · exact q.1
    have r := zrw_rg hT c12 fr i.toNat (fun j j0 j1 => (l3 j j0 (by omega)).1)
    rw [show ((i.toNat : Nat) : Int) = i by omega, ← hx] at r
    have es := zrw_succ (zfw w n.toNat) (w 95 n.toNat) c i h1
    rw [← hx] at es
    have go : zwp 233 13 [(2, 93), (0, n), (0, c), (0, zFs (zfw w n.toNat) (w 95 n.toNat) c), (0, i + 1), (0, (zfw w n.toNat) c x)] [] w 238 0 K := ih (i + 1) _ (by omega) (by omega) es.symm h
    rw [z32_id (x := i + 1) ⟨by omega, by omega⟩]
    refine ziF (by omega) ?_
    by_cases q0 : i = 0
    · exact ziT q0 ⟨⟨hA.1, c12, ⟨r.1, by omega⟩⟩, go⟩
    · refine ziF q0 (ziF ?_ ⟨⟨hA.1, c12, ⟨r.1, by omega⟩⟩, go⟩)
      rw [hx]
      exact (l3 i (by omega) (by omega)).2
/-! Model.isRow -/
set_option maxRecDepth 100000 in
theorem zk233_93 (n c : Int) (w : zW) (K : zK) (h : (zAr w n ∧ zTab (zfw w n.toNat) (w 95 n.toNat) ∧ 0 ≤ c ∧ c < w 95 n.toNat) ∧ (K (0, some (0, (if zLn (zfw w n.toNat) (w 95 n.toNat) c = zNb (zfw w n.toNat) (w 95 n.toNat) c then 1 else 0))) (w) 238)) : zcall 233 [(2, 93), (0, n), (0, c), (9, 0), (9, 0), (9, 0)] w 238 K := by
  obtain ⟨hg, h⟩ := h
  refine (show ((zAr w n ∧ 0 ≤ c ∧ c < 12) ∧ (zwp 233 13 [(2, 93), (0, n), (0, c), (0, zFs (zfw w n.toNat) (w 95 n.toNat) c), (0, 0), (0, zFs (zfw w n.toNat) (w 95 n.toNat) c)] [] w 238 0 K)) → _ from fun h => show zwp 233 0 [(2, 93), (0, n), (0, c), (9, 0), (9, 0), (9, 0)] [] w 238 0 K from zgo_imp zT213_ok (cut := fun pc => Nat.beq pc 6 || Nat.beq pc 13 || Nat.beq pc 21 || Nat.beq pc 38 || Nat.beq pc 41 || Nat.beq pc 54) 400 (show (zAr w n ∧ 0 ≤ c ∧ c < 12) ∧ (zwp 233 6 [(2, 93), (0, n), (0, c), (9, 0), (9, 0), (9, 0)] [(0, zFs (zfw w n.toNat) (w 95 n.toNat) c)] w 238 0 K) from zmA (fun h => (fun h => show zwp 233 6 [(2, 93), (0, n), (0, c), (9, 0), (9, 0), (9, 0)] [(0, zFs (zfw w n.toNat) (w 95 n.toNat) c)] w 238 0 K from zgo_imp zT213_ok (cut := fun pc => Nat.beq pc 6 || Nat.beq pc 13 || Nat.beq pc 21 || Nat.beq pc 38 || Nat.beq pc 41 || Nat.beq pc 54) 400 (show zwp 233 13 [(2, 93), (0, n), (0, c), (0, zFs (zfw w n.toNat) (w 95 n.toNat) c), (0, 0), (0, zFs (zfw w n.toNat) (w 95 n.toNat) c)] [] w 238 0 K from h)) h) h)) ?_
  obtain ⟨hA, hT, hc⟩ := hg
  have hA2 := hA.2
  have l := zLn_rg hT (c := c) ⟨hc.1, by omega⟩
  refine ⟨⟨hA, hc.1, by omega⟩, ?_⟩
  exact zk233_L13 n c hA hT hc (zLn (zfw w n.toNat) (w 95 n.toNat) c).toNat 0 (zFs (zfw w n.toNat) (w 95 n.toNat) c) (by decide) (by omega) rfl h
noncomputable def zb233 (l0 : List zV) (w : zW) (K : zK) : Prop := cond (zpe (zar l0 0) 93) (zA l0 1 fun n => zA l0 2 fun c => (zAr w n ∧ zTab (zfw w n.toNat) (w 95 n.toNat) ∧ 0 ≤ c ∧ c < w 95 n.toNat) ∧ (K (0, some (0, (if zLn (zfw w n.toNat) (w 95 n.toNat) c = zNb (zfw w n.toNat) (w 95 n.toNat) c then 1 else 0))) (w) 238)) (False)
noncomputable def zT214 : zSum := zsm1 233 [2, 0, 0, 9, 9, 9] zb233 zT213
theorem zT214_ok : zSok zT214 := zsm1_ok zT213_ok fun l0 w K h => by
  unfold zb233 at h
  cases q0 : zpe (zar l0 0) 93 with
  | true =>
    rw [q0, cond_true] at h
    have e : zar l0 0 = 93 := zpe_e q0
    show zcall 233 [(2, zar l0 0), (0, zar l0 1), (0, zar l0 2), (9, 0), (9, 0), (9, 0)] w 238 K
    rw [e]
    exact zk233_93 (zar l0 1) (zar l0 2) w K (zA_e (zA_e h))
  | false =>
  rw [q0, cond_false] at h
  exact h.elim

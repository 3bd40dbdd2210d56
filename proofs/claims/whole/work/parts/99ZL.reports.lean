/-! ===== reports: numbers, lines (written by wip/whole/gen_c.py) ===== -/
set_option maxRecDepth 100000 in
theorem zk73_L21 {K : zK} (s : Int) (hs : 0 ≤ s ∧ s ≤ 1000000000)  : ∀ (m : Nat) (u : Int) (w : zW) (d1 : zV), (u = zU m) → (m ≤ 10) → (0 ≤ w 90 1) → (w 90 1 + m ≤ 492) → (K (0, none) (zwL (zdgs m s) w) 238) → zwp 73 21 [(2, 90), d1, (1, s), (9, 0), (1, u), (9, 0)] [] w 238 0 K := by
  
  intro m
  induction m with
  | zero =>
    intro u w d1 h1 h2 h3 h4 h
    refine (show (if u < 1 then K (0, none) w 238 else if s < u then if u = 1 then zif False (u ≠ 0) ((0 ≤ w 90 1 ∧ w 90 1 < 492) ∧ (zwp 73 21 [(2, 90), (9, 0), (1, s), (9, 0), (1, z64 (Int.tdiv u 10)), (9, 0)] [] (zwb w (z32 (48 + (z32 (z64 (Int.tmod (z64 (Int.tdiv s u)) 10)))))) 238 0 K)) else zwp 73 21 [(2, 90), (9, 0), (1, s), (9, 0), (1, z64 (Int.tdiv u 10)), (9, 0)] [] w 238 0 K else zif False (u ≠ 0) ((0 ≤ w 90 1 ∧ w 90 1 < 492) ∧ (zwp 73 21 [(2, 90), (9, 0), (1, s), (9, 0), (1, z64 (Int.tdiv u 10)), (9, 0)] [] (zwb w (z32 (48 + (z32 (z64 (Int.tmod (z64 (Int.tdiv s u)) 10)))))) 238 0 K))) → _ from fun h => show zwp 73 21 [(2, 90), d1, (1, s), (9, 0), (1, u), (9, 0)] [] w 238 0 K from zgo_imp zT373_ok (cut := fun pc => Nat.beq pc 10 || Nat.beq pc 21 || Nat.beq pc 28 || Nat.beq pc 43 || Nat.beq pc 58) 400 (show if u < 1 then K (0, none) w 238 else zwp 73 28 [(2, 90), (9, 0), (1, s), (9, 0), (1, u), (9, 0)] [] w 238 0 K from zmI (fun h => h) (fun h => (fun h => show zwp 73 28 [(2, 90), (9, 0), (1, s), (9, 0), (1, u), (9, 0)] [] w 238 0 K from zgo_imp zT373_ok (cut := fun pc => Nat.beq pc 10 || Nat.beq pc 21 || Nat.beq pc 28 || Nat.beq pc 43 || Nat.beq pc 58) 400 (show if s < u then if u = 1 then zwp 73 43 [(2, 90), (9, 0), (1, s), (9, 0), (1, u), (9, 0)] [(2, 90)] w 238 0 K else zwp 73 58 [(2, 90), (9, 0), (1, s), (9, 0), (1, u), (9, 0)] [] w 238 0 K else zwp 73 43 [(2, 90), (9, 0), (1, s), (9, 0), (1, u), (9, 0)] [(2, 90)] w 238 0 K from zmI (fun h => zmI (fun h => (fun h => show zwp 73 43 [(2, 90), (9, 0), (1, s), (9, 0), (1, u), (9, 0)] [(2, 90)] w 238 0 K from zgo_imp zT373_ok (cut := fun pc => Nat.beq pc 10 || Nat.beq pc 21 || Nat.beq pc 28 || Nat.beq pc 43 || Nat.beq pc 58) 400 (show zif False (u ≠ 0) ((0 ≤ w 90 1 ∧ w 90 1 < 492) ∧ (zwp 73 58 [(2, 90), (9, 0), (1, s), (9, 0), (1, u), (9, 0)] [] (zwb w (z32 (48 + (z32 (z64 (Int.tmod (z64 (Int.tdiv s u)) 10)))))) 238 0 K)) from zmZ (fun h => zmA (fun h => (fun h => show zwp 73 58 [(2, 90), (9, 0), (1, s), (9, 0), (1, u), (9, 0)] [] (zwb w (z32 (48 + (z32 (z64 (Int.tmod (z64 (Int.tdiv s u)) 10)))))) 238 0 K from zgo_imp zT373_ok (cut := fun pc => Nat.beq pc 10 || Nat.beq pc 21 || Nat.beq pc 28 || Nat.beq pc 43 || Nat.beq pc 58) 400 (show zwp 73 21 [(2, 90), (9, 0), (1, s), (9, 0), (1, z64 (Int.tdiv u 10)), (9, 0)] [] (zwb w (z32 (48 + (z32 (z64 (Int.tmod (z64 (Int.tdiv s u)) 10)))))) 238 0 K from h)) h) h) h)) h) (fun h => (fun h => show zwp 73 58 [(2, 90), (9, 0), (1, s), (9, 0), (1, u), (9, 0)] [] w 238 0 K from zgo_imp zT373_ok (cut := fun pc => Nat.beq pc 10 || Nat.beq pc 21 || Nat.beq pc 28 || Nat.beq pc 43 || Nat.beq pc 58) 400 (show zwp 73 21 [(2, 90), (9, 0), (1, s), (9, 0), (1, z64 (Int.tdiv u 10)), (9, 0)] [] w 238 0 K from h)) h) h) (fun h => (fun h => show zwp 73 43 [(2, 90), (9, 0), (1, s), (9, 0), (1, u), (9, 0)] [(2, 90)] w 238 0 K from zgo_imp zT373_ok (cut := fun pc => Nat.beq pc 10 || Nat.beq pc 21 || Nat.beq pc 28 || Nat.beq pc 43 || Nat.beq pc 58) 400 (show zif False (u ≠ 0) ((0 ≤ w 90 1 ∧ w 90 1 < 492) ∧ (zwp 73 58 [(2, 90), (9, 0), (1, s), (9, 0), (1, u), (9, 0)] [] (zwb w (z32 (48 + (z32 (z64 (Int.tmod (z64 (Int.tdiv s u)) 10)))))) 238 0 K)) from zmZ (fun h => zmA (fun h => (fun h => show zwp 73 58 [(2, 90), (9, 0), (1, s), (9, 0), (1, u), (9, 0)] [] (zwb w (z32 (48 + (z32 (z64 (Int.tmod (z64 (Int.tdiv s u)) 10)))))) 238 0 K from zgo_imp zT373_ok (cut := fun pc => Nat.beq pc 10 || Nat.beq pc 21 || Nat.beq pc 28 || Nat.beq pc 43 || Nat.beq pc 58) 400 (show zwp 73 21 [(2, 90), (9, 0), (1, s), (9, 0), (1, z64 (Int.tdiv u 10)), (9, 0)] [] (zwb w (z32 (48 + (z32 (z64 (Int.tmod (z64 (Int.tdiv s u)) 10)))))) 238 0 K from h)) h) h) h)) h) h)) h) h)) ?_
    exact ziT (by rw [h1]; decide) h
  | succ m ih =>
    intro u w d1 h1 h2 h3 h4 h
    refine (show (if u < 1 then K (0, none) w 238 else if s < u then if u = 1 then zif False (u ≠ 0) ((0 ≤ w 90 1 ∧ w 90 1 < 492) ∧ (zwp 73 21 [(2, 90), (9, 0), (1, s), (9, 0), (1, z64 (Int.tdiv u 10)), (9, 0)] [] (zwb w (z32 (48 + (z32 (z64 (Int.tmod (z64 (Int.tdiv s u)) 10)))))) 238 0 K)) else zwp 73 21 [(2, 90), (9, 0), (1, s), (9, 0), (1, z64 (Int.tdiv u 10)), (9, 0)] [] w 238 0 K else zif False (u ≠ 0) ((0 ≤ w 90 1 ∧ w 90 1 < 492) ∧ (zwp 73 21 [(2, 90), (9, 0), (1, s), (9, 0), (1, z64 (Int.tdiv u 10)), (9, 0)] [] (zwb w (z32 (48 + (z32 (z64 (Int.tmod (z64 (Int.tdiv s u)) 10)))))) 238 0 K))) → _ from fun h => show zwp 73 21 [(2, 90), d1, (1, s), (9, 0), (1, u), (9, 0)] [] w 238 0 K from zgo_imp zT373_ok (cut := fun pc => Nat.beq pc 10 || Nat.beq pc 21 || Nat.beq pc 28 || Nat.beq pc 43 || Nat.beq pc 58) 400 (show if u < 1 then K (0, none) w 238 else zwp 73 28 [(2, 90), (9, 0), (1, s), (9, 0), (1, u), (9, 0)] [] w 238 0 K from zmI (fun h => h) (fun h => (fun h => show zwp 73 28 [(2, 90), (9, 0), (1, s), (9, 0), (1, u), (9, 0)] [] w 238 0 K from zgo_imp zT373_ok (cut := fun pc => Nat.beq pc 10 || Nat.beq pc 21 || Nat.beq pc 28 || Nat.beq pc 43 || Nat.beq pc 58) 400 (show if s < u then if u = 1 then zwp 73 43 [(2, 90), (9, 0), (1, s), (9, 0), (1, u), (9, 0)] [(2, 90)] w 238 0 K else zwp 73 58 [(2, 90), (9, 0), (1, s), (9, 0), (1, u), (9, 0)] [] w 238 0 K else zwp 73 43 [(2, 90), (9, 0), (1, s), (9, 0), (1, u), (9, 0)] [(2, 90)] w 238 0 K from zmI (fun h => zmI (fun h => (fun h => show zwp 73 43 [(2, 90), (9, 0), (1, s), (9, 0), (1, u), (9, 0)] [(2, 90)] w 238 0 K from zgo_imp zT373_ok (cut := fun pc => Nat.beq pc 10 || Nat.beq pc 21 || Nat.beq pc 28 || Nat.beq pc 43 || Nat.beq pc 58) 400 (show zif False (u ≠ 0) ((0 ≤ w 90 1 ∧ w 90 1 < 492) ∧ (zwp 73 58 [(2, 90), (9, 0), (1, s), (9, 0), (1, u), (9, 0)] [] (zwb w (z32 (48 + (z32 (z64 (Int.tmod (z64 (Int.tdiv s u)) 10)))))) 238 0 K)) from zmZ (fun h => zmA (fun h => (fun h => show zwp 73 58 [(2, 90), (9, 0), (1, s), (9, 0), (1, u), (9, 0)] [] (zwb w (z32 (48 + (z32 (z64 (Int.tmod (z64 (Int.tdiv s u)) 10)))))) 238 0 K from zgo_imp zT373_ok (cut := fun pc => Nat.beq pc 10 || Nat.beq pc 21 || Nat.beq pc 28 || Nat.beq pc 43 || Nat.beq pc 58) 400 (show zwp 73 21 [(2, 90), (9, 0), (1, s), (9, 0), (1, z64 (Int.tdiv u 10)), (9, 0)] [] (zwb w (z32 (48 + (z32 (z64 (Int.tmod (z64 (Int.tdiv s u)) 10)))))) 238 0 K from h)) h) h) h)) h) (fun h => (fun h => show zwp 73 58 [(2, 90), (9, 0), (1, s), (9, 0), (1, u), (9, 0)] [] w 238 0 K from zgo_imp zT373_ok (cut := fun pc => Nat.beq pc 10 || Nat.beq pc 21 || Nat.beq pc 28 || Nat.beq pc 43 || Nat.beq pc 58) 400 (show zwp 73 21 [(2, 90), (9, 0), (1, s), (9, 0), (1, z64 (Int.tdiv u 10)), (9, 0)] [] w 238 0 K from h)) h) h) (fun h => (fun h => show zwp 73 43 [(2, 90), (9, 0), (1, s), (9, 0), (1, u), (9, 0)] [(2, 90)] w 238 0 K from zgo_imp zT373_ok (cut := fun pc => Nat.beq pc 10 || Nat.beq pc 21 || Nat.beq pc 28 || Nat.beq pc 43 || Nat.beq pc 58) 400 (show zif False (u ≠ 0) ((0 ≤ w 90 1 ∧ w 90 1 < 492) ∧ (zwp 73 58 [(2, 90), (9, 0), (1, s), (9, 0), (1, u), (9, 0)] [] (zwb w (z32 (48 + (z32 (z64 (Int.tmod (z64 (Int.tdiv s u)) 10)))))) 238 0 K)) from zmZ (fun h => zmA (fun h => (fun h => show zwp 73 58 [(2, 90), (9, 0), (1, s), (9, 0), (1, u), (9, 0)] [] (zwb w (z32 (48 + (z32 (z64 (Int.tmod (z64 (Int.tdiv s u)) 10)))))) 238 0 K from zgo_imp zT373_ok (cut := fun pc => Nat.beq pc 10 || Nat.beq pc 21 || Nat.beq pc 28 || Nat.beq pc 43 || Nat.beq pc 58) 400 (show zwp 73 21 [(2, 90), (9, 0), (1, s), (9, 0), (1, z64 (Int.tdiv u 10)), (9, 0)] [] (zwb w (z32 (48 + (z32 (z64 (Int.tmod (z64 (Int.tdiv s u)) 10)))))) 238 0 K from h)) h) h) h)) h) h)) h) h)) ?_
    have u0 := zU_pos m
    have u1 := zU_le (m + 1) h2
    have dn := zU_dn m
    rw [← h1] at u0 u1 dn
    have d := zdgst hs u0
    have e1 : z64 (Int.tdiv s u) = s / u := by rw [Int.tdiv_eq_ediv_of_nonneg hs.1]; exact z64_id ⟨by omega, by omega⟩
    have e2 : z64 (Int.tmod (s / u) 10) = s / u % 10 := by rw [Int.tmod_eq_emod_of_nonneg d.1]; exact z64_id ⟨by omega, by omega⟩
    have e3 : z32 (s / u % 10) = s / u % 10 := z32_id ⟨by omega, by omega⟩
    have e4 : z32 (48 + s / u % 10) = 48 + s / u % 10 := z32_id ⟨by omega, by omega⟩
    have e5 : z64 (Int.tdiv u 10) = zU m := by rw [Int.tdiv_eq_ediv_of_nonneg (by omega), dn]; have := zU_le m (by omega); exact z64_id ⟨by omega, by omega⟩
    rw [e1, e2, e3, e4, e5]
    have eb : zdgs (m + 1) s = if zU (m + 1) ≤ s ∨ m = 0 then (48 + s / zU (m + 1) % 10) :: zdgs m s else zdgs m s := rfl
    rw [eb, ← h1] at h
    have m1 : u = 1 ↔ m = 0 := by
      constructor
      · intro q
        cases m with
        | zero => rfl
        | succ k => have := zU_pos k; have : zU (k + 1 + 1) = 10 * zU (k + 1) := rfl; omega
      · intro q
        subst q
        exact h1
    refine ziF (by omega) ?_
    by_cases g : s < u
    · refine ziT g ?_
      by_cases g2 : u = 1
      · rw [if_pos (Or.inr (m1.mp g2))] at h
        refine ziT g2 (zifI (by omega) ⟨⟨h3, by omega⟩, ?_⟩)
        exact ih _ (zwb w (48 + s / u % 10)) _ rfl (by omega) (by show 0 ≤ w 90 1 + 1; omega) (by show w 90 1 + 1 + m ≤ 492; omega) h
      · rw [if_neg (by have := m1; omega)] at h
        exact ziF g2 (ih _ w _ rfl (by omega) h3 (by omega) h)
    · rw [if_pos (Or.inl (by omega))] at h
      refine ziF g (zifI (by omega) ⟨⟨h3, by omega⟩, ?_⟩)
      exact ih _ (zwb w (48 + s / u % 10)) _ rfl (by omega) (by show 0 ≤ w 90 1 + 1; omega) (by show w 90 1 + 1 + m ≤ 492; omega) h
/-! $Page.writeNumber -/
set_option maxRecDepth 100000 in
theorem zk73_90 (x : Int) (w : zW) (K : zK) (h : ((-1000000000 ≤ x ∧ x ≤ 1000000000) ∧ 0 ≤ w 90 1 ∧ w 90 1 + 11 ≤ 492) ∧ (K (0, none) (zwL (znu x) w) 238)) : zcall 73 [(2, 90), (0, x), (9, 0), (9, 0), (9, 0), (9, 0)] w 238 K := by
  obtain ⟨hg, h⟩ := h
  refine (show (if x < 0 then (0 ≤ w 90 1 ∧ w 90 1 < 492) ∧ (zwp 73 21 [(2, 90), (0, x), (1, z64 (max x (-x))), (9, 0), (1, 1000000000), (9, 0)] [] (zwb w (45 : Int)) 238 0 K) else zwp 73 21 [(2, 90), (0, x), (1, z64 (max x (-x))), (9, 0), (1, 1000000000), (9, 0)] [] w 238 0 K) → _ from fun h => show zwp 73 0 [(2, 90), (0, x), (9, 0), (9, 0), (9, 0), (9, 0)] [] w 238 0 K from zgo_imp zT373_ok (cut := fun pc => Nat.beq pc 10 || Nat.beq pc 21 || Nat.beq pc 28 || Nat.beq pc 43 || Nat.beq pc 58) 400 (show if x < 0 then (0 ≤ w 90 1 ∧ w 90 1 < 492) ∧ (zwp 73 10 [(2, 90), (0, x), (9, 0), (9, 0), (9, 0), (9, 0)] [] (zwb w (45 : Int)) 238 0 K) else zwp 73 10 [(2, 90), (0, x), (9, 0), (9, 0), (9, 0), (9, 0)] [] w 238 0 K from zmI (fun h => zmA (fun h => (fun h => show zwp 73 10 [(2, 90), (0, x), (9, 0), (9, 0), (9, 0), (9, 0)] [] (zwb w (45 : Int)) 238 0 K from zgo_imp zT373_ok (cut := fun pc => Nat.beq pc 10 || Nat.beq pc 21 || Nat.beq pc 28 || Nat.beq pc 43 || Nat.beq pc 58) 400 (show zwp 73 21 [(2, 90), (0, x), (1, z64 (max x (-x))), (9, 0), (1, 1000000000), (9, 0)] [] (zwb w (45 : Int)) 238 0 K from h)) h) h) (fun h => (fun h => show zwp 73 10 [(2, 90), (0, x), (9, 0), (9, 0), (9, 0), (9, 0)] [] w 238 0 K from zgo_imp zT373_ok (cut := fun pc => Nat.beq pc 10 || Nat.beq pc 21 || Nat.beq pc 28 || Nat.beq pc 43 || Nat.beq pc 58) 400 (show zwp 73 21 [(2, 90), (0, x), (1, z64 (max x (-x))), (9, 0), (1, 1000000000), (9, 0)] [] w 238 0 K from h)) h) h)) ?_
  have e1 : z64 (max x (-x)) = zab x := by unfold zab; exact z64_id ⟨by omega, by omega⟩
  rw [e1]
  have az : 0 ≤ zab x ∧ zab x ≤ 1000000000 := by unfold zab; omega
  unfold znu at h
  rw [zwL_app] at h
  by_cases g : x < 0
  · rw [if_pos g] at h
    refine ziT g ⟨⟨hg.2.1, by omega⟩, ?_⟩
    exact zk73_L21 (zab x) az 10 1000000000 (zwb w 45) _ rfl (by decide) (by show 0 ≤ w 90 1 + 1; omega) (by show w 90 1 + 1 + ((10 : Nat) : Int) ≤ 492; omega) h
  · rw [if_neg g] at h
    refine ziF g ?_
    exact zk73_L21 (zab x) az 10 1000000000 w _ rfl (by decide) hg.2.1 (by omega) h
noncomputable def zb73 (l0 : List zV) (w : zW) (K : zK) : Prop := cond (zpe (zar l0 0) 90) (zA l0 1 fun x => ((-1000000000 ≤ x ∧ x ≤ 1000000000) ∧ 0 ≤ w 90 1 ∧ w 90 1 + 11 ≤ 492) ∧ (K (0, none) (zwL (znu x) w) 238)) (False)
noncomputable def zT374 : zSum := zsm1 73 [2, 0, 9, 9, 9, 9] zb73 zT373
theorem zT374_ok : zSok zT374 := zsm1_ok zT373_ok fun l0 w K h => by
  unfold zb73 at h
  cases q0 : zpe (zar l0 0) 90 with
  | true =>
    rw [q0, cond_true] at h
    have e : zar l0 0 = 90 := zpe_e q0
    show zcall 73 [(2, zar l0 0), (0, zar l0 1), (9, 0), (9, 0), (9, 0), (9, 0)] w 238 K
    rw [e]
    exact zk73_90 (zar l0 1) w K (zA_e h)
  | false =>
  rw [q0, cond_false] at h
  exact h.elim
set_option maxRecDepth 100000 in
theorem zk336_L39 {K : zK} (s : Int) (hs : 0 ≤ s ∧ s ≤ 1000000000)  : ∀ (m : Nat) (u : Int) (w : zW) (d1 : zV), (u = zU m) → (m ≤ 10) → (0 ≤ w 93 44) → (w 93 44 + m ≤ 600) → (K (0, none) (ztL (zdf m s) w) 238) → zwp 336 39 [(2, 93), d1, (0, s), (0, u)] [] w 238 0 K := by
  
  intro m
  induction m with
  | zero =>
    intro u w d1 h1 h2 h3 h4 h
    refine (show (if 0 < u then zif False (u ≠ 0) ((0 ≤ w 93 44 ∧ w 93 44 < 600) ∧ (zwp 336 39 [(2, 93), (9, 0), (0, s), (0, z32 (Int.tdiv u 10))] [] (ztb w (z32 (48 + (z32 (Int.tmod (z32 (Int.tdiv s u)) 10))))) 238 0 K)) else K (0, none) w 238) → _ from fun h => show zwp 336 39 [(2, 93), d1, (0, s), (0, u)] [] w 238 0 K from zgo_imp zT374_ok (cut := fun pc => Nat.beq pc 10 || Nat.beq pc 23 || Nat.beq pc 36 || Nat.beq pc 39 || Nat.beq pc 51 || Nat.beq pc 56) 400 (show if 0 < u then zif False (u ≠ 0) (zwp 336 51 [(2, 93), (9, 0), (0, s), (0, u)] [(0, 10), (0, z32 (Int.tdiv s u)), (0, 48), (2, 93)] w 238 0 K) else K (0, none) w 238 from zmI (fun h => zmZ (fun h => (fun h => show zwp 336 51 [(2, 93), (9, 0), (0, s), (0, u)] [(0, 10), (0, z32 (Int.tdiv s u)), (0, 48), (2, 93)] w 238 0 K from zgo_imp zT374_ok (cut := fun pc => Nat.beq pc 10 || Nat.beq pc 23 || Nat.beq pc 36 || Nat.beq pc 39 || Nat.beq pc 51 || Nat.beq pc 56) 400 (show (0 ≤ w 93 44 ∧ w 93 44 < 600) ∧ (zwp 336 56 [(2, 93), (9, 0), (0, s), (0, u)] [] (ztb w (z32 (48 + (z32 (Int.tmod (z32 (Int.tdiv s u)) 10))))) 238 0 K) from zmA (fun h => (fun h => show zwp 336 56 [(2, 93), (9, 0), (0, s), (0, u)] [] (ztb w (z32 (48 + (z32 (Int.tmod (z32 (Int.tdiv s u)) 10))))) 238 0 K from zgo_imp zT374_ok (cut := fun pc => Nat.beq pc 10 || Nat.beq pc 23 || Nat.beq pc 36 || Nat.beq pc 39 || Nat.beq pc 51 || Nat.beq pc 56) 400 (show zwp 336 39 [(2, 93), (9, 0), (0, s), (0, z32 (Int.tdiv u 10))] [] (ztb w (z32 (48 + (z32 (Int.tmod (z32 (Int.tdiv s u)) 10))))) 238 0 K from h)) h) h)) h) h) (fun h => h) h)) ?_
    exact ziF (by rw [h1]; decide) h
  | succ m ih =>
    intro u w d1 h1 h2 h3 h4 h
    refine (show (if 0 < u then zif False (u ≠ 0) ((0 ≤ w 93 44 ∧ w 93 44 < 600) ∧ (zwp 336 39 [(2, 93), (9, 0), (0, s), (0, z32 (Int.tdiv u 10))] [] (ztb w (z32 (48 + (z32 (Int.tmod (z32 (Int.tdiv s u)) 10))))) 238 0 K)) else K (0, none) w 238) → _ from fun h => show zwp 336 39 [(2, 93), d1, (0, s), (0, u)] [] w 238 0 K from zgo_imp zT374_ok (cut := fun pc => Nat.beq pc 10 || Nat.beq pc 23 || Nat.beq pc 36 || Nat.beq pc 39 || Nat.beq pc 51 || Nat.beq pc 56) 400 (show if 0 < u then zif False (u ≠ 0) (zwp 336 51 [(2, 93), (9, 0), (0, s), (0, u)] [(0, 10), (0, z32 (Int.tdiv s u)), (0, 48), (2, 93)] w 238 0 K) else K (0, none) w 238 from zmI (fun h => zmZ (fun h => (fun h => show zwp 336 51 [(2, 93), (9, 0), (0, s), (0, u)] [(0, 10), (0, z32 (Int.tdiv s u)), (0, 48), (2, 93)] w 238 0 K from zgo_imp zT374_ok (cut := fun pc => Nat.beq pc 10 || Nat.beq pc 23 || Nat.beq pc 36 || Nat.beq pc 39 || Nat.beq pc 51 || Nat.beq pc 56) 400 (show (0 ≤ w 93 44 ∧ w 93 44 < 600) ∧ (zwp 336 56 [(2, 93), (9, 0), (0, s), (0, u)] [] (ztb w (z32 (48 + (z32 (Int.tmod (z32 (Int.tdiv s u)) 10))))) 238 0 K) from zmA (fun h => (fun h => show zwp 336 56 [(2, 93), (9, 0), (0, s), (0, u)] [] (ztb w (z32 (48 + (z32 (Int.tmod (z32 (Int.tdiv s u)) 10))))) 238 0 K from zgo_imp zT374_ok (cut := fun pc => Nat.beq pc 10 || Nat.beq pc 23 || Nat.beq pc 36 || Nat.beq pc 39 || Nat.beq pc 51 || Nat.beq pc 56) 400 (show zwp 336 39 [(2, 93), (9, 0), (0, s), (0, z32 (Int.tdiv u 10))] [] (ztb w (z32 (48 + (z32 (Int.tmod (z32 (Int.tdiv s u)) 10))))) 238 0 K from h)) h) h)) h) h) (fun h => h) h)) ?_
    have u0 := zU_pos m
    have u1 := zU_le (m + 1) h2
    have dn := zU_dn m
    rw [← h1] at u0 u1 dn
    have d := zdgst hs u0
    have e1 : z32 (Int.tdiv s u) = s / u := by rw [Int.tdiv_eq_ediv_of_nonneg hs.1]; exact z32_id ⟨by omega, by omega⟩
    have e2 : z32 (Int.tmod (s / u) 10) = s / u % 10 := by rw [Int.tmod_eq_emod_of_nonneg d.1]; exact z32_id ⟨by omega, by omega⟩
    have e4 : z32 (48 + s / u % 10) = 48 + s / u % 10 := z32_id ⟨by omega, by omega⟩
    have e5 : z32 (Int.tdiv u 10) = zU m := by rw [Int.tdiv_eq_ediv_of_nonneg (by omega), dn]; have := zU_le m (by omega); exact z32_id ⟨by omega, by omega⟩
    rw [e1, e2, e4, e5]
    have eb : zdf (m + 1) s = (48 + s / zU (m + 1) % 10) :: zdf m s := rfl
    rw [eb, ← h1] at h
    refine ziT (by omega) (zifI (by omega) ⟨⟨h3, by omega⟩, ?_⟩)
    exact ih _ (ztb w (48 + s / u % 10)) _ rfl (by omega) (by show 0 ≤ w 93 44 + 1; omega) (by show w 93 44 + 1 + m ≤ 600; omega) h
theorem zk336_E {K : zK} (s : Int) (hs : 0 ≤ s ∧ s ≤ 1000000000) (m : Nat) (u : Int) (w : zW) (d : zV) (h1 : u = zU (10 - m)) (h2 : m ≤ 9) (h3 : 0 ≤ w 93 44) (h4 : w 93 44 + 10 ≤ 600) (h6 : 10 - m ≤ 1 ∨ zU (10 - m) ≤ s) (lt : s < zU (11 - m)) (h : K (0, none) (ztL (zdgs 10 s) w) 238) : zwp 336 39 [(2, 93), d, (0, s), (0, u)] [] w 238 0 K := by
  have en : zdgs 10 s = zdgs (10 - m) s := by
    have e := zdg_up (k := 10 - m) (s := s) (by omega) (by rw [show 10 - m + 1 = 11 - m by omega]; exact lt) m
    rw [show 10 - m + m = 10 by omega] at e
    exact e
  rw [en, zdg_all (10 - m) s h6] at h
  exact zk336_L39 s hs (10 - m) u w _ h1 (by omega) h3 (by omega) h
set_option maxRecDepth 100000 in
theorem zk336_L23 {K : zK} (s : Int) (hs : 0 ≤ s ∧ s ≤ 1000000000)  : ∀ (m : Nat) (u : Int) (w : zW) (d1 : zV), (u = zU (10 - m)) → (m ≤ 9) → (0 ≤ w 93 44) → (w 93 44 + 10 ≤ 600) → (10 - m ≤ 1 ∨ zU (10 - m) ≤ s) → (K (0, none) (ztL (zdgs 10 s) w) 238) → zwp 336 23 [(2, 93), d1, (0, s), (0, u)] [] w 238 0 K := by
  
  intro m
  induction m with
  | zero =>
    intro u w d1 h1 h2 h3 h4 h6 h
    refine (show (zif False (u ≠ 0) (if 9 < z32 (Int.tdiv s u) then zwp 336 23 [(2, 93), (9, 0), (0, s), (0, z32 (u * 10))] [] w 238 0 K else zwp 336 39 [(2, 93), (9, 0), (0, s), (0, u)] [] w 238 0 K)) → _ from fun h => show zwp 336 23 [(2, 93), d1, (0, s), (0, u)] [] w 238 0 K from zgo_imp zT374_ok (cut := fun pc => Nat.beq pc 10 || Nat.beq pc 23 || Nat.beq pc 36 || Nat.beq pc 39 || Nat.beq pc 51 || Nat.beq pc 56) 400 (show zif False (u ≠ 0) (if 9 < z32 (Int.tdiv s u) then zwp 336 36 [(2, 93), (9, 0), (0, s), (0, z32 (u * 10))] [] w 238 0 K else zwp 336 39 [(2, 93), (9, 0), (0, s), (0, u)] [] w 238 0 K) from zmZ (fun h => zmI (fun h => (fun h => show zwp 336 36 [(2, 93), (9, 0), (0, s), (0, z32 (u * 10))] [] w 238 0 K from zgo_imp zT374_ok (cut := fun pc => Nat.beq pc 10 || Nat.beq pc 23 || Nat.beq pc 36 || Nat.beq pc 39 || Nat.beq pc 51 || Nat.beq pc 56) 400 (show zwp 336 23 [(2, 93), (9, 0), (0, s), (0, z32 (u * 10))] [] w 238 0 K from h)) h) (fun h => h) h) h)) ?_
    have eu : u = 1000000000 := h1
    have e1 : z32 (Int.tdiv s u) = s / u := by rw [Int.tdiv_eq_ediv_of_nonneg hs.1, eu]; exact z32_id ⟨by omega, by omega⟩
    rw [e1]
    refine zifI (by omega) (ziF (by rw [eu]; omega) ?_)
    have lt : s < zU (11 - 0) := by
      show s < 10000000000
      omega
    exact zk336_E s hs 0 u w _ h1 h2 h3 h4 h6 lt h
  | succ m ih =>
    intro u w d1 h1 h2 h3 h4 h6 h
    refine (show (zif False (u ≠ 0) (if 9 < z32 (Int.tdiv s u) then zwp 336 23 [(2, 93), (9, 0), (0, s), (0, z32 (u * 10))] [] w 238 0 K else zwp 336 39 [(2, 93), (9, 0), (0, s), (0, u)] [] w 238 0 K)) → _ from fun h => show zwp 336 23 [(2, 93), d1, (0, s), (0, u)] [] w 238 0 K from zgo_imp zT374_ok (cut := fun pc => Nat.beq pc 10 || Nat.beq pc 23 || Nat.beq pc 36 || Nat.beq pc 39 || Nat.beq pc 51 || Nat.beq pc 56) 400 (show zif False (u ≠ 0) (if 9 < z32 (Int.tdiv s u) then zwp 336 36 [(2, 93), (9, 0), (0, s), (0, z32 (u * 10))] [] w 238 0 K else zwp 336 39 [(2, 93), (9, 0), (0, s), (0, u)] [] w 238 0 K) from zmZ (fun h => zmI (fun h => (fun h => show zwp 336 36 [(2, 93), (9, 0), (0, s), (0, z32 (u * 10))] [] w 238 0 K from zgo_imp zT374_ok (cut := fun pc => Nat.beq pc 10 || Nat.beq pc 23 || Nat.beq pc 36 || Nat.beq pc 39 || Nat.beq pc 51 || Nat.beq pc 56) 400 (show zwp 336 23 [(2, 93), (9, 0), (0, s), (0, z32 (u * 10))] [] w 238 0 K from h)) h) (fun h => h) h) h)) ?_
    have eu : zU (10 - (m + 1)) = zU (9 - m) := by rw [show 10 - (m + 1) = 9 - m by omega]
    have u0 : 1 ≤ u := by have := zU_pos (8 - m); rw [show 8 - m + 1 = 9 - m by omega] at this; omega
    have d := zdgst hs u0
    have e1 : z32 (Int.tdiv s u) = s / u := by rw [Int.tdiv_eq_ediv_of_nonneg hs.1]; exact z32_id ⟨by omega, by omega⟩
    rw [e1]
    have nx : zU (10 - m) = 10 * u := by
      rw [h1, eu, show 10 - m = (8 - m) + 2 by omega, show 9 - m = 8 - m + 1 by omega]
      rfl
    have ul := zU_le (10 - m) (by omega)
    refine zifI (by omega) ?_
    by_cases g : 9 < s / u
    · have le : 10 * u ≤ s := by
        have := (Int.le_ediv_iff_mul_le (show 0 < u by omega)).mp (show 10 ≤ s / u by omega)
        omega
      rw [z32_id (x := u * 10) ⟨by omega, by omega⟩]
      exact ziT g (ih _ w _ (by omega) (by omega) h3 h4 (Or.inr (by omega)) h)
    · refine ziF g ?_
      have lt : s < zU (11 - (m + 1)) := by
        rw [show 11 - (m + 1) = 10 - m by omega, nx]
        have := (Int.ediv_lt_iff_lt_mul (show 0 < u by omega)).mp (show s / u < 10 by omega)
        omega
      exact zk336_E s hs (m + 1) u w _ h1 h2 h3 h4 h6 lt h
/-! Model.tellNumber -/
set_option maxRecDepth 100000 in
theorem zk336_93 (x : Int) (w : zW) (K : zK) (h : ((-1000000000 ≤ x ∧ x ≤ 1000000000) ∧ 0 ≤ w 93 44 ∧ w 93 44 + 11 ≤ 600) ∧ (K (0, none) (ztL (znu x) w) 238)) : zcall 336 [(2, 93), (0, x), (9, 0), (9, 0)] w 238 K := by
  obtain ⟨hg, h⟩ := h
  refine (show (if x < 0 then (0 ≤ w 93 44 ∧ w 93 44 < 600) ∧ (if x < 0 then zwp 336 23 [(2, 93), (9, 0), (0, z32 (-x)), (0, 1)] [] (ztb w (45 : Int)) 238 0 K else zwp 336 23 [(2, 93), (9, 0), (0, x), (0, 1)] [] (ztb w (45 : Int)) 238 0 K) else if x < 0 then zwp 336 23 [(2, 93), (9, 0), (0, z32 (-x)), (0, 1)] [] w 238 0 K else zwp 336 23 [(2, 93), (9, 0), (0, x), (0, 1)] [] w 238 0 K) → _ from fun h => show zwp 336 0 [(2, 93), (0, x), (9, 0), (9, 0)] [] w 238 0 K from zgo_imp zT374_ok (cut := fun pc => Nat.beq pc 10 || Nat.beq pc 23 || Nat.beq pc 36 || Nat.beq pc 51 || Nat.beq pc 56) 400 (show if x < 0 then (0 ≤ w 93 44 ∧ w 93 44 < 600) ∧ (zwp 336 10 [(2, 93), (0, x), (9, 0), (9, 0)] [] (ztb w (45 : Int)) 238 0 K) else zwp 336 10 [(2, 93), (0, x), (9, 0), (9, 0)] [] w 238 0 K from zmI (fun h => zmA (fun h => (fun h => show zwp 336 10 [(2, 93), (0, x), (9, 0), (9, 0)] [] (ztb w (45 : Int)) 238 0 K from zgo_imp zT374_ok (cut := fun pc => Nat.beq pc 10 || Nat.beq pc 23 || Nat.beq pc 36 || Nat.beq pc 51 || Nat.beq pc 56) 400 (show if x < 0 then zwp 336 23 [(2, 93), (9, 0), (0, z32 (-x)), (0, 1)] [] (ztb w (45 : Int)) 238 0 K else zwp 336 23 [(2, 93), (9, 0), (0, x), (0, 1)] [] (ztb w (45 : Int)) 238 0 K from h)) h) h) (fun h => (fun h => show zwp 336 10 [(2, 93), (0, x), (9, 0), (9, 0)] [] w 238 0 K from zgo_imp zT374_ok (cut := fun pc => Nat.beq pc 10 || Nat.beq pc 23 || Nat.beq pc 36 || Nat.beq pc 51 || Nat.beq pc 56) 400 (show if x < 0 then zwp 336 23 [(2, 93), (9, 0), (0, z32 (-x)), (0, 1)] [] w 238 0 K else zwp 336 23 [(2, 93), (9, 0), (0, x), (0, 1)] [] w 238 0 K from h)) h) h)) ?_
  have az : 0 ≤ zab x ∧ zab x ≤ 1000000000 := by unfold zab; omega
  unfold znu at h
  rw [ztL_app] at h
  by_cases g : x < 0
  · rw [if_pos g] at h
    refine ziT g ⟨⟨hg.2.1, by omega⟩, ziT g ?_⟩
    have e : z32 (-x) = zab x := by unfold zab; rw [z32_id ⟨by omega, by omega⟩]; omega
    rw [e]
    exact zk336_L23 (zab x) az 9 1 (ztb w 45) _ rfl (by decide) (by show 0 ≤ w 93 44 + 1; omega) (by show w 93 44 + 1 + 10 ≤ 600; omega) (Or.inl (by decide)) h
  · rw [if_neg g] at h
    refine ziF g (ziF g ?_)
    have e : x = zab x := by unfold zab; omega
    have := zk336_L23 (K := K) (zab x) az 9 1 w (9, 0) rfl (by decide) hg.2.1 (by omega) (Or.inl (by decide)) h
    rw [← e] at this
    exact this
noncomputable def zb336 (l0 : List zV) (w : zW) (K : zK) : Prop := cond (zpe (zar l0 0) 93) (zA l0 1 fun x => ((-1000000000 ≤ x ∧ x ≤ 1000000000) ∧ 0 ≤ w 93 44 ∧ w 93 44 + 11 ≤ 600) ∧ (K (0, none) (ztL (znu x) w) 238)) (False)
noncomputable def zT375 : zSum := zsm1 336 [2, 0, 9, 9] zb336 zT374
theorem zT375_ok : zSok zT375 := zsm1_ok zT374_ok fun l0 w K h => by
  unfold zb336 at h
  cases q0 : zpe (zar l0 0) 93 with
  | true =>
    rw [q0, cond_true] at h
    have e : zar l0 0 = 93 := zpe_e q0
    show zcall 336 [(2, zar l0 0), (0, zar l0 1), (9, 0), (9, 0)] w 238 K
    rw [e]
    exact zk336_93 (zar l0 1) w K (zA_e h)
  | false =>
  rw [q0, cond_false] at h
  exact h.elim
theorem zwL_ml {l : List Int} {w : zW} : zml (ztL l w) = zml w := zml_fr (ztL_ne (by decide) (by decide) l w) (ztL_ne (by decide) (by decide) l w)
/-- a circle's line, as the class and as the model write it -/
def zlnC (w : zW) (c : Int) : List Int := zby8 (w 5 c.toNat) 8 ++ ([32] ++ (znu (w 30 c.toNat) ++ ((if w 33 c.toNat = 0 then [] else [32] ++ (znu (w 31 c.toNat) ++ ([44] ++ znu (w 32 c.toNat)))) ++ [10])))
def zlnM (w : zW) (c : Int) : List Int := zby5 (w 101 c.toNat) 8 0 ++ ([32] ++ (znu (w 98 c.toNat) ++ ((if zml w c = 0 then [] else [32] ++ (znu (w 104 c.toNat) ++ ([44] ++ znu (w 105 c.toNat)))) ++ [10])))
def zlsC (w : zW) : Nat → Int → List Int
  | 0, _ => []
  | m + 1, i => zlnC w i ++ zlsC w m (i + 1)
def zlsM (w : zW) : Nat → Int → List Int
  | 0, _ => []
  | m + 1, i => zlnM w i ++ zlsM w m (i + 1)
theorem zlsC_fr {w v : zW} (e : ∀ p, p ≠ 90 → p ≠ 91 → v p = w p) : ∀ (m : Nat) (i : Int), zlsC v m i = zlsC w m i
  | 0, _ => rfl
  | m + 1, i => by
    show zlnC v i ++ zlsC v m (i + 1) = zlnC w i ++ zlsC w m (i + 1)
    rw [zlsC_fr e m (i + 1)]
    unfold zlnC
    rw [e 5 (by decide) (by decide), e 30 (by decide) (by decide), e 31 (by decide) (by decide), e 32 (by decide) (by decide), e 33 (by decide) (by decide)]
theorem zlsM_fr {w v : zW} (e : ∀ p, p ≠ 93 → p ≠ 115 → v p = w p) : ∀ (m : Nat) (i : Int), zlsM v m i = zlsM w m i
  | 0, _ => rfl
  | m + 1, i => by
    have z : zml v = zml w := zml_fr (e 102 (by decide) (by decide)) (e 103 (by decide) (by decide))
    show zlnM v i ++ zlsM v m (i + 1) = zlnM w i ++ zlsM w m (i + 1)
    rw [zlsM_fr e m (i + 1)]
    unfold zlnM
    rw [z, e 101 (by decide) (by decide), e 98 (by decide) (by decide), e 104 (by decide) (by decide), e 105 (by decide) (by decide)]
theorem zlsC_1 (w : zW) (m : Nat) (i : Int) : zwL (zlsC w (m + 1) i) w = zwL (zlsC (zwL (zlnC w i) w) m (i + 1)) (zwL (zlnC w i) w) := by
  show zwL (zlnC w i ++ zlsC w m (i + 1)) w = _
  rw [zwL_app, zlsC_fr (v := zwL (zlnC w i) w) (w := w) fun p h1 h2 => zwL_ne h1 h2 _ _]
theorem zlsM_1 (w : zW) (m : Nat) (i : Int) : ztL (zlsM w (m + 1) i) w = ztL (zlsM (ztL (zlnM w i) w) m (i + 1)) (ztL (zlnM w i) w) := by
  show ztL (zlnM w i ++ zlsM w m (i + 1)) w = _
  rw [ztL_app, zlsM_fr (v := ztL (zlnM w i) w) (w := w) fun p h1 h2 => ztL_ne h1 h2 _ _]
theorem zlnC_len {w : zW} {c : Int} (h : 0 ≤ w 30 c.toNat ∧ w 30 c.toNat < 10000000) : (zlnC w c).length ≤ 41 := by
  have a := (zby_rg (x := w 5 c.toNat) 8).2
  have b := (znu_rg (w 30 c.toNat)).2.2 h.1 h.2
  have x := (znu_rg (w 31 c.toNat)).2.1
  have y := (znu_rg (w 32 c.toNat)).2.1
  unfold zlnC
  by_cases g : w 33 c.toNat = 0
  · rw [if_pos g]
    simp only [List.length_append, List.length_cons, List.length_nil]
    omega
  · rw [if_neg g]
    simp only [List.length_append, List.length_cons, List.length_nil]
    omega
theorem zlnC_rg {w : zW} {c : Int} : ∀ b ∈ zlnC w c, 0 ≤ b ∧ b < 256 := by
  intro b hb
  unfold zlnC at hb
  have lit : ∀ k : Int, 0 ≤ k → k < 256 → b ∈ [k] → 0 ≤ b ∧ b < 256 := fun k k0 k1 q => by
    rcases List.mem_cons.mp q with e | e
    · rw [e]; exact ⟨k0, k1⟩
    · cases e
  rcases List.mem_append.mp hb with q | q
  · exact (zby_rg 8).1 b q
  rcases List.mem_append.mp q with q | q
  · exact lit 32 (by decide) (by decide) q
  rcases List.mem_append.mp q with q | q
  · exact (znu_rg _).1 b q
  rcases List.mem_append.mp q with q | q
  · by_cases g : w 33 c.toNat = 0
    · rw [if_pos g] at q; cases q
    · rw [if_neg g] at q
      rcases List.mem_append.mp q with q | q
      · exact lit 32 (by decide) (by decide) q
      rcases List.mem_append.mp q with q | q
      · exact (znu_rg _).1 b q
      rcases List.mem_append.mp q with q | q
      · exact lit 44 (by decide) (by decide) q
      · exact (znu_rg _).1 b q
  · exact lit 10 (by decide) (by decide) q

/-! ===== counting, names (written by wip/whole/gen_c.py) ===== -/
theorem ziT {c : Prop} [Decidable c] {a b : Prop} (h : c) (k : a) : if c then a else b := by rw [if_pos h]; exact k
theorem ziF {c : Prop} [Decidable c] {a b : Prop} (h : ¬ c) (k : b) : if c then a else b := by rw [if_neg h]; exact k
theorem zmI {c : Prop} [Decidable c] {a b a' b' : Prop} (f : a → a') (g : b → b') (h : if c then a else b) : if c then a' else b' := by
  by_cases q : c
  · rw [if_pos q] at h ⊢; exact f h
  · rw [if_neg q] at h ⊢; exact g h
theorem zmZ {c : Prop} [Decidable c] {a a' : Prop} (f : a → a') (h : zif False c a) : zif False c a' := zmI f id h
theorem zmA {c a a' : Prop} (f : a → a') (h : c ∧ a) : c ∧ a' := ⟨h.1, f h.2⟩
theorem zKe {K : zK} {g : Nat} {x y : Int} {w : zW} {t : Nat} (h : K (0, some (g, x)) w t) (e : x = y) : K (0, some (g, y)) w t := e ▸ h
theorem zNt.kd {w : zW} (h : zNt w) {c : Int} (h0 : 0 ≤ c) (h1 : c < w 95 0) : (if w 11 c.toNat = 0 then 2 else if w 12 c.toNat = 0 then 1 else 0) = zKd (zF0 w) (w 95 0) c := by
  obtain ⟨q1, q2, _⟩ := h.row h0 h1
  rw [q1, q2]
  rcases zKd_rg (zF0 w) (w 95 0) c with e | e | e
  · have : zNb (zF0 w) (w 95 0) c ≠ 0 := fun q => by unfold zKd at e; rw [if_pos q] at e; omega
    rw [if_neg this, e]; rfl
  · have : zNb (zF0 w) (w 95 0) c ≠ 0 := fun q => by unfold zKd at e; rw [if_pos q] at e; omega
    rw [if_neg this, e]; rfl
  · have : zNb (zF0 w) (w 95 0) c = 0 := by
      by_cases q : zNb (zF0 w) (w 95 0) c = 0
      · exact q
      · unfold zKd at e; rw [if_neg q] at e; split at e <;> omega
    rw [if_pos this, e]
set_option maxRecDepth 100000 in
theorem zk187_L4 {w : zW} {K : zK} (hN : zNt w)  : ∀ (m : Nat) (i a : Int), (0 ≤ i) → (i + m = w 95 0) → (0 ≤ a) → (a ≤ i) → (K (0, some (0, a + zSm (fun c => if 0 < w 97 (c).toNat then 1 else 0) m i)) w 238) → zwp 187 4 [(2, 0), (0, a), (0, i)] [] w 238 0 K := by
  
  intro m
  induction m with
  | zero =>
    intro i a  h1 h2 h3 h4 h
    refine (show (if i < w 4 0 then zif False (0 ≤ i ∧ i < 12) (if ((if 0 < w 6 i.toNat then 1 else 0) : Int) = 0 then zwp 187 4 [(2, 0), (0, a), (0, z32 (i + 1))] [] w 238 0 K else zwp 187 4 [(2, 0), (0, z32 (a + 1)), (0, z32 (i + 1))] [] w 238 0 K) else K (0, some (0, a)) w 238) → _ from fun h => show zwp 187 4 [(2, 0), (0, a), (0, i)] [] w 238 0 K from zgo_imp zT23_ok (cut := fun pc => Nat.beq pc 4 || Nat.beq pc 15 || Nat.beq pc 23) 400 (show if i < w 4 0 then zwp 187 15 [(2, 0), (0, a), (0, i)] [] w 238 0 K else K (0, some (0, a)) w 238 from zmI (fun h => (fun h => show zwp 187 15 [(2, 0), (0, a), (0, i)] [] w 238 0 K from zgo_imp zT23_ok (cut := fun pc => Nat.beq pc 4 || Nat.beq pc 15 || Nat.beq pc 23) 400 (show zif False (0 ≤ i ∧ i < 12) (zwp 187 23 [(2, 0), (0, a), (0, i)] [(0, ((if 0 < w 6 i.toNat then 1 else 0) : Int))] w 238 0 K) from zmZ (fun h => (fun h => show zwp 187 23 [(2, 0), (0, a), (0, i)] [(0, ((if 0 < w 6 i.toNat then 1 else 0) : Int))] w 238 0 K from zgo_imp zT23_ok (cut := fun pc => Nat.beq pc 4 || Nat.beq pc 15 || Nat.beq pc 23) 400 (show if ((if 0 < w 6 i.toNat then 1 else 0) : Int) = 0 then zwp 187 4 [(2, 0), (0, a), (0, z32 (i + 1))] [] w 238 0 K else zwp 187 4 [(2, 0), (0, z32 (a + 1)), (0, z32 (i + 1))] [] w 238 0 K from h)) h) h)) h) (fun h => h) h)) ?_
    obtain ⟨n1, n2, n3, _⟩ := hN.n
    refine ziF (by omega) ?_
    exact zKe h (by show a + 0 = a; omega)
  | succ m ih =>
    intro i a  h1 h2 h3 h4 h
    refine (show (if i < w 4 0 then zif False (0 ≤ i ∧ i < 12) (if ((if 0 < w 6 i.toNat then 1 else 0) : Int) = 0 then zwp 187 4 [(2, 0), (0, a), (0, z32 (i + 1))] [] w 238 0 K else zwp 187 4 [(2, 0), (0, z32 (a + 1)), (0, z32 (i + 1))] [] w 238 0 K) else K (0, some (0, a)) w 238) → _ from fun h => show zwp 187 4 [(2, 0), (0, a), (0, i)] [] w 238 0 K from zgo_imp zT23_ok (cut := fun pc => Nat.beq pc 4 || Nat.beq pc 15 || Nat.beq pc 23) 400 (show if i < w 4 0 then zwp 187 15 [(2, 0), (0, a), (0, i)] [] w 238 0 K else K (0, some (0, a)) w 238 from zmI (fun h => (fun h => show zwp 187 15 [(2, 0), (0, a), (0, i)] [] w 238 0 K from zgo_imp zT23_ok (cut := fun pc => Nat.beq pc 4 || Nat.beq pc 15 || Nat.beq pc 23) 400 (show zif False (0 ≤ i ∧ i < 12) (zwp 187 23 [(2, 0), (0, a), (0, i)] [(0, ((if 0 < w 6 i.toNat then 1 else 0) : Int))] w 238 0 K) from zmZ (fun h => (fun h => show zwp 187 23 [(2, 0), (0, a), (0, i)] [(0, ((if 0 < w 6 i.toNat then 1 else 0) : Int))] w 238 0 K from zgo_imp zT23_ok (cut := fun pc => Nat.beq pc 4 || Nat.beq pc 15 || Nat.beq pc 23) 400 (show if ((if 0 < w 6 i.toNat then 1 else 0) : Int) = 0 then zwp 187 4 [(2, 0), (0, a), (0, z32 (i + 1))] [] w 238 0 K else zwp 187 4 [(2, 0), (0, z32 (a + 1)), (0, z32 (i + 1))] [] w 238 0 K from h)) h) h)) h) (fun h => h) h)) ?_
    obtain ⟨n1, n2, n3, _⟩ := hN.n
    refine ziT (by omega) ?_
    refine zifI (by omega) ?_
    have hd := (hN.deg h1 (by omega)).1
    by_cases hp : 0 < w 97 (i).toNat
    · refine ziF (by omega) ?_
      rw [z32_id (x := a + 1) ⟨by omega, by omega⟩, z32_id (x := i + 1) ⟨by omega, by omega⟩]
      refine ih _ _  (by omega) (by omega) (by omega) (by omega) (zKe h ?_)
      show a + ((if 0 < w 97 (i).toNat then 1 else 0) + _) = _
      rw [if_pos hp]; omega
    · refine ziT (by omega) ?_
      rw [z32_id (x := i + 1) ⟨by omega, by omega⟩]
      refine ih _ _  (by omega) (by omega) (by omega) (by omega) (zKe h ?_)
      show a + ((if 0 < w 97 (i).toNat then 1 else 0) + _) = _
      rw [if_neg hp]; omega
/-! .countFree -/
set_option maxRecDepth 100000 in
theorem zk187_0 (w : zW) (K : zK) (h : (zNt w) ∧ (K (0, some (0, zSm (fun c => if 0 < w 97 c.toNat then 1 else 0) (w 95 0).toNat 0)) (w) 238)) : zcall 187 [(2, 0), (9, 0), (9, 0)] w 238 K := by
  obtain ⟨hg, h⟩ := h
  refine (show (zwp 187 4 [(2, 0), (0, 0), (0, 0)] [] w 238 0 K) → _ from fun h => show zwp 187 0 [(2, 0), (9, 0), (9, 0)] [] w 238 0 K from zgo_imp zT23_ok (cut := fun pc => Nat.beq pc 4 || Nat.beq pc 15 || Nat.beq pc 23) 400 (show zwp 187 4 [(2, 0), (0, 0), (0, 0)] [] w 238 0 K from h)) ?_
  obtain ⟨n1, n2, n3, _⟩ := hg.n
  exact zk187_L4 hg (w 95 0).toNat 0 0 (by omega) (by omega) (by omega) (by omega) (zKe h (by omega))
noncomputable def zb187 (l0 : List zV) (w : zW) (K : zK) : Prop := cond (zis0 (zar l0 0)) ((zNt w) ∧ (K (0, some (0, zSm (fun c => if 0 < w 97 c.toNat then 1 else 0) (w 95 0).toNat 0)) (w) 238)) (False)
noncomputable def zT24 : zSum := zsm1 187 [2, 9, 9] zb187 zT23
theorem zT24_ok : zSok zT24 := zsm1_ok zT23_ok fun l0 w K h => by
  unfold zb187 at h
  cases q0 : zis0 (zar l0 0) with
  | true =>
    rw [q0, cond_true] at h
    have e : zar l0 0 = 0 := zis0_e q0
    show zcall 187 [(2, zar l0 0), (9, 0), (9, 0)] w 238 K
    rw [e]
    exact zk187_0  w K h
  | false =>
  rw [q0, cond_false] at h
  exact h.elim
set_option maxRecDepth 100000 in
theorem zk185_L4 {w : zW} {K : zK} (hN : zNt w)  : ∀ (m : Nat) (i a : Int), (0 ≤ i) → (i + m = w 95 0) → (0 ≤ a) → (a ≤ 12 * i) → (K (0, some (0, (a + zSm (zNb (zF0 w) (w 95 0)) m i) / 2)) w 238) → zwp 185 4 [(2, 0), (0, a), (0, i)] [] w 238 0 K := by
  
  intro m
  induction m with
  | zero =>
    intro i a  h1 h2 h3 h4 h
    refine (show (if i < w 4 0 then zif False (0 ≤ i ∧ i < 12) (zwp 185 4 [(2, 0), (0, z32 (a + (w 11 i.toNat))), (0, z32 (i + 1))] [] w 238 0 K) else K (0, some (0, z32 (Int.tdiv a 2))) w 238) → _ from fun h => show zwp 185 4 [(2, 0), (0, a), (0, i)] [] w 238 0 K from zgo_imp zT24_ok (cut := fun pc => Nat.beq pc 4 || Nat.beq pc 15 || Nat.beq pc 24) 400 (show if i < w 4 0 then zwp 185 15 [(2, 0), (0, a), (0, i)] [] w 238 0 K else K (0, some (0, z32 (Int.tdiv a 2))) w 238 from zmI (fun h => (fun h => show zwp 185 15 [(2, 0), (0, a), (0, i)] [] w 238 0 K from zgo_imp zT24_ok (cut := fun pc => Nat.beq pc 4 || Nat.beq pc 15 || Nat.beq pc 24) 400 (show zif False (0 ≤ i ∧ i < 12) (zwp 185 24 [(2, 0), (0, a), (0, i)] [(0, w 11 i.toNat), (0, a)] w 238 0 K) from zmZ (fun h => (fun h => show zwp 185 24 [(2, 0), (0, a), (0, i)] [(0, w 11 i.toNat), (0, a)] w 238 0 K from zgo_imp zT24_ok (cut := fun pc => Nat.beq pc 4 || Nat.beq pc 15 || Nat.beq pc 24) 400 (show zwp 185 4 [(2, 0), (0, z32 (a + (w 11 i.toNat))), (0, z32 (i + 1))] [] w 238 0 K from h)) h) h)) h) (fun h => h) h)) ?_
    obtain ⟨n1, n2, n3, _⟩ := hN.n
    refine ziF (by omega) ?_
    refine zKe h ?_
    show (a + 0) / 2 = _
    rw [Int.tdiv_eq_ediv_of_nonneg h3, z32_id ⟨by omega, by omega⟩]; omega
  | succ m ih =>
    intro i a  h1 h2 h3 h4 h
    refine (show (if i < w 4 0 then zif False (0 ≤ i ∧ i < 12) (zwp 185 4 [(2, 0), (0, z32 (a + (w 11 i.toNat))), (0, z32 (i + 1))] [] w 238 0 K) else K (0, some (0, z32 (Int.tdiv a 2))) w 238) → _ from fun h => show zwp 185 4 [(2, 0), (0, a), (0, i)] [] w 238 0 K from zgo_imp zT24_ok (cut := fun pc => Nat.beq pc 4 || Nat.beq pc 15 || Nat.beq pc 24) 400 (show if i < w 4 0 then zwp 185 15 [(2, 0), (0, a), (0, i)] [] w 238 0 K else K (0, some (0, z32 (Int.tdiv a 2))) w 238 from zmI (fun h => (fun h => show zwp 185 15 [(2, 0), (0, a), (0, i)] [] w 238 0 K from zgo_imp zT24_ok (cut := fun pc => Nat.beq pc 4 || Nat.beq pc 15 || Nat.beq pc 24) 400 (show zif False (0 ≤ i ∧ i < 12) (zwp 185 24 [(2, 0), (0, a), (0, i)] [(0, w 11 i.toNat), (0, a)] w 238 0 K) from zmZ (fun h => (fun h => show zwp 185 24 [(2, 0), (0, a), (0, i)] [(0, w 11 i.toNat), (0, a)] w 238 0 K from zgo_imp zT24_ok (cut := fun pc => Nat.beq pc 4 || Nat.beq pc 15 || Nat.beq pc 24) 400 (show zwp 185 4 [(2, 0), (0, z32 (a + (w 11 i.toNat))), (0, z32 (i + 1))] [] w 238 0 K from h)) h) h)) h) (fun h => h) h)) ?_
    obtain ⟨n1, n2, n3, _⟩ := hN.n
    refine ziT (by omega) ?_
    refine zifI (by omega) ?_
    have q1 := (hN.row h1 (by omega)).1
    have q2 := zNb_rg (zF0 w) i n2
    rw [q1, z32_id (x := a + zNb (zF0 w) (w 95 0) i) ⟨by omega, by omega⟩, z32_id (x := i + 1) ⟨by omega, by omega⟩]
    refine ih _ _ (by omega) (by omega) (by omega) (by omega) (zKe h ?_)
    show (a + (zNb (zF0 w) (w 95 0) i + _)) / 2 = _
    rw [Int.add_assoc]
/-! .countPairs -/
set_option maxRecDepth 100000 in
theorem zk185_0 (w : zW) (K : zK) (h : (zNt w) ∧ (K (0, some (0, zSm (zNb (zF0 w) (w 95 0)) (w 95 0).toNat 0 / 2)) (w) 238)) : zcall 185 [(2, 0), (9, 0), (9, 0)] w 238 K := by
  obtain ⟨hg, h⟩ := h
  refine (show (zwp 185 4 [(2, 0), (0, 0), (0, 0)] [] w 238 0 K) → _ from fun h => show zwp 185 0 [(2, 0), (9, 0), (9, 0)] [] w 238 0 K from zgo_imp zT24_ok (cut := fun pc => Nat.beq pc 4 || Nat.beq pc 15 || Nat.beq pc 24) 400 (show zwp 185 4 [(2, 0), (0, 0), (0, 0)] [] w 238 0 K from h)) ?_
  obtain ⟨n1, n2, n3, _⟩ := hg.n
  exact zk185_L4 hg (w 95 0).toNat 0 0 (by omega) (by omega) (by omega) (by omega) (zKe h (by rw [Int.zero_add]))
noncomputable def zb185 (l0 : List zV) (w : zW) (K : zK) : Prop := cond (zis0 (zar l0 0)) ((zNt w) ∧ (K (0, some (0, zSm (zNb (zF0 w) (w 95 0)) (w 95 0).toNat 0 / 2)) (w) 238)) (False)
noncomputable def zT25 : zSum := zsm1 185 [2, 9, 9] zb185 zT24
theorem zT25_ok : zSok zT25 := zsm1_ok zT24_ok fun l0 w K h => by
  unfold zb185 at h
  cases q0 : zis0 (zar l0 0) with
  | true =>
    rw [q0, cond_true] at h
    have e : zar l0 0 = 0 := zis0_e q0
    show zcall 185 [(2, zar l0 0), (9, 0), (9, 0)] w 238 K
    rw [e]
    exact zk185_0  w K h
  | false =>
  rw [q0, cond_false] at h
  exact h.elim
set_option maxRecDepth 100000 in
theorem zk186_L4 {w : zW} {K : zK} (hN : zNt w) (x : Int)  : ∀ (m : Nat) (i a : Int), (0 ≤ i) → (i + m = w 95 0) → (0 ≤ a) → (a ≤ i) → (K (0, some (0, a + zSm (fun c => if zKd (zF0 w) (w 95 0) c = x then 1 else 0) m i)) w 238) → zwp 186 4 [(2, 0), (0, x), (0, a), (0, i)] [] w 238 0 K := by
  
  intro m
  induction m with
  | zero =>
    intro i a  h1 h2 h3 h4 h
    refine (show (if i < w 4 0 then zif False (0 ≤ i ∧ i < 12) (if ((if w 11 i.toNat = 0 then 2 else if w 12 i.toNat = 0 then 1 else 0) : Int) = x then zwp 186 4 [(2, 0), (0, x), (0, z32 (a + 1)), (0, z32 (i + 1))] [] w 238 0 K else zwp 186 4 [(2, 0), (0, x), (0, a), (0, z32 (i + 1))] [] w 238 0 K) else K (0, some (0, a)) w 238) → _ from fun h => show zwp 186 4 [(2, 0), (0, x), (0, a), (0, i)] [] w 238 0 K from zgo_imp zT25_ok (cut := fun pc => Nat.beq pc 4 || Nat.beq pc 15 || Nat.beq pc 23) 400 (show if i < w 4 0 then zwp 186 15 [(2, 0), (0, x), (0, a), (0, i)] [] w 238 0 K else K (0, some (0, a)) w 238 from zmI (fun h => (fun h => show zwp 186 15 [(2, 0), (0, x), (0, a), (0, i)] [] w 238 0 K from zgo_imp zT25_ok (cut := fun pc => Nat.beq pc 4 || Nat.beq pc 15 || Nat.beq pc 23) 400 (show zif False (0 ≤ i ∧ i < 12) (zwp 186 23 [(2, 0), (0, x), (0, a), (0, i)] [(0, ((if w 11 i.toNat = 0 then 2 else if w 12 i.toNat = 0 then 1 else 0) : Int))] w 238 0 K) from zmZ (fun h => (fun h => show zwp 186 23 [(2, 0), (0, x), (0, a), (0, i)] [(0, ((if w 11 i.toNat = 0 then 2 else if w 12 i.toNat = 0 then 1 else 0) : Int))] w 238 0 K from zgo_imp zT25_ok (cut := fun pc => Nat.beq pc 4 || Nat.beq pc 15 || Nat.beq pc 23) 400 (show if ((if w 11 i.toNat = 0 then 2 else if w 12 i.toNat = 0 then 1 else 0) : Int) = x then zwp 186 4 [(2, 0), (0, x), (0, z32 (a + 1)), (0, z32 (i + 1))] [] w 238 0 K else zwp 186 4 [(2, 0), (0, x), (0, a), (0, z32 (i + 1))] [] w 238 0 K from h)) h) h)) h) (fun h => h) h)) ?_
    obtain ⟨n1, n2, n3, _⟩ := hN.n
    refine ziF (by omega) ?_
    exact zKe h (by show a + 0 = a; omega)
  | succ m ih =>
    intro i a  h1 h2 h3 h4 h
    refine (show (if i < w 4 0 then zif False (0 ≤ i ∧ i < 12) (if ((if w 11 i.toNat = 0 then 2 else if w 12 i.toNat = 0 then 1 else 0) : Int) = x then zwp 186 4 [(2, 0), (0, x), (0, z32 (a + 1)), (0, z32 (i + 1))] [] w 238 0 K else zwp 186 4 [(2, 0), (0, x), (0, a), (0, z32 (i + 1))] [] w 238 0 K) else K (0, some (0, a)) w 238) → _ from fun h => show zwp 186 4 [(2, 0), (0, x), (0, a), (0, i)] [] w 238 0 K from zgo_imp zT25_ok (cut := fun pc => Nat.beq pc 4 || Nat.beq pc 15 || Nat.beq pc 23) 400 (show if i < w 4 0 then zwp 186 15 [(2, 0), (0, x), (0, a), (0, i)] [] w 238 0 K else K (0, some (0, a)) w 238 from zmI (fun h => (fun h => show zwp 186 15 [(2, 0), (0, x), (0, a), (0, i)] [] w 238 0 K from zgo_imp zT25_ok (cut := fun pc => Nat.beq pc 4 || Nat.beq pc 15 || Nat.beq pc 23) 400 (show zif False (0 ≤ i ∧ i < 12) (zwp 186 23 [(2, 0), (0, x), (0, a), (0, i)] [(0, ((if w 11 i.toNat = 0 then 2 else if w 12 i.toNat = 0 then 1 else 0) : Int))] w 238 0 K) from zmZ (fun h => (fun h => show zwp 186 23 [(2, 0), (0, x), (0, a), (0, i)] [(0, ((if w 11 i.toNat = 0 then 2 else if w 12 i.toNat = 0 then 1 else 0) : Int))] w 238 0 K from zgo_imp zT25_ok (cut := fun pc => Nat.beq pc 4 || Nat.beq pc 15 || Nat.beq pc 23) 400 (show if ((if w 11 i.toNat = 0 then 2 else if w 12 i.toNat = 0 then 1 else 0) : Int) = x then zwp 186 4 [(2, 0), (0, x), (0, z32 (a + 1)), (0, z32 (i + 1))] [] w 238 0 K else zwp 186 4 [(2, 0), (0, x), (0, a), (0, z32 (i + 1))] [] w 238 0 K from h)) h) h)) h) (fun h => h) h)) ?_
    obtain ⟨n1, n2, n3, _⟩ := hN.n
    refine ziT (by omega) ?_
    refine zifI (by omega) ?_
    have hk := hN.kd h1 (by omega)
    by_cases hp : zKd (zF0 w) (w 95 0) i = x
    · refine ziT (by rw [hk]; exact hp) ?_
      rw [z32_id (x := a + 1) ⟨by omega, by omega⟩, z32_id (x := i + 1) ⟨by omega, by omega⟩]
      refine ih _ _ (by omega) (by omega) (by omega) (by omega) (zKe h ?_)
      show a + ((if zKd (zF0 w) (w 95 0) i = x then 1 else 0) + _) = _
      rw [if_pos hp]; omega
    · refine ziF (by rw [hk]; exact hp) ?_
      rw [z32_id (x := i + 1) ⟨by omega, by omega⟩]
      refine ih _ _ (by omega) (by omega) (by omega) (by omega) (zKe h ?_)
      show a + ((if zKd (zF0 w) (w 95 0) i = x then 1 else 0) + _) = _
      rw [if_neg hp]; omega
/-! .countKind -/
set_option maxRecDepth 100000 in
theorem zk186_0 (x : Int) (w : zW) (K : zK) (h : (zNt w) ∧ (K (0, some (0, zSm (fun c => if zKd (zF0 w) (w 95 0) c = x then 1 else 0) (w 95 0).toNat 0)) (w) 238)) : zcall 186 [(2, 0), (0, x), (9, 0), (9, 0)] w 238 K := by
  obtain ⟨hg, h⟩ := h
  refine (show (zwp 186 4 [(2, 0), (0, x), (0, 0), (0, 0)] [] w 238 0 K) → _ from fun h => show zwp 186 0 [(2, 0), (0, x), (9, 0), (9, 0)] [] w 238 0 K from zgo_imp zT25_ok (cut := fun pc => Nat.beq pc 4 || Nat.beq pc 15 || Nat.beq pc 23) 400 (show zwp 186 4 [(2, 0), (0, x), (0, 0), (0, 0)] [] w 238 0 K from h)) ?_
  obtain ⟨n1, n2, n3, _⟩ := hg.n
  exact zk186_L4 hg x (w 95 0).toNat 0 0 (by omega) (by omega) (by omega) (by omega) (zKe h (by rw [Int.zero_add]))
noncomputable def zb186 (l0 : List zV) (w : zW) (K : zK) : Prop := cond (zis0 (zar l0 0)) (zA l0 1 fun x => (zNt w) ∧ (K (0, some (0, zSm (fun c => if zKd (zF0 w) (w 95 0) c = x then 1 else 0) (w 95 0).toNat 0)) (w) 238)) (False)
noncomputable def zT26 : zSum := zsm1 186 [2, 0, 9, 9] zb186 zT25
theorem zT26_ok : zSok zT26 := zsm1_ok zT25_ok fun l0 w K h => by
  unfold zb186 at h
  cases q0 : zis0 (zar l0 0) with
  | true =>
    rw [q0, cond_true] at h
    have e : zar l0 0 = 0 := zis0_e q0
    show zcall 186 [(2, zar l0 0), (0, zar l0 1), (9, 0), (9, 0)] w 238 K
    rw [e]
    exact zk186_0 (zar l0 1) w K (zA_e h)
  | false =>
  rw [q0, cond_false] at h
  exact h.elim
set_option maxRecDepth 100000 in
theorem zk28_L2_4 {w : zW} {K : zK} (x : Int) (hn : 0 ≤ w 4 0 ∧ w 4 0 ≤ 12)  : ∀ (m : Nat) (i : Int) (d2 : zV), (0 ≤ i) → (i + m = w 4 0) → (K (0, some (0, zFi (fun c => w 5 c.toNat = x) m i)) w 238) → zwp 28 2 [(2, 4), (1, x), d2, (0, i)] [] w 238 0 K := by
  
  intro m
  induction m with
  | zero =>
    intro i d2 h1 h2 h
    refine (show (if i < w 4 0 then zif False (0 ≤ i ∧ i < 12) (if w 5 i.toNat = x then K (0, some (0, i)) w 238 else zwp 28 2 [(2, 4), (1, x), (9, 0), (0, z32 (i + 1))] [] w 238 0 K) else K (0, some (0, (-1))) w 238) → _ from fun h => show zwp 28 2 [(2, 4), (1, x), d2, (0, i)] [] w 238 0 K from zgo_imp zT26_ok (cut := fun pc => Nat.beq pc 2 || Nat.beq pc 15 || Nat.beq pc 30) 400 (show if i < w 4 0 then zwp 28 15 [(2, 4), (1, x), (9, 0), (0, i)] [(0, i), (2, 5)] w 238 0 K else zwp 28 30 [(2, 4), (1, x), (9, 0), (0, i)] [(0, (-1))] w 238 0 K from zmI (fun h => (fun h => show zwp 28 15 [(2, 4), (1, x), (9, 0), (0, i)] [(0, i), (2, 5)] w 238 0 K from zgo_imp zT26_ok (cut := fun pc => Nat.beq pc 2 || Nat.beq pc 15 || Nat.beq pc 30) 400 (show zif False (0 ≤ i ∧ i < 12) (if w 5 i.toNat = x then K (0, some (0, i)) w 238 else zwp 28 2 [(2, 4), (1, x), (9, 0), (0, z32 (i + 1))] [] w 238 0 K) from h)) h) (fun h => (fun h => show zwp 28 30 [(2, 4), (1, x), (9, 0), (0, i)] [(0, (-1))] w 238 0 K from zgo_imp zT26_ok (cut := fun pc => Nat.beq pc 2 || Nat.beq pc 15 || Nat.beq pc 30) 400 (show K (0, some (0, (-1))) w 238 from h)) h) h)) ?_
    refine ziF (by omega) ?_
    exact h
  | succ m ih =>
    intro i d2 h1 h2 h
    refine (show (if i < w 4 0 then zif False (0 ≤ i ∧ i < 12) (if w 5 i.toNat = x then K (0, some (0, i)) w 238 else zwp 28 2 [(2, 4), (1, x), (9, 0), (0, z32 (i + 1))] [] w 238 0 K) else K (0, some (0, (-1))) w 238) → _ from fun h => show zwp 28 2 [(2, 4), (1, x), d2, (0, i)] [] w 238 0 K from zgo_imp zT26_ok (cut := fun pc => Nat.beq pc 2 || Nat.beq pc 15 || Nat.beq pc 30) 400 (show if i < w 4 0 then zwp 28 15 [(2, 4), (1, x), (9, 0), (0, i)] [(0, i), (2, 5)] w 238 0 K else zwp 28 30 [(2, 4), (1, x), (9, 0), (0, i)] [(0, (-1))] w 238 0 K from zmI (fun h => (fun h => show zwp 28 15 [(2, 4), (1, x), (9, 0), (0, i)] [(0, i), (2, 5)] w 238 0 K from zgo_imp zT26_ok (cut := fun pc => Nat.beq pc 2 || Nat.beq pc 15 || Nat.beq pc 30) 400 (show zif False (0 ≤ i ∧ i < 12) (if w 5 i.toNat = x then K (0, some (0, i)) w 238 else zwp 28 2 [(2, 4), (1, x), (9, 0), (0, z32 (i + 1))] [] w 238 0 K) from h)) h) (fun h => (fun h => show zwp 28 30 [(2, 4), (1, x), (9, 0), (0, i)] [(0, (-1))] w 238 0 K from zgo_imp zT26_ok (cut := fun pc => Nat.beq pc 2 || Nat.beq pc 15 || Nat.beq pc 30) 400 (show K (0, some (0, (-1))) w 238 from h)) h) h)) ?_
    refine ziT (by omega) ?_
    refine zifI (by omega) ?_
    have e : zFi (fun c => w 5 c.toNat = x) (m + 1) i = if w 5 i.toNat = x then i else zFi (fun c => w 5 c.toNat = x) m (i + 1) := rfl
    rw [e] at h
    by_cases hp : w 5 i.toNat = x
    · refine ziT hp ?_
      rwa [if_pos hp] at h
    · refine ziF hp ?_
      rw [if_neg hp] at h
      rw [z32_id (x := i + 1) ⟨by omega, by omega⟩]
      exact ih _ _ (by omega) (by omega) h
set_option maxRecDepth 100000 in
theorem zk28_L2_14 {w : zW} {K : zK} (x : Int) (hn : 0 ≤ w 14 0 ∧ w 14 0 ≤ 12)  : ∀ (m : Nat) (i : Int) (d2 : zV), (0 ≤ i) → (i + m = w 14 0) → (K (0, some (0, zFi (fun c => w 15 c.toNat = x) m i)) w 238) → zwp 28 2 [(2, 14), (1, x), d2, (0, i)] [] w 238 0 K := by
  
  intro m
  induction m with
  | zero =>
    intro i d2 h1 h2 h
    refine (show (if i < w 14 0 then zif False (0 ≤ i ∧ i < 12) (if w 15 i.toNat = x then K (0, some (0, i)) w 238 else zwp 28 2 [(2, 14), (1, x), (9, 0), (0, z32 (i + 1))] [] w 238 0 K) else K (0, some (0, (-1))) w 238) → _ from fun h => show zwp 28 2 [(2, 14), (1, x), d2, (0, i)] [] w 238 0 K from zgo_imp zT26_ok (cut := fun pc => Nat.beq pc 2 || Nat.beq pc 15 || Nat.beq pc 30) 400 (show if i < w 14 0 then zwp 28 15 [(2, 14), (1, x), (9, 0), (0, i)] [(0, i), (2, 15)] w 238 0 K else zwp 28 30 [(2, 14), (1, x), (9, 0), (0, i)] [(0, (-1))] w 238 0 K from zmI (fun h => (fun h => show zwp 28 15 [(2, 14), (1, x), (9, 0), (0, i)] [(0, i), (2, 15)] w 238 0 K from zgo_imp zT26_ok (cut := fun pc => Nat.beq pc 2 || Nat.beq pc 15 || Nat.beq pc 30) 400 (show zif False (0 ≤ i ∧ i < 12) (if w 15 i.toNat = x then K (0, some (0, i)) w 238 else zwp 28 2 [(2, 14), (1, x), (9, 0), (0, z32 (i + 1))] [] w 238 0 K) from h)) h) (fun h => (fun h => show zwp 28 30 [(2, 14), (1, x), (9, 0), (0, i)] [(0, (-1))] w 238 0 K from zgo_imp zT26_ok (cut := fun pc => Nat.beq pc 2 || Nat.beq pc 15 || Nat.beq pc 30) 400 (show K (0, some (0, (-1))) w 238 from h)) h) h)) ?_
    refine ziF (by omega) ?_
    exact h
  | succ m ih =>
    intro i d2 h1 h2 h
    refine (show (if i < w 14 0 then zif False (0 ≤ i ∧ i < 12) (if w 15 i.toNat = x then K (0, some (0, i)) w 238 else zwp 28 2 [(2, 14), (1, x), (9, 0), (0, z32 (i + 1))] [] w 238 0 K) else K (0, some (0, (-1))) w 238) → _ from fun h => show zwp 28 2 [(2, 14), (1, x), d2, (0, i)] [] w 238 0 K from zgo_imp zT26_ok (cut := fun pc => Nat.beq pc 2 || Nat.beq pc 15 || Nat.beq pc 30) 400 (show if i < w 14 0 then zwp 28 15 [(2, 14), (1, x), (9, 0), (0, i)] [(0, i), (2, 15)] w 238 0 K else zwp 28 30 [(2, 14), (1, x), (9, 0), (0, i)] [(0, (-1))] w 238 0 K from zmI (fun h => (fun h => show zwp 28 15 [(2, 14), (1, x), (9, 0), (0, i)] [(0, i), (2, 15)] w 238 0 K from zgo_imp zT26_ok (cut := fun pc => Nat.beq pc 2 || Nat.beq pc 15 || Nat.beq pc 30) 400 (show zif False (0 ≤ i ∧ i < 12) (if w 15 i.toNat = x then K (0, some (0, i)) w 238 else zwp 28 2 [(2, 14), (1, x), (9, 0), (0, z32 (i + 1))] [] w 238 0 K) from h)) h) (fun h => (fun h => show zwp 28 30 [(2, 14), (1, x), (9, 0), (0, i)] [(0, (-1))] w 238 0 K from zgo_imp zT26_ok (cut := fun pc => Nat.beq pc 2 || Nat.beq pc 15 || Nat.beq pc 30) 400 (show K (0, some (0, (-1))) w 238 from h)) h) h)) ?_
    refine ziT (by omega) ?_
    refine zifI (by omega) ?_
    have e : zFi (fun c => w 15 c.toNat = x) (m + 1) i = if w 15 i.toNat = x then i else zFi (fun c => w 15 c.toNat = x) m (i + 1) := rfl
    rw [e] at h
    by_cases hp : w 15 i.toNat = x
    · refine ziT hp ?_
      rwa [if_pos hp] at h
    · refine ziF hp ?_
      rw [if_neg hp] at h
      rw [z32_id (x := i + 1) ⟨by omega, by omega⟩]
      exact ih _ _ (by omega) (by omega) h
/-! $Net.circleNamed -/
set_option maxRecDepth 100000 in
theorem zk28_4 (x : Int) (w : zW) (K : zK) (h : (0 ≤ w 4 0 ∧ w 4 0 ≤ 12) ∧ (K (0, some (0, zFi (fun c => w 5 c.toNat = x) (w 4 0).toNat 0)) (w) 238)) : zcall 28 [(2, 4), (1, x), (9, 0), (9, 0)] w 238 K := by
  obtain ⟨hg, h⟩ := h
  refine (show (zwp 28 2 [(2, 4), (1, x), (9, 0), (0, 0)] [] w 238 0 K) → _ from fun h => show zwp 28 0 [(2, 4), (1, x), (9, 0), (9, 0)] [] w 238 0 K from zgo_imp zT26_ok (cut := fun pc => Nat.beq pc 2 || Nat.beq pc 15 || Nat.beq pc 30) 400 (show zwp 28 2 [(2, 4), (1, x), (9, 0), (0, 0)] [] w 238 0 K from h)) ?_
  exact zk28_L2_4 x hg (w 4 0).toNat 0 _ (by omega) (by omega) h
set_option maxRecDepth 100000 in
theorem zk28_14 (x : Int) (w : zW) (K : zK) (h : (0 ≤ w 14 0 ∧ w 14 0 ≤ 12) ∧ (K (0, some (0, zFi (fun c => w 15 c.toNat = x) (w 14 0).toNat 0)) (w) 238)) : zcall 28 [(2, 14), (1, x), (9, 0), (9, 0)] w 238 K := by
  obtain ⟨hg, h⟩ := h
  refine (show (zwp 28 2 [(2, 14), (1, x), (9, 0), (0, 0)] [] w 238 0 K) → _ from fun h => show zwp 28 0 [(2, 14), (1, x), (9, 0), (9, 0)] [] w 238 0 K from zgo_imp zT26_ok (cut := fun pc => Nat.beq pc 2 || Nat.beq pc 15 || Nat.beq pc 30) 400 (show zwp 28 2 [(2, 14), (1, x), (9, 0), (0, 0)] [] w 238 0 K from h)) ?_
  exact zk28_L2_14 x hg (w 14 0).toNat 0 _ (by omega) (by omega) h
noncomputable def zb28 (l0 : List zV) (w : zW) (K : zK) : Prop := cond (zpe (zar l0 0) 4) (zA l0 1 fun x => (0 ≤ w 4 0 ∧ w 4 0 ≤ 12) ∧ (K (0, some (0, zFi (fun c => w 5 c.toNat = x) (w 4 0).toNat 0)) (w) 238)) (cond (zpe (zar l0 0) 14) (zA l0 1 fun x => (0 ≤ w 14 0 ∧ w 14 0 ≤ 12) ∧ (K (0, some (0, zFi (fun c => w 15 c.toNat = x) (w 14 0).toNat 0)) (w) 238)) (False))
noncomputable def zT27 : zSum := zsm1 28 [2, 1, 9, 9] zb28 zT26
theorem zT27_ok : zSok zT27 := zsm1_ok zT26_ok fun l0 w K h => by
  unfold zb28 at h
  cases q0 : zpe (zar l0 0) 4 with
  | true =>
    rw [q0, cond_true] at h
    have e : zar l0 0 = 4 := zpe_e q0
    show zcall 28 [(2, zar l0 0), (1, zar l0 1), (9, 0), (9, 0)] w 238 K
    rw [e]
    exact zk28_4 (zar l0 1) w K (zA_e h)
  | false =>
  rw [q0, cond_false] at h
  cases q1 : zpe (zar l0 0) 14 with
  | true =>
    rw [q1, cond_true] at h
    have e : zar l0 0 = 14 := zpe_e q1
    show zcall 28 [(2, zar l0 0), (1, zar l0 1), (9, 0), (9, 0)] w 238 K
    rw [e]
    exact zk28_14 (zar l0 1) w K (zA_e h)
  | false =>
  rw [q1, cond_false] at h
  exact h.elim

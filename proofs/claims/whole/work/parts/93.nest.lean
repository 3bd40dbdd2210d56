/-! ===== scripts: nested repeats, entries alike (written by wip/whole/gen_c.py) ===== -/
/-- the depth before the entry k; the begin of the repeat open at depth j there -/
def zdp (V : Nat → Int) : Nat → Int
  | 0 => 0
  | k + 1 => zdp V k + if V k = 1013 then 1 else if V k = 1014 then -1 else 0
def zsl (V : Nat → Int) (j : Int) : Nat → Int
  | 0 => 0
  | k + 1 => if V k = 1013 ∧ zdp V k = j then k else zsl V j k
theorem zdp_c {V W : Nat → Int} : ∀ k : Nat, (∀ i, i < k → W i = V i) → zdp W k = zdp V k := by
  intro k
  induction k with
  | zero => intros; rfl
  | succ k ih =>
    intro h
    show zdp W k + (if W k = 1013 then 1 else if W k = 1014 then -1 else 0) = zdp V k + if V k = 1013 then 1 else if V k = 1014 then -1 else 0
    rw [ih fun i hi => h i (by omega), h k (by omega)]
theorem zsl_c {V W : Nat → Int} (j : Int) : ∀ k : Nat, (∀ i, i < k → W i = V i) → zsl W j k = zsl V j k := by
  intro k
  induction k with
  | zero => intros; rfl
  | succ k ih =>
    intro h
    show (if W k = 1013 ∧ zdp W k = j then (k : Int) else zsl W j k) = if V k = 1013 ∧ zdp V k = j then (k : Int) else zsl V j k
    rw [ih fun i hi => h i (by omega), h k (by omega), zdp_c k fun i hi => h i (by omega)]
/-- the open repeats stay what they were since they began -/
theorem zsl_b {V : Nat → Int} : ∀ k : Nat, (∀ i, i < k → V i = 1014 → 1 ≤ zdp V i) → ∀ j : Int, 0 ≤ j → j < zdp V k → (0 ≤ zsl V j k ∧ zsl V j k < k) ∧ V (zsl V j k).toNat = 1013 ∧ zdp V (zsl V j k).toNat = j ∧ ∀ i : Int, 0 ≤ i → i ≤ j → zsl V i ((zsl V j k).toNat + 1) = zsl V i k := by
  intro k
  induction k with
  | zero => intro _ j j0 j1; exact absurd (show j < 0 from j1) (by omega)
  | succ k ih =>
    intro h j j0 j1
    have ih := ih (fun i hi => h i (by omega))
    have e1 : zdp V (k + 1) = zdp V k + if V k = 1013 then 1 else if V k = 1014 then -1 else 0 := rfl
    have e2 : ∀ i, zsl V i (k + 1) = if V k = 1013 ∧ zdp V k = i then (k : Int) else zsl V i k := fun _ => rfl
    by_cases g : V k = 1013
    · rw [e1, if_pos g] at j1
      by_cases g2 : zdp V k = j
      · rw [e2 j, if_pos ⟨g, g2⟩]
        exact ⟨⟨by omega, by omega⟩, g, g2, fun i _ _ => by rw [show (k : Int).toNat = k from rfl]⟩
      · rw [e2 j, if_neg fun q => g2 q.2]
        obtain ⟨⟨a1, a2⟩, a3, a4, a5⟩ := ih j j0 (by omega)
        exact ⟨⟨a1, by omega⟩, a3, a4, fun i i0 i1 => by rw [e2 i, if_neg fun q => by omega]; exact a5 i i0 i1⟩
    · have j1' : j < zdp V k := by
        rw [e1, if_neg g] at j1
        by_cases g3 : V k = 1014
        · rw [if_pos g3] at j1; omega
        · rw [if_neg g3] at j1; omega
      rw [e2 j, if_neg fun q => g q.1]
      obtain ⟨⟨a1, a2⟩, a3, a4, a5⟩ := ih j j0 j1'
      exact ⟨⟨a1, by omega⟩, a3, a4, fun i i0 i1 => by rw [e2 i, if_neg fun q => g q.1]; exact a5 i i0 i1⟩
/-- one entry of the class (verb, circle, number) and of the model -/
def zSE (V : Nat → Int) (c n : Int) (x y z : Int) (nn : Int) (i : Nat) : Prop :=
  V i = 1007 + x ∧ ((x = 0 ∧ c = y ∧ 0 ≤ y ∧ y < nn) ∨ (x = 2 ∧ c = y ∧ (0 ≤ y ∧ y < nn) ∧ n = z ∧ 1 ≤ z ∧ z ≤ 1000000) ∨ (x = 1 ∧ n = y ∧ 1 ≤ y ∧ y ≤ 6) ∨ ((x = 3 ∨ x = 5) ∧ n = y ∧ 0 ≤ y ∧ y ≤ 999999) ∨ x = 4 ∨ (x = 6 ∧ n = y ∧ (1 ≤ y ∧ y ≤ 10) ∧ zdp V i < 2) ∨ (x = 7 ∧ 1 ≤ zdp V i ∧ n = zsl V (zdp V i - 1) i))
theorem zSE_c {V W : Nat → Int} {c n x y z nn : Int} {i : Nat} (h : zSE V c n x y z nn i) (e : ∀ k, k ≤ i → W k = V k) : zSE W c n x y z nn i := by
  unfold zSE at h ⊢
  have e1 : zdp W i = zdp V i := zdp_c i fun k hk => e k (by omega)
  rw [e i (Nat.le_refl i), e1, zsl_c _ i fun k hk => e k (by omega)]
  exact h
def zSj (V C N O x y z : Nat → Int) (n d nn : Int) : Prop := 0 ≤ n ∧ (∀ i : Nat, (i : Int) < n → zSE V (C i) (N i) (x i) (y i) (z i) nn i) ∧ d = zdp V n.toNat ∧ ∀ j : Nat, (j : Int) < d → O j = zsl V j n.toNat
theorem zSj_add {V C N O x y z V' C' N' O' x' y' z' : Nat → Int} {n d nn d' : Int} (h : zSj V C N O x y z n d nn)
    (hV : ∀ i : Nat, (i : Int) < n → V' i = V i) (hC : ∀ i : Nat, (i : Int) < n → C' i = C i) (hN : ∀ i : Nat, (i : Int) < n → N' i = N i)
    (hx : ∀ i : Nat, (i : Int) < n → x' i = x i) (hy : ∀ i : Nat, (i : Int) < n → y' i = y i) (hz : ∀ i : Nat, (i : Int) < n → z' i = z i)
    (e : zSE V' (C' n.toNat) (N' n.toNat) (x' n.toNat) (y' n.toNat) (z' n.toNat) nn n.toNat) (hd : d' = zdp V' (n.toNat + 1)) (hO : ∀ j : Nat, (j : Int) < d' → O' j = zsl V' j (n.toNat + 1)) : zSj V' C' N' O' x' y' z' (n + 1) d' nn := by
  obtain ⟨h0, h1, h2, h3⟩ := h
  refine ⟨by omega, fun i hi => ?_, by rw [hd]; exact congrArg _ (by omega), fun j hj => by rw [hO j hj]; exact congrArg _ (by omega)⟩
  by_cases q : (i : Int) < n
  · rw [hC i q, hN i q, hx i q, hy i q, hz i q]
    exact zSE_c (h1 i q) fun k hk => hV k (by omega)
  · have : i = n.toNat := by omega
    rw [this]; exact e

/-! ===== sums, searches, iterates, pigeons: plain mathematics ===== -/
/-- the sum of f over m numbers from i on -/
def zSm (f : Int → Int) : Nat → Int → Int
  | 0, _ => 0
  | m + 1, i => f i + zSm f m (i + 1)
/-- the first of m numbers from i on that has p; -1 -/
def zFi (p : Int → Prop) [DecidablePred p] : Nat → Int → Int
  | 0, _ => -1
  | m + 1, i => if p i then i else zFi p m (i + 1)
/-- a function, so often -/
def zIt {α : Type} (f : α → α) : Nat → α → α
  | 0, a => a
  | m + 1, a => zIt f m (f a)
/-- a loop over m numbers from i on -/
def zFd {α : Type} (f : Int → α → α) : Nat → Int → α → α
  | 0, _, a => a
  | m + 1, i, a => zFd f m (i + 1) (f i a)
theorem zSm_congr {f g : Int → Int} : ∀ (m : Nat) (i : Int), (∀ j, i ≤ j → j < i + m → f j = g j) → zSm f m i = zSm g m i
  | 0, _, _ => rfl
  | m + 1, i, h => by
    show f i + zSm f m (i + 1) = g i + zSm g m (i + 1)
    rw [h i (by omega) (by omega), zSm_congr m (i + 1) fun j h1 h2 => h j (by omega) (by omega)]
theorem zSm_rg {f : Int → Int} {lo hi : Int} : ∀ (m : Nat) (i : Int), (∀ j, i ≤ j → j < i + m → lo ≤ f j ∧ f j ≤ hi) → m * lo ≤ zSm f m i ∧ zSm f m i ≤ m * hi
  | 0, _, _ => by
    show ((0 : Nat) : Int) * lo ≤ 0 ∧ 0 ≤ ((0 : Nat) : Int) * hi
    simp
  | m + 1, i, h => by
    show ((m + 1 : Nat) : Int) * lo ≤ f i + zSm f m (i + 1) ∧ f i + zSm f m (i + 1) ≤ ((m + 1 : Nat) : Int) * hi
    have h1 := h i (by omega) (by omega)
    have h2 := zSm_rg m (i + 1) fun j h1 h2 => h j (by omega) (by omega)
    rw [show ((m + 1 : Nat) : Int) = (m : Int) + 1 from rfl, Int.add_mul, Int.add_mul, Int.one_mul, Int.one_mul]
    omega
theorem zSm_rg01 {f : Int → Int} (m : Nat) (i : Int) (h : ∀ j, f j = 0 ∨ f j = 1) : 0 ≤ zSm f m i ∧ zSm f m i ≤ m := by
  have := zSm_rg (f := f) (lo := 0) (hi := 1) m i fun j _ _ => by rcases h j with q | q <;> omega
  omega
theorem zSm_last (f : Int → Int) : ∀ (m : Nat) (i : Int), zSm f (m + 1) i = zSm f m i + f (i + m)
  | 0, i => by show f i + 0 = 0 + f (i + ((0 : Nat) : Int)); simp
  | m + 1, i => by
    show f i + zSm f (m + 1) (i + 1) = f i + zSm f m (i + 1) + f (i + ((m + 1 : Nat) : Int))
    rw [zSm_last f m (i + 1), show i + 1 + (m : Int) = i + ((m + 1 : Nat) : Int) by omega]; omega
theorem zSm_add (f g : Int → Int) : ∀ (m : Nat) (i : Int), zSm (fun j => f j + g j) m i = zSm f m i + zSm g m i
  | 0, _ => rfl
  | m + 1, i => by
    show f i + g i + zSm (fun j => f j + g j) m (i + 1) = f i + zSm f m (i + 1) + (g i + zSm g m (i + 1))
    rw [zSm_add f g m (i + 1)]; omega
theorem zSm_zero {f : Int → Int} (m : Nat) (i : Int) (h : ∀ j, i ≤ j → j < i + m → f j = 0) : zSm f m i = 0 := by
  have := zSm_rg (f := f) (lo := 0) (hi := 0) m i fun j h1 h2 => by rw [h j h1 h2]; omega
  omega
theorem zSm_le {f g : Int → Int} : ∀ (m : Nat) (i : Int), (∀ j, i ≤ j → j < i + m → f j ≤ g j) → zSm f m i ≤ zSm g m i
  | 0, _, _ => Int.le_refl _
  | m + 1, i, h => by
    show f i + zSm f m (i + 1) ≤ g i + zSm g m (i + 1)
    have := h i (by omega) (by omega)
    have := zSm_le m (i + 1) fun j h1 h2 => h j (by omega) (by omega)
    omega
/-- one summand told apart -/
theorem zSm_one (f : Int → Int) : ∀ (m : Nat) (i k : Int), i ≤ k → k < i + m → zSm f m i = f k + zSm (fun j => if j = k then 0 else f j) m i
  | 0, i, k, h1, h2 => by omega
  | m + 1, i, k, h1, h2 => by
    show f i + zSm f m (i + 1) = f k + ((if i = k then 0 else f i) + zSm (fun j => if j = k then 0 else f j) m (i + 1))
    by_cases e : i = k
    · subst e
      rw [if_pos rfl]
      have : zSm (fun j => if j = i then 0 else f j) m (i + 1) = zSm f m (i + 1) := zSm_congr m (i + 1) fun j h3 _ => if_neg (by omega)
      omega
    · rw [if_neg e]
      have := zSm_one f m (i + 1) k (by omega) (by omega)
      omega
theorem zFi_congr {p q : Int → Prop} [DecidablePred p] [DecidablePred q] : ∀ (m : Nat) (i : Int), (∀ j, i ≤ j → j < i + m → (p j ↔ q j)) → zFi p m i = zFi q m i
  | 0, _, _ => rfl
  | m + 1, i, h => by
    show (if p i then i else zFi p m (i + 1)) = if q i then i else zFi q m (i + 1)
    have h1 := h i (by omega) (by omega)
    rw [zFi_congr m (i + 1) fun j h1 h2 => h j (by omega) (by omega)]
    by_cases hp : p i
    · rw [if_pos hp, if_pos (h1.mp hp)]
    · rw [if_neg hp, if_neg fun hq => hp (h1.mpr hq)]
theorem zFi_spec {p : Int → Prop} [DecidablePred p] : ∀ (m : Nat) (i : Int), 0 ≤ i → (zFi p m i = -1 ∧ ∀ j, i ≤ j → j < i + m → ¬ p j) ∨ (i ≤ zFi p m i ∧ zFi p m i < i + m ∧ p (zFi p m i) ∧ ∀ j, i ≤ j → j < zFi p m i → ¬ p j)
  | 0, i, _ => Or.inl ⟨rfl, fun j h1 h2 => by omega⟩
  | m + 1, i, h0 => by
    show ((if p i then i else zFi p m (i + 1)) = -1 ∧ _) ∨ (i ≤ (if p i then i else zFi p m (i + 1)) ∧ (if p i then i else zFi p m (i + 1)) < _ ∧ p (if p i then i else zFi p m (i + 1)) ∧ ∀ j, i ≤ j → j < (if p i then i else zFi p m (i + 1)) → ¬ p j)
    by_cases hp : p i
    · rw [if_pos hp]
      exact Or.inr ⟨by omega, by omega, hp, fun j h1 h2 => by omega⟩
    · rw [if_neg hp]
      rcases zFi_spec (p := p) m (i + 1) (by omega) with ⟨h1, h2⟩ | ⟨h1, h2, h3, h4⟩
      · refine Or.inl ⟨h1, fun j h3 h4 => ?_⟩
        by_cases e : j = i
        · subst e; exact hp
        · exact h2 j (by omega) (by omega)
      · refine Or.inr ⟨by omega, by omega, h3, fun j h5 h6 => ?_⟩
        by_cases e : j = i
        · subst e; exact hp
        · exact h4 j (by omega) h6
theorem zFi_rg {p : Int → Prop} [DecidablePred p] (m : Nat) (i : Int) (h : 0 ≤ i) : -1 ≤ zFi p m i ∧ zFi p m i < i + m := by
  rcases zFi_spec (p := p) m i h with ⟨h1, _⟩ | ⟨h1, h2, _⟩ <;> omega
theorem zFi_none {p : Int → Prop} [DecidablePred p] {m : Nat} {i : Int} (h : 0 ≤ i) : zFi p m i = -1 ↔ ∀ j, i ≤ j → j < i + m → ¬ p j := by
  rcases zFi_spec (p := p) m i h with ⟨h1, h2⟩ | ⟨h1, h2, h3, _⟩
  · exact ⟨fun _ => h2, fun _ => h1⟩
  · exact ⟨fun e => by omega, fun q => (q _ h1 h2 h3).elim⟩
theorem zFi_eq {p : Int → Prop} [DecidablePred p] {m : Nat} {i k : Int} (h0 : 0 ≤ i) (h1 : i ≤ k) (h2 : k < i + m) (h3 : p k) (h4 : ∀ j, i ≤ j → j < k → ¬ p j) : zFi p m i = k := by
  rcases zFi_spec (p := p) m i h0 with ⟨g1, g2⟩ | ⟨g1, g2, g3, g4⟩
  · exact (g2 k h1 h2 h3).elim
  · rcases Int.lt_trichotomy (zFi p m i) k with q | q | q
    · exact (h4 _ g1 q g3).elim
    · exact q
    · exact (g4 k h1 q h3).elim
theorem zIt_succ {α : Type} (f : α → α) : ∀ (m : Nat) (a : α), zIt f (m + 1) a = f (zIt f m a)
  | 0, _ => rfl
  | m + 1, a => by
    show zIt f (m + 1) (f a) = f (zIt f m (f a))
    exact zIt_succ f m (f a)
theorem zIt_add {α : Type} (f : α → α) : ∀ (m n : Nat) (a : α), zIt f (m + n) a = zIt f m (zIt f n a)
  | m, 0, a => rfl
  | m, n + 1, a => by
    show zIt f (m + n) (f a) = zIt f m (zIt f n (f a))
    exact zIt_add f m n (f a)
theorem zFd_last {α : Type} (f : Int → α → α) : ∀ (m : Nat) (i : Int) (a : α), zFd f (m + 1) i a = f (i + m) (zFd f m i a)
  | 0, i, a => by show f i a = f (i + ((0 : Nat) : Int)) a; simp
  | m + 1, i, a => by
    show zFd f (m + 1) (i + 1) (f i a) = f (i + ((m + 1 : Nat) : Int)) (zFd f m (i + 1) (f i a))
    rw [zFd_last f m (i + 1), show i + 1 + (m : Int) = i + ((m + 1 : Nat) : Int) by omega]
theorem zFd_congr {α : Type} {f g : Int → α → α} : ∀ (m : Nat) (i : Int) (a : α), (∀ j b, i ≤ j → j < i + m → f j b = g j b) → zFd f m i a = zFd g m i a
  | 0, _, _, _ => rfl
  | m + 1, i, a, h => by
    show zFd f m (i + 1) (f i a) = zFd g m (i + 1) (g i a)
    rw [h i a (by omega) (by omega)]
    exact zFd_congr m (i + 1) _ fun j b h1 h2 => h j b (by omega) (by omega)
/-- an invariant of a loop -/
theorem zFd_inv {α : Type} {f : Int → α → α} (I : Int → α → Prop) : ∀ (m : Nat) (i : Int) (a : α), I i a → (∀ j b, i ≤ j → j < i + m → I j b → I (j + 1) (f j b)) → I (i + m) (zFd f m i a)
  | 0, i, a, h, _ => by show I (i + ((0 : Nat) : Int)) a; simpa using h
  | m + 1, i, a, h, hs => by
    show I (i + ((m + 1 : Nat) : Int)) (zFd f m (i + 1) (f i a))
    have := zFd_inv I m (i + 1) (f i a) (hs i a (by omega) (by omega) h) fun j b h1 h2 => hs j b (by omega) (by omega)
    rwa [show i + 1 + (m : Int) = i + ((m + 1 : Nat) : Int) by omega] at this
/-- pigeons: n + 1 numbers below n are not all different -/
theorem zpig : ∀ (n : Nat) (a : Nat → Int), (∀ i, i ≤ n → 0 ≤ a i ∧ a i < n) → ∃ i j, i < j ∧ j ≤ n ∧ a i = a j
  | 0, a, h => by have := h 0 (by omega); omega
  | n + 1, a, h => by
    by_cases hx : ∃ i, i ≤ n ∧ a i = a (n + 1)
    · obtain ⟨i, h1, h2⟩ := hx
      exact ⟨i, n + 1, by omega, by omega, h2⟩
    · -- the last one is swapped against the greatest number
      have hne : ∀ i, i ≤ n → a i ≠ a (n + 1) := fun i hi e => hx ⟨i, hi, e⟩
      obtain ⟨i, j, h1, h2, h3⟩ := zpig n (fun i => if a i = (n : Int) then a (n + 1) else a i) fun i hi => by
        have g1 := h i (by omega)
        have g2 := h (n + 1) (by omega)
        show 0 ≤ (if a i = (n : Int) then a (n + 1) else a i) ∧ (if a i = (n : Int) then a (n + 1) else a i) < (n : Int)
        by_cases e : a i = (n : Int)
        · rw [if_pos e]
          have := hne i hi
          omega
        · rw [if_neg e]; omega
      have h3 : (if a i = (n : Int) then a (n + 1) else a i) = if a j = (n : Int) then a (n + 1) else a j := h3
      refine ⟨i, j, h1, by omega, ?_⟩
      by_cases ei : a i = (n : Int)
      · by_cases ej : a j = (n : Int)
        · rw [ei, ej]
        · rw [if_pos ei, if_neg ej] at h3
          exact (hne j h2 h3.symm).elim
      · by_cases ej : a j = (n : Int)
        · rw [if_neg ei, if_pos ej] at h3
          exact (hne i (by omega) h3).elim
        · rw [if_neg ei, if_neg ej] at h3
          exact h3
/-- numbers from 0 to n - 1, those of the m that have P being different: their sum of h is the whole sum, where they hold all that is not 0 -/
theorem zSm_permP (n : Nat) (P : Int → Prop) [DecidablePred P] : ∀ (m : Nat) (a : Int → Int) (h : Int → Int), (∀ i : Int, 0 ≤ i → i < (m : Int) → P i → 0 ≤ a i ∧ a i < n) → (∀ i j : Int, 0 ≤ i → i < j → j < (m : Int) → P i → P j → a i ≠ a j) → (∀ c : Int, 0 ≤ c → c < n → h c ≠ 0 → ∃ i : Int, 0 ≤ i ∧ i < (m : Int) ∧ P i ∧ a i = c) → zSm (fun i => if P i then h (a i) else 0) m 0 = zSm h n 0
  | 0, a, h, h1, h2, h3 => by
    refine (zSm_zero n 0 fun j g1 g2 => ?_).symm
    by_cases e : h j = 0
    · exact e
    · obtain ⟨i, q1, q2, _⟩ := h3 j g1 (by omega) e
      omega
  | m + 1, a, h, h1, h2, h3 => by
    rw [zSm_last, show (0 : Int) + (m : Int) = (m : Int) by omega]
    by_cases hP : P m
    · rw [if_pos hP]
      have hm := h1 m (by omega) (by omega) hP
      rw [zSm_one h n 0 (a m) hm.1 (by omega)]
      have e := zSm_permP n P m a (fun j => if j = a m then 0 else h j) (fun i g1 g2 => h1 i g1 (by omega)) (fun i j g1 g2 g3 => h2 i j g1 g2 (by omega)) fun c g1 g2 g3 => by
        by_cases ec : c = a m
        · exact (g3 (if_pos ec)).elim
        · have g3 : ¬ (if c = a m then 0 else h c) = 0 := g3
          rw [if_neg ec] at g3
          obtain ⟨i, q1, q2, q3, q4⟩ := h3 c g1 g2 g3
          refine ⟨i, q1, ?_, q3, q4⟩
          by_cases ei : i = m
          · subst ei; exact (ec q4.symm).elim
          · omega
      rw [← e]
      have : zSm (fun i => if P i then (fun j => if j = a m then 0 else h j) (a i) else 0) m 0 = zSm (fun i => if P i then h (a i) else 0) m 0 := zSm_congr m 0 fun j g1 g2 => by
        by_cases hj : P j
        · rw [if_pos hj, if_pos hj]; exact if_neg (h2 j m g1 (by omega) (by omega) hj hP)
        · rw [if_neg hj, if_neg hj]
      rw [this]
      omega
    · rw [if_neg hP, Int.add_zero]
      refine zSm_permP n P m a h (fun i g1 g2 => h1 i g1 (by omega)) (fun i j g1 g2 g3 => h2 i j g1 g2 (by omega)) fun c g1 g2 g3 => ?_
      obtain ⟨i, q1, q2, q3, q4⟩ := h3 c g1 g2 g3
      refine ⟨i, q1, ?_, q3, q4⟩
      by_cases ei : i = m
      · subst ei; exact (hP q3).elim
      · omega
theorem zSm_perm (n m : Nat) (a h : Int → Int) (h1 : ∀ i : Int, 0 ≤ i → i < (m : Int) → 0 ≤ a i ∧ a i < n) (h2 : ∀ i j : Int, 0 ≤ i → i < j → j < (m : Int) → a i ≠ a j) (h3 : ∀ c : Int, 0 ≤ c → c < n → h c ≠ 0 → ∃ i : Int, 0 ≤ i ∧ i < (m : Int) ∧ a i = c) : zSm (fun i => h (a i)) m 0 = zSm h n 0 := by
  have := zSm_permP n (fun _ => True) m a h (fun i g1 g2 _ => h1 i g1 g2) (fun i j g1 g2 g3 _ _ => h2 i j g1 g2 g3) fun c g1 g2 g3 => by
    obtain ⟨i, q1, q2, q3⟩ := h3 c g1 g2 g3
    exact ⟨i, q1, q2, trivial, q3⟩
  rw [← this]
  exact zSm_congr m 0 fun j _ _ => (if_pos trivial).symm

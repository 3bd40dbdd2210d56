/-! ===== ways: the levels are the relaxed ways (written by wip/whole/gen_c.py) ===== -/
/-- each circle reached is a step behind one reached -/
def zYPw (A : Int → Int → Prop) (n f : Int) (D : Nat → Int) : Prop := ∀ k : Nat, k < 12 → D k ≠ -1 → (k : Int) ≠ f → ∃ c : Nat, (c : Int) < n ∧ A c k ∧ 0 ≤ D c ∧ D c + 1 ≤ D k
/-- the levels below i (and i up to the circle c) are done -/
def zYJ (A : Int → Int → Prop) (n f i c : Int) (D : Nat → Int) : Prop := zYB (i + 1) D ∧ zYPw A n f D ∧ D f.toNat = 0 ∧
  ∀ a v : Nat, (a : Int) < n → v < 12 → A a v → 0 ≤ D a → (D a < i ∨ (D a = i ∧ (a : Int) < c)) → D v ≠ -1 ∧ D v ≤ D a + 1
theorem zYt_c {A : Int → Int → Prop} {i c : Int} {D : Nat → Int} (hB : zYB (i + 1) D) {k : Nat} (hk : k < 12) :
    (zYt A i c D k = D k ∧ (D c.toNat = i → A c k → D k ≠ -1)) ∨ (D c.toNat = i ∧ A c k ∧ D k = -1 ∧ zYt A i c D k = i + 1) := by
  unfold zYt
  have b := hB k hk
  by_cases g : D c.toNat = i
  · rw [if_pos g]
    by_cases q : A c k ∧ zYb (D c.toNat) (fun _ => 1) D k
    · rw [zYp_y q.1 q.2]
      rcases q.2 with e | e
      · exact Or.inr ⟨g, q.1, e, by show D c.toNat + 1 = i + 1; omega⟩
      · exfalso
        have e : D c.toNat + 1 < D k := e
        omega
    · rw [zYp_n q]
      exact Or.inl ⟨rfl, fun _ a e => q ⟨a, Or.inl e⟩⟩
  · rw [if_neg g]
    exact Or.inl ⟨rfl, fun e => (g e).elim⟩
theorem zYJ_t {A : Int → Int → Prop} {n f i c : Int} {D : Nat → Int} (hn : n ≤ 12) (hf : 0 ≤ f ∧ f < n) (hi : 0 ≤ i) (hc : 0 ≤ c ∧ c < n) (h : zYJ A n f i c D) : zYJ A n f i (c + 1) (zYt A i c D) := by
  obtain ⟨hB, hW, hF, hE⟩ := h
  have old : ∀ a : Nat, a < 12 → 0 ≤ D a → zYt A i c D a = D a := fun a ha h0 => by
    rcases zYt_c (A := A) (c := c) hB ha with q | q
    · exact q.1
    · have := q.2.2.1; omega
  refine ⟨zYt_B hi hB, fun k hk h1 h2 => ?_, (old _ (by omega) (by omega)).trans hF, fun a v ha hv hA h0 h1 => ?_⟩
  · rcases zYt_c (A := A) (c := c) hB hk with q | q
    · rw [q.1] at h1 ⊢
      obtain ⟨a, a1, a2, a3, a4⟩ := hW k hk h1 h2
      refine ⟨a, a1, a2, ?_⟩
      rw [old a (by omega) a3]
      exact ⟨a3, a4⟩
    · rw [q.2.2.2]
      refine ⟨c.toNat, by omega, by rw [Int.toNat_of_nonneg hc.1]; exact q.2.1, ?_⟩
      rw [old c.toNat (by omega) (by omega)]
      omega
  · have ea : zYt A i c D a = D a := by
      rcases zYt_c (A := A) (c := c) hB (k := a) (by omega) with q | q
      · exact q.1
      · have := q.2.2.2; omega
    rw [ea] at h0 h1 ⊢
    have hb := hB v hv
    by_cases g : D a < i ∨ (D a = i ∧ (a : Int) < c)
    · have := hE a v ha hv hA h0 g
      rw [old v hv (by omega)]
      exact this
    · have e1 : D a = i := by omega
      have e2 : (a : Int) = c := by omega
      rw [e2] at hA
      have e3 : c.toNat = a := by omega
      rcases zYt_c (A := A) (c := c) hB hv with q | q
      · rw [q.1]
        exact ⟨q.2 (by rw [e3]; exact e1) hA, by omega⟩
      · rw [q.2.2.2]; omega
theorem zYJ_u {A : Int → Int → Prop} {n f i : Int} (hn : n ≤ 12) (hf : 0 ≤ f ∧ f < n) (hi : 0 ≤ i) : ∀ (m : Nat) (c : Int) (D : Nat → Int), 0 ≤ c → c + m = n → zYJ A n f i c D → zYJ A n f i n (zYu A i m c D) := by
  intro m
  induction m with
  | zero => intro c D h0 h1 h; rw [show n = c by omega] at h ⊢; exact h
  | succ m ih => intro c D h0 h1 h; exact ih (c + 1) _ (by omega) (by omega) (zYJ_t hn hf hi ⟨h0, by omega⟩ h)
theorem zYJ_v {A : Int → Int → Prop} {n f : Int} (hn : n ≤ 12) (hf : 0 ≤ f ∧ f < n) : ∀ (m : Nat) (i : Int) (D : Nat → Int), 0 ≤ i → zYJ A n f i 0 D → zYJ A n f (i + m) 0 (zYv A n m i D) := by
  intro m
  induction m with
  | zero => intro i D h0 h; rw [show i + ((0 : Nat) : Int) = i by omega]; exact h
  | succ m ih =>
    intro i D h0 h
    obtain ⟨b1, b2, b3, b4⟩ := zYJ_u hn hf h0 n.toNat 0 D (by omega) (by omega) h
    have := ih (i + 1) (zYu A i n.toNat 0 D) (by omega) ⟨b1.mono (by omega), b2, b3, fun a v ha hv hA q0 q1 => b4 a v ha hv hA q0 (by omega)⟩
    rw [show i + ((m + 1 : Nat) : Int) = i + 1 + m by omega]
    exact this
/-- what the levels are like -/
def zYX (A : Int → Int → Prop) (n f : Int) (E : Nat → Int) : Prop := (∀ k : Nat, k < 12 → -1 ≤ E k ∧ E k ≤ 11) ∧ zYPw A n f E ∧ E f.toNat = 0 ∧ ∀ a v : Nat, (a : Int) < n → v < 12 → A a v → E a ≠ -1 → E v ≠ -1 ∧ E v ≤ E a + 1
theorem zYJ_x {A : Int → Int → Prop} {n f : Int} {E : Nat → Int} (hn : n ≤ 12) (h : zYJ A n f 12 0 E) : zYX A n f E := by
  obtain ⟨hB, hW, hF, hE⟩ := h
  have lv : ∀ j : Int, 0 ≤ j → j ≤ 12 → ∀ (m : Nat) (k : Nat), k < 12 → j ≤ E k → E k ≤ j + m → ∃ a : Nat, a < 12 ∧ E a = j := by
    intro j j0 j1 m
    induction m with
    | zero => intro k hk h1 h2; exact ⟨k, hk, by omega⟩
    | succ m ih =>
      intro k hk h1 h2
      by_cases g : E k = j
      · exact ⟨k, hk, g⟩
      · have kf : (k : Int) ≠ f := fun q => by
          rw [← q] at hF
          have hF : E k = 0 := hF
          omega
        obtain ⟨a, a1, a2, a3, a4⟩ := hW k hk (by omega) kf
        by_cases g2 : j ≤ E a
        · exact ih a (by omega) g2 (by omega)
        · have := hE a k a1 hk a2 a3 (Or.inl (by omega))
          omega
  have top : ∀ k : Nat, k < 12 → E k ≤ 11 := fun k hk => by
    by_cases g : E k ≤ 11
    · exact g
    · exfalso
      have hk2 := hB k hk
      have ex : ∀ j : Nat, ∃ a : Nat, j ≤ 12 → a < 12 ∧ E a = j := fun j => by
        by_cases hj : j ≤ 12
        · obtain ⟨a, a1, a2⟩ := lv j (by omega) (by omega) 13 k hk (by omega) (by omega)
          exact ⟨a, fun _ => ⟨a1, a2⟩⟩
        · exact ⟨0, fun q => (hj q).elim⟩
      obtain ⟨i, j, h1, h2, h3⟩ := zpig 12 (fun j => ((Classical.choose (ex j) : Nat) : Int)) (fun i hi => by
        have := (Classical.choose_spec (ex i) hi).1
        exact ⟨by omega, by omega⟩)
      have e1 := (Classical.choose_spec (ex i) (by omega)).2
      have e2 := (Classical.choose_spec (ex j) h2).2
      have h3 : ((Classical.choose (ex i) : Nat) : Int) = ((Classical.choose (ex j) : Nat) : Int) := h3
      rw [show Classical.choose (ex i) = Classical.choose (ex j) by omega] at e1
      omega
  refine ⟨fun k hk => ⟨(hB k hk).1, top k hk⟩, hW, hF, fun a v ha hv hA h0 => ?_⟩
  have := hB a (by omega)
  have := top a (by omega)
  exact hE a v ha hv hA (by omega) (Or.inl (by omega))
theorem zYz_x {w : zW} {f : Int} (hn : w 95 0 ≤ 12) (hf : 0 ≤ f ∧ f < w 95 0) (D : Nat → Int) : zYX (zYA w) (w 95 0) f (zYz w f D) := by
  refine zYJ_x hn (zYJ_v hn hf 12 0 _ (by omega) ⟨fun k hk => ?_, fun k hk h1 h2 => ?_, ?_, fun a v ha hv hA h0 h1 => ?_⟩)
  · unfold zYi; rw [if_pos (show (k : Int) < 12 by omega)]; split <;> omega
  · exfalso
    unfold zYi at h1
    rw [if_pos (show (k : Int) < 12 by omega), if_neg h2] at h1
    exact h1 rfl
  · unfold zYi
    rw [if_pos (show (f.toNat : Int) < 12 by omega), if_pos (show (f.toNat : Int) = f by omega)]
  · omega
def zYlo (E D : Nat → Int) : Prop := ∀ k : Nat, k < 12 → -1 ≤ D k ∧ (D k ≠ -1 → E k ≠ -1 ∧ E k ≤ D k)
def zYup (E : Nat → Int) (j : Int) (D : Nat → Int) : Prop := ∀ k : Nat, k < 12 → E k ≠ -1 → E k ≤ j → D k ≠ -1 ∧ D k ≤ E k
def zYo (D D' : Nat → Int) : Prop := ∀ k : Nat, k < 12 → D k ≠ -1 → D' k ≠ -1 ∧ D' k ≤ D k
theorem zYs_c {A : Int → Int → Prop} {L : Int → Int → Int} (hL : ∀ c v, L c v = 1) {c : Int} {D : Nat → Int} (k : Nat) :
    (zYs A L c D k = D k ∧ (D c.toNat ≠ -1 → A c k → D k ≠ -1 ∧ D k ≤ D c.toNat + 1)) ∨ (D c.toNat ≠ -1 ∧ A c k ∧ (D k = -1 ∨ D c.toNat + 1 < D k) ∧ zYs A L c D k = D c.toNat + 1) := by
  unfold zYs
  by_cases g : D c.toNat = -1
  · rw [if_pos g]; exact Or.inl ⟨rfl, fun q => (q g).elim⟩
  · rw [if_neg g]
    by_cases q : A c k ∧ zYb (D c.toNat) (L c) D k
    · rw [zYp_y q.1 q.2]
      have q2 : D k = -1 ∨ D c.toNat + L c k < D k := q.2
      rw [hL] at q2 ⊢
      exact Or.inr ⟨g, q.1, q2, rfl⟩
    · rw [zYp_n q]
      refine Or.inl ⟨rfl, fun _ a => ?_⟩
      have q2 : ¬ (D k = -1 ∨ D c.toNat + L c k < D k) := fun e => q ⟨a, e⟩
      rw [hL] at q2
      omega
theorem zYs_o {A : Int → Int → Prop} {L : Int → Int → Int} (hL : ∀ c v, L c v = 1) {E D : Nat → Int} {n f c : Int} (hn : n ≤ 12) (hE : zYX A n f E) (hc : 0 ≤ c ∧ c < n) (h : zYlo E D) :
    zYlo E (zYs A L c D) ∧ zYo D (zYs A L c D) ∧ ∀ v : Nat, v < 12 → A c v → D c.toNat ≠ -1 → zYs A L c D v ≠ -1 ∧ zYs A L c D v ≤ D c.toNat + 1 := by
  have bc := h c.toNat (by omega)
  refine ⟨fun k hk => ?_, fun k hk h1 => ?_, fun v hv hA h1 => ?_⟩
  · rcases zYs_c (A := A) hL (c := c) (D := D) k with q | q
    · rw [q.1]; exact h k hk
    · rw [q.2.2.2]
      have b2 := bc.2 q.1
      have := hE.2.2.2 c.toNat k (by omega) hk (by rw [Int.toNat_of_nonneg hc.1]; exact q.2.1) b2.1
      have b3 := q.1
      exact ⟨by omega, fun _ => ⟨this.1, by omega⟩⟩
  · rcases zYs_c (A := A) hL (c := c) (D := D) k with q | q
    · rw [q.1]; exact ⟨h1, Int.le_refl _⟩
    · rw [q.2.2.2]
      have b3 := q.1
      have := q.2.2.1
      omega
  · rcases zYs_c (A := A) hL (c := c) (D := D) v with q | q
    · rw [q.1]; exact q.2 h1 hA
    · rw [q.2.2.2]; omega
theorem zYf_o {A : Int → Int → Prop} {L : Int → Int → Int} (hL : ∀ c v, L c v = 1) {E : Nat → Int} {n f : Int} (hn : n ≤ 12) (hE : zYX A n f E) : ∀ (m : Nat) (c : Int) (D : Nat → Int), 0 ≤ c → c + m ≤ n → zYlo E D →
    zYlo E (zYf A L m c D) ∧ zYo D (zYf A L m c D) ∧ ∀ a v : Nat, c ≤ a → (a : Int) < c + m → v < 12 → A a v → D a ≠ -1 → zYf A L m c D v ≠ -1 ∧ zYf A L m c D v ≤ D a + 1 := by
  intro m
  induction m with
  | zero => intro c D h0 h1 h; exact ⟨h, fun k hk q => ⟨q, Int.le_refl _⟩, fun a v q1 q2 => by omega⟩
  | succ m ih =>
    intro c D h0 h1 h
    obtain ⟨s1, s2, s3⟩ := zYs_o hL hn hE ⟨h0, by omega⟩ h
    obtain ⟨i1, i2, i3⟩ := ih (c + 1) _ (by omega) (by omega) s1
    refine ⟨i1, fun k hk q => ?_, fun a v q1 q2 hv hA hD => ?_⟩
    · have a1 := s2 k hk q
      have a2 := i2 k hk a1.1
      exact ⟨a2.1, Int.le_trans a2.2 a1.2⟩
    · by_cases g : (a : Int) = c
      · have ea : c.toNat = a := by omega
        rw [g] at hA
        have a1 := s3 v hv hA (by rw [ea]; exact hD)
        have a2 := i2 v hv a1.1
        rw [ea] at a1
        exact ⟨a2.1, Int.le_trans a2.2 a1.2⟩
      · have a0 := s2 a (by omega) hD
        have a1 := i3 a v (by omega) (by omega) hv hA a0.1
        exact ⟨a1.1, Int.le_trans a1.2 (by have := a0.2; omega)⟩
theorem zYr_o {A : Int → Int → Prop} {L : Int → Int → Int} (hL : ∀ c v, L c v = 1) {E : Nat → Int} {n f : Int} (hn : n ≤ 12) (hf : 0 ≤ f ∧ f < n) (hE : zYX A n f E) : ∀ (r : Nat) (j : Int) (D : Nat → Int), 0 ≤ j → zYlo E D → zYup E j D → zYlo E (zYr A L n r D) ∧ zYup E (j + r) (zYr A L n r D) := by
  intro r
  induction r with
  | zero => intro j D h0 h1 h2; rw [show j + ((0 : Nat) : Int) = j by omega]; exact ⟨h1, h2⟩
  | succ r ih =>
    intro j D h0 h1 h2
    obtain ⟨s1, s2, s3⟩ := zYf_o hL hn hE n.toNat 0 D (by omega) (by omega) h1
    rw [show j + ((r + 1 : Nat) : Int) = j + 1 + r by omega]
    refine ih (j + 1) _ (by omega) s1 fun k hk q1 q2 => ?_
    by_cases g : E k ≤ j
    · have a1 := h2 k hk q1 g
      have a2 := s2 k hk a1.1
      exact ⟨a2.1, Int.le_trans a2.2 a1.2⟩
    · have kf : (k : Int) ≠ f := fun q => by
        have := hE.2.2.1
        rw [← q] at this
        have : E k = 0 := this
        omega
      obtain ⟨a, b1, b2, b3, b4⟩ := hE.2.1 k hk q1 kf
      have a1 := h2 a (by omega) (by omega) (by omega)
      have a2 := s3 a k (by omega) (by omega) hk b2 a1.1
      exact ⟨a2.1, by have := a2.2; have := a1.2; omega⟩
theorem zYh_e {w : zW} (hn : w 95 0 ≤ 12) (q : Nat) {f : Int} (hf : 0 ≤ f ∧ f < w 95 0) {k : Nat} (hk : k < 12) : zYh w f k = zYe w q 0 f k := by
  have hE : zYX (zYA w) (w 95 0) f (zYh w f) := zYz_x hn hf _
  have key := zYr_o (A := zYA w) (L := zYL w q 0) (fun c v => if_pos rfl) hn hf hE 12 0 (zYi f 12 fun _ => 0) (by omega) (fun j hj => by
    unfold zYi
    rw [if_pos (show (j : Int) < 12 by omega)]
    by_cases g : (j : Int) = f
    · rw [if_pos g]
      have e := hE.2.2.1
      rw [← g] at e
      have e : zYh w f j = 0 := by rw [← g]; exact e
      exact ⟨by omega, fun _ => by omega⟩
    · rw [if_neg g]
      exact ⟨by omega, fun q => (q rfl).elim⟩) (fun j hj h1 h2 => by
    have b := hE.1 j hj
    by_cases g : (j : Int) = f
    · unfold zYi
      rw [if_pos (show (j : Int) < 12 by omega), if_pos g]
      omega
    · obtain ⟨a, b1, b2, b3, b4⟩ := hE.2.1 j hj h1 g
      omega)
  have b := hE.1 k hk
  have l := key.1 k hk
  show zYh w f k = zYr (zYA w) (zYL w q 0) (w 95 0) 12 (zYi f 12 fun _ => 0) k
  by_cases g : zYh w f k = -1
  · by_cases g2 : zYr (zYA w) (zYL w q 0) (w 95 0) 12 (zYi f 12 fun _ => 0) k = -1
    · omega
    · exact ((l.2 g2).1 g).elim
  · have u := key.2 k hk g (by omega)
    have := l.2 u.1
    omega

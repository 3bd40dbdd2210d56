/-! ===== what the world says of a net: the class's rows (from the place q on) and the model's (area o) ===== -/
/-- who follows b around a, by the model's table -/
def zfw (w : zW) (o : Nat) (a b : Int) : Int := w 100 (144 * (o : Int) + 12 * a + b).toNat
/-- the corners of the faces -/
def zco (w : zW) (o : Nat) (k : Int) : Int := w 99 (60 * (o : Int) + k).toNat
/-- two numbers are apart in a table: no side between them -/
abbrev zap (T : Int → Int → Int) (a b : Int) : Prop := T a b = -1 ∧ T b a = -1
def zNb (T : Int → Int → Int) (n c : Int) : Int := zSm (fun a => if zap T c a then 0 else 1) n.toNat 0
def zAh (T : Int → Int → Int) (n c b : Int) : Int := zFi (fun a => T c a = b) n.toNat 0
def zLw (T : Int → Int → Int) (n c : Int) : Int := zFi (fun a => ¬ zap T c a) n.toNat 0
def zF1 (T : Int → Int → Int) (n c : Int) : Int := zFi (fun a => ¬ zap T c a ∧ zAh T n c a = -1) n.toNat 0
def zFs (T : Int → Int → Int) (n c : Int) : Int := if zF1 T n c = -1 then zLw T n c else zF1 T n c
def zKd (T : Int → Int → Int) (n c : Int) : Int := if zNb T n c = 0 then 2 else if zAh T n c (zFs T n c) = -1 then 1 else 0
/-- the row around a circle -/
def zrw (T : Int → Int → Int) (n c i : Int) : Int := zIt (T c) i.toNat (zFs T n c)
/-- names: the class's letters by eights, the model's by fives -/
def zp8 : List Int → Int → Int
  | [], a => a
  | v :: l, a => zp8 l (256 * a + (v + 96))
def zp5 : List Int → Int → Int
  | [], a => a
  | v :: l, a => zp5 l (32 * a + v)
def znm (x y : Int) : Prop := ∃ l : List Int, 1 ≤ l.length ∧ l.length ≤ 8 ∧ (∀ v ∈ l, 1 ≤ v ∧ v ≤ 26) ∧ x = zp8 l 0 ∧ y = zp5 l 0
/-- a table of faces -/
def zTab (T : Int → Int → Int) (n : Int) : Prop := 0 ≤ n ∧ n ≤ 12 ∧ ∀ a b, 0 ≤ a → a < 12 → 0 ≤ b → b < 12 → T a b = -1 ∨ (a < n ∧ b < n ∧ 0 ≤ T a b ∧ T a b < n ∧ a ≠ b ∧ T b (T a b) = a ∧ T (T a b) a = b)
def zNet (q o : Nat) (w : zW) : Prop :=
  (w q 0 = w 95 o ∧ w q 1 = w 96 o ∧ 0 ≤ w 95 o ∧ w 95 o ≤ 12 ∧ 0 ≤ w 96 o ∧ w 96 o ≤ 20) ∧
  (∀ c, 0 ≤ c → c < w 95 o → znm (w (q + 1) c.toNat) (w 101 (12 * (o : Int) + c).toNat) ∧ w (q + 2) c.toNat = w 97 (12 * (o : Int) + c).toNat ∧ 0 ≤ w 97 (12 * (o : Int) + c).toNat ∧ w 97 (12 * (o : Int) + c).toNat ≤ 1800) ∧
  (∀ k, 0 ≤ k → k < 3 * w 96 o → w (q + 4) k.toNat = zco w o k ∧ 0 ≤ zco w o k ∧ zco w o k < w 95 o) ∧
  (∀ f i, 0 ≤ f → f < w 96 o → 0 ≤ i → i < 3 → w (q + 5) (12 * zco w o (3 * f + i) + zco w o (3 * f + (i + 1) % 3)).toNat = f ∧ zfw w o (zco w o (3 * f + i)) (zco w o (3 * f + (i + 1) % 3)) = zco w o (3 * f + (i + 2) % 3) ∧ zco w o (3 * f + i) ≠ zco w o (3 * f + (i + 1) % 3)) ∧
  (∀ a b, 0 ≤ a → a < 12 → 0 ≤ b → b < 12 → (w (q + 5) (12 * a + b).toNat = -1 ∧ zfw w o a b = -1) ∨ ∃ f i, 0 ≤ f ∧ f < w 96 o ∧ 0 ≤ i ∧ i < 3 ∧ a = zco w o (3 * f + i) ∧ b = zco w o (3 * f + (i + 1) % 3))
/-- the row of a circle: as long as it has neighbors, each once; it ends or comes back -/
def zRw1 (T : Int → Int → Int) (n c : Int) : Prop :=
  zNb T n c < 12 ∧ (∀ i, 0 ≤ i → i < zNb T n c → 0 ≤ zrw T n c i ∧ zrw T n c i < n ∧ ¬ zap T c (zrw T n c i)) ∧
  (0 < zNb T n c → zrw T n c (zNb T n c) = if zKd T n c = 0 then zFs T n c else -1) ∧
  (∀ i j, 0 ≤ i → i < j → j < zNb T n c → zrw T n c i ≠ zrw T n c j) ∧
  (∀ a, 0 ≤ a → a < n → ¬ zap T c a → ∃ i, 0 ≤ i ∧ i < zNb T n c ∧ zrw T n c i = a)
def zRow (q o : Nat) (w : zW) : Prop := ∀ c, 0 ≤ c → c < w 95 o →
  (w (q + 7) c.toNat = zNb (zfw w o) (w 95 o) c ∧ w (q + 8) c.toNat = (if zKd (zfw w o) (w 95 o) c = 0 then 1 else 0) ∧
  ∀ i, 0 ≤ i → i < zNb (zfw w o) (w 95 o) c → w (q + 6) (12 * c + i).toNat = zrw (zfw w o) (w 95 o) c i) ∧ zRw1 (zfw w o) (w 95 o) c
/-- the net in use -/
def zNt (w : zW) : Prop := zNet 4 0 w ∧ zRow 4 0 w
abbrev zF0 (w : zW) : Int → Int → Int := zfw w 0
theorem zfw0 (w : zW) (a b : Int) : zfw w 0 a b = w 100 (12 * a + b).toNat := by
  unfold zfw; rw [show 144 * ((0 : Nat) : Int) + 12 * a + b = 12 * a + b by omega]
theorem zco0 (w : zW) (k : Int) : zco w 0 k = w 99 k.toNat := by
  unfold zco; rw [show 60 * ((0 : Nat) : Int) + k = k by omega]
theorem zNet.tab {q o : Nat} {w : zW} (h : zNet q o w) : zTab (zfw w o) (w 95 o) := by
  obtain ⟨⟨_, _, h3, h4, h5, h6⟩, _, hk, hf, hs⟩ := h
  refine ⟨h3, h4, fun a b a0 a1 b0 b1 => ?_⟩
  rcases hs a b a0 a1 b0 b1 with ⟨_, q2⟩ | ⟨f, i, f0, f1, i0, i1, e1, e2⟩
  · exact Or.inl q2
  · refine Or.inr ?_
    obtain ⟨g1, g2, g3⟩ := hf f i f0 f1 i0 i1
    obtain ⟨g4, g5, g6⟩ := hf f ((i + 1) % 3) f0 f1 (by omega) (by omega)
    obtain ⟨g7, g8, g9⟩ := hf f ((i + 2) % 3) f0 f1 (by omega) (by omega)
    have k0 := hk (3 * f + i) (by omega) (by omega)
    have k1 := hk (3 * f + (i + 1) % 3) (by omega) (by omega)
    have k2 := hk (3 * f + (i + 2) % 3) (by omega) (by omega)
    rw [show ((i + 1) % 3 + 1) % 3 = (i + 2) % 3 by omega, show ((i + 1) % 3 + 2) % 3 = i by omega] at g5
    rw [show ((i + 2) % 3 + 1) % 3 = i by omega, show ((i + 2) % 3 + 2) % 3 = (i + 1) % 3 by omega] at g8
    rw [e1, e2, g2]
    exact ⟨k0.2.2, k1.2.2, k2.2.1, k2.2.2, g3, g5, g8⟩
/-- a side's face in the class's table, who follows in the model's -/
theorem zNet.side {q o : Nat} {w : zW} (h : zNet q o w) {a b : Int} (a0 : 0 ≤ a) (a1 : a < 12) (b0 : 0 ≤ b) (b1 : b < 12) : w (q + 5) (12 * a + b).toNat = -1 ↔ zfw w o a b = -1 := by
  obtain ⟨⟨_, _, h3, h4, h5, h6⟩, _, hk, hf, hs⟩ := h
  rcases hs a b a0 a1 b0 b1 with ⟨q1, q2⟩ | ⟨f, i, f0, f1, i0, i1, e1, e2⟩
  · rw [q1, q2]
  · obtain ⟨g1, g2, g3⟩ := hf f i f0 f1 i0 i1
    have k2 := hk (3 * f + (i + 2) % 3) (by omega) (by omega)
    rw [e1, e2, g1, g2]
    omega
theorem zNet.sideR {q o : Nat} {w : zW} (h : zNet q o w) {a b : Int} (a0 : 0 ≤ a) (a1 : a < 12) (b0 : 0 ≤ b) (b1 : b < 12) : -1 ≤ w (q + 5) (12 * a + b).toNat ∧ w (q + 5) (12 * a + b).toNat < w 96 o := by
  obtain ⟨⟨_, _, h3, h4, h5, h6⟩, _, hk, hf, hs⟩ := h
  rcases hs a b a0 a1 b0 b1 with ⟨q1, q2⟩ | ⟨f, i, f0, f1, i0, i1, e1, e2⟩
  · omega
  · obtain ⟨g1, g2, g3⟩ := hf f i f0 f1 i0 i1
    rw [e1, e2, g1]
    omega
theorem zNb_rg (T : Int → Int → Int) {n : Int} (c : Int) (hn : 0 ≤ n) : 0 ≤ zNb T n c ∧ zNb T n c ≤ n := by
  have := zSm_rg01 (f := fun a => if zap T c a then 0 else 1) n.toNat 0 fun j => by
    show (if _ then (0 : Int) else 1) = 0 ∨ (if _ then (0 : Int) else 1) = 1
    split <;> omega
  unfold zNb
  omega
theorem zKd_rg (T : Int → Int → Int) (n c : Int) : zKd T n c = 0 ∨ zKd T n c = 1 ∨ zKd T n c = 2 := by
  unfold zKd; split
  · omega
  · split <;> omega
theorem zrw_succ (T : Int → Int → Int) (n c i : Int) (h : 0 ≤ i) : zrw T n c (i + 1) = T c (zrw T n c i) := by
  unfold zrw
  rw [show (i + 1).toNat = i.toNat + 1 by omega, zIt_succ]
theorem zNt.n {w : zW} (h : zNt w) : w 4 0 = w 95 0 ∧ 0 ≤ w 95 0 ∧ w 95 0 ≤ 12 ∧ w 4 1 = w 96 0 ∧ 0 ≤ w 96 0 ∧ w 96 0 ≤ 20 := by
  obtain ⟨⟨⟨h1, h2, h3, h4, h5, h6⟩, _⟩, _⟩ := h
  exact ⟨h1, h3, h4, h2, h5, h6⟩
theorem zNt.deg {w : zW} (h : zNt w) {c : Int} (h0 : 0 ≤ c) (h1 : c < w 95 0) : w 6 c.toNat = w 97 c.toNat ∧ 0 ≤ w 97 c.toNat ∧ w 97 c.toNat ≤ 1800 ∧ znm (w 5 c.toNat) (w 101 c.toNat) := by
  obtain ⟨⟨_, hd, _⟩, _⟩ := h
  have := hd c h0 h1
  rw [show 12 * ((0 : Nat) : Int) + c = c by omega] at this
  exact ⟨this.2.1, this.2.2.1, this.2.2.2, this.1⟩
theorem zNt.cor {w : zW} (h : zNt w) {k : Int} (h0 : 0 ≤ k) (h1 : k < 3 * w 96 0) : w 8 k.toNat = w 99 k.toNat ∧ 0 ≤ w 99 k.toNat ∧ w 99 k.toNat < w 95 0 := by
  obtain ⟨⟨_, _, hk, _⟩, _⟩ := h
  have := hk k h0 h1
  rw [zco0] at this
  exact this
theorem zNt.row {w : zW} (h : zNt w) {c : Int} (h0 : 0 ≤ c) (h1 : c < w 95 0) : w 11 c.toNat = zNb (zF0 w) (w 95 0) c ∧ w 12 c.toNat = (if zKd (zF0 w) (w 95 0) c = 0 then 1 else 0) ∧
    (∀ i, 0 ≤ i → i < zNb (zF0 w) (w 95 0) c → w 10 (12 * c + i).toNat = zrw (zF0 w) (w 95 0) c i) ∧ zRw1 (zF0 w) (w 95 0) c := by
  obtain ⟨⟨q1, q2, q3⟩, q4⟩ := h.2 c h0 h1
  exact ⟨q1, q2, q3, q4⟩

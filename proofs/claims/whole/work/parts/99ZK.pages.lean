/-! ===== reports: what is written (written by wip/whole/gen_c.py) ===== -/
/-- divided so often -/
def zsq2 (b : Int) : Nat → Int → Int
  | 0, x => x
  | j + 1, x => zsq2 b j (x / b)
theorem zsr_8 {x : Int} (j : Nat) (hj : j < 8) : zsq2 256 j x = x / ((2 ^ (8 * j) : Nat) : Int) := by
  rcases (show j = 0 ∨ j = 1 ∨ j = 2 ∨ j = 3 ∨ j = 4 ∨ j = 5 ∨ j = 6 ∨ j = 7 by omega) with e | e | e | e | e | e | e | e <;> subst e
  · show x = x / 1; omega
  · show x / 256 = x / 256; rfl
  · show x / 256 / 256 = x / 65536; omega
  · show x / 256 / 256 / 256 = x / 16777216; omega
  · show x / 256 / 256 / 256 / 256 = x / 4294967296; omega
  · show x / 256 / 256 / 256 / 256 / 256 = x / 1099511627776; omega
  · show x / 256 / 256 / 256 / 256 / 256 / 256 = x / 281474976710656; omega
  · show x / 256 / 256 / 256 / 256 / 256 / 256 / 256 = x / 72057594037927936; omega
theorem zsr_5 {x : Int} (j : Nat) (hj : j < 8) : zsq2 32 j x = x / ((2 ^ (5 * j) : Nat) : Int) := by
  rcases (show j = 0 ∨ j = 1 ∨ j = 2 ∨ j = 3 ∨ j = 4 ∨ j = 5 ∨ j = 6 ∨ j = 7 by omega) with e | e | e | e | e | e | e | e <;> subst e
  · show x = x / 1; omega
  · show x / 32 = x / 32; rfl
  · show x / 32 / 32 = x / 1024; omega
  · show x / 32 / 32 / 32 = x / 32768; omega
  · show x / 32 / 32 / 32 / 32 = x / 1048576; omega
  · show x / 32 / 32 / 32 / 32 / 32 = x / 33554432; omega
  · show x / 32 / 32 / 32 / 32 / 32 / 32 = x / 1073741824; omega
  · show x / 32 / 32 / 32 / 32 / 32 / 32 / 32 = x / 34359738368; omega
theorem z8_8 (x : Int) : z8 (z8 x) = z8 x := by unfold z8; exact Int.bmod_bmod
theorem z32_m8 (x : Int) : z32 x % 256 = x % 256 := by
  show (if x % 4294967296 < ((4294967296 : Int) + 1) / 2 then x % 4294967296 else x % 4294967296 - 4294967296) % 256 = x % 256
  split <;> omega
/-- a letter of a name, the class's and the model's -/
theorem zlet8 {x i : Int} {m : Nat} (hm : m < 8) (hi : i = 8 * (m : Int)) (hx : 0 ≤ x ∧ x < 9223372036854775808) : (Int32.ofInt (z32 ((Int64.ofInt x >>> ((Int32.ofInt i).toInt64 &&& 63)).toInt)) &&& Int32.ofInt 255).toInt = zsq2 256 m x % 256 := by
  rw [zand255, z32_m8, hi, show 8 * (m : Int) = ((8 * m : Nat) : Int) by omega, zl_shr (by omega) hx, zsr_8 m hm]
theorem zlet5 {x i : Int} {m : Nat} (hm : m < 8) (hi : i = 5 * (m : Int)) (hx : 0 ≤ x ∧ x < 9223372036854775808) : z32 ((Int64.ofInt ((Int64.ofInt x >>> ((Int32.ofInt i).toInt64 &&& 63)).toInt) &&& Int64.ofInt 31).toInt) = zsq2 32 m x % 32 := by
  have e : (Int64.ofInt x >>> ((Int32.ofInt i).toInt64 &&& 63)).toInt = zsq2 32 m x := by
    rw [hi, show 5 * (m : Int) = ((5 * m : Nat) : Int) by omega, zl_shr (by omega) hx, zsr_5 m hm]
  rw [e]
  have p : (0 : Int) < ((2 ^ (5 * m) : Nat) : Int) := by
    have := Nat.two_pow_pos (5 * m)
    omega
  have n0 : 0 ≤ zsq2 32 m x := by rw [zsr_5 m hm]; exact Int.ediv_nonneg hx.1 (by omega)
  have n1 : zsq2 32 m x ≤ x := by rw [zsr_5 m hm]; exact Int.ediv_le_self _ hx.1
  rw [zl_and ⟨n0, by omega⟩ ⟨by decide, by decide⟩, show (31 : Int).toNat = 2 ^ 5 - 1 from rfl, Nat.and_two_pow_sub_one_eq_mod]
  show z32 (((zsq2 32 m x).toNat % 32 : Nat) : Int) = _
  rw [z32_id ⟨by omega, by omega⟩]
  omega
/-- a byte more -/
def zwb (w : zW) (b : Int) : zW := zupd (zupd w 91 (w 90 1).toNat (z8 b)) 90 1 (w 90 1 + 1)
def ztb (w : zW) (b : Int) : zW := zupd (zupd w 115 (w 93 44).toNat b) 93 44 (w 93 44 + 1)
def zwL : List Int → zW → zW
  | [], w => w
  | b :: l, w => zwL l (zwb w b)
def ztL : List Int → zW → zW
  | [], w => w
  | b :: l, w => ztL l (ztb w b)
theorem zwL_app : ∀ (l r : List Int) (w : zW), zwL (l ++ r) w = zwL r (zwL l w)
  | [], _, _ => rfl
  | _ :: l, r, w => zwL_app l r _
theorem ztL_app : ∀ (l r : List Int) (w : zW), ztL (l ++ r) w = ztL r (ztL l w)
  | [], _, _ => rfl
  | _ :: l, r, w => ztL_app l r _
theorem zwL_len : ∀ (l : List Int) (w : zW), zwL l w 90 1 = w 90 1 + l.length
  | [], w => by show w 90 1 = w 90 1 + ((0 : Nat) : Int); omega
  | b :: l, w => by
    show zwL l (zwb w b) 90 1 = w 90 1 + ((l.length + 1 : Nat) : Int)
    rw [zwL_len l (zwb w b), show zwb w b 90 1 = w 90 1 + 1 from rfl]
    omega
theorem ztL_len : ∀ (l : List Int) (w : zW), ztL l w 93 44 = w 93 44 + l.length
  | [], w => by show w 93 44 = w 93 44 + ((0 : Nat) : Int); omega
  | b :: l, w => by
    show ztL l (ztb w b) 93 44 = w 93 44 + ((l.length + 1 : Nat) : Int)
    rw [ztL_len l (ztb w b), show ztb w b 93 44 = w 93 44 + 1 from rfl]
    omega
theorem zwL_ne {p : Nat} (h1 : p ≠ 90) (h2 : p ≠ 91) : ∀ (l : List Int) (w : zW), zwL l w p = w p
  | [], _ => rfl
  | b :: l, w => by
    show zwL l (zwb w b) p = w p
    rw [zwL_ne h1 h2 l (zwb w b)]
    unfold zwb
    rw [zune h1, zune h2]
theorem ztL_ne {p : Nat} (h1 : p ≠ 93) (h2 : p ≠ 115) : ∀ (l : List Int) (w : zW), ztL l w p = w p
  | [], _ => rfl
  | b :: l, w => by
    show ztL l (ztb w b) p = w p
    rw [ztL_ne h1 h2 l (ztb w b)]
    unfold ztb
    rw [zune h1, zune h2]
theorem ztL_93 {k : Nat} (h : k ≠ 44) : ∀ (l : List Int) (w : zW), ztL l w 93 k = w 93 k
  | [], _ => rfl
  | b :: l, w => by
    show ztL l (ztb w b) 93 k = w 93 k
    rw [ztL_93 h l (ztb w b)]
    unfold ztb
    rw [zuk h, zune (by decide)]
/-- both have written the same -/
def zRq (a b : zW) : Prop := (a 90 1 = b 93 44 ∧ 0 ≤ b 93 44) ∧ ∀ i : Int, 0 ≤ i → i < b 93 44 → a 91 i.toNat % 256 = b 115 i.toNat
theorem zRq.wb {a b : zW} (h : zRq a b) {c : Int} (hc : 0 ≤ c ∧ c < 256) : zRq (zwb a c) (ztb b c) := by
  obtain ⟨⟨h1, h2⟩, h3⟩ := h
  have eb : ztb b c 93 44 = b 93 44 + 1 := rfl
  refine ⟨⟨?_, ?_⟩, fun i i0 i1 => ?_⟩
  · show a 90 1 + 1 = b 93 44 + 1
    rw [h1]
  · rw [eb]; omega
  · rw [eb] at i1
    show (if i.toNat = (a 90 1).toNat then z8 c else a 91 i.toNat) % 256 = if i.toNat = (b 93 44).toNat then c else b 115 i.toNat
    rw [h1]
    by_cases g : i.toNat = (b 93 44).toNat
    · rw [if_pos g, if_pos g, z8_m]; omega
    · rw [if_neg g, if_neg g]; exact h3 i i0 (by omega)
theorem zRq.L : ∀ (l : List Int) {a b : zW}, zRq a b → (∀ c ∈ l, 0 ≤ c ∧ c < 256) → zRq (zwL l a) (ztL l b)
  | [], _, _, h, _ => h
  | c :: l, _, _, h, g => zRq.L l (h.wb (g c List.mem_cons_self)) fun d hd => g d (List.mem_cons_of_mem _ hd)
/-- the bytes of a name -/
def zby8 (x : Int) : Nat → List Int
  | 0 => []
  | m + 1 => if zsq2 256 m x % 256 = 0 then zby8 x m else zsq2 256 m x % 256 :: zby8 x m
def zby5 (x : Int) : Nat → Int → List Int
  | 0, _ => []
  | m + 1, b => if b = 1 ∨ 0 < zsq2 32 m x % 32 then (96 + zsq2 32 m x % 32) :: zby5 x m 1 else zby5 x m 0
theorem zdig : ∀ (l : List Int), (∀ v ∈ l, 1 ≤ v ∧ v ≤ 26) → ∀ j : Nat, (j < l.length → 1 ≤ zsq2 32 j (zq5 l) % 32 ∧ zsq2 32 j (zq5 l) % 32 ≤ 26 ∧ zsq2 256 j (zq8 l) % 256 = 96 + zsq2 32 j (zq5 l) % 32) ∧ (l.length ≤ j → zsq2 256 j (zq8 l) % 256 = 0 ∧ zsq2 32 j (zq5 l) % 32 = 0)
  | [], _, j => by
    refine ⟨fun q => absurd (show j < 0 from q) (by omega), fun _ => ?_⟩
    have z : ∀ (b : Int) (j : Nat), zsq2 b j 0 = 0 := fun b j => by
      induction j with
      | zero => rfl
      | succ j ih => show zsq2 b j (0 / b) = 0; rw [Int.zero_ediv]; exact ih
    show zsq2 256 j 0 % 256 = 0 ∧ zsq2 32 j 0 % 32 = 0
    rw [z, z]
    decide
  | v :: l, h, j => by
    have hv := h v List.mem_cons_self
    have ih := zdig l fun u hu => h u (List.mem_cons_of_mem _ hu)
    have e8 : zq8 (v :: l) = 256 * zq8 l + (v + 96) := rfl
    have e5 : zq5 (v :: l) = 32 * zq5 l + v := rfl
    cases j with
    | zero =>
      refine ⟨fun _ => ?_, fun q => absurd (show l.length + 1 ≤ 0 from q) (by omega)⟩
      show 1 ≤ zq5 (v :: l) % 32 ∧ zq5 (v :: l) % 32 ≤ 26 ∧ zq8 (v :: l) % 256 = 96 + zq5 (v :: l) % 32
      rw [e8, e5]
      omega
    | succ j =>
      have d8 : zsq2 256 (j + 1) (zq8 (v :: l)) = zsq2 256 j (zq8 l) := by
        show zsq2 256 j (zq8 (v :: l) / 256) = _
        rw [e8, show (256 * zq8 l + (v + 96)) / 256 = zq8 l by omega]
      have d5 : zsq2 32 (j + 1) (zq5 (v :: l)) = zsq2 32 j (zq5 l) := by
        show zsq2 32 j (zq5 (v :: l) / 32) = _
        rw [e5, show (32 * zq5 l + v) / 32 = zq5 l by omega]
      rw [d8, d5]
      exact ⟨fun q => (ih j).1 (by have : j + 1 < l.length + 1 := q; omega), fun q => (ih j).2 (by have : l.length + 1 ≤ j + 1 := q; omega)⟩
theorem zby_e {l : List Int} (h : ∀ v ∈ l, 1 ≤ v ∧ v ≤ 26) : ∀ m : Nat, (m ≤ l.length → zby8 (zq8 l) m = zby5 (zq5 l) m 1 ∧ zby8 (zq8 l) m = zby5 (zq5 l) m 0) ∧ (l.length ≤ m → zby8 (zq8 l) m = zby5 (zq5 l) m 0) := by
  intro m
  induction m with
  | zero => exact ⟨fun _ => ⟨rfl, rfl⟩, fun _ => rfl⟩
  | succ m ih =>
    have d := zdig l h m
    have e8 : zby8 (zq8 l) (m + 1) = if zsq2 256 m (zq8 l) % 256 = 0 then zby8 (zq8 l) m else zsq2 256 m (zq8 l) % 256 :: zby8 (zq8 l) m := rfl
    have e5 : ∀ b, zby5 (zq5 l) (m + 1) b = if b = 1 ∨ 0 < zsq2 32 m (zq5 l) % 32 then (96 + zsq2 32 m (zq5 l) % 32) :: zby5 (zq5 l) m 1 else zby5 (zq5 l) m 0 := fun b => rfl
    have lt : m < l.length → zby8 (zq8 l) (m + 1) = zby5 (zq5 l) (m + 1) 1 ∧ zby8 (zq8 l) (m + 1) = zby5 (zq5 l) (m + 1) 0 := fun q => by
      have d1 := d.1 q
      rw [e8, e5, e5, if_neg (by omega), if_pos (Or.inl rfl), if_pos (Or.inr (by omega)), d1.2.2, (ih.1 (by omega)).1]
      exact ⟨rfl, rfl⟩
    refine ⟨fun q => lt (by omega), fun q => ?_⟩
    by_cases g : m < l.length
    · exact (lt g).2
    · have d2 := d.2 (by omega)
      rw [e8, e5, if_pos d2.1, if_neg (by omega)]
      exact ih.2 (by omega)
theorem zby_rg {x : Int} : ∀ (m : Nat), (∀ c ∈ zby8 x m, 0 ≤ c ∧ c < 256) ∧ (zby8 x m).length ≤ m
  | 0 => ⟨fun c hc => absurd (show c ∈ ([] : List Int) from hc) (by simp), Nat.le_refl 0⟩
  | m + 1 => by
    have ih := zby_rg (x := x) m
    have e : zby8 x (m + 1) = if zsq2 256 m x % 256 = 0 then zby8 x m else zsq2 256 m x % 256 :: zby8 x m := rfl
    rw [e]
    by_cases g : zsq2 256 m x % 256 = 0
    · rw [if_pos g]; exact ⟨ih.1, by omega⟩
    · rw [if_neg g]
      refine ⟨fun c hc => ?_, ?_⟩
      · rcases List.mem_cons.mp hc with q | q
        · rw [q]; omega
        · exact ih.1 c q
      · show (zby8 x m).length + 1 ≤ m + 1
        omega
theorem znm_by {x y : Int} (h : znm x y) : zby8 x 8 = zby5 y 8 0 ∧ (0 ≤ x ∧ x < 9223372036854775808) ∧ 0 ≤ y ∧ y < 9223372036854775808 := by
  obtain ⟨r, h1, h2, h3, h4, h5⟩ := h
  have e4 : x = zq8 r.reverse := by rw [h4, ← zp8_q, List.reverse_reverse]
  have e5 : y = zq5 r.reverse := by rw [h5, ← zp5_q, List.reverse_reverse]
  have hr : ∀ v ∈ r.reverse, 1 ≤ v ∧ v ≤ 26 := fun v hv => h3 v (List.mem_reverse.mp hv)
  have hl : r.reverse.length ≤ 8 := by rw [List.length_reverse]; exact h2
  have p := zq8_nn _ hr
  have q := zq5_nn _ hr
  have lim : ∀ l : List Int, (∀ v ∈ l, 1 ≤ v ∧ v ≤ 26) → 2 * zq8 l < ((256 ^ l.length : Nat) : Int) ∧ zq5 l ≤ zq8 l := by
    intro l
    induction l with
    | nil => exact fun _ => by decide
    | cons v l ih =>
      intro hl
      have hv := hl v List.mem_cons_self
      have a := ih fun u hu => hl u (List.mem_cons_of_mem _ hu)
      have b := zq5_nn l fun u hu => hl u (List.mem_cons_of_mem _ hu)
      have e8 : zq8 (v :: l) = 256 * zq8 l + (v + 96) := rfl
      have e5 : zq5 (v :: l) = 32 * zq5 l + v := rfl
      have ep : ((256 ^ (v :: l).length : Nat) : Int) = ((256 ^ l.length : Nat) : Int) * 256 := by
        show ((256 ^ (l.length + 1) : Nat) : Int) = _
        rw [Nat.pow_succ, Int.natCast_mul]
        rfl
      rw [e8, e5, ep]
      omega
  have lm := lim _ hr
  have pw : ((256 ^ r.reverse.length : Nat) : Int) ≤ 18446744073709551616 := by
    have := Nat.pow_le_pow_right (n := 256) (by decide) hl
    have e : (256 : Nat) ^ 8 = 18446744073709551616 := by decide
    omega
  refine ⟨?_, ⟨by omega, by omega⟩, by omega, by omega⟩
  rw [e4, e5]
  exact (zby_e hr 8).2 hl
/-- 0, 1, 10, 100 .. -/
def zU : Nat → Int
  | 0 => 0
  | 1 => 1
  | m + 2 => 10 * zU (m + 1)
theorem zU_pos : ∀ m : Nat, 1 ≤ zU (m + 1)
  | 0 => by decide
  | m + 1 => by
    have := zU_pos m
    show 1 ≤ 10 * zU (m + 1)
    omega
theorem zU_le : ∀ m : Nat, m ≤ 10 → 0 ≤ zU m ∧ zU m ≤ 1000000000 := by decide
theorem zU_dn (m : Nat) : zU (m + 1) / 10 = zU m := by
  cases m with
  | zero => decide
  | succ m =>
    show 10 * zU (m + 1) / 10 = zU (m + 1)
    omega
theorem zU_mo : ∀ (d m : Nat), zU m ≤ zU (m + d)
  | 0, m => Int.le_refl _
  | d + 1, m => by
    have := zU_mo d m
    have e : zU (m + (d + 1)) = zU (m + d + 1) := rfl
    rw [e]
    cases hk : m + d with
    | zero => rw [hk] at this; have : zU m ≤ 0 := this; show zU m ≤ 1; omega
    | succ k =>
      rw [hk] at this
      have := zU_pos k
      show zU m ≤ 10 * zU (k + 1)
      omega
/-- the digits from a place on, without zeros ahead; all -/
def zdgs : Nat → Int → List Int
  | 0, _ => []
  | m + 1, s => if zU (m + 1) ≤ s ∨ m = 0 then (48 + s / zU (m + 1) % 10) :: zdgs m s else zdgs m s
def zdf : Nat → Int → List Int
  | 0, _ => []
  | m + 1, s => (48 + s / zU (m + 1) % 10) :: zdf m s
def znu (n : Int) : List Int := (if n < 0 then [45] else []) ++ zdgs 10 (zab n)
theorem zdg_all : ∀ (m : Nat) (s : Int), (m ≤ 1 ∨ zU m ≤ s) → zdgs m s = zdf m s
  | 0, _, _ => rfl
  | m + 1, s, h => by
    have c : zU (m + 1) ≤ s ∨ m = 0 := by omega
    have e : zdgs (m + 1) s = (48 + s / zU (m + 1) % 10) :: zdgs m s := if_pos c
    have l := zU_mo 1 m
    rw [e, zdg_all m s (by omega)]
    rfl
theorem zdg_up {k : Nat} {s : Int} (hk : 1 ≤ k) (h : s < zU (k + 1)) : ∀ d : Nat, zdgs (k + d) s = zdgs k s
  | 0 => rfl
  | d + 1 => by
    have l := zU_mo d (k + 1)
    rw [show k + 1 + d = k + d + 1 by omega] at l
    have e : zdgs (k + d + 1) s = zdgs (k + d) s := if_neg (show ¬ (zU (k + d + 1) ≤ s ∨ k + d = 0) by omega)
    show zdgs (k + d + 1) s = zdgs k s
    rw [e]
    exact zdg_up hk h d
theorem zdg_rg : ∀ (m : Nat) (s : Int), (∀ c ∈ zdgs m s, 0 ≤ c ∧ c < 256) ∧ (zdgs m s).length ≤ m
  | 0, _ => ⟨fun c hc => absurd (show c ∈ ([] : List Int) from hc) (by simp), Nat.le_refl 0⟩
  | m + 1, s => by
    have ih := zdg_rg m s
    have e : zdgs (m + 1) s = if zU (m + 1) ≤ s ∨ m = 0 then (48 + s / zU (m + 1) % 10) :: zdgs m s else zdgs m s := rfl
    rw [e]
    by_cases g : zU (m + 1) ≤ s ∨ m = 0
    · rw [if_pos g]
      refine ⟨fun c hc => ?_, ?_⟩
      · rcases List.mem_cons.mp hc with q | q
        · rw [q]; omega
        · exact ih.1 c q
      · show (zdgs m s).length + 1 ≤ m + 1
        omega
    · rw [if_neg g]; exact ⟨ih.1, by omega⟩
theorem znu_rg (n : Int) : (∀ c ∈ znu n, 0 ≤ c ∧ c < 256) ∧ (znu n).length ≤ 11 ∧ (0 ≤ n → n < 10000000 → (znu n).length ≤ 7) := by
  have d := zdg_rg 10 (zab n)
  unfold znu
  refine ⟨fun c hc => ?_, ?_, fun h0 h1 => ?_⟩
  · rcases List.mem_append.mp hc with q | q
    · by_cases g : n < 0
      · rw [if_pos g] at q
        rcases List.mem_cons.mp q with e | e
        · rw [e]; decide
        · cases e
      · rw [if_neg g] at q; cases q
    · exact d.1 c q
  · rw [List.length_append]
    by_cases g : n < 0
    · rw [if_pos g]; show 1 + _ ≤ 11; omega
    · rw [if_neg g]; show 0 + _ ≤ 11; omega
  · rw [if_neg (by omega)]
    have u : zab n < zU (7 + 1) := by
      have e : zU 8 = 10000000 := by decide
      show zab n < zU 8
      rw [e]; unfold zab; omega
    have e := zdg_up (k := 7) (by decide) u 3
    have e : zdgs 10 (zab n) = zdgs 7 (zab n) := e
    show (zdgs 10 (zab n)).length ≤ 7
    rw [e]
    exact (zdg_rg 7 (zab n)).2
theorem zdgst {s u : Int} (hs : 0 ≤ s ∧ s ≤ 1000000000) (hu : 1 ≤ u) : 0 ≤ s / u ∧ s / u ≤ 1000000000 ∧ 0 ≤ s / u % 10 ∧ s / u % 10 < 10 := by
  have a := Int.ediv_nonneg hs.1 (show 0 ≤ u by omega)
  have b := Int.ediv_le_self u hs.1
  omega
/-! $Page.writeByte -/
set_option maxRecDepth 100000 in
theorem zk71_90 (b : Int) (w : zW) (K : zK) (h : (0 ≤ w 90 1 ∧ w 90 1 < 492) ∧ (K (0, none) (zwb w b) 238)) : zcall 71 [(2, 90), (0, b)] w 238 K := by
  obtain ⟨hg, h⟩ := h
  refine (show (if w 90 1 < 0 then K (0, none) w 238 else if w 90 1 < 492 then zif False (0 ≤ w 90 1 ∧ w 90 1 < 492) (K (0, none) (zupd (zupd w 91 (w 90 1).toNat (z8 (z8 b))) 90 1 (z32 ((w 90 1) + 1))) 238) else K (0, none) w 238) → _ from fun h => show zwp 71 0 [(2, 90), (0, b)] [] w 238 0 K from zgo_imp zT369_ok (cut := fun pc => Nat.beq pc 19 || Nat.beq pc 32) 400 (show if w 90 1 < 0 then K (0, none) w 238 else if w 90 1 < 492 then zwp 71 19 [(2, 90), (0, b)] [] w 238 0 K else K (0, none) w 238 from zmI (fun h => h) (fun h => zmI (fun h => (fun h => show zwp 71 19 [(2, 90), (0, b)] [] w 238 0 K from zgo_imp zT369_ok (cut := fun pc => Nat.beq pc 19 || Nat.beq pc 32) 400 (show zif False (0 ≤ w 90 1 ∧ w 90 1 < 492) (zwp 71 32 [(2, 90), (0, b)] [(2, 90), (2, 90)] (zupd w 91 (w 90 1).toNat (z8 (z8 b))) 238 0 K) from zmZ (fun h => (fun h => show zwp 71 32 [(2, 90), (0, b)] [(2, 90), (2, 90)] (zupd w 91 (w 90 1).toNat (z8 (z8 b))) 238 0 K from zgo_imp zT369_ok (cut := fun pc => Nat.beq pc 19 || Nat.beq pc 32) 400 (show K (0, none) (zupd (zupd w 91 (w 90 1).toNat (z8 (z8 b))) 90 1 (z32 ((w 90 1) + 1))) 238 from h)) h) h)) h) (fun h => h) h) h)) ?_
  have e : z32 (w 90 1 + 1) = w 90 1 + 1 := z32_id ⟨by omega, by omega⟩
  rw [e, z8_8]
  exact ziF (by omega) (ziT (by omega) (zifI (by omega) h))
noncomputable def zb71 (l0 : List zV) (w : zW) (K : zK) : Prop := cond (zpe (zar l0 0) 90) (zA l0 1 fun b => (0 ≤ w 90 1 ∧ w 90 1 < 492) ∧ (K (0, none) (zwb w b) 238)) (False)
noncomputable def zT370 : zSum := zsm1 71 [2, 0] zb71 zT369
theorem zT370_ok : zSok zT370 := zsm1_ok zT369_ok fun l0 w K h => by
  unfold zb71 at h
  cases q0 : zpe (zar l0 0) 90 with
  | true =>
    rw [q0, cond_true] at h
    have e : zar l0 0 = 90 := zpe_e q0
    show zcall 71 [(2, zar l0 0), (0, zar l0 1)] w 238 K
    rw [e]
    exact zk71_90 (zar l0 1) w K (zA_e h)
  | false =>
  rw [q0, cond_false] at h
  exact h.elim
/-! Model.tell -/
set_option maxRecDepth 100000 in
theorem zk334_93 (b : Int) (w : zW) (K : zK) (h : (0 ≤ w 93 44 ∧ w 93 44 < 600) ∧ (K (0, none) (ztb w b) 238)) : zcall 334 [(2, 93), (0, b)] w 238 K := by
  obtain ⟨hg, h⟩ := h
  refine (show (zif False (0 ≤ w 93 44 ∧ w 93 44 < 600) (K (0, none) (zupd (zupd w 115 (w 93 44).toNat b) 93 44 (z32 ((w 93 44) + 1))) 238)) → _ from fun h => show zwp 334 0 [(2, 93), (0, b)] [] w 238 0 K from zgo_imp zT370_ok (cut := fun pc => Nat.beq pc 15) 400 (show zif False (0 ≤ w 93 44 ∧ w 93 44 < 600) (zwp 334 15 [(2, 93), (0, b)] [(0, w 93 44), (2, 93)] (zupd w 115 (w 93 44).toNat b) 238 0 K) from zmZ (fun h => (fun h => show zwp 334 15 [(2, 93), (0, b)] [(0, w 93 44), (2, 93)] (zupd w 115 (w 93 44).toNat b) 238 0 K from zgo_imp zT370_ok (cut := fun pc => Nat.beq pc 15) 400 (show K (0, none) (zupd (zupd w 115 (w 93 44).toNat b) 93 44 (z32 ((w 93 44) + 1))) 238 from h)) h) h)) ?_
  have e : z32 (w 93 44 + 1) = w 93 44 + 1 := z32_id ⟨by omega, by omega⟩
  rw [e]
  exact zifI (by omega) h
noncomputable def zb334 (l0 : List zV) (w : zW) (K : zK) : Prop := cond (zpe (zar l0 0) 93) (zA l0 1 fun b => (0 ≤ w 93 44 ∧ w 93 44 < 600) ∧ (K (0, none) (ztb w b) 238)) (False)
noncomputable def zT371 : zSum := zsm1 334 [2, 0] zb334 zT370
theorem zT371_ok : zSok zT371 := zsm1_ok zT370_ok fun l0 w K h => by
  unfold zb334 at h
  cases q0 : zpe (zar l0 0) 93 with
  | true =>
    rw [q0, cond_true] at h
    have e : zar l0 0 = 93 := zpe_e q0
    show zcall 334 [(2, zar l0 0), (0, zar l0 1)] w 238 K
    rw [e]
    exact zk334_93 (zar l0 1) w K (zA_e h)
  | false =>
  rw [q0, cond_false] at h
  exact h.elim
set_option maxRecDepth 100000 in
theorem zk72_L3 {K : zK} (x : Int) (hx : 0 ≤ x ∧ x < 9223372036854775808)  : ∀ (m : Nat) (i : Int) (w : zW) (d4 : zV), (i = 8 * (m : Int) - 8) → (m ≤ 8) → (0 ≤ w 90 1) → (w 90 1 + m ≤ 492) → (K (0, none) (zwL (zby8 x m) w) 238) → zwp 72 3 [(2, 90), (1, x), (9, 0), (0, i), d4] [] w 238 0 K := by
  
  intro m
  induction m with
  | zero =>
    intro i w d4 h1 h2 h3 h4 h
    refine (show (if i < 0 then K (0, none) w 238 else if (Int32.ofInt (z32 ((Int64.ofInt x >>> ((Int32.ofInt i).toInt64 &&& 63)).toInt)) &&& Int32.ofInt 255).toInt = 0 then zwp 72 3 [(2, 90), (1, x), (9, 0), (0, z32 (i + (-8))), (9, 0)] [] w 238 0 K else (0 ≤ w 90 1 ∧ w 90 1 < 492) ∧ (zwp 72 3 [(2, 90), (1, x), (9, 0), (0, z32 (i + (-8))), (9, 0)] [] (zwb w ((Int32.ofInt (z32 ((Int64.ofInt x >>> ((Int32.ofInt i).toInt64 &&& 63)).toInt)) &&& Int32.ofInt 255).toInt)) 238 0 K)) → _ from fun h => show zwp 72 3 [(2, 90), (1, x), (9, 0), (0, i), d4] [] w 238 0 K from zgo_imp zT371_ok (cut := fun pc => Nat.beq pc 3 || Nat.beq pc 14 || Nat.beq pc 28) 400 (show if i < 0 then K (0, none) w 238 else zwp 72 14 [(2, 90), (1, x), (9, 0), (0, i), (9, 0)] [(0, 255), (0, z32 ((Int64.ofInt x >>> ((Int32.ofInt i).toInt64 &&& 63)).toInt))] w 238 0 K from zmI (fun h => h) (fun h => (fun h => show zwp 72 14 [(2, 90), (1, x), (9, 0), (0, i), (9, 0)] [(0, 255), (0, z32 ((Int64.ofInt x >>> ((Int32.ofInt i).toInt64 &&& 63)).toInt))] w 238 0 K from zgo_imp zT371_ok (cut := fun pc => Nat.beq pc 3 || Nat.beq pc 14 || Nat.beq pc 28) 400 (show if (Int32.ofInt (z32 ((Int64.ofInt x >>> ((Int32.ofInt i).toInt64 &&& 63)).toInt)) &&& Int32.ofInt 255).toInt = 0 then zwp 72 28 [(2, 90), (1, x), (9, 0), (0, i), (0, (Int32.ofInt (z32 ((Int64.ofInt x >>> ((Int32.ofInt i).toInt64 &&& 63)).toInt)) &&& Int32.ofInt 255).toInt)] [] w 238 0 K else (0 ≤ w 90 1 ∧ w 90 1 < 492) ∧ (zwp 72 28 [(2, 90), (1, x), (9, 0), (0, i), (0, (Int32.ofInt (z32 ((Int64.ofInt x >>> ((Int32.ofInt i).toInt64 &&& 63)).toInt)) &&& Int32.ofInt 255).toInt)] [] (zwb w ((Int32.ofInt (z32 ((Int64.ofInt x >>> ((Int32.ofInt i).toInt64 &&& 63)).toInt)) &&& Int32.ofInt 255).toInt)) 238 0 K) from zmI (fun h => (fun h => show zwp 72 28 [(2, 90), (1, x), (9, 0), (0, i), (0, (Int32.ofInt (z32 ((Int64.ofInt x >>> ((Int32.ofInt i).toInt64 &&& 63)).toInt)) &&& Int32.ofInt 255).toInt)] [] w 238 0 K from zgo_imp zT371_ok (cut := fun pc => Nat.beq pc 3 || Nat.beq pc 14 || Nat.beq pc 28) 400 (show zwp 72 3 [(2, 90), (1, x), (9, 0), (0, z32 (i + (-8))), (9, 0)] [] w 238 0 K from h)) h) (fun h => zmA (fun h => (fun h => show zwp 72 28 [(2, 90), (1, x), (9, 0), (0, i), (0, (Int32.ofInt (z32 ((Int64.ofInt x >>> ((Int32.ofInt i).toInt64 &&& 63)).toInt)) &&& Int32.ofInt 255).toInt)] [] (zwb w ((Int32.ofInt (z32 ((Int64.ofInt x >>> ((Int32.ofInt i).toInt64 &&& 63)).toInt)) &&& Int32.ofInt 255).toInt)) 238 0 K from zgo_imp zT371_ok (cut := fun pc => Nat.beq pc 3 || Nat.beq pc 14 || Nat.beq pc 28) 400 (show zwp 72 3 [(2, 90), (1, x), (9, 0), (0, z32 (i + (-8))), (9, 0)] [] (zwb w ((Int32.ofInt (z32 ((Int64.ofInt x >>> ((Int32.ofInt i).toInt64 &&& 63)).toInt)) &&& Int32.ofInt 255).toInt)) 238 0 K from h)) h) h) h)) h) h)) ?_
    exact ziT (by omega) h
  | succ m ih =>
    intro i w d4 h1 h2 h3 h4 h
    refine (show (if i < 0 then K (0, none) w 238 else if (Int32.ofInt (z32 ((Int64.ofInt x >>> ((Int32.ofInt i).toInt64 &&& 63)).toInt)) &&& Int32.ofInt 255).toInt = 0 then zwp 72 3 [(2, 90), (1, x), (9, 0), (0, z32 (i + (-8))), (9, 0)] [] w 238 0 K else (0 ≤ w 90 1 ∧ w 90 1 < 492) ∧ (zwp 72 3 [(2, 90), (1, x), (9, 0), (0, z32 (i + (-8))), (9, 0)] [] (zwb w ((Int32.ofInt (z32 ((Int64.ofInt x >>> ((Int32.ofInt i).toInt64 &&& 63)).toInt)) &&& Int32.ofInt 255).toInt)) 238 0 K)) → _ from fun h => show zwp 72 3 [(2, 90), (1, x), (9, 0), (0, i), d4] [] w 238 0 K from zgo_imp zT371_ok (cut := fun pc => Nat.beq pc 3 || Nat.beq pc 14 || Nat.beq pc 28) 400 (show if i < 0 then K (0, none) w 238 else zwp 72 14 [(2, 90), (1, x), (9, 0), (0, i), (9, 0)] [(0, 255), (0, z32 ((Int64.ofInt x >>> ((Int32.ofInt i).toInt64 &&& 63)).toInt))] w 238 0 K from zmI (fun h => h) (fun h => (fun h => show zwp 72 14 [(2, 90), (1, x), (9, 0), (0, i), (9, 0)] [(0, 255), (0, z32 ((Int64.ofInt x >>> ((Int32.ofInt i).toInt64 &&& 63)).toInt))] w 238 0 K from zgo_imp zT371_ok (cut := fun pc => Nat.beq pc 3 || Nat.beq pc 14 || Nat.beq pc 28) 400 (show if (Int32.ofInt (z32 ((Int64.ofInt x >>> ((Int32.ofInt i).toInt64 &&& 63)).toInt)) &&& Int32.ofInt 255).toInt = 0 then zwp 72 28 [(2, 90), (1, x), (9, 0), (0, i), (0, (Int32.ofInt (z32 ((Int64.ofInt x >>> ((Int32.ofInt i).toInt64 &&& 63)).toInt)) &&& Int32.ofInt 255).toInt)] [] w 238 0 K else (0 ≤ w 90 1 ∧ w 90 1 < 492) ∧ (zwp 72 28 [(2, 90), (1, x), (9, 0), (0, i), (0, (Int32.ofInt (z32 ((Int64.ofInt x >>> ((Int32.ofInt i).toInt64 &&& 63)).toInt)) &&& Int32.ofInt 255).toInt)] [] (zwb w ((Int32.ofInt (z32 ((Int64.ofInt x >>> ((Int32.ofInt i).toInt64 &&& 63)).toInt)) &&& Int32.ofInt 255).toInt)) 238 0 K) from zmI (fun h => (fun h => show zwp 72 28 [(2, 90), (1, x), (9, 0), (0, i), (0, (Int32.ofInt (z32 ((Int64.ofInt x >>> ((Int32.ofInt i).toInt64 &&& 63)).toInt)) &&& Int32.ofInt 255).toInt)] [] w 238 0 K from zgo_imp zT371_ok (cut := fun pc => Nat.beq pc 3 || Nat.beq pc 14 || Nat.beq pc 28) 400 (show zwp 72 3 [(2, 90), (1, x), (9, 0), (0, z32 (i + (-8))), (9, 0)] [] w 238 0 K from h)) h) (fun h => zmA (fun h => (fun h => show zwp 72 28 [(2, 90), (1, x), (9, 0), (0, i), (0, (Int32.ofInt (z32 ((Int64.ofInt x >>> ((Int32.ofInt i).toInt64 &&& 63)).toInt)) &&& Int32.ofInt 255).toInt)] [] (zwb w ((Int32.ofInt (z32 ((Int64.ofInt x >>> ((Int32.ofInt i).toInt64 &&& 63)).toInt)) &&& Int32.ofInt 255).toInt)) 238 0 K from zgo_imp zT371_ok (cut := fun pc => Nat.beq pc 3 || Nat.beq pc 14 || Nat.beq pc 28) 400 (show zwp 72 3 [(2, 90), (1, x), (9, 0), (0, z32 (i + (-8))), (9, 0)] [] (zwb w ((Int32.ofInt (z32 ((Int64.ofInt x >>> ((Int32.ofInt i).toInt64 &&& 63)).toInt)) &&& Int32.ofInt 255).toInt)) 238 0 K from h)) h) h) h)) h) h)) ?_
    have e := zlet8 (x := x) (i := i) (m := m) (by omega) (by omega) hx
    rw [e, z32_id (x := i + (-8)) ⟨by omega, by omega⟩]
    refine ziF (by omega) ?_
    have eb : zby8 x (m + 1) = if zsq2 256 m x % 256 = 0 then zby8 x m else zsq2 256 m x % 256 :: zby8 x m := rfl
    rw [eb] at h
    by_cases g : zsq2 256 m x % 256 = 0
    · rw [if_pos g] at h
      exact ziT g (ih _ _ _ (by omega) (by omega) h3 (by omega) h)
    · rw [if_neg g] at h
      refine ziF g ⟨⟨h3, by omega⟩, ?_⟩
      exact ih _ (zwb w (zsq2 256 m x % 256)) _ (by omega) (by omega) (by show 0 ≤ w 90 1 + 1; omega) (by show w 90 1 + 1 + m ≤ 492; omega) h
/-! $Page.writeWord -/
set_option maxRecDepth 100000 in
theorem zk72_90 (x : Int) (w : zW) (K : zK) (h : ((0 ≤ x ∧ x < 9223372036854775808) ∧ 0 ≤ w 90 1 ∧ w 90 1 + 8 ≤ 492) ∧ (K (0, none) (zwL (zby8 x 8) w) 238)) : zcall 72 [(2, 90), (1, x), (9, 0), (9, 0), (9, 0)] w 238 K := by
  obtain ⟨hg, h⟩ := h
  refine (show (zwp 72 3 [(2, 90), (1, x), (9, 0), (0, 56), (9, 0)] [] w 238 0 K) → _ from fun h => show zwp 72 0 [(2, 90), (1, x), (9, 0), (9, 0), (9, 0)] [] w 238 0 K from zgo_imp zT371_ok (cut := fun pc => Nat.beq pc 3 || Nat.beq pc 14 || Nat.beq pc 28) 400 (show zwp 72 3 [(2, 90), (1, x), (9, 0), (0, 56), (9, 0)] [] w 238 0 K from h)) ?_
  exact zk72_L3 x hg.1 8 56 w _ (by omega) (by omega) hg.2.1 (by omega) h
noncomputable def zb72 (l0 : List zV) (w : zW) (K : zK) : Prop := cond (zpe (zar l0 0) 90) (zA l0 1 fun x => ((0 ≤ x ∧ x < 9223372036854775808) ∧ 0 ≤ w 90 1 ∧ w 90 1 + 8 ≤ 492) ∧ (K (0, none) (zwL (zby8 x 8) w) 238)) (False)
noncomputable def zT372 : zSum := zsm1 72 [2, 1, 9, 9, 9] zb72 zT371
theorem zT372_ok : zSok zT372 := zsm1_ok zT371_ok fun l0 w K h => by
  unfold zb72 at h
  cases q0 : zpe (zar l0 0) 90 with
  | true =>
    rw [q0, cond_true] at h
    have e : zar l0 0 = 90 := zpe_e q0
    show zcall 72 [(2, zar l0 0), (1, zar l0 1), (9, 0), (9, 0), (9, 0)] w 238 K
    rw [e]
    exact zk72_90 (zar l0 1) w K (zA_e h)
  | false =>
  rw [q0, cond_false] at h
  exact h.elim
set_option maxRecDepth 100000 in
theorem zk335_L6 {K : zK} (x : Int) (hx : 0 ≤ x ∧ x < 9223372036854775808)  : ∀ (m : Nat) (b i : Int) (w : zW) (d5 : zV), (i = 5 * (m : Int) - 5) → (m ≤ 8) → (0 ≤ w 93 44) → (w 93 44 + m ≤ 600) → (b = 0 ∨ b = 1) → (K (0, none) (ztL (zby5 x m b) w) 238) → zwp 335 6 [(2, 93), (1, x), (9, 0), (0, b), (0, i), d5] [] w 238 0 K := by
  
  intro m
  induction m with
  | zero =>
    intro b i w d5 h1 h2 h3 h4 h5 h
    refine (show (if i < 0 then K (0, none) w 238 else if b = 0 then if 0 < z32 ((Int64.ofInt ((Int64.ofInt x >>> ((Int32.ofInt i).toInt64 &&& 63)).toInt) &&& Int64.ofInt 31).toInt) then (0 ≤ w 93 44 ∧ w 93 44 < 600) ∧ (zwp 335 6 [(2, 93), (1, x), (9, 0), (0, 1), (0, z32 (i + (-5))), (9, 0)] [] (ztb w (z32 ((z32 (97 + (z32 ((Int64.ofInt ((Int64.ofInt x >>> ((Int32.ofInt i).toInt64 &&& 63)).toInt) &&& Int64.ofInt 31).toInt)))) - 1))) 238 0 K) else zwp 335 6 [(2, 93), (1, x), (9, 0), (0, 0), (0, z32 (i + (-5))), (9, 0)] [] w 238 0 K else (0 ≤ w 93 44 ∧ w 93 44 < 600) ∧ (zwp 335 6 [(2, 93), (1, x), (9, 0), (0, 1), (0, z32 (i + (-5))), (9, 0)] [] (ztb w (z32 ((z32 (97 + (z32 ((Int64.ofInt ((Int64.ofInt x >>> ((Int32.ofInt i).toInt64 &&& 63)).toInt) &&& Int64.ofInt 31).toInt)))) - 1))) 238 0 K)) → _ from fun h => show zwp 335 6 [(2, 93), (1, x), (9, 0), (0, b), (0, i), d5] [] w 238 0 K from zgo_imp zT372_ok (cut := fun pc => Nat.beq pc 6 || Nat.beq pc 15 || Nat.beq pc 32 || Nat.beq pc 47 || Nat.beq pc 52) 400 (show if i < 0 then K (0, none) w 238 else zwp 335 15 [(2, 93), (1, x), (9, 0), (0, b), (0, i), (9, 0)] [(1, (Int64.ofInt x >>> ((Int32.ofInt i).toInt64 &&& 63)).toInt)] w 238 0 K from zmI (fun h => h) (fun h => (fun h => show zwp 335 15 [(2, 93), (1, x), (9, 0), (0, b), (0, i), (9, 0)] [(1, (Int64.ofInt x >>> ((Int32.ofInt i).toInt64 &&& 63)).toInt)] w 238 0 K from zgo_imp zT372_ok (cut := fun pc => Nat.beq pc 6 || Nat.beq pc 15 || Nat.beq pc 32 || Nat.beq pc 47 || Nat.beq pc 52) 400 (show if b = 0 then if 0 < z32 ((Int64.ofInt ((Int64.ofInt x >>> ((Int32.ofInt i).toInt64 &&& 63)).toInt) &&& Int64.ofInt 31).toInt) then zwp 335 32 [(2, 93), (1, x), (9, 0), (9, 0), (0, i), (0, z32 ((Int64.ofInt ((Int64.ofInt x >>> ((Int32.ofInt i).toInt64 &&& 63)).toInt) &&& Int64.ofInt 31).toInt))] [(0, 1)] w 238 0 K else zwp 335 52 [(2, 93), (1, x), (9, 0), (0, 0), (0, i), (0, z32 ((Int64.ofInt ((Int64.ofInt x >>> ((Int32.ofInt i).toInt64 &&& 63)).toInt) &&& Int64.ofInt 31).toInt))] [] w 238 0 K else zwp 335 32 [(2, 93), (1, x), (9, 0), (9, 0), (0, i), (0, z32 ((Int64.ofInt ((Int64.ofInt x >>> ((Int32.ofInt i).toInt64 &&& 63)).toInt) &&& Int64.ofInt 31).toInt))] [(0, 1)] w 238 0 K from zmI (fun h => zmI (fun h => (fun h => show zwp 335 32 [(2, 93), (1, x), (9, 0), (9, 0), (0, i), (0, z32 ((Int64.ofInt ((Int64.ofInt x >>> ((Int32.ofInt i).toInt64 &&& 63)).toInt) &&& Int64.ofInt 31).toInt))] [(0, 1)] w 238 0 K from zgo_imp zT372_ok (cut := fun pc => Nat.beq pc 6 || Nat.beq pc 15 || Nat.beq pc 32 || Nat.beq pc 47 || Nat.beq pc 52) 400 (show zwp 335 47 [(2, 93), (1, x), (9, 0), (0, 1), (0, i), (0, z32 ((Int64.ofInt ((Int64.ofInt x >>> ((Int32.ofInt i).toInt64 &&& 63)).toInt) &&& Int64.ofInt 31).toInt))] [(0, z32 (97 + (z32 ((Int64.ofInt ((Int64.ofInt x >>> ((Int32.ofInt i).toInt64 &&& 63)).toInt) &&& Int64.ofInt 31).toInt)))), (2, 93)] w 238 0 K from (fun h => show zwp 335 47 [(2, 93), (1, x), (9, 0), (0, 1), (0, i), (0, z32 ((Int64.ofInt ((Int64.ofInt x >>> ((Int32.ofInt i).toInt64 &&& 63)).toInt) &&& Int64.ofInt 31).toInt))] [(0, z32 (97 + (z32 ((Int64.ofInt ((Int64.ofInt x >>> ((Int32.ofInt i).toInt64 &&& 63)).toInt) &&& Int64.ofInt 31).toInt)))), (2, 93)] w 238 0 K from zgo_imp zT372_ok (cut := fun pc => Nat.beq pc 6 || Nat.beq pc 15 || Nat.beq pc 32 || Nat.beq pc 47 || Nat.beq pc 52) 400 (show (0 ≤ w 93 44 ∧ w 93 44 < 600) ∧ (zwp 335 52 [(2, 93), (1, x), (9, 0), (0, 1), (0, i), (0, z32 ((Int64.ofInt ((Int64.ofInt x >>> ((Int32.ofInt i).toInt64 &&& 63)).toInt) &&& Int64.ofInt 31).toInt))] [] (ztb w (z32 ((z32 (97 + (z32 ((Int64.ofInt ((Int64.ofInt x >>> ((Int32.ofInt i).toInt64 &&& 63)).toInt) &&& Int64.ofInt 31).toInt)))) - 1))) 238 0 K) from zmA (fun h => (fun h => show zwp 335 52 [(2, 93), (1, x), (9, 0), (0, 1), (0, i), (0, z32 ((Int64.ofInt ((Int64.ofInt x >>> ((Int32.ofInt i).toInt64 &&& 63)).toInt) &&& Int64.ofInt 31).toInt))] [] (ztb w (z32 ((z32 (97 + (z32 ((Int64.ofInt ((Int64.ofInt x >>> ((Int32.ofInt i).toInt64 &&& 63)).toInt) &&& Int64.ofInt 31).toInt)))) - 1))) 238 0 K from zgo_imp zT372_ok (cut := fun pc => Nat.beq pc 6 || Nat.beq pc 15 || Nat.beq pc 32 || Nat.beq pc 47 || Nat.beq pc 52) 400 (show zwp 335 6 [(2, 93), (1, x), (9, 0), (0, 1), (0, z32 (i + (-5))), (9, 0)] [] (ztb w (z32 ((z32 (97 + (z32 ((Int64.ofInt ((Int64.ofInt x >>> ((Int32.ofInt i).toInt64 &&& 63)).toInt) &&& Int64.ofInt 31).toInt)))) - 1))) 238 0 K from h)) h) h)) h)) h) (fun h => (fun h => show zwp 335 52 [(2, 93), (1, x), (9, 0), (0, 0), (0, i), (0, z32 ((Int64.ofInt ((Int64.ofInt x >>> ((Int32.ofInt i).toInt64 &&& 63)).toInt) &&& Int64.ofInt 31).toInt))] [] w 238 0 K from zgo_imp zT372_ok (cut := fun pc => Nat.beq pc 6 || Nat.beq pc 15 || Nat.beq pc 32 || Nat.beq pc 47 || Nat.beq pc 52) 400 (show zwp 335 6 [(2, 93), (1, x), (9, 0), (0, 0), (0, z32 (i + (-5))), (9, 0)] [] w 238 0 K from h)) h) h) (fun h => (fun h => show zwp 335 32 [(2, 93), (1, x), (9, 0), (9, 0), (0, i), (0, z32 ((Int64.ofInt ((Int64.ofInt x >>> ((Int32.ofInt i).toInt64 &&& 63)).toInt) &&& Int64.ofInt 31).toInt))] [(0, 1)] w 238 0 K from zgo_imp zT372_ok (cut := fun pc => Nat.beq pc 6 || Nat.beq pc 15 || Nat.beq pc 32 || Nat.beq pc 47 || Nat.beq pc 52) 400 (show zwp 335 47 [(2, 93), (1, x), (9, 0), (0, 1), (0, i), (0, z32 ((Int64.ofInt ((Int64.ofInt x >>> ((Int32.ofInt i).toInt64 &&& 63)).toInt) &&& Int64.ofInt 31).toInt))] [(0, z32 (97 + (z32 ((Int64.ofInt ((Int64.ofInt x >>> ((Int32.ofInt i).toInt64 &&& 63)).toInt) &&& Int64.ofInt 31).toInt)))), (2, 93)] w 238 0 K from (fun h => show zwp 335 47 [(2, 93), (1, x), (9, 0), (0, 1), (0, i), (0, z32 ((Int64.ofInt ((Int64.ofInt x >>> ((Int32.ofInt i).toInt64 &&& 63)).toInt) &&& Int64.ofInt 31).toInt))] [(0, z32 (97 + (z32 ((Int64.ofInt ((Int64.ofInt x >>> ((Int32.ofInt i).toInt64 &&& 63)).toInt) &&& Int64.ofInt 31).toInt)))), (2, 93)] w 238 0 K from zgo_imp zT372_ok (cut := fun pc => Nat.beq pc 6 || Nat.beq pc 15 || Nat.beq pc 32 || Nat.beq pc 47 || Nat.beq pc 52) 400 (show (0 ≤ w 93 44 ∧ w 93 44 < 600) ∧ (zwp 335 52 [(2, 93), (1, x), (9, 0), (0, 1), (0, i), (0, z32 ((Int64.ofInt ((Int64.ofInt x >>> ((Int32.ofInt i).toInt64 &&& 63)).toInt) &&& Int64.ofInt 31).toInt))] [] (ztb w (z32 ((z32 (97 + (z32 ((Int64.ofInt ((Int64.ofInt x >>> ((Int32.ofInt i).toInt64 &&& 63)).toInt) &&& Int64.ofInt 31).toInt)))) - 1))) 238 0 K) from zmA (fun h => (fun h => show zwp 335 52 [(2, 93), (1, x), (9, 0), (0, 1), (0, i), (0, z32 ((Int64.ofInt ((Int64.ofInt x >>> ((Int32.ofInt i).toInt64 &&& 63)).toInt) &&& Int64.ofInt 31).toInt))] [] (ztb w (z32 ((z32 (97 + (z32 ((Int64.ofInt ((Int64.ofInt x >>> ((Int32.ofInt i).toInt64 &&& 63)).toInt) &&& Int64.ofInt 31).toInt)))) - 1))) 238 0 K from zgo_imp zT372_ok (cut := fun pc => Nat.beq pc 6 || Nat.beq pc 15 || Nat.beq pc 32 || Nat.beq pc 47 || Nat.beq pc 52) 400 (show zwp 335 6 [(2, 93), (1, x), (9, 0), (0, 1), (0, z32 (i + (-5))), (9, 0)] [] (ztb w (z32 ((z32 (97 + (z32 ((Int64.ofInt ((Int64.ofInt x >>> ((Int32.ofInt i).toInt64 &&& 63)).toInt) &&& Int64.ofInt 31).toInt)))) - 1))) 238 0 K from h)) h) h)) h)) h) h)) h) h)) ?_
    exact ziT (by omega) h
  | succ m ih =>
    intro b i w d5 h1 h2 h3 h4 h5 h
    refine (show (if i < 0 then K (0, none) w 238 else if b = 0 then if 0 < z32 ((Int64.ofInt ((Int64.ofInt x >>> ((Int32.ofInt i).toInt64 &&& 63)).toInt) &&& Int64.ofInt 31).toInt) then (0 ≤ w 93 44 ∧ w 93 44 < 600) ∧ (zwp 335 6 [(2, 93), (1, x), (9, 0), (0, 1), (0, z32 (i + (-5))), (9, 0)] [] (ztb w (z32 ((z32 (97 + (z32 ((Int64.ofInt ((Int64.ofInt x >>> ((Int32.ofInt i).toInt64 &&& 63)).toInt) &&& Int64.ofInt 31).toInt)))) - 1))) 238 0 K) else zwp 335 6 [(2, 93), (1, x), (9, 0), (0, 0), (0, z32 (i + (-5))), (9, 0)] [] w 238 0 K else (0 ≤ w 93 44 ∧ w 93 44 < 600) ∧ (zwp 335 6 [(2, 93), (1, x), (9, 0), (0, 1), (0, z32 (i + (-5))), (9, 0)] [] (ztb w (z32 ((z32 (97 + (z32 ((Int64.ofInt ((Int64.ofInt x >>> ((Int32.ofInt i).toInt64 &&& 63)).toInt) &&& Int64.ofInt 31).toInt)))) - 1))) 238 0 K)) → _ from fun h => show zwp 335 6 [(2, 93), (1, x), (9, 0), (0, b), (0, i), d5] [] w 238 0 K from zgo_imp zT372_ok (cut := fun pc => Nat.beq pc 6 || Nat.beq pc 15 || Nat.beq pc 32 || Nat.beq pc 47 || Nat.beq pc 52) 400 (show if i < 0 then K (0, none) w 238 else zwp 335 15 [(2, 93), (1, x), (9, 0), (0, b), (0, i), (9, 0)] [(1, (Int64.ofInt x >>> ((Int32.ofInt i).toInt64 &&& 63)).toInt)] w 238 0 K from zmI (fun h => h) (fun h => (fun h => show zwp 335 15 [(2, 93), (1, x), (9, 0), (0, b), (0, i), (9, 0)] [(1, (Int64.ofInt x >>> ((Int32.ofInt i).toInt64 &&& 63)).toInt)] w 238 0 K from zgo_imp zT372_ok (cut := fun pc => Nat.beq pc 6 || Nat.beq pc 15 || Nat.beq pc 32 || Nat.beq pc 47 || Nat.beq pc 52) 400 (show if b = 0 then if 0 < z32 ((Int64.ofInt ((Int64.ofInt x >>> ((Int32.ofInt i).toInt64 &&& 63)).toInt) &&& Int64.ofInt 31).toInt) then zwp 335 32 [(2, 93), (1, x), (9, 0), (9, 0), (0, i), (0, z32 ((Int64.ofInt ((Int64.ofInt x >>> ((Int32.ofInt i).toInt64 &&& 63)).toInt) &&& Int64.ofInt 31).toInt))] [(0, 1)] w 238 0 K else zwp 335 52 [(2, 93), (1, x), (9, 0), (0, 0), (0, i), (0, z32 ((Int64.ofInt ((Int64.ofInt x >>> ((Int32.ofInt i).toInt64 &&& 63)).toInt) &&& Int64.ofInt 31).toInt))] [] w 238 0 K else zwp 335 32 [(2, 93), (1, x), (9, 0), (9, 0), (0, i), (0, z32 ((Int64.ofInt ((Int64.ofInt x >>> ((Int32.ofInt i).toInt64 &&& 63)).toInt) &&& Int64.ofInt 31).toInt))] [(0, 1)] w 238 0 K from zmI (fun h => zmI (fun h => (fun h => show zwp 335 32 [(2, 93), (1, x), (9, 0), (9, 0), (0, i), (0, z32 ((Int64.ofInt ((Int64.ofInt x >>> ((Int32.ofInt i).toInt64 &&& 63)).toInt) &&& Int64.ofInt 31).toInt))] [(0, 1)] w 238 0 K from zgo_imp zT372_ok (cut := fun pc => Nat.beq pc 6 || Nat.beq pc 15 || Nat.beq pc 32 || Nat.beq pc 47 || Nat.beq pc 52) 400 (show zwp 335 47 [(2, 93), (1, x), (9, 0), (0, 1), (0, i), (0, z32 ((Int64.ofInt ((Int64.ofInt x >>> ((Int32.ofInt i).toInt64 &&& 63)).toInt) &&& Int64.ofInt 31).toInt))] [(0, z32 (97 + (z32 ((Int64.ofInt ((Int64.ofInt x >>> ((Int32.ofInt i).toInt64 &&& 63)).toInt) &&& Int64.ofInt 31).toInt)))), (2, 93)] w 238 0 K from (fun h => show zwp 335 47 [(2, 93), (1, x), (9, 0), (0, 1), (0, i), (0, z32 ((Int64.ofInt ((Int64.ofInt x >>> ((Int32.ofInt i).toInt64 &&& 63)).toInt) &&& Int64.ofInt 31).toInt))] [(0, z32 (97 + (z32 ((Int64.ofInt ((Int64.ofInt x >>> ((Int32.ofInt i).toInt64 &&& 63)).toInt) &&& Int64.ofInt 31).toInt)))), (2, 93)] w 238 0 K from zgo_imp zT372_ok (cut := fun pc => Nat.beq pc 6 || Nat.beq pc 15 || Nat.beq pc 32 || Nat.beq pc 47 || Nat.beq pc 52) 400 (show (0 ≤ w 93 44 ∧ w 93 44 < 600) ∧ (zwp 335 52 [(2, 93), (1, x), (9, 0), (0, 1), (0, i), (0, z32 ((Int64.ofInt ((Int64.ofInt x >>> ((Int32.ofInt i).toInt64 &&& 63)).toInt) &&& Int64.ofInt 31).toInt))] [] (ztb w (z32 ((z32 (97 + (z32 ((Int64.ofInt ((Int64.ofInt x >>> ((Int32.ofInt i).toInt64 &&& 63)).toInt) &&& Int64.ofInt 31).toInt)))) - 1))) 238 0 K) from zmA (fun h => (fun h => show zwp 335 52 [(2, 93), (1, x), (9, 0), (0, 1), (0, i), (0, z32 ((Int64.ofInt ((Int64.ofInt x >>> ((Int32.ofInt i).toInt64 &&& 63)).toInt) &&& Int64.ofInt 31).toInt))] [] (ztb w (z32 ((z32 (97 + (z32 ((Int64.ofInt ((Int64.ofInt x >>> ((Int32.ofInt i).toInt64 &&& 63)).toInt) &&& Int64.ofInt 31).toInt)))) - 1))) 238 0 K from zgo_imp zT372_ok (cut := fun pc => Nat.beq pc 6 || Nat.beq pc 15 || Nat.beq pc 32 || Nat.beq pc 47 || Nat.beq pc 52) 400 (show zwp 335 6 [(2, 93), (1, x), (9, 0), (0, 1), (0, z32 (i + (-5))), (9, 0)] [] (ztb w (z32 ((z32 (97 + (z32 ((Int64.ofInt ((Int64.ofInt x >>> ((Int32.ofInt i).toInt64 &&& 63)).toInt) &&& Int64.ofInt 31).toInt)))) - 1))) 238 0 K from h)) h) h)) h)) h) (fun h => (fun h => show zwp 335 52 [(2, 93), (1, x), (9, 0), (0, 0), (0, i), (0, z32 ((Int64.ofInt ((Int64.ofInt x >>> ((Int32.ofInt i).toInt64 &&& 63)).toInt) &&& Int64.ofInt 31).toInt))] [] w 238 0 K from zgo_imp zT372_ok (cut := fun pc => Nat.beq pc 6 || Nat.beq pc 15 || Nat.beq pc 32 || Nat.beq pc 47 || Nat.beq pc 52) 400 (show zwp 335 6 [(2, 93), (1, x), (9, 0), (0, 0), (0, z32 (i + (-5))), (9, 0)] [] w 238 0 K from h)) h) h) (fun h => (fun h => show zwp 335 32 [(2, 93), (1, x), (9, 0), (9, 0), (0, i), (0, z32 ((Int64.ofInt ((Int64.ofInt x >>> ((Int32.ofInt i).toInt64 &&& 63)).toInt) &&& Int64.ofInt 31).toInt))] [(0, 1)] w 238 0 K from zgo_imp zT372_ok (cut := fun pc => Nat.beq pc 6 || Nat.beq pc 15 || Nat.beq pc 32 || Nat.beq pc 47 || Nat.beq pc 52) 400 (show zwp 335 47 [(2, 93), (1, x), (9, 0), (0, 1), (0, i), (0, z32 ((Int64.ofInt ((Int64.ofInt x >>> ((Int32.ofInt i).toInt64 &&& 63)).toInt) &&& Int64.ofInt 31).toInt))] [(0, z32 (97 + (z32 ((Int64.ofInt ((Int64.ofInt x >>> ((Int32.ofInt i).toInt64 &&& 63)).toInt) &&& Int64.ofInt 31).toInt)))), (2, 93)] w 238 0 K from (fun h => show zwp 335 47 [(2, 93), (1, x), (9, 0), (0, 1), (0, i), (0, z32 ((Int64.ofInt ((Int64.ofInt x >>> ((Int32.ofInt i).toInt64 &&& 63)).toInt) &&& Int64.ofInt 31).toInt))] [(0, z32 (97 + (z32 ((Int64.ofInt ((Int64.ofInt x >>> ((Int32.ofInt i).toInt64 &&& 63)).toInt) &&& Int64.ofInt 31).toInt)))), (2, 93)] w 238 0 K from zgo_imp zT372_ok (cut := fun pc => Nat.beq pc 6 || Nat.beq pc 15 || Nat.beq pc 32 || Nat.beq pc 47 || Nat.beq pc 52) 400 (show (0 ≤ w 93 44 ∧ w 93 44 < 600) ∧ (zwp 335 52 [(2, 93), (1, x), (9, 0), (0, 1), (0, i), (0, z32 ((Int64.ofInt ((Int64.ofInt x >>> ((Int32.ofInt i).toInt64 &&& 63)).toInt) &&& Int64.ofInt 31).toInt))] [] (ztb w (z32 ((z32 (97 + (z32 ((Int64.ofInt ((Int64.ofInt x >>> ((Int32.ofInt i).toInt64 &&& 63)).toInt) &&& Int64.ofInt 31).toInt)))) - 1))) 238 0 K) from zmA (fun h => (fun h => show zwp 335 52 [(2, 93), (1, x), (9, 0), (0, 1), (0, i), (0, z32 ((Int64.ofInt ((Int64.ofInt x >>> ((Int32.ofInt i).toInt64 &&& 63)).toInt) &&& Int64.ofInt 31).toInt))] [] (ztb w (z32 ((z32 (97 + (z32 ((Int64.ofInt ((Int64.ofInt x >>> ((Int32.ofInt i).toInt64 &&& 63)).toInt) &&& Int64.ofInt 31).toInt)))) - 1))) 238 0 K from zgo_imp zT372_ok (cut := fun pc => Nat.beq pc 6 || Nat.beq pc 15 || Nat.beq pc 32 || Nat.beq pc 47 || Nat.beq pc 52) 400 (show zwp 335 6 [(2, 93), (1, x), (9, 0), (0, 1), (0, z32 (i + (-5))), (9, 0)] [] (ztb w (z32 ((z32 (97 + (z32 ((Int64.ofInt ((Int64.ofInt x >>> ((Int32.ofInt i).toInt64 &&& 63)).toInt) &&& Int64.ofInt 31).toInt)))) - 1))) 238 0 K from h)) h) h)) h)) h) h)) h) h)) ?_
    have e := zlet5 (x := x) (i := i) (m := m) (by omega) (by omega) hx
    rw [e, z32_id (x := i + (-5)) ⟨by omega, by omega⟩]
    have r : 0 ≤ zsq2 32 m x % 32 ∧ zsq2 32 m x % 32 < 32 := by omega
    rw [z32_id (x := 97 + zsq2 32 m x % 32) ⟨by omega, by omega⟩, z32_id (x := 97 + zsq2 32 m x % 32 - 1) ⟨by omega, by omega⟩, show 97 + zsq2 32 m x % 32 - 1 = 96 + zsq2 32 m x % 32 by omega]
    refine ziF (by omega) ?_
    have eb : zby5 x (m + 1) b = if b = 1 ∨ 0 < zsq2 32 m x % 32 then (96 + zsq2 32 m x % 32) :: zby5 x m 1 else zby5 x m 0 := rfl
    rw [eb] at h
    by_cases g : b = 0
    · refine ziT g ?_
      by_cases g2 : 0 < zsq2 32 m x % 32
      · rw [if_pos (Or.inr g2)] at h
        exact ziT g2 ⟨⟨h3, by omega⟩, ih 1 (i + (-5)) (ztb w (96 + zsq2 32 m x % 32)) _ (by omega) (by omega) (by show 0 ≤ w 93 44 + 1; omega) (by show w 93 44 + 1 + m ≤ 600; omega) (Or.inr rfl) h⟩
      · rw [if_neg (by omega)] at h
        exact ziF g2 (ih 0 _ w _ (by omega) (by omega) h3 (by omega) (Or.inl rfl) h)
    · rw [if_pos (by omega)] at h
      exact ziF g ⟨⟨h3, by omega⟩, ih 1 (i + (-5)) (ztb w (96 + zsq2 32 m x % 32)) _ (by omega) (by omega) (by show 0 ≤ w 93 44 + 1; omega) (by show w 93 44 + 1 + m ≤ 600; omega) (Or.inr rfl) h⟩
/-! Model.tellName -/
set_option maxRecDepth 100000 in
theorem zk335_93 (x : Int) (w : zW) (K : zK) (h : ((0 ≤ x ∧ x < 9223372036854775808) ∧ 0 ≤ w 93 44 ∧ w 93 44 + 8 ≤ 600) ∧ (K (0, none) (ztL (zby5 x 8 0) w) 238)) : zcall 335 [(2, 93), (1, x), (9, 0), (9, 0), (9, 0), (9, 0)] w 238 K := by
  obtain ⟨hg, h⟩ := h
  refine (show (zwp 335 6 [(2, 93), (1, x), (9, 0), (0, 0), (0, 35), (9, 0)] [] w 238 0 K) → _ from fun h => show zwp 335 0 [(2, 93), (1, x), (9, 0), (9, 0), (9, 0), (9, 0)] [] w 238 0 K from zgo_imp zT372_ok (cut := fun pc => Nat.beq pc 6 || Nat.beq pc 15 || Nat.beq pc 32 || Nat.beq pc 47 || Nat.beq pc 52) 400 (show zwp 335 6 [(2, 93), (1, x), (9, 0), (0, 0), (0, 35), (9, 0)] [] w 238 0 K from h)) ?_
  exact zk335_L6 x hg.1 8 0 35 w _ (by omega) (by omega) hg.2.1 (by omega) (Or.inl rfl) h
noncomputable def zb335 (l0 : List zV) (w : zW) (K : zK) : Prop := cond (zpe (zar l0 0) 93) (zA l0 1 fun x => ((0 ≤ x ∧ x < 9223372036854775808) ∧ 0 ≤ w 93 44 ∧ w 93 44 + 8 ≤ 600) ∧ (K (0, none) (ztL (zby5 x 8 0) w) 238)) (False)
noncomputable def zT373 : zSum := zsm1 335 [2, 1, 9, 9, 9, 9] zb335 zT372
theorem zT373_ok : zSok zT373 := zsm1_ok zT372_ok fun l0 w K h => by
  unfold zb335 at h
  cases q0 : zpe (zar l0 0) 93 with
  | true =>
    rw [q0, cond_true] at h
    have e : zar l0 0 = 93 := zpe_e q0
    show zcall 335 [(2, zar l0 0), (1, zar l0 1), (9, 0), (9, 0), (9, 0), (9, 0)] w 238 K
    rw [e]
    exact zk335_93 (zar l0 1) w K (zA_e h)
  | false =>
  rw [q0, cond_false] at h
  exact h.elim

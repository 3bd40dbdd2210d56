/-! ===== tokens: class and model read the same words (written by wip/whole/gen_c.py) ===== -/
def zfo (g : Int → Int → Int) : Nat → Int → Int → Int
  | 0, _, a => a
  | k + 1, i, a => zfo g k (i + 1) (g a i)
theorem zrf_run {P : Int → Prop} [DecidablePred P] {g : Int → Int → Int} : ∀ (m : Nat) (i a : Int), zrf P g m i a = zfo g (zrn P m i - i).toNat i a
  | 0, i, a => by
    rw [show (zrn P 0 i - i).toNat = 0 from by show (i - i).toNat = 0; omega]; rfl
  | m + 1, i, a => by
    have e : zrn P (m + 1) i = if P i then zrn P m (i + 1) else i := rfl
    have e2 : zrf P g (m + 1) i a = if P i then zrf P g m (i + 1) (g a i) else a := rfl
    have r := zrn_rg (P := P) m (i + 1)
    by_cases q : P i
    · rw [e, e2, if_pos q, if_pos q, zrf_run m (i + 1), show (zrn P m (i + 1) - i).toNat = (zrn P m (i + 1) - (i + 1)).toNat + 1 by omega]; rfl
    · rw [e, e2, if_neg q, if_neg q, show (i - i).toNat = 0 by omega]; rfl
theorem zfo_congr {g g' : Int → Int → Int} : ∀ (k : Nat) (i a : Int), (∀ x b, i ≤ x → x < i + k → g b x = g' b x) → zfo g k i a = zfo g' k i a
  | 0, _, _, _ => rfl
  | k + 1, i, a, h => by
    show zfo g k (i + 1) (g a i) = zfo g' k (i + 1) (g' a i)
    rw [h i a (by omega) (by omega)]
    exact zfo_congr k (i + 1) _ fun x b h1 h2 => h x b (by omega) (by omega)
theorem zl_shl8 {a : Int} (ha : 0 ≤ a ∧ a < 36028797018963968) : (Int64.ofInt a <<< ((Int32.ofInt 8).toInt64 &&& 63)).toInt = 256 * a := by
  rw [show (Int32.ofInt 8).toInt64 &&& 63 = Int64.ofInt 8 from zl_sc (s := 8) (by decide)]
  refine (zbvI64 (n := 256 * a.toNat) ?_ (by omega)).trans (by omega)
  rw [Int64.toBitVec_shiftLeft, show (Int64.ofInt 8).toBitVec.smod 64 = 8#64 from by decide, BitVec.shiftLeft_eq', BitVec.toNat_shiftLeft, zbv64 ha.1 (by omega), Nat.shiftLeft_eq]
  show a.toNat * 256 % 18446744073709551616 = 256 * a.toNat
  omega
theorem zl_shl5 {a : Int} (ha : 0 ≤ a ∧ a < 36028797018963968) : (Int64.ofInt a <<< ((Int32.ofInt 5).toInt64 &&& 63)).toInt = 32 * a := by
  rw [show (Int32.ofInt 5).toInt64 &&& 63 = Int64.ofInt 5 from zl_sc (s := 5) (by decide)]
  refine (zbvI64 (n := 32 * a.toNat) ?_ (by omega)).trans (by omega)
  rw [Int64.toBitVec_shiftLeft, show (Int64.ofInt 5).toBitVec.smod 64 = 5#64 from by decide, BitVec.shiftLeft_eq', BitVec.toNat_shiftLeft, zbv64 ha.1 (by omega), Nat.shiftLeft_eq]
  show a.toNat * 32 % 18446744073709551616 = 32 * a.toNat
  omega
theorem zs8_e {a b : Int} (ha : 0 ≤ a ∧ a < 36028797018963968) (hb : 0 ≤ b ∧ b < 256) : zs8 a b = 256 * a + b := by
  unfold zs8
  rw [zl_shl8 ha, zl_or ⟨by omega, by omega⟩ ⟨by omega, by omega⟩]
  have e := Nat.two_pow_add_eq_or_of_lt (i := 8) (b := b.toNat) (by omega) a.toNat
  rw [show (256 * a).toNat = 2 ^ 8 * a.toNat by omega, ← e]
  omega
theorem zs5_e {a b : Int} (ha : 0 ≤ a ∧ a < 36028797018963968) (hb : zlt b) : zs5 a b = 32 * a + (b - 96) := by
  unfold zs5
  rw [z32_id (x := b - 97) ⟨by omega, by omega⟩, z32_id (x := b - 97 + 1) ⟨by omega, by omega⟩, zl_shl5 ha, zl_or ⟨by omega, by omega⟩ ⟨by omega, by omega⟩]
  have e := Nat.two_pow_add_eq_or_of_lt (i := 5) (b := (b - 97 + 1).toNat) (by omega) a.toNat
  rw [show (32 * a).toNat = 2 ^ 5 * a.toNat by omega, ← e]
  omega
def zls (T : Int → Int) : Nat → Int → List Int
  | 0, _ => []
  | k + 1, i => (T i - 96) :: zls T k (i + 1)
theorem zls_len (T : Int → Int) : ∀ (k : Nat) (i : Int), (zls T k i).length = k
  | 0, _ => rfl
  | k + 1, i => by show (zls T k (i + 1)).length + 1 = k + 1; rw [zls_len T k]
theorem zls_rg {T : Int → Int} : ∀ (k : Nat) (i : Int), (∀ x, i ≤ x → x < i + k → zlt (T x)) → ∀ v ∈ zls T k i, 1 ≤ v ∧ v ≤ 26
  | 0, _, _, v, h => by cases h
  | k + 1, i, hl, v, h => by
    have h : v ∈ (T i - 96) :: zls T k (i + 1) := h
    rcases List.mem_cons.mp h with e | h
    · have := hl i (by omega) (by omega)
      omega
    · exact zls_rg k (i + 1) (fun x h1 h2 => hl x (by omega) (by omega)) v h
def zB8 : Nat → Int
  | 0 => 1
  | j + 1 => 256 * (zB8 j - 1) + 123
def zB5 : Nat → Int
  | 0 => 1
  | j + 1 => 32 * zB5 j
theorem zB8_rg (j : Nat) (h : j < 8) : zB8 j ≤ 36028797018963968 := (by decide : ∀ j : Fin 8, zB8 j.val ≤ 36028797018963968) ⟨j, h⟩
theorem zB5_rg (j : Nat) (h : j < 8) : zB5 j ≤ 36028797018963968 := (by decide : ∀ j : Fin 8, zB5 j.val ≤ 36028797018963968) ⟨j, h⟩
theorem zfo8 {T : Int → Int} : ∀ (k j : Nat) (i a : Int), j + k ≤ 8 → (∀ x, i ≤ x → x < i + k → zlt (T x)) → 0 ≤ a → a < zB8 j → zfo (fun a j => zs8 a (T j)) k i a = zp8 (zls T k i) a
  | 0, _, _, _, _, _, _, _ => rfl
  | k + 1, j, i, a, h1, h2, h3, h4 => by
    have hl := h2 i (by omega) (by omega)
    have hb := zB8_rg j (by omega)
    show zfo (fun a j => zs8 a (T j)) k (i + 1) (zs8 a (T i)) = zp8 (zls T k (i + 1)) (256 * a + (T i - 96 + 96))
    rw [zs8_e ⟨h3, by omega⟩ (by omega), show T i - 96 + 96 = T i by omega]
    exact zfo8 k (j + 1) (i + 1) _ (by omega) (fun x q1 q2 => h2 x (by omega) (by omega)) (by omega) (by show 256 * a + T i < 256 * (zB8 j - 1) + 123; omega)
theorem zfo5 {T : Int → Int} : ∀ (k j : Nat) (i a : Int), j + k ≤ 8 → (∀ x, i ≤ x → x < i + k → zlt (T x)) → 0 ≤ a → a < zB5 j → zfo (fun a j => zs5 a (T j)) k i a = zp5 (zls T k i) a
  | 0, _, _, _, _, _, _, _ => rfl
  | k + 1, j, i, a, h1, h2, h3, h4 => by
    have hl := h2 i (by omega) (by omega)
    have hb := zB5_rg j (by omega)
    show zfo (fun a j => zs5 a (T j)) k (i + 1) (zs5 a (T i)) = zp5 (zls T k (i + 1)) (32 * a + (T i - 96))
    rw [zs5_e ⟨h3, by omega⟩ hl]
    exact zfo5 k (j + 1) (i + 1) _ (by omega) (fun x q1 q2 => h2 x (by omega) (by omega)) (by omega) (by show 32 * a + (T i - 96) < 32 * zB5 j; omega)
/-- the letters of a word: the class's number, the model's -/
theorem znm_tok {T : Int → Int} {n s : Int} (h1 : zlt (T s)) (hs : s < n) (h2 : zle T n s - s ≤ 8) : znm (zLc T n s) (zLm' T n s) := by
  have e0 : (n - s).toNat = (n - (s + 1)).toNat + 1 := by omega
  have e1 : zle T n s = zrn (fun j => zlt (T j)) (n - (s + 1)).toNat (s + 1) := by
    unfold zle; rw [e0]; exact if_pos h1
  have r := zrn_rg (P := fun j => zlt (T j)) (n - (s + 1)).toNat (s + 1)
  have al : ∀ x, s ≤ x → x < s + (zle T n s - s).toNat → zlt (T x) := fun x q1 q2 => zrn_all (P := fun j => zlt (T j)) (n - s).toNat s x q1 (by unfold zle at q2; unfold zle at e1; omega)
  have ea : zLc T n s = zp8 (zls T (zle T n s - s).toNat s) 0 := by
    unfold zLc
    rw [zrf_run]
    exact zfo8 (zle T n s - s).toNat 0 s 0 (by omega) al (by decide) (by decide)
  have eb : zLm' T n s = zp5 (zls T (zle T n s - s).toNat s) 0 := by
    unfold zLm'
    rw [zrf_run]
    refine (zfo_congr (g' := fun a j => zs5 a (T j)) _ s 0 fun x b q1 q2 => ?_).trans (zfo5 (zle T n s - s).toNat 0 s 0 (by omega) al (by decide) (by decide))
    have q2 : x < s + ((zle T n s - s).toNat : Int) := q2
    exact if_pos (by omega)
  exact ⟨zls T (zle T n s - s).toNat s, by rw [zls_len]; omega, by rw [zls_len]; omega, zls_rg _ _ al, ea, eb⟩
theorem zNum_tok {T : Int → Int} {n s : Int} (h2 : zde T n s - s ≤ 6) : zNc T n s 0 = zNm' T n s := by
  unfold zNc zNm'
  rw [zrf_run, zrf_run]
  refine zfo_congr _ s 0 fun x b q1 q2 => ?_
  have q2 : x < s + ((zde T n s - s).toNat : Int) := q2
  exact (if_pos (by omega)).symm
def zq8 : List Int → Int
  | [] => 0
  | v :: r => 256 * zq8 r + (v + 96)
def zq5 : List Int → Int
  | [] => 0
  | v :: r => 32 * zq5 r + v
theorem zp8_app (v : Int) : ∀ (l : List Int) (a : Int), zp8 (l ++ [v]) a = 256 * zp8 l a + (v + 96)
  | [], _ => rfl
  | u :: l, a => zp8_app v l _
theorem zp5_app (v : Int) : ∀ (l : List Int) (a : Int), zp5 (l ++ [v]) a = 32 * zp5 l a + v
  | [], _ => rfl
  | u :: l, a => zp5_app v l _
theorem zp8_q : ∀ l : List Int, zp8 l.reverse 0 = zq8 l
  | [] => rfl
  | v :: l => by rw [List.reverse_cons, zp8_app, zp8_q l]; rfl
theorem zp5_q : ∀ l : List Int, zp5 l.reverse 0 = zq5 l
  | [] => rfl
  | v :: l => by rw [List.reverse_cons, zp5_app, zp5_q l]; rfl
theorem zq8_nn : ∀ l : List Int, (∀ v ∈ l, 1 ≤ v ∧ v ≤ 26) → 0 ≤ zq8 l
  | [], _ => by decide
  | v :: l, h => by
    have a := h v (List.mem_cons_self ..)
    have b := zq8_nn l fun u hu => h u (List.mem_cons_of_mem _ hu)
    show 0 ≤ 256 * zq8 l + (v + 96); omega
theorem zq5_nn : ∀ l : List Int, (∀ v ∈ l, 1 ≤ v ∧ v ≤ 26) → 0 ≤ zq5 l
  | [], _ => by decide
  | v :: l, h => by
    have a := h v (List.mem_cons_self ..)
    have b := zq5_nn l fun u hu => h u (List.mem_cons_of_mem _ hu)
    show 0 ≤ 32 * zq5 l + v; omega
theorem zq8_inj : ∀ (l r : List Int), (∀ v ∈ l, 1 ≤ v ∧ v ≤ 26) → (∀ v ∈ r, 1 ≤ v ∧ v ≤ 26) → zq8 l = zq8 r → l = r
  | [], [], _, _, _ => rfl
  | [], u :: r, _, h, e => by
    have e : 0 = 256 * zq8 r + (u + 96) := e
    have a := h u (List.mem_cons_self ..)
    have b := zq8_nn r fun x hx => h x (List.mem_cons_of_mem _ hx)
    omega
  | v :: l, [], h, _, e => by
    have e : 256 * zq8 l + (v + 96) = 0 := e
    have a := h v (List.mem_cons_self ..)
    have b := zq8_nn l fun x hx => h x (List.mem_cons_of_mem _ hx)
    omega
  | v :: l, u :: r, h, g, e => by
    have e : 256 * zq8 l + (v + 96) = 256 * zq8 r + (u + 96) := e
    have a := h v (List.mem_cons_self ..)
    have b := g u (List.mem_cons_self ..)
    rw [show v = u by omega, zq8_inj l r (fun x hx => h x (List.mem_cons_of_mem _ hx)) (fun x hx => g x (List.mem_cons_of_mem _ hx)) (by omega)]
theorem zq5_inj : ∀ (l r : List Int), (∀ v ∈ l, 1 ≤ v ∧ v ≤ 26) → (∀ v ∈ r, 1 ≤ v ∧ v ≤ 26) → zq5 l = zq5 r → l = r
  | [], [], _, _, _ => rfl
  | [], u :: r, _, h, e => by
    have e : 0 = 32 * zq5 r + u := e
    have a := h u (List.mem_cons_self ..)
    have b := zq5_nn r fun x hx => h x (List.mem_cons_of_mem _ hx)
    omega
  | v :: l, [], h, _, e => by
    have e : 32 * zq5 l + v = 0 := e
    have a := h v (List.mem_cons_self ..)
    have b := zq5_nn l fun x hx => h x (List.mem_cons_of_mem _ hx)
    omega
  | v :: l, u :: r, h, g, e => by
    have e : 32 * zq5 l + v = 32 * zq5 r + u := e
    have a := h v (List.mem_cons_self ..)
    have b := g u (List.mem_cons_self ..)
    rw [show v = u by omega, zq5_inj l r (fun x hx => h x (List.mem_cons_of_mem _ hx)) (fun x hx => g x (List.mem_cons_of_mem _ hx)) (by omega)]
theorem znm_rev {x y : Int} (h : znm x y) : ∃ l : List Int, (∀ v ∈ l, 1 ≤ v ∧ v ≤ 26) ∧ l ≠ [] ∧ x = zq8 l ∧ y = zq5 l := by
  obtain ⟨l, h1, h2, h3, h4, h5⟩ := h
  refine ⟨l.reverse, fun v hv => h3 v (List.mem_reverse.mp hv), fun e => ?_, ?_, ?_⟩
  · rw [List.reverse_eq_nil_iff.mp e] at h1; exact absurd h1 (by decide)
  · rw [← zp8_q, List.reverse_reverse]; exact h4
  · rw [← zp5_q, List.reverse_reverse]; exact h5
/-- one name for the class is one name for the model -/
theorem znm_iff {x y x' y' : Int} (h : znm x y) (g : znm x' y') : x = x' ↔ y = y' := by
  obtain ⟨l, a1, a2, a3, a4⟩ := znm_rev h
  obtain ⟨r, b1, b2, b3, b4⟩ := znm_rev g
  constructor
  · intro e
    rw [a3, b3] at e
    rw [a4, b4, zq8_inj l r a1 b1 e]
  · intro e
    rw [a4, b4] at e
    rw [a3, b3, zq5_inj l r a1 b1 e]
theorem znm_pos {x y : Int} (h : znm x y) : 0 < x ∧ 0 < y := by
  obtain ⟨l, a1, a2, a3, a4⟩ := znm_rev h
  cases l with
  | nil => exact (a2 rfl).elim
  | cons v l =>
    have q := a1 v (List.mem_cons_self ..)
    have q8 := zq8_nn l fun u hu => a1 u (List.mem_cons_of_mem _ hu)
    have q5 := zq5_nn l fun u hu => a1 u (List.mem_cons_of_mem _ hu)
    have a3 : x = 256 * zq8 l + (v + 96) := a3
    have a4 : y = 32 * zq5 l + v := a4
    omega
theorem znmK2 : znm 109304541834341 110693765 := ⟨[3, 9, 18, 3, 12, 5], by decide, by decide, by decide, by decide, by decide⟩
theorem znmK3 : znm 125762622027123 605169331 := ⟨[18, 1, 4, 9, 21, 19], by decide, by decide, by decide, by decide, by decide⟩
theorem znmK4 : znm 418464099429 1514885 := ⟨[1, 14, 7, 12, 5], by decide, by decide, by decide, by decide, by decide⟩
theorem znmK5 : znm 1717658469 197733 := ⟨[6, 1, 3, 5], by decide, by decide, by decide, by decide, by decide⟩
theorem znmK6 : znm 495588568165 20022661 := ⟨[19, 3, 1, 12, 5], by decide, by decide, by decide, by decide, by decide⟩
theorem znmK7 : znm 495790618213 20427461 := ⟨[19, 15, 12, 22, 5], by decide, by decide, by decide, by decide, by decide⟩
theorem znmK8 : znm 495924372848 20681904 := ⟨[19, 23, 5, 5, 16], by decide, by decide, by decide, by decide, by decide⟩
theorem znmK9 : znm 7562612 19636 := ⟨[19, 5, 20], by decide, by decide, by decide, by decide, by decide⟩
theorem znmK10 : znm 7102841 12345 := ⟨[12, 1, 25], by decide, by decide, by decide, by decide, by decide⟩
theorem znmK11 : znm 1953854062 677454 := ⟨[20, 21, 18, 14], by decide, by decide, by decide, by decide, by decide⟩
theorem znmK12 : znm 1667329133 99725 := ⟨[3, 1, 12, 13], by decide, by decide, by decide, by decide, by decide⟩
theorem znmK13 : znm 125780002955636 609752116 := ⟨[18, 5, 16, 5, 1, 20], by decide, by decide, by decide, by decide, by decide⟩
abbrev zKw (x : Int) : Prop := x = 110693765 ∨ x = 605169331 ∨ x = 1514885 ∨ x = 197733 ∨ x = 20022661 ∨ x = 20427461 ∨ x = 20681904 ∨ x = 19636 ∨ x = 12345 ∨ x = 677454 ∨ x = 99725 ∨ x = 609752116
theorem zmNi_k (x : Int) : zmNi 1 x = 0 ↔ zKw x := by
  unfold zmNi
  repeat' split
  all_goals (constructor <;> intro q <;> omega)
/-- the class's word and the model's: the same constant -/
theorem zWd_m {x y : Int} (h : znm x y) : (zWd x = 2 ↔ y = 110693765) ∧ (zWd x = 3 ↔ y = 605169331) ∧ (zWd x = 4 ↔ y = 1514885) ∧ (zWd x = 5 ↔ y = 197733) ∧ (zWd x = 6 ↔ y = 20022661) ∧ (zWd x = 7 ↔ y = 20427461) ∧ (zWd x = 8 ↔ y = 20681904) ∧ (zWd x = 9 ↔ y = 19636) ∧ (zWd x = 10 ↔ y = 12345) ∧ (zWd x = 11 ↔ y = 677454) ∧ (zWd x = 12 ↔ y = 99725) ∧ (zWd x = 13 ↔ y = 609752116) ∧ (zWd x = 1 ↔ ¬ zKw y) := by
  have p := znm_pos h
  have i2 := znm_iff h znmK2
  have i3 := znm_iff h znmK3
  have i4 := znm_iff h znmK4
  have i5 := znm_iff h znmK5
  have i6 := znm_iff h znmK6
  have i7 := znm_iff h znmK7
  have i8 := znm_iff h znmK8
  have i9 := znm_iff h znmK9
  have i10 := znm_iff h znmK10
  have i11 := znm_iff h znmK11
  have i12 := znm_iff h znmK12
  have i13 := znm_iff h znmK13
  by_cases q2 : x = 109304541834341
  · have e : zWd x = 2 := by rw [q2]; decide
    have ey : y = 110693765 := i2.mp q2
    rw [e, ey]
    decide
  by_cases q3 : x = 125762622027123
  · have e : zWd x = 3 := by rw [q3]; decide
    have ey : y = 605169331 := i3.mp q3
    rw [e, ey]
    decide
  by_cases q4 : x = 418464099429
  · have e : zWd x = 4 := by rw [q4]; decide
    have ey : y = 1514885 := i4.mp q4
    rw [e, ey]
    decide
  by_cases q5 : x = 1717658469
  · have e : zWd x = 5 := by rw [q5]; decide
    have ey : y = 197733 := i5.mp q5
    rw [e, ey]
    decide
  by_cases q6 : x = 495588568165
  · have e : zWd x = 6 := by rw [q6]; decide
    have ey : y = 20022661 := i6.mp q6
    rw [e, ey]
    decide
  by_cases q7 : x = 495790618213
  · have e : zWd x = 7 := by rw [q7]; decide
    have ey : y = 20427461 := i7.mp q7
    rw [e, ey]
    decide
  by_cases q8 : x = 495924372848
  · have e : zWd x = 8 := by rw [q8]; decide
    have ey : y = 20681904 := i8.mp q8
    rw [e, ey]
    decide
  by_cases q9 : x = 7562612
  · have e : zWd x = 9 := by rw [q9]; decide
    have ey : y = 19636 := i9.mp q9
    rw [e, ey]
    decide
  by_cases q10 : x = 7102841
  · have e : zWd x = 10 := by rw [q10]; decide
    have ey : y = 12345 := i10.mp q10
    rw [e, ey]
    decide
  by_cases q11 : x = 1953854062
  · have e : zWd x = 11 := by rw [q11]; decide
    have ey : y = 677454 := i11.mp q11
    rw [e, ey]
    decide
  by_cases q12 : x = 1667329133
  · have e : zWd x = 12 := by rw [q12]; decide
    have ey : y = 99725 := i12.mp q12
    rw [e, ey]
    decide
  by_cases q13 : x = 125780002955636
  · have e : zWd x = 13 := by rw [q13]; decide
    have ey : y = 609752116 := i13.mp q13
    rw [e, ey]
    decide
  have e : zWd x = 1 := by
    unfold zWd
    rw [if_neg (by omega), if_neg (fun q => q2 q.symm), if_neg (fun q => q3 q.symm), if_neg (fun q => q4 q.symm), if_neg (fun q => q5 q.symm), if_neg (fun q => q6 q.symm), if_neg (fun q => q7 q.symm), if_neg (fun q => q8 q.symm), if_neg (fun q => q9 q.symm), if_neg (fun q => q10 q.symm), if_neg (fun q => q11 q.symm), if_neg (fun q => q12 q.symm), if_neg (fun q => q13 q.symm)]
  rw [e]
  have n2 : ¬ y = 110693765 := fun q => q2 (i2.mpr q)
  have n3 : ¬ y = 605169331 := fun q => q3 (i3.mpr q)
  have n4 : ¬ y = 1514885 := fun q => q4 (i4.mpr q)
  have n5 : ¬ y = 197733 := fun q => q5 (i5.mpr q)
  have n6 : ¬ y = 20022661 := fun q => q6 (i6.mpr q)
  have n7 : ¬ y = 20427461 := fun q => q7 (i7.mpr q)
  have n8 : ¬ y = 20681904 := fun q => q8 (i8.mpr q)
  have n9 : ¬ y = 19636 := fun q => q9 (i9.mpr q)
  have n10 : ¬ y = 12345 := fun q => q10 (i10.mpr q)
  have n11 : ¬ y = 677454 := fun q => q11 (i11.mpr q)
  have n12 : ¬ y = 99725 := fun q => q12 (i12.mpr q)
  have n13 : ¬ y = 609752116 := fun q => q13 (i13.mpr q)
  exact ⟨⟨fun q => absurd q (by decide), fun q => (n2 q).elim⟩, ⟨fun q => absurd q (by decide), fun q => (n3 q).elim⟩, ⟨fun q => absurd q (by decide), fun q => (n4 q).elim⟩, ⟨fun q => absurd q (by decide), fun q => (n5 q).elim⟩, ⟨fun q => absurd q (by decide), fun q => (n6 q).elim⟩, ⟨fun q => absurd q (by decide), fun q => (n7 q).elim⟩, ⟨fun q => absurd q (by decide), fun q => (n8 q).elim⟩, ⟨fun q => absurd q (by decide), fun q => (n9 q).elim⟩, ⟨fun q => absurd q (by decide), fun q => (n10 q).elim⟩, ⟨fun q => absurd q (by decide), fun q => (n11 q).elim⟩, ⟨fun q => absurd q (by decide), fun q => (n12 q).elim⟩, ⟨fun q => absurd q (by decide), fun q => (n13 q).elim⟩, ⟨fun _ q => by rcases q with q | q | q | q | q | q | q | q | q | q | q | q <;> first | exact n2 q | exact n3 q | exact n4 q | exact n5 q | exact n6 q | exact n7 q | exact n8 q | exact n9 q | exact n10 q | exact n11 q | exact n12 q | exact n13 q, fun _ => rfl⟩⟩

/-! ===== texts: bytes, tokens (the words) (written by wip/whole/gen_c.py) ===== -/
theorem zupd_2 (w : zW) (p j : Nat) (a b : Int) : zupd (zupd w p j a) p j b = zupd w p j b := by
  funext q i
  unfold zupd
  by_cases e : q = p
  · rw [if_pos e, if_pos e, if_pos e]
    by_cases e2 : i = j
    · rw [if_pos e2, if_pos e2]
    · rw [if_neg e2, if_neg e2, if_neg e2]
  · rw [if_neg e, if_neg e, if_neg e]
theorem zupd_co (w : zW) (p : Nat) {j k : Nat} (a b : Int) (h : j ≠ k) : zupd (zupd w p j a) p k b = zupd (zupd w p k b) p j a := by
  funext q i
  unfold zupd
  by_cases e : q = p
  · simp only [if_pos e]
    by_cases e2 : i = j
    · rw [if_pos e2, if_pos e2, if_neg (by omega)]
    · rw [if_neg e2, if_neg e2]
  · simp only [if_neg e]
theorem zupd_sf (w : zW) (p j : Nat) : zupd w p j (w p j) = w := by
  funext q i
  unfold zupd
  by_cases e : q = p
  · rw [if_pos e]
    by_cases e2 : i = j
    · rw [if_pos e2, e, e2]
    · rw [if_neg e2]
  · rw [if_neg e]
theorem zupd_j (w : zW) (p : Nat) {j i : Nat} (a : Int) (h : i ≠ j) : zupd w p j a p i = w p i := by
  unfold zupd
  rw [if_pos rfl, if_neg h]
theorem zupd_i (w : zW) (p j : Nat) (a : Int) : zupd w p j a p j = a := by
  unfold zupd
  rw [if_pos rfl, if_pos rfl]
/-- the end of a run of signs, and a fold along it -/
def zrn (P : Int → Prop) [DecidablePred P] : Nat → Int → Int
  | 0, i => i
  | m + 1, i => if P i then zrn P m (i + 1) else i
def zrf (P : Int → Prop) [DecidablePred P] (g : Int → Int → Int) : Nat → Int → Int → Int
  | 0, _, a => a
  | m + 1, i, a => if P i then zrf P g m (i + 1) (g a i) else a
abbrev zbl (c : Int) : Prop := c = 32 ∨ c = 10
abbrev zlt (c : Int) : Prop := 97 ≤ c ∧ c ≤ 122
abbrev zdg (c : Int) : Prop := 48 ≤ c ∧ c ≤ 57
abbrev zsg (c : Int) : Prop := c = 59 ∨ c = 40 ∨ c = 41
/-- the text's signs: the class's bytes, the model's -/
def zTy (B : Nat → Int) (n : Int) (i : Int) : Int := if 0 ≤ i ∧ i < n then B i.toNat % 256 else -1
def zTx (B : Nat → Int) (n : Int) (i : Int) : Int := if 0 ≤ i ∧ i < n then B i.toNat else -1
def zst (T : Int → Int) (n p : Int) : Int := zrn (fun j => zbl (T j)) (n - p).toNat p
def zle (T : Int → Int) (n s : Int) : Int := zrn (fun j => zlt (T j)) (n - s).toNat s
def zde (T : Int → Int) (n s : Int) : Int := zrn (fun j => zdg (T j)) (n - s).toNat s
theorem zrn_rg {P : Int → Prop} [DecidablePred P] : ∀ (m : Nat) (i : Int), i ≤ zrn P m i ∧ zrn P m i ≤ i + m
  | 0, i => ⟨Int.le_refl _, by show i ≤ i + ((0 : Nat) : Int); omega⟩
  | m + 1, i => by
    have e : zrn P (m + 1) i = if P i then zrn P m (i + 1) else i := rfl
    have := zrn_rg (P := P) m (i + 1)
    rw [e]
    split <;> omega
theorem zrn_all {P : Int → Prop} [DecidablePred P] : ∀ (m : Nat) (i j : Int), i ≤ j → j < zrn P m i → P j
  | 0, i, j, h1, h2 => by
    have h2 : j < i := h2
    omega
  | m + 1, i, j, h1, h2 => by
    have e : zrn P (m + 1) i = if P i then zrn P m (i + 1) else i := rfl
    rw [e] at h2
    by_cases g : P i
    · rw [if_pos g] at h2
      by_cases g2 : j = i
      · rw [g2]; exact g
      · exact zrn_all m (i + 1) j (by omega) h2
    · rw [if_neg g] at h2; omega
theorem zrn_end {P : Int → Prop} [DecidablePred P] : ∀ (m : Nat) (i : Int), zrn P m i < i + m → ¬ P (zrn P m i)
  | 0, i, h => by
    have h : i < i + ((0 : Nat) : Int) := h
    omega
  | m + 1, i, h => by
    have e : zrn P (m + 1) i = if P i then zrn P m (i + 1) else i := rfl
    by_cases g : P i
    · rw [e, if_pos g] at h ⊢
      exact zrn_end m (i + 1) (by omega)
    · rw [e, if_neg g]; exact g
theorem zst_rg (T : Int → Int) {n p : Int} (h : p ≤ n) : p ≤ zst T n p ∧ zst T n p ≤ n := by
  have := zrn_rg (P := fun j => zbl (T j)) (n - p).toNat p
  unfold zst; omega
theorem zle_rg (T : Int → Int) {n p : Int} (h : p ≤ n) : p ≤ zle T n p ∧ zle T n p ≤ n := by
  have := zrn_rg (P := fun j => zlt (T j)) (n - p).toNat p
  unfold zle; omega
theorem zde_rg (T : Int → Int) {n p : Int} (h : p ≤ n) : p ≤ zde T n p ∧ zde T n p ≤ n := by
  have := zrn_rg (P := fun j => zdg (T j)) (n - p).toNat p
  unfold zde; omega
theorem zTx_z {B : Nat → Int} {n i : Int} (h : n ≤ i) : zTx B n i = -1 := if_neg (by omega)
theorem zTy_z {B : Nat → Int} {n i : Int} (h : n ≤ i) : zTy B n i = -1 := if_neg (by omega)
theorem zTy_rg (B : Nat → Int) (n i : Int) : -1 ≤ zTy B n i ∧ zTy B n i < 256 := by
  unfold zTy; split <;> omega
theorem zTy_in {B : Nat → Int} {n i : Int} (h : zTy B n i ≠ -1) : 0 ≤ i ∧ i < n := by
  unfold zTy at h
  split at h
  · next q => exact q
  · exact (h rfl).elim
theorem zTx_in {B : Nat → Int} {n i : Int} (h : zTx B n i ≠ -1) : 0 ≤ i ∧ i < n := by
  unfold zTx at h
  split at h
  · next q => exact q
  · exact (h rfl).elim
/-- what is written for a number's four bytes: the class, the model -/
def zbc (x s : Int) : Int := z8 (z8 ((Int32.ofInt x >>> (Int32.ofInt s &&& 31)).toInt))
def zbm (x s : Int) : Int := (Int32.ofInt ((Int32.ofInt x >>> (Int32.ofInt s &&& 31)).toInt) &&& Int32.ofInt 255).toInt
theorem zand255 (y : Int) : (Int32.ofInt y &&& Int32.ofInt 255).toInt = y % 256 := by
  have h : (Int32.ofInt y &&& Int32.ofInt 255).toBitVec.toNat = (y % 256).toNat := by
    show ((BitVec.ofInt 32 y) &&& (BitVec.ofInt 32 255)).toNat = _
    rw [BitVec.toNat_and, BitVec.toNat_ofInt]
    show (y % ((2 ^ 32 : Nat) : Int)).toNat &&& 255 = _
    rw [show (255 : Nat) = 2 ^ 8 - 1 from rfl, Nat.and_two_pow_sub_one_eq_mod]
    show (y % 4294967296).toNat % 256 = _
    omega
  have := zbvI32 h (by omega)
  omega
theorem z8_m (y : Int) : z8 y % 256 = y % 256 := by
  show (if y % 256 < ((256 : Int) + 1) / 2 then y % 256 else y % 256 - 256) % 256 = y % 256
  split <;> omega
theorem zbc_m (x s : Int) : zbc x s % 256 = zbm x s := by
  unfold zbc zbm
  rw [zand255, z8_m, z8_m]
theorem zbm_rg (x s : Int) : 0 ≤ zbm x s ∧ zbm x s < 256 := by
  unfold zbm
  rw [zand255]; omega
def zap1 (w : zW) (b : Int) : zW := zupd (zupd w 2 (w 1 1).toNat b) 1 1 (w 1 1 + 1)
def zfo1 (w : zW) (b : Int) : zW := zupd (zupd w 94 (w 93 2).toNat b) 93 2 (w 93 2 + 1)
def zapn (x : Int) : Nat → zW → zW
  | 0, w => w
  | m + 1, w => zapn x m (zap1 w (zbc x (8 * m)))
def zfon (x : Int) : Nat → zW → zW
  | 0, w => w
  | m + 1, w => zfon x m (zfo1 w (zbm x (8 * m)))

/-! ===== numbers: the machine's ints and longs by whole numbers in their range ===== -/
def zr32 (x : Int) : Prop := -2147483648 ≤ x ∧ x < 2147483648
def zr64 (x : Int) : Prop := -9223372036854775808 ≤ x ∧ x < 9223372036854775808
theorem zr32_z (x : Int) : zr32 (z32 x) := ⟨by have := Int.le_bmod (x := x) (m := 4294967296) (by decide); unfold z32; omega, by have := Int.bmod_lt (x := x) (m := 4294967296) (by decide); unfold z32; omega⟩
theorem zr64_z (x : Int) : zr64 (z64 x) := ⟨by have := Int.le_bmod (x := x) (m := 18446744073709551616) (by decide); unfold z64; omega, by have := Int.bmod_lt (x := x) (m := 18446744073709551616) (by decide); unfold z64; omega⟩
theorem z32_id {x : Int} (h : zr32 x) : z32 x = x := by unfold z32; exact Int.bmod_eq_of_le (by have := h.1; omega) (by have := h.2; omega)
theorem z64_id {x : Int} (h : zr64 x) : z64 x = x := by unfold z64; exact Int.bmod_eq_of_le (by have := h.1; omega) (by have := h.2; omega)
theorem zi_t {x : Int} (h : zr32 x) : (Int32.ofInt x).toInt = x := Int32.toInt_ofInt_of_le h.1 h.2
theorem zl_t {x : Int} (h : zr64 x) : (Int64.ofInt x).toInt = x := Int64.toInt_ofInt_of_le h.1 h.2
theorem zi_r (a : Int32) : zr32 a.toInt := ⟨Int32.le_toInt a, Int32.toInt_lt a⟩
theorem zl_r (a : Int64) : zr64 a.toInt := ⟨Int64.le_toInt a, Int64.toInt_lt a⟩
theorem zi_z (x : Int) : Int32.ofInt (z32 x) = Int32.ofInt x := Int32.toInt.inj (by rw [zi_t (zr32_z x), Int32.toInt_ofInt]; rfl)
theorem zl_z (x : Int) : Int64.ofInt (z64 x) = Int64.ofInt x := Int64.toInt.inj (by rw [zl_t (zr64_z x), Int64.toInt_ofInt]; rfl)
theorem zi_add (x y : Int) : Int32.ofInt (z32 (x + y)) = Int32.ofInt x + Int32.ofInt y := by rw [zi_z, Int32.ofInt_add]
theorem zi_sub (x y : Int) : Int32.ofInt (z32 (x - y)) = Int32.ofInt x - Int32.ofInt y := by rw [zi_z, Int32.ofInt_sub]
theorem zi_mul (x y : Int) : Int32.ofInt (z32 (x * y)) = Int32.ofInt x * Int32.ofInt y := by rw [zi_z, Int32.ofInt_mul]
theorem zl_add (x y : Int) : Int64.ofInt (z64 (x + y)) = Int64.ofInt x + Int64.ofInt y := by rw [zl_z, Int64.ofInt_add]
theorem zl_sub (x y : Int) : Int64.ofInt (z64 (x - y)) = Int64.ofInt x - Int64.ofInt y := by rw [zl_z, Int64.ofInt_sub]
theorem zl_mul (x y : Int) : Int64.ofInt (z64 (x * y)) = Int64.ofInt x * Int64.ofInt y := by rw [zl_z, Int64.ofInt_mul]
theorem zi_neg (x : Int) : Int32.ofInt (z32 (-x)) = -Int32.ofInt x := by rw [zi_z, Int32.ofInt_neg]
theorem zl_neg (x : Int) : Int64.ofInt (z64 (-x)) = -Int64.ofInt x := by rw [zl_z, Int64.ofInt_neg]
theorem zi_div {x y : Int} (hx : zr32 x) (hy : zr32 y) : Int32.ofInt (z32 (Int.tdiv x y)) = Int32.ofInt x / Int32.ofInt y := Int32.toInt.inj (by rw [zi_t (zr32_z _), Int32.toInt_div, zi_t hx, zi_t hy]; rfl)
theorem zi_rem {x y : Int} (hx : zr32 x) (hy : zr32 y) : Int32.ofInt (z32 (Int.tmod x y)) = Int32.ofInt x % Int32.ofInt y := by
  have e : (Int32.ofInt x % Int32.ofInt y).toInt = Int.tmod x y := by rw [Int32.toInt_mod, zi_t hx, zi_t hy]
  exact Int32.toInt.inj (by rw [zi_t (zr32_z _), e, z32_id (e ▸ zi_r _)])
theorem zl_div {x y : Int} (hx : zr64 x) (hy : zr64 y) : Int64.ofInt (z64 (Int.tdiv x y)) = Int64.ofInt x / Int64.ofInt y := Int64.toInt.inj (by rw [zl_t (zr64_z _), Int64.toInt_div, zl_t hx, zl_t hy]; rfl)
theorem zl_rem {x y : Int} (hx : zr64 x) (hy : zr64 y) : Int64.ofInt (z64 (Int.tmod x y)) = Int64.ofInt x % Int64.ofInt y := by
  have e : (Int64.ofInt x % Int64.ofInt y).toInt = Int.tmod x y := by rw [Int64.toInt_mod, zl_t hx, zl_t hy]
  exact Int64.toInt.inj (by rw [zl_t (zr64_z _), e, z64_id (e ▸ zl_r _)])
theorem zi_o (a : Int32) : Int32.ofInt a.toInt = a := Int32.ofInt_toInt a
theorem zl_o (a : Int64) : Int64.ofInt a.toInt = a := Int64.ofInt_toInt a
theorem zi_i2l {x : Int} (h : zr32 x) : (Int32.ofInt x).toInt64 = Int64.ofInt x := Int64.toInt.inj (by rw [Int32.toInt_toInt64, zi_t h, zl_t ⟨by have := h.1; omega, by have := h.2; omega⟩])
theorem zl_l2i {x : Int} (h : zr64 x) : (Int64.ofInt x).toInt32 = Int32.ofInt (z32 x) := Int32.toInt.inj (by rw [Int64.toInt_toInt32, zl_t h, zi_t (zr32_z x)]; rfl)
theorem zr8_z (x : Int) : -128 ≤ z8 x ∧ z8 x < 128 := ⟨by have := Int.le_bmod (x := x) (m := 256) (by decide); unfold z8; omega, by have := Int.bmod_lt (x := x) (m := 256) (by decide); unfold z8; omega⟩
theorem zr32_8 (x : Int) : zr32 (z8 x) := ⟨by have := (zr8_z x).1; omega, by have := (zr8_z x).2; omega⟩
theorem zi_i2b {x : Int} (h : zr32 x) : (Int32.ofInt x).toInt8.toInt32 = Int32.ofInt (z8 x) := Int32.toInt.inj (by rw [Int8.toInt_toInt32, Int32.toInt_toInt8, zi_t h, zi_t (zr32_8 x)]; rfl)
theorem zi_lt {x y : Int} (hx : zr32 x) (hy : zr32 y) : Int32.ofInt x < Int32.ofInt y ↔ x < y := by rw [Int32.lt_iff_toInt_lt, zi_t hx, zi_t hy]
theorem zi_le {x y : Int} (hx : zr32 x) (hy : zr32 y) : Int32.ofInt x ≤ Int32.ofInt y ↔ x ≤ y := by rw [Int32.le_iff_toInt_le, zi_t hx, zi_t hy]
theorem zi_eq {x y : Int} (hx : zr32 x) (hy : zr32 y) : Int32.ofInt x = Int32.ofInt y ↔ x = y := ⟨fun h => by rw [← zi_t hx, ← zi_t hy, h], fun h => by rw [h]⟩
theorem zl_lt {x y : Int} (hx : zr64 x) (hy : zr64 y) : Int64.ofInt x < Int64.ofInt y ↔ x < y := by rw [Int64.lt_iff_toInt_lt, zl_t hx, zl_t hy]
theorem zl_eq {x y : Int} (hx : zr64 x) (hy : zr64 y) : Int64.ofInt x = Int64.ofInt y ↔ x = y := ⟨fun h => by rw [← zl_t hx, ← zl_t hy, h], fun h => by rw [h]⟩
theorem zi_cn {x : Int} (h : zr32 x) (h0 : 0 ≤ x) : (Int32.ofInt x).toNatClampNeg = x.toNat := by
  show (Int32.ofInt x).toInt.toNat = x.toNat
  rw [zi_t h]
theorem zi_in {x : Int} {n : Nat} (h : zr32 x) (h0 : 0 ≤ x ∧ x < (n : Int)) : vp_in (Int32.ofInt x) n := by
  rintro (h1 | h1)
  · have : (Int32.ofInt x) < Int32.ofInt 0 := h1
    rw [zi_lt h ⟨by decide, by decide⟩] at this
    omega
  · rw [zi_cn h h0.1] at h1
    omega

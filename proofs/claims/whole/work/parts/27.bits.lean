/-! ===== bits of longs and ints that aren't negative ===== -/
theorem zbv64 {a : Int} (h0 : 0 ≤ a) (h1 : a < 18446744073709551616) : (Int64.ofInt a).toBitVec.toNat = a.toNat := by
  show (BitVec.ofInt 64 a).toNat = a.toNat
  rw [BitVec.toNat_ofInt]
  congr 1
  exact Int.emod_eq_of_lt h0 h1
theorem zbv32 {a : Int} (h0 : 0 ≤ a) (h1 : a < 4294967296) : (Int32.ofInt a).toBitVec.toNat = a.toNat := by
  show (BitVec.ofInt 32 a).toNat = a.toNat
  rw [BitVec.toNat_ofInt]
  congr 1
  exact Int.emod_eq_of_lt h0 h1
theorem zbvI64 {x : Int64} {n : Nat} (h : x.toBitVec.toNat = n) (hn : n < 9223372036854775808) : x.toInt = (n : Int) := by
  show x.toBitVec.toInt = (n : Int)
  rw [BitVec.toInt_eq_toNat_of_lt (by rw [h]; omega), h]
theorem zbvI32 {x : Int32} {n : Nat} (h : x.toBitVec.toNat = n) (hn : n < 2147483648) : x.toInt = (n : Int) := by
  show x.toBitVec.toInt = (n : Int)
  rw [BitVec.toInt_eq_toNat_of_lt (by rw [h]; omega), h]
theorem zl_or {a b : Int} (ha : 0 ≤ a ∧ a < 9223372036854775808) (hb : 0 ≤ b ∧ b < 9223372036854775808) : (Int64.ofInt a ||| Int64.ofInt b).toInt = ((a.toNat ||| b.toNat : Nat) : Int) := by
  refine zbvI64 ?_ ?_
  · show ((Int64.ofInt a).toBitVec ||| (Int64.ofInt b).toBitVec).toNat = _
    rw [BitVec.toNat_or, zbv64 ha.1 (by omega), zbv64 hb.1 (by omega)]
  · exact Nat.or_lt_two_pow (n := 63) (by omega) (by omega)
theorem zl_and {a b : Int} (ha : 0 ≤ a ∧ a < 9223372036854775808) (hb : 0 ≤ b ∧ b < 9223372036854775808) : (Int64.ofInt a &&& Int64.ofInt b).toInt = ((a.toNat &&& b.toNat : Nat) : Int) := by
  refine zbvI64 ?_ ?_
  · show ((Int64.ofInt a).toBitVec &&& (Int64.ofInt b).toBitVec).toNat = _
    rw [BitVec.toNat_and, zbv64 ha.1 (by omega), zbv64 hb.1 (by omega)]
  · exact Nat.lt_of_le_of_lt Nat.and_le_left (by omega)
/-- the count of a shift -/
theorem zl_sc {s : Nat} (hs : s < 64) : (Int32.ofInt (s : Int)).toInt64 &&& 63 = Int64.ofInt (s : Int) := by
  rw [zi_i2l ⟨by omega, by omega⟩]
  refine Int64.toInt.inj ?_
  show (Int64.ofInt (s : Int) &&& Int64.ofInt 63).toInt = _
  rw [zl_and ⟨by omega, by omega⟩ ⟨by decide, by decide⟩, zl_t ⟨by omega, by omega⟩]
  have : ((s : Int)).toNat &&& (63 : Int).toNat = s := by
    show s &&& 63 = s
    rw [show (63 : Nat) = 2 ^ 6 - 1 from rfl, Nat.and_two_pow_sub_one_eq_mod]
    exact Nat.mod_eq_of_lt hs
  rw [this]
theorem zl_shr {a : Int} {s : Nat} (hs : s < 64) (ha : 0 ≤ a ∧ a < 9223372036854775808) : (Int64.ofInt a >>> ((Int32.ofInt (s : Int)).toInt64 &&& 63)).toInt = a / ((2 ^ s : Nat) : Int) := by
  rw [zl_sc hs]
  show (Int64.ofInt a >>> Int64.ofInt (s : Int)).toBitVec.toInt = _
  rw [Int64.toBitVec_shiftRight]
  have h2 : ((Int64.ofInt (s : Int)).toBitVec.smod 64).toNat = s := by
    have e1 : (Int64.ofInt (s : Int)).toBitVec = BitVec.ofNat 64 s := by
      apply BitVec.eq_of_toNat_eq
      rw [zbv64 (by omega) (by omega), BitVec.toNat_ofNat]
      show s = s % 18446744073709551616
      rw [Nat.mod_eq_of_lt (by omega)]
    rw [e1]
    have : ∀ s : Nat, s < 64 → ((BitVec.ofNat 64 s).smod 64#64).toNat = s := by decide
    exact this s hs
  rw [BitVec.sshiftRight', h2, BitVec.toInt_sshiftRight]
  rw [show (Int64.ofInt a).toBitVec.toInt = a from zl_t ⟨by omega, ha.2⟩, Int.shiftRight_eq_div_pow]

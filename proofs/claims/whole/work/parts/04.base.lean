/-! numbers: ints and longs by whole numbers -/
def iZ (z : Int) : Int32 := Int32.ofInt z
def lZ (z : Int) : Int64 := Int64.ofInt z
theorem iZ_add (a b : Int) : iZ a + iZ b = iZ (a + b) := (Int32.ofInt_add a b).symm
theorem iZ_sub (a b : Int) : iZ a - iZ b = iZ (a - b) := (Int32.ofInt_sub a b).symm
theorem iZ_mul (a b : Int) : iZ a * iZ b = iZ (a * b) := (Int32.ofInt_mul a b).symm
theorem iZ_neg (a : Int) : - iZ a = iZ (-a) := (Int32.ofInt_neg a).symm
theorem lZ_add (a b : Int) : lZ a + lZ b = lZ (a + b) := (Int64.ofInt_add a b).symm
theorem lZ_sub (a b : Int) : lZ a - lZ b = lZ (a - b) := (Int64.ofInt_sub a b).symm
theorem lZ_mul (a b : Int) : lZ a * lZ b = lZ (a * b) := (Int64.ofInt_mul a b).symm
theorem lZ_neg (a : Int) : - lZ a = lZ (-a) := (Int64.ofInt_neg a).symm
theorem iZ_of (x : Int32) : iZ x.toInt = x := Int32.ofInt_toInt x
theorem lZ_of (x : Int64) : lZ x.toInt = x := Int64.ofInt_toInt x
abbrev i32 (z : Int) : Prop := -2147483648 ≤ z ∧ z < 2147483648
abbrev i64 (z : Int) : Prop := -9223372036854775808 ≤ z ∧ z < 9223372036854775808
theorem iZ_toInt {z : Int} (h : i32 z) : (iZ z).toInt = z := Int32.toInt_ofInt_of_le (by have := h.1; omega) (by have := h.2; omega)
theorem lZ_toInt {z : Int} (h : i64 z) : (lZ z).toInt = z := Int64.toInt_ofInt_of_le (by have := h.1; omega) (by have := h.2; omega)
theorem iZ_lt {a b : Int} (ha : i32 a) (hb : i32 b) : iZ a < iZ b ↔ a < b := by rw [Int32.lt_iff_toInt_lt, iZ_toInt ha, iZ_toInt hb]
theorem iZ_le {a b : Int} (ha : i32 a) (hb : i32 b) : iZ a ≤ iZ b ↔ a ≤ b := by rw [Int32.le_iff_toInt_le, iZ_toInt ha, iZ_toInt hb]
theorem iZ_eq {a b : Int} (ha : i32 a) (hb : i32 b) : iZ a = iZ b ↔ a = b := ⟨fun h => by rw [← iZ_toInt ha, ← iZ_toInt hb, h], fun h => by rw [h]⟩
theorem lZ_lt {a b : Int} (ha : i64 a) (hb : i64 b) : lZ a < lZ b ↔ a < b := by rw [Int64.lt_iff_toInt_lt, lZ_toInt ha, lZ_toInt hb]
theorem lZ_eq {a b : Int} (ha : i64 a) (hb : i64 b) : lZ a = lZ b ↔ a = b := ⟨fun h => by rw [← lZ_toInt ha, ← lZ_toInt hb, h], fun h => by rw [h]⟩
theorem iZ_clamp {z : Int} (h : 0 ≤ z ∧ z < 2147483648) : (iZ z).toNatClampNeg = z.toNat := by
  show (iZ z).toInt.toNat = _
  rw [iZ_toInt ⟨by have := h.1; omega, h.2⟩]
theorem iZ_in {z : Int} {n : Nat} (h : 0 ≤ z ∧ z < n) (hn : n < 2147483648) : vp_in (iZ z) n := by
  have h0 : iZ 0 = 0 := by decide
  intro q
  rcases q with q | q
  · rw [← h0, iZ_lt ⟨by omega, by omega⟩ ⟨by omega, by omega⟩] at q
    omega
  · rw [iZ_clamp ⟨h.1, by omega⟩] at q
    omega
theorem iZ_mod (z : Int) : iZ (z % 4294967296) = iZ z := Int32.toInt.inj (by rw [iZ, iZ, Int32.toInt_ofInt, Int32.toInt_ofInt]; exact Int.emod_bmod z _)
theorem lZ_mod (z : Int) : lZ (z % 18446744073709551616) = lZ z := Int64.toInt.inj (by rw [lZ, lZ, Int64.toInt_ofInt, Int64.toInt_ofInt]; exact Int.emod_bmod z _)
theorem i2lZ {z : Int} (h : i32 z) : (iZ z).toInt64 = lZ z := Int32.toInt64_ofInt (by have := h.1; exact this) (by have := h.2; show z ≤ 2147483647; omega)
theorem l2iZ (z : Int) : (lZ z).toInt32 = iZ z := Int64.toInt32_ofInt
theorem iZ_c (n : Int) : Int32.ofInt n = iZ n := rfl
/-- a value's bits as a number of 0 .. 2^32 - 1, of 0 .. 2^64 - 1 -/
theorem iZ_u (z : Int) : ((iZ z).toUInt32.toNat : Int) = z % 4294967296 := by
  have h : (iZ z).toUInt32.toNat = (z % 4294967296).toNat := by
    show (Int32.ofInt z).toBitVec.toNat = _
    rw [show (Int32.ofInt z).toBitVec = BitVec.ofInt 32 z from rfl, BitVec.toNat_ofInt]
    rfl
  rw [h]; omega
theorem lZ_u (z : Int) : ((lZ z).toUInt64.toNat : Int) = z % 18446744073709551616 := by
  have h : (lZ z).toUInt64.toNat = (z % 18446744073709551616).toNat := by
    show (Int64.ofInt z).toBitVec.toNat = _
    rw [show (Int64.ofInt z).toBitVec = BitVec.ofInt 64 z from rfl, BitVec.toNat_ofInt]
    rfl
  rw [h]; omega
theorem lZ_ext {x : Int64} {z : Int} (h : (x.toUInt64.toNat : Int) = z % 18446744073709551616) : x = lZ z := by
  have h2 := lZ_u z
  have h3 : x.toUInt64.toNat = (lZ z).toUInt64.toNat := by omega
  have h4 : x.toUInt64 = (lZ z).toUInt64 := UInt64.toNat.inj h3
  exact Int64.toBitVec.inj (congrArg UInt64.toBitVec h4)
theorem iZ_ext {x : Int32} {z : Int} (h : (x.toUInt32.toNat : Int) = z % 4294967296) : x = iZ z := by
  have h2 := iZ_u z
  have h3 : x.toUInt32.toNat = (iZ z).toUInt32.toNat := by omega
  have h4 : x.toUInt32 = (iZ z).toUInt32 := UInt32.toNat.inj h3
  exact Int32.toBitVec.inj (congrArg UInt32.toBitVec h4)

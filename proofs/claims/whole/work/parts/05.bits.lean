theorem lZ_natu {n : Nat} (h : n < 18446744073709551616) : (lZ n).toUInt64.toNat = n := by have := lZ_u n; omega
theorem iZ_natu {n : Nat} (h : n < 4294967296) : (iZ n).toUInt32.toNat = n := by have := iZ_u n; omega
/-- every long is lZ of its bits -/
theorem lZ_bits (z : Int) : lZ z = lZ ((lZ z).toUInt64.toNat : Int) := by rw [lZ_u, lZ_mod]
theorem iZ_bits (z : Int) : iZ z = iZ ((iZ z).toUInt32.toNat : Int) := by rw [iZ_u, iZ_mod]
theorem lZ_andu (x y : Int64) : (x &&& y).toUInt64.toNat = x.toUInt64.toNat &&& y.toUInt64.toNat := by
  show (x &&& y).toBitVec.toNat = _
  rw [Int64.toBitVec_and, BitVec.toNat_and]; rfl
theorem lZ_oru (x y : Int64) : (x ||| y).toUInt64.toNat = x.toUInt64.toNat ||| y.toUInt64.toNat := by
  show (x ||| y).toBitVec.toNat = _
  rw [Int64.toBitVec_or, BitVec.toNat_or]; rfl
theorem iZ_andu (x y : Int32) : (x &&& y).toUInt32.toNat = x.toUInt32.toNat &&& y.toUInt32.toNat := by
  show (x &&& y).toBitVec.toNat = _
  rw [Int32.toBitVec_and, BitVec.toNat_and]; rfl
theorem iZ_oru (x y : Int32) : (x ||| y).toUInt32.toNat = x.toUInt32.toNat ||| y.toUInt32.toNat := by
  show (x ||| y).toBitVec.toNat = _
  rw [Int32.toBitVec_or, BitVec.toNat_or]; rfl
theorem lZ_mask (z : Int) (n : Nat) (hn : n ≤ 64) : lZ z &&& lZ ((2 ^ n - 1 : Nat) : Int) = lZ (z % ((2 ^ n : Nat) : Int)) := by
  apply lZ_ext
  have h2 : 2 ^ n ≤ 2 ^ 64 := Nat.pow_le_pow_right (by decide) hn
  have h3 : 0 < 2 ^ n := Nat.two_pow_pos n
  rw [lZ_andu, lZ_natu (n := 2 ^ n - 1) (by omega), Nat.and_two_pow_sub_one_eq_mod]
  have hu := lZ_u z
  have hd : ((2 ^ n : Nat) : Int) ∣ 18446744073709551616 := ⟨((2 ^ (64 - n) : Nat) : Int), by
    rw [← Int.natCast_mul, ← Nat.pow_add, show n + (64 - n) = 64 by omega]; rfl⟩
  have h4 : z % 18446744073709551616 % ((2 ^ n : Nat) : Int) = z % ((2 ^ n : Nat) : Int) := Int.emod_emod_of_dvd z hd
  have h5 : (((lZ z).toUInt64.toNat % 2 ^ n : Nat) : Int) = z % ((2 ^ n : Nat) : Int) := by
    rw [Int.natCast_emod, hu, h4]
  rw [h5]
  have h6 : 0 ≤ z % ((2 ^ n : Nat) : Int) := Int.emod_nonneg _ (by omega)
  have h7 : z % ((2 ^ n : Nat) : Int) < ((2 ^ n : Nat) : Int) := Int.emod_lt_of_pos _ (by omega)
  omega
theorem iZ_mask (z : Int) (n : Nat) (hn : n ≤ 32) : iZ z &&& iZ ((2 ^ n - 1 : Nat) : Int) = iZ (z % ((2 ^ n : Nat) : Int)) := by
  apply iZ_ext
  have h2 : 2 ^ n ≤ 2 ^ 32 := Nat.pow_le_pow_right (by decide) hn
  have h3 : 0 < 2 ^ n := Nat.two_pow_pos n
  rw [iZ_andu, iZ_natu (n := 2 ^ n - 1) (by omega), Nat.and_two_pow_sub_one_eq_mod]
  have hu := iZ_u z
  have hd : ((2 ^ n : Nat) : Int) ∣ 4294967296 := ⟨((2 ^ (32 - n) : Nat) : Int), by
    rw [← Int.natCast_mul, ← Nat.pow_add, show n + (32 - n) = 32 by omega]; rfl⟩
  have h4 : z % 4294967296 % ((2 ^ n : Nat) : Int) = z % ((2 ^ n : Nat) : Int) := Int.emod_emod_of_dvd z hd
  have h5 : (((iZ z).toUInt32.toNat % 2 ^ n : Nat) : Int) = z % ((2 ^ n : Nat) : Int) := by
    rw [Int.natCast_emod, hu, h4]
  rw [h5]
  have h6 : 0 ≤ z % ((2 ^ n : Nat) : Int) := Int.emod_nonneg _ (by omega)
  have h7 : z % ((2 ^ n : Nat) : Int) < ((2 ^ n : Nat) : Int) := Int.emod_lt_of_pos _ (by omega)
  omega
theorem lZ_low (z : Int) : lZ z &&& lZ 4294967295 = lZ (z % 4294967296) := lZ_mask z 32 (by decide)
theorem lZ_low16 (z : Int) : lZ z &&& lZ 65535 = lZ (z % 65536) := lZ_mask z 16 (by decide)
theorem iZ_low16 (z : Int) : iZ z &&& iZ 65535 = iZ (z % 65536) := iZ_mask z 16 (by decide)
theorem iZ_low4 (z : Int) : iZ z &&& iZ 15 = iZ (z % 16) := iZ_mask z 4 (by decide)
theorem iZ_low1 (z : Int) : iZ z &&& iZ 1 = iZ (z % 2) := iZ_mask z 1 (by decide)
/-- shifts -/
theorem lZ_amt {n : Nat} (hn : n < 64) : (iZ n).toInt64 &&& 63 = lZ n := by
  rw [i2lZ ⟨by omega, by omega⟩, show (63 : Int64) = lZ ((2 ^ 6 - 1 : Nat) : Int) from by decide, lZ_mask _ 6 (by decide)]
  congr 1; omega
theorem iZ_amt {n : Nat} (hn : n < 32) : iZ n &&& 31 = iZ n := by
  rw [show (31 : Int32) = iZ ((2 ^ 5 - 1 : Nat) : Int) from by decide, iZ_mask _ 5 (by decide)]
  congr 1; omega
theorem lZ_shl (z : Int) {n : Nat} (hn : n < 64) : lZ z <<< ((iZ n).toInt64 &&& 63) = lZ (z * ((2 ^ n : Nat) : Int)) := by
  rw [lZ_amt hn]
  have hb : (lZ n).toBitVec.toNat = n := lZ_natu (by omega)
  have h1 : lZ z <<< lZ n = ⟨⟨(lZ z).toBitVec <<< n⟩⟩ := by
    apply Int64.toBitVec.inj
    rw [Int64.toBitVec_shiftLeft]
    show (lZ z).toBitVec <<< ((lZ ↑n).toBitVec.smod 64) = (lZ z).toBitVec <<< n
    have hs : (lZ (n : Int)).toBitVec.smod 64 = (lZ (n : Int)).toBitVec := by
      apply BitVec.eq_of_toInt_eq
      rw [BitVec.toInt_smod]
      have ht : (lZ (n : Int)).toBitVec.toInt = n := lZ_toInt ⟨by omega, by omega⟩
      rw [ht]
      show (n : Int).fmod 64 = n
      rw [Int.fmod_eq_emod_of_nonneg _ (by decide)]
      omega
    rw [hs, BitVec.shiftLeft_eq', hb]
  rw [h1]
  apply lZ_ext
  show (((lZ z).toBitVec <<< n).toNat : Int) = _
  rw [BitVec.toNat_shiftLeft, Nat.shiftLeft_eq, Int.natCast_emod, Int.natCast_mul]
  have hu : ((lZ z).toBitVec.toNat : Int) = z % 18446744073709551616 := lZ_u z
  rw [hu]
  show z % 18446744073709551616 * ((2 ^ n : Nat) : Int) % 18446744073709551616 = _
  rw [Int.mul_emod, Int.emod_emod_of_dvd _ (Int.dvd_refl _), ← Int.mul_emod]
theorem lZ_ushr (z : Int) {n : Nat} (hn : n < 64) : ((lZ z).toUInt64 >>> ((iZ n).toInt64.toUInt64 &&& Int64.toUInt64 63)).toInt64 = lZ (z % 18446744073709551616 / ((2 ^ n : Nat) : Int)) := by
  apply lZ_ext
  have h0 : ((iZ n).toInt64.toUInt64 &&& Int64.toUInt64 63) = (lZ n).toUInt64 := by
    rw [← lZ_amt hn]; rfl
  rw [h0]
  have h1 : ((lZ z).toUInt64 >>> (lZ (n : Int)).toUInt64).toInt64.toUInt64.toNat = (lZ z).toUInt64.toNat / 2 ^ n := by
    show ((lZ z).toUInt64 >>> (lZ (n : Int)).toUInt64).toNat = _
    rw [UInt64.toNat_shiftRight, lZ_natu (n := n) (by omega), Nat.mod_eq_of_lt hn, Nat.shiftRight_eq_div_pow]
  rw [h1, Int.natCast_ediv, lZ_u]
  have h2 : 0 ≤ z % 18446744073709551616 := Int.emod_nonneg _ (by decide)
  have h3 : z % 18446744073709551616 < 18446744073709551616 := Int.emod_lt_of_pos _ (by decide)
  have h4 : (0 : Int) < ((2 ^ n : Nat) : Int) := by have := Nat.two_pow_pos n; omega
  have h5 : z % 18446744073709551616 / ((2 ^ n : Nat) : Int) ≤ z % 18446744073709551616 := Int.ediv_le_self _ h2
  have h6 : 0 ≤ z % 18446744073709551616 / ((2 ^ n : Nat) : Int) := Int.ediv_nonneg h2 (Int.le_of_lt h4)
  omega
theorem iZ_ushr (z : Int) {n : Nat} (hn : n < 32) : ((iZ z).toUInt32 >>> ((iZ n).toUInt32 &&& Int32.toUInt32 31)).toInt32 = iZ (z % 4294967296 / ((2 ^ n : Nat) : Int)) := by
  apply iZ_ext
  have h0 : ((iZ n).toUInt32 &&& Int32.toUInt32 31) = (iZ n).toUInt32 := by
    have h9 : (iZ (n : Int) &&& 31).toUInt32 = (iZ n).toUInt32 := by rw [iZ_amt hn]
    exact h9
  rw [h0]
  have h1 : ((iZ z).toUInt32 >>> (iZ (n : Int)).toUInt32).toInt32.toUInt32.toNat = (iZ z).toUInt32.toNat / 2 ^ n := by
    show ((iZ z).toUInt32 >>> (iZ (n : Int)).toUInt32).toNat = _
    rw [UInt32.toNat_shiftRight, iZ_natu (n := n) (by omega), Nat.mod_eq_of_lt hn, Nat.shiftRight_eq_div_pow]
  rw [h1, Int.natCast_ediv, iZ_u]
  have h2 : 0 ≤ z % 4294967296 := Int.emod_nonneg _ (by decide)
  have h3 : z % 4294967296 < 4294967296 := Int.emod_lt_of_pos _ (by decide)
  have h4 : (0 : Int) < ((2 ^ n : Nat) : Int) := by have := Nat.two_pow_pos n; omega
  have h5 : z % 4294967296 / ((2 ^ n : Nat) : Int) ≤ z % 4294967296 := Int.ediv_le_self _ h2
  have h6 : 0 ≤ z % 4294967296 / ((2 ^ n : Nat) : Int) := Int.ediv_nonneg h2 (Int.le_of_lt h4)
  omega
theorem iZ_shl (z : Int) {n : Nat} (hn : n < 32) : iZ z <<< (iZ n &&& 31) = iZ (z * ((2 ^ n : Nat) : Int)) := by
  rw [iZ_amt hn]
  have hb : (iZ n).toBitVec.toNat = n := iZ_natu (by omega)
  have h1 : iZ z <<< iZ n = ⟨⟨(iZ z).toBitVec <<< n⟩⟩ := by
    apply Int32.toBitVec.inj
    rw [Int32.toBitVec_shiftLeft]
    show (iZ z).toBitVec <<< ((iZ ↑n).toBitVec.smod 32) = (iZ z).toBitVec <<< n
    have hs : (iZ (n : Int)).toBitVec.smod 32 = (iZ (n : Int)).toBitVec := by
      apply BitVec.eq_of_toInt_eq
      rw [BitVec.toInt_smod]
      have ht : (iZ (n : Int)).toBitVec.toInt = n := iZ_toInt ⟨by omega, by omega⟩
      rw [ht]
      show (n : Int).fmod 32 = n
      rw [Int.fmod_eq_emod_of_nonneg _ (by decide)]
      omega
    rw [hs, BitVec.shiftLeft_eq', hb]
  rw [h1]
  apply iZ_ext
  show (((iZ z).toBitVec <<< n).toNat : Int) = _
  rw [BitVec.toNat_shiftLeft, Nat.shiftLeft_eq, Int.natCast_emod, Int.natCast_mul]
  have hu : ((iZ z).toBitVec.toNat : Int) = z % 4294967296 := iZ_u z
  rw [hu]
  show z % 4294967296 * ((2 ^ n : Nat) : Int) % 4294967296 = _
  rw [Int.mul_emod, Int.emod_emod_of_dvd _ (Int.dvd_refl _), ← Int.mul_emod]
theorem iZ_shr {z : Int} (hz : i32 z) {n : Nat} (hn : n < 32) : iZ z >>> (iZ n &&& 31) = iZ (z / ((2 ^ n : Nat) : Int)) := by
  rw [iZ_amt hn]
  have hb : (iZ n).toBitVec.toNat = n := iZ_natu (by omega)
  have hs : (iZ (n : Int)).toBitVec.smod 32 = (iZ (n : Int)).toBitVec := by
    apply BitVec.eq_of_toInt_eq
    rw [BitVec.toInt_smod]
    have ht : (iZ (n : Int)).toBitVec.toInt = n := iZ_toInt ⟨by omega, by omega⟩
    rw [ht]
    show (n : Int).fmod 32 = n
    rw [Int.fmod_eq_emod_of_nonneg _ (by decide)]
    omega
  have h1 : (iZ z >>> iZ n).toInt = z / ((2 ^ n : Nat) : Int) := by
    show (iZ z >>> iZ n).toBitVec.toInt = _
    rw [Int32.toBitVec_shiftRight]
    show ((iZ z).toBitVec.sshiftRight' ((iZ (n : Int)).toBitVec.smod 32)).toInt = _
    rw [hs]
    show ((iZ z).toBitVec.sshiftRight ((iZ (n : Int)).toBitVec.toNat)).toInt = _
    rw [hb, BitVec.toInt_sshiftRight]
    have ht : (iZ z).toBitVec.toInt = z := iZ_toInt hz
    rw [ht, Int.shiftRight_eq_div_pow]
  rw [← h1]
  exact (iZ_of _).symm
theorem lZ_shr {z : Int} (hz : i64 z) {n : Nat} (hn : n < 64) : lZ z >>> ((iZ n).toInt64 &&& 63) = lZ (z / ((2 ^ n : Nat) : Int)) := by
  rw [lZ_amt hn]
  have hb : (lZ n).toBitVec.toNat = n := lZ_natu (by omega)
  have hs : (lZ (n : Int)).toBitVec.smod 64 = (lZ (n : Int)).toBitVec := by
    apply BitVec.eq_of_toInt_eq
    rw [BitVec.toInt_smod]
    have ht : (lZ (n : Int)).toBitVec.toInt = n := lZ_toInt ⟨by omega, by omega⟩
    rw [ht]
    show (n : Int).fmod 64 = n
    rw [Int.fmod_eq_emod_of_nonneg _ (by decide)]
    omega
  have h1 : (lZ z >>> lZ n).toInt = z / ((2 ^ n : Nat) : Int) := by
    show (lZ z >>> lZ n).toBitVec.toInt = _
    rw [Int64.toBitVec_shiftRight]
    show ((lZ z).toBitVec.sshiftRight' ((lZ (n : Int)).toBitVec.smod 64)).toInt = _
    rw [hs]
    show ((lZ z).toBitVec.sshiftRight ((lZ (n : Int)).toBitVec.toNat)).toInt = _
    rw [hb, BitVec.toInt_sshiftRight]
    have ht : (lZ z).toBitVec.toInt = z := lZ_toInt hz
    rw [ht, Int.shiftRight_eq_div_pow]
  rw [← h1]
  exact (lZ_of _).symm
/-- 'or' of numbers whose bits lie apart -/
theorem lZ_or {a b : Int} {n : Nat} (hn : n ≤ 64) (hb : 0 ≤ b ∧ b < ((2 ^ n : Nat) : Int)) : lZ (a * ((2 ^ n : Nat) : Int)) ||| lZ b = lZ (a * ((2 ^ n : Nat) : Int) + b) := by
  have h2 : 2 ^ n ≤ 2 ^ 64 := Nat.pow_le_pow_right (by decide) hn
  have h3 : 0 < 2 ^ n := Nat.two_pow_pos n
  apply lZ_ext
  obtain ⟨bn, rfl⟩ := Int.eq_ofNat_of_zero_le hb.1
  have hbn : bn < 2 ^ n := by have := hb.2; omega
  have hM : (18446744073709551616 : Int) = ((2 ^ n : Nat) : Int) * ((2 ^ (64 - n) : Nat) : Int) := by
    rw [← Int.natCast_mul, ← Nat.pow_add, show n + (64 - n) = 64 by omega]; rfl
  have hA : (a * ((2 ^ n : Nat) : Int)) % 18446744073709551616 = ((2 ^ n : Nat) : Int) * (a % ((2 ^ (64 - n) : Nat) : Int)) := by
    rw [hM, Int.mul_comm a, Int.mul_emod_mul_of_pos _ _ (by omega)]
  have h4 : (0 : Int) < ((2 ^ (64 - n) : Nat) : Int) := by have := Nat.two_pow_pos (64 - n); omega
  obtain ⟨an, han⟩ := Int.eq_ofNat_of_zero_le (Int.emod_nonneg a (Int.ne_of_gt h4))
  have han2 : an < 2 ^ (64 - n) := by have := Int.emod_lt_of_pos a h4; omega
  rw [han, ← Int.natCast_mul] at hA
  have hle : 2 ^ n * an + bn < 18446744073709551616 := by
    have q1 : 2 ^ n * (an + 1) ≤ 2 ^ n * 2 ^ (64 - n) := Nat.mul_le_mul_left _ han2
    rw [← Nat.pow_add, show n + (64 - n) = 64 by omega, Nat.mul_add] at q1
    omega
  rw [lZ_oru, lZ_natu (n := bn) (by omega)]
  have hu : (lZ (a * ((2 ^ n : Nat) : Int))).toUInt64.toNat = 2 ^ n * an := by have := lZ_u (a * ((2 ^ n : Nat) : Int)); omega
  rw [hu, ← Nat.two_pow_add_eq_or_of_lt hbn]
  omega
theorem iZ_or {a b : Int} {n : Nat} (hn : n ≤ 32) (hb : 0 ≤ b ∧ b < ((2 ^ n : Nat) : Int)) : iZ (a * ((2 ^ n : Nat) : Int)) ||| iZ b = iZ (a * ((2 ^ n : Nat) : Int) + b) := by
  have h2 : 2 ^ n ≤ 2 ^ 32 := Nat.pow_le_pow_right (by decide) hn
  have h3 : 0 < 2 ^ n := Nat.two_pow_pos n
  apply iZ_ext
  obtain ⟨bn, rfl⟩ := Int.eq_ofNat_of_zero_le hb.1
  have hbn : bn < 2 ^ n := by have := hb.2; omega
  have hM : (4294967296 : Int) = ((2 ^ n : Nat) : Int) * ((2 ^ (32 - n) : Nat) : Int) := by
    rw [← Int.natCast_mul, ← Nat.pow_add, show n + (32 - n) = 32 by omega]; rfl
  have hA : (a * ((2 ^ n : Nat) : Int)) % 4294967296 = ((2 ^ n : Nat) : Int) * (a % ((2 ^ (32 - n) : Nat) : Int)) := by
    rw [hM, Int.mul_comm a, Int.mul_emod_mul_of_pos _ _ (by omega)]
  have h4 : (0 : Int) < ((2 ^ (32 - n) : Nat) : Int) := by have := Nat.two_pow_pos (32 - n); omega
  obtain ⟨an, han⟩ := Int.eq_ofNat_of_zero_le (Int.emod_nonneg a (Int.ne_of_gt h4))
  have han2 : an < 2 ^ (32 - n) := by have := Int.emod_lt_of_pos a h4; omega
  rw [han, ← Int.natCast_mul] at hA
  have hle : 2 ^ n * an + bn < 4294967296 := by
    have q1 : 2 ^ n * (an + 1) ≤ 2 ^ n * 2 ^ (32 - n) := Nat.mul_le_mul_left _ han2
    rw [← Nat.pow_add, show n + (32 - n) = 32 by omega, Nat.mul_add] at q1
    omega
  rw [iZ_oru, iZ_natu (n := bn) (by omega)]
  have hu : (iZ (a * ((2 ^ n : Nat) : Int))).toUInt32.toNat = 2 ^ n * an := by have := iZ_u (a * ((2 ^ n : Nat) : Int)); omega
  rw [hu, ← Nat.two_pow_add_eq_or_of_lt hbn]
  omega
theorem iZ_or_comm (x y : Int32) : x ||| y = y ||| x := Int32.or_comm x y

-- ===== append: bytes of an int =====
def byN (v : Int32) (s : Nat) : Nat := v.toUInt32.toNat / 2 ^ s % 256
theorem byN_lt {v : Int32} {s : Nat} : byN v s < 256 := Nat.mod_lt _ (by decide)
theorem sb8_8 {t : Nat} (ht : t < 256) : (sb8 t).toInt8.toInt32 = sb8 t := by
  have : ∀ j : Fin 256, (sb8 j.val).toInt8.toInt32 = sb8 j.val := by decide +kernel
  exact this ⟨t, ht⟩
theorem i8_of {y : UInt32} {t : Nat} (h : t = y.toNat % 256) : y.toInt32.toInt8 = (Int32.ofNat t).toInt8 := by
  apply Int8.toBitVec_inj.mp
  apply BitVec.eq_of_toNat_eq
  show (y.toBitVec.signExtend 8).toNat = ((BitVec.ofNat 32 t).signExtend 8).toNat
  rw [BitVec.signExtend_eq_setWidth_of_le _ (by decide), BitVec.signExtend_eq_setWidth_of_le _ (by decide), BitVec.toNat_setWidth, BitVec.toNat_setWidth, BitVec.toNat_ofNat]
  have : y.toBitVec.toNat = y.toNat := rfl
  rw [this, h]
  omega
theorem and_255 {x : BitVec 32} : (x &&& 255#32).toNat = x.toNat % 256 := by
  rw [BitVec.toNat_and]
  exact Nat.and_two_pow_sub_one_eq_mod x.toNat 8
theorem byC_24 {v : Int32} : (v.toUInt32 >>> ((24 : Int32).toUInt32 &&& Int32.toUInt32 31)).toInt32.toInt8.toInt32.toInt8.toInt32 = sb8 (byN v 24) := by
  have e : ((24 : Int32).toUInt32 &&& Int32.toUInt32 31) = 24 := by decide
  have h : byN v 24 = (v.toUInt32 >>> (24 : UInt32)).toNat % 256 := by
    rw [UInt32.toNat_shiftRight]
    show v.toUInt32.toNat / 2 ^ 24 % 256 = (v.toUInt32.toNat >>> 24) % 256
    rw [Nat.shiftRight_eq_div_pow]
  rw [e, i8_of h]
  exact sb8_8 byN_lt
theorem byM_24 {v : Int32} : (v >>> ((24 : Int32) &&& 31)) &&& 255 = Int32.ofNat (byN v 24) := by
  have e : ((24 : Int32) &&& 31) = 24 := by decide
  rw [e]
  apply Int32.toBitVec_inj.mp
  apply BitVec.eq_of_toNat_eq
  show ((v.toBitVec.sshiftRight 24) &&& 255#32).toNat = byN v 24 % 2 ^ 32
  rw [and_255]
  have hb : byN v 24 = v.toBitVec.toNat / 2 ^ 24 % 256 := rfl
  have hl := v.toBitVec.isLt
  have lt := byN_lt (v := v) (s := 24)
  rw [Nat.mod_eq_of_lt (by omega : byN v 24 < 2 ^ 32), hb]
  cases m : v.toBitVec.msb with
  | false =>
    rw [BitVec.sshiftRight_eq_of_msb_false m, BitVec.toNat_ushiftRight, Nat.shiftRight_eq_div_pow]
  | true =>
    rw [BitVec.sshiftRight_eq_of_msb_true m, BitVec.toNat_not, BitVec.toNat_ushiftRight, BitVec.toNat_not, Nat.shiftRight_eq_div_pow]
    omega
theorem byC_16 {v : Int32} : (v.toUInt32 >>> ((16 : Int32).toUInt32 &&& Int32.toUInt32 31)).toInt32.toInt8.toInt32.toInt8.toInt32 = sb8 (byN v 16) := by
  have e : ((16 : Int32).toUInt32 &&& Int32.toUInt32 31) = 16 := by decide
  have h : byN v 16 = (v.toUInt32 >>> (16 : UInt32)).toNat % 256 := by
    rw [UInt32.toNat_shiftRight]
    show v.toUInt32.toNat / 2 ^ 16 % 256 = (v.toUInt32.toNat >>> 16) % 256
    rw [Nat.shiftRight_eq_div_pow]
  rw [e, i8_of h]
  exact sb8_8 byN_lt
theorem byM_16 {v : Int32} : (v >>> ((16 : Int32) &&& 31)) &&& 255 = Int32.ofNat (byN v 16) := by
  have e : ((16 : Int32) &&& 31) = 16 := by decide
  rw [e]
  apply Int32.toBitVec_inj.mp
  apply BitVec.eq_of_toNat_eq
  show ((v.toBitVec.sshiftRight 16) &&& 255#32).toNat = byN v 16 % 2 ^ 32
  rw [and_255]
  have hb : byN v 16 = v.toBitVec.toNat / 2 ^ 16 % 256 := rfl
  have hl := v.toBitVec.isLt
  have lt := byN_lt (v := v) (s := 16)
  rw [Nat.mod_eq_of_lt (by omega : byN v 16 < 2 ^ 32), hb]
  cases m : v.toBitVec.msb with
  | false =>
    rw [BitVec.sshiftRight_eq_of_msb_false m, BitVec.toNat_ushiftRight, Nat.shiftRight_eq_div_pow]
  | true =>
    rw [BitVec.sshiftRight_eq_of_msb_true m, BitVec.toNat_not, BitVec.toNat_ushiftRight, BitVec.toNat_not, Nat.shiftRight_eq_div_pow]
    omega
theorem byC_8 {v : Int32} : (v.toUInt32 >>> ((8 : Int32).toUInt32 &&& Int32.toUInt32 31)).toInt32.toInt8.toInt32.toInt8.toInt32 = sb8 (byN v 8) := by
  have e : ((8 : Int32).toUInt32 &&& Int32.toUInt32 31) = 8 := by decide
  have h : byN v 8 = (v.toUInt32 >>> (8 : UInt32)).toNat % 256 := by
    rw [UInt32.toNat_shiftRight]
    show v.toUInt32.toNat / 2 ^ 8 % 256 = (v.toUInt32.toNat >>> 8) % 256
    rw [Nat.shiftRight_eq_div_pow]
  rw [e, i8_of h]
  exact sb8_8 byN_lt
theorem byM_8 {v : Int32} : (v >>> ((8 : Int32) &&& 31)) &&& 255 = Int32.ofNat (byN v 8) := by
  have e : ((8 : Int32) &&& 31) = 8 := by decide
  rw [e]
  apply Int32.toBitVec_inj.mp
  apply BitVec.eq_of_toNat_eq
  show ((v.toBitVec.sshiftRight 8) &&& 255#32).toNat = byN v 8 % 2 ^ 32
  rw [and_255]
  have hb : byN v 8 = v.toBitVec.toNat / 2 ^ 8 % 256 := rfl
  have hl := v.toBitVec.isLt
  have lt := byN_lt (v := v) (s := 8)
  rw [Nat.mod_eq_of_lt (by omega : byN v 8 < 2 ^ 32), hb]
  cases m : v.toBitVec.msb with
  | false =>
    rw [BitVec.sshiftRight_eq_of_msb_false m, BitVec.toNat_ushiftRight, Nat.shiftRight_eq_div_pow]
  | true =>
    rw [BitVec.sshiftRight_eq_of_msb_true m, BitVec.toNat_not, BitVec.toNat_ushiftRight, BitVec.toNat_not, Nat.shiftRight_eq_div_pow]
    omega
theorem byC_0 {v : Int32} : (v.toUInt32 >>> ((0 : Int32).toUInt32 &&& Int32.toUInt32 31)).toInt32.toInt8.toInt32.toInt8.toInt32 = sb8 (byN v 0) := by
  have e : ((0 : Int32).toUInt32 &&& Int32.toUInt32 31) = 0 := by decide
  have h : byN v 0 = (v.toUInt32 >>> (0 : UInt32)).toNat % 256 := by
    rw [UInt32.toNat_shiftRight]
    show v.toUInt32.toNat / 2 ^ 0 % 256 = (v.toUInt32.toNat >>> 0) % 256
    rw [Nat.shiftRight_eq_div_pow]
  rw [e, i8_of h]
  exact sb8_8 byN_lt
theorem byM_0 {v : Int32} : (v >>> ((0 : Int32) &&& 31)) &&& 255 = Int32.ofNat (byN v 0) := by
  have e : ((0 : Int32) &&& 31) = 0 := by decide
  rw [e]
  apply Int32.toBitVec_inj.mp
  apply BitVec.eq_of_toNat_eq
  show ((v.toBitVec.sshiftRight 0) &&& 255#32).toNat = byN v 0 % 2 ^ 32
  rw [and_255]
  have hb : byN v 0 = v.toBitVec.toNat / 2 ^ 0 % 256 := rfl
  have hl := v.toBitVec.isLt
  have lt := byN_lt (v := v) (s := 0)
  rw [Nat.mod_eq_of_lt (by omega : byN v 0 < 2 ^ 32), hb]
  cases m : v.toBitVec.msb with
  | false =>
    rw [BitVec.sshiftRight_eq_of_msb_false m, BitVec.toNat_ushiftRight, Nat.shiftRight_eq_div_pow]
  | true =>
    rw [BitVec.sshiftRight_eq_of_msb_true m, BitVec.toNat_not, BitVec.toNat_ushiftRight, BitVec.toNat_not, Nat.shiftRight_eq_div_pow]
    omega

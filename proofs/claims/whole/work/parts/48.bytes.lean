/-! bytes -/
theorem and255 (y : Int32) : (y &&& iz 255).toInt = y.toInt % 256 := by
  have h1 : (y &&& iz 255).toBitVec = y.toBitVec &&& 255#32 := rfl
  have h2 : (y.toBitVec &&& 255#32).toNat = y.toBitVec.toNat % 256 := by
    rw [BitVec.toNat_and]
    exact Nat.and_two_pow_sub_one_eq_mod y.toBitVec.toNat 8
  have h3 : (y &&& iz 255).toInt = ((y.toBitVec &&& 255#32).toNat : Int) := by
    show (y.toBitVec &&& 255#32).toInt = _
    rw [BitVec.toInt_eq_toNat_cond, if_pos (by rw [h2]; omega)]
  rw [h3, h2]
  show _ = y.toBitVec.toInt % 256
  rw [BitVec.toInt_eq_toNat_cond]
  have := y.toBitVec.isLt
  split <;> omega
theorem i2b_Z (y : Int32) : y.toInt8.toInt32.toInt = if y.toInt % 256 < 128 then y.toInt % 256 else y.toInt % 256 - 256 := by
  rw [Int8.toInt_toInt32, Int32.toInt_toInt8]
  rw [Int.bmod_def]
  split <;> split <;> omega

/-! what both sides write of a byte -/
theorem nar_byte (y : Int32) : vp_nar .byte y.toInt8.toInt32 = y.toInt8.toInt32 := by
  show (y.toInt8.toInt32).toInt8.toInt32 = _
  apply Int32.toInt_inj.mp
  rw [i2b_Z, i2b_Z]
  split <;> split <;> omega
theorem by_Z (y : Int32) : (0 ≤ (y &&& iz 255).toInt ∧ (y &&& iz 255).toInt ≤ 255) ∧ y.toInt8.toInt32.toInt = (if (y &&& iz 255).toInt < 128 then (y &&& iz 255).toInt else (y &&& iz 255).toInt - 256) := by
  rw [and255, i2b_Z]
  exact ⟨by omega, rfl⟩

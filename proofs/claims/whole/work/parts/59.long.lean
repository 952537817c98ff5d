/-! longs, and what a test of them asks -/
theorem lz_toInt {a : Int} (h1 : -9223372036854775808 ≤ a) (h2 : a < 9223372036854775808) : (lz a).toInt = a := Int64.toInt_ofInt_of_le h1 h2
theorem lz_add (a b : Int) : lz a + lz b = lz (a + b) := (Int64.ofInt_add a b).symm
theorem lz_sub (a b : Int) : lz a - lz b = lz (a - b) := (Int64.ofInt_sub a b).symm
theorem lz_mul (a b : Int) : lz a * lz b = lz (a * b) := (Int64.ofInt_mul a b).symm
theorem lz_0 : (0 : Int64) = lz 0 := nr rfl
theorem lz_1 : (1 : Int64) = lz 1 := nr rfl
theorem lz_of (a : Int) : Int64.ofInt a = lz a := nr rfl
theorem lz_self (x : Int64) : lz x.toInt = x := Int64.ofInt_toInt x
theorem lz_lt {a b : Int} (h1 : -9223372036854775808 ≤ a) (h2 : a < 9223372036854775808) (h3 : -9223372036854775808 ≤ b) (h4 : b < 9223372036854775808) : (lz a < lz b) = (a < b) := by
  rw [Int64.lt_iff_toInt_lt, lz_toInt h1 h2, lz_toInt h3 h4]
theorem lz_eq {a b : Int} (h1 : -9223372036854775808 ≤ a) (h2 : a < 9223372036854775808) (h3 : -9223372036854775808 ≤ b) (h4 : b < 9223372036854775808) : (lz a = lz b) = (a = b) := by
  rw [← Int64.toInt_inj, lz_toInt h1 h2, lz_toInt h3 h4]
theorem lz_nz {a : Int} (h1 : -9223372036854775808 ≤ a) (h2 : a < 9223372036854775808) (h : ¬ a = 0) : (lz a = lz 0) = False := by
  rw [lz_eq h1 h2 (by decide) (by decide)]
  exact eq_false h
theorem lz_i2l {a : Int} (h1 : -2147483648 ≤ a) (h2 : a < 2147483648) : (iz a).toInt64 = lz a := by
  apply Int64.toInt_inj.mp
  rw [Int32.toInt_toInt64, iz_toInt h1 h2, lz_toInt (by omega) (by omega)]
theorem lz_l2i {a : Int} (h1 : -2147483648 ≤ a) (h2 : a < 2147483648) : (lz a).toInt32 = iz a := by
  apply Int32.toInt_inj.mp
  rw [Int64.toInt_toInt32, lz_toInt (by omega) (by omega), iz_toInt h1 h2]
  exact Int.bmod_eq_of_le (by omega) (by omega)
theorem lz_div {a b : Int} (h1 : -1000000000000000000 ≤ a) (h2 : a ≤ 1000000000000000000) (h3 : -1000000000000000000 ≤ b) (h4 : b ≤ 1000000000000000000) : lz a / lz b = lz (a.tdiv b) := by
  apply Int64.toInt_inj.mp
  have h5 : (a.tdiv b).natAbs ≤ a.natAbs := by
    rw [Int.natAbs_tdiv]
    exact Nat.div_le_self _ _
  have e : (Int64.minValue).toInt = -9223372036854775808 := rfl
  rw [Int64.toInt_div_of_ne_left _ _ (by intro q; have := congrArg Int64.toInt q; rw [lz_toInt (by omega) (by omega), e] at this; omega), lz_toInt (by omega) (by omega), lz_toInt (by omega) (by omega), lz_toInt (by omega) (by omega)]
theorem lz_rem {a b : Int} (h1 : -1000000000000000000 ≤ a) (h2 : a ≤ 1000000000000000000) (h3 : -1000000000000000000 ≤ b) (h4 : b ≤ 1000000000000000000) : lz a - lz a / lz b * lz b = lz (a.tmod b) := by
  rw [lz_div h1 h2 h3 h4, lz_mul, lz_sub]
  congr 1
  rw [Int.tmod_def, Int.mul_comm]
theorem is01_i {z : Int} (h : 0 ≤ z) (h2 : z ≤ 1) : is01 (iz z) = True := by
  rcases (show z = 0 ∨ z = 1 by omega) with rfl | rfl
  · exact eq_true (Or.inl rfl)
  · exact eq_true (Or.inr rfl)
theorem lcmp_lt {a b : Int} (h1 : -9223372036854775808 ≤ a) (h2 : a < 9223372036854775808) (h3 : -9223372036854775808 ≤ b) (h4 : b < 9223372036854775808) (h : a < b) : lg_cmp (lz a) (lz b) = iz (-1) := by
  have h5 : ¬ lz b < lz a := by rw [lz_lt h3 h4 h1 h2]; omega
  have h6 : ¬ lz a = lz b := by rw [lz_eq h1 h2 h3 h4]; omega
  unfold lg_cmp
  rw [if_neg h5, if_neg h6]
  rfl
theorem lcmp_eq {a b : Int} (h1 : -9223372036854775808 ≤ a) (h2 : a < 9223372036854775808) (h3 : -9223372036854775808 ≤ b) (h4 : b < 9223372036854775808) (h : a = b) : lg_cmp (lz a) (lz b) = iz 0 := by
  subst h
  have h5 : ¬ lz a < lz a := by rw [lz_lt h3 h4 h1 h2]; omega
  unfold lg_cmp
  rw [if_neg h5, if_pos rfl]
  rfl
theorem lcmp_gt {a b : Int} (h1 : -9223372036854775808 ≤ a) (h2 : a < 9223372036854775808) (h3 : -9223372036854775808 ≤ b) (h4 : b < 9223372036854775808) (h : b < a) : lg_cmp (lz a) (lz b) = iz 1 := by
  have h5 : lz b < lz a := by rw [lz_lt h3 h4 h1 h2]; omega
  unfold lg_cmp
  rw [if_pos h5]
  rfl

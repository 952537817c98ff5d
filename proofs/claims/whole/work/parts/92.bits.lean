/-! FENCES broken, as bits of two longs -/
theorem l_bit {u : Int64} {n : Int} (h1 : 0 ≤ n) (h2 : n < 64) : (u >>> ((iz n).toInt64 &&& 63)) &&& lz 1 = lz (if u.toBitVec.getLsbD n.toNat = true then 1 else 0) := by
  obtain ⟨k, rfl⟩ : ∃ k : Nat, n = (k : Int) := ⟨n.toNat, by omega⟩
  have hk : k < 64 := by omega
  apply Int64.toBitVec_inj.mp
  have e0 : ((u >>> ((iz (k : Int)).toInt64 &&& 63)) &&& lz 1).toBitVec = (u.toBitVec.sshiftRight (((iz (k : Int)).toInt64 &&& 63).toBitVec.smod 64).toNat) &&& 1#64 := rfl
  have e1 : (((iz (k : Int)).toInt64 &&& 63).toBitVec.smod 64).toNat = k := by
    have : ∀ k : Nat, k < 64 → (((iz (k : Int)).toInt64 &&& 63).toBitVec.smod 64).toNat = k := by decide
    exact this k hk
  rw [e0, e1, Int.toNat_natCast]
  apply BitVec.eq_of_getLsbD_eq
  intro i hi
  rw [BitVec.getLsbD_and, BitVec.getLsbD_sshiftRight]
  have e2 : (1#64).getLsbD i = decide (i = 0) := by
    have : ∀ i : Nat, i < 64 → (1#64).getLsbD i = decide (i = 0) := by decide
    exact this i hi
  rw [e2]
  by_cases i0 : i = 0
  · subst i0
    by_cases b : u.toBitVec.getLsbD k = true
    · rw [if_pos b, Nat.add_zero, if_pos hk, b]
      rfl
    · rw [if_neg b, Nat.add_zero, if_pos hk]
      have b : u.toBitVec.getLsbD k = false := by
        cases hb : u.toBitVec.getLsbD k with
        | true => exact absurd hb b
        | false => rfl
      rw [b]
      rfl
  · have e3 : (lz (if u.toBitVec.getLsbD k = true then 1 else 0)).toBitVec.getLsbD i = false := by
      by_cases b : u.toBitVec.getLsbD k = true
      · rw [if_pos b]
        show (1#64).getLsbD i = false
        rw [e2]
        exact decide_eq_false i0
      · rw [if_neg b]
        show (0#64).getLsbD i = false
        exact BitVec.getLsbD_zero
    rw [e3, decide_eq_false i0, Bool.and_false]
theorem l_set {u : Int64} {n : Int} {i : Nat} (h1 : 0 ≤ n) (h2 : n < 64) : (u ||| (lz 1 <<< ((iz n).toInt64 &&& 63))).toBitVec.getLsbD i = (u.toBitVec.getLsbD i || decide (i = n.toNat)) := by
  obtain ⟨k, rfl⟩ : ∃ k : Nat, n = (k : Int) := ⟨n.toNat, by omega⟩
  have hk : k < 64 := by omega
  have e0 : (u ||| (lz 1 <<< ((iz (k : Int)).toInt64 &&& 63))).toBitVec = u.toBitVec ||| ((1#64) <<< (((iz (k : Int)).toInt64 &&& 63).toBitVec.smod 64).toNat) := rfl
  have e1 : (((iz (k : Int)).toInt64 &&& 63).toBitVec.smod 64).toNat = k := by
    have : ∀ k : Nat, k < 64 → (((iz (k : Int)).toInt64 &&& 63).toBitVec.smod 64).toNat = k := by decide
    exact this k hk
  rw [e0, e1, BitVec.getLsbD_or, Int.toNat_natCast]
  congr 1
  rw [BitVec.getLsbD_shiftLeft]
  by_cases e : i = k
  · subst e
    rw [Nat.sub_self]
    have : (1#64).getLsbD 0 = true := rfl
    rw [this]
    simp [hk]
  · rw [decide_eq_false e]
    rcases Nat.lt_or_ge i k with q | q
    · simp [q]
    · have e2 : (1#64).getLsbD (i - k) = false := by
        rcases Nat.lt_or_ge (i - k) 64 with z | z
        · have : ∀ i : Nat, i < 64 → ¬ i = 0 → (1#64).getLsbD i = false := by decide
          exact this _ z (by omega)
        · exact BitVec.getLsbD_of_ge _ _ z
      rw [e2, Bool.and_false]
/-- the FENCE of a CELL is broken for ride r -/
def xbk (M : qMe) (r : Nat) (c : Int) : Prop := (if c < 64 then (mJ M r 14).toBitVec.getLsbD c.toNat else (mJ M r 15).toBitVec.getLsbD (c - 64).toNat) = true
theorem x_hasBroken {d r : Nat} {M : qMe} {c : Int} (h : shp M) (hr : isRide r) (hc : 0 ≤ c ∧ c < 80) : wI (cal (d + 1) 296 [.ref r, .int (iz c)] M) (fun z M1 => M1 = M ∧ ((z = 1 ∧ xbk M r c) ∨ (z = 0 ∧ ¬ xbk M r c))) := by
  refine wI_q (fun P hP => ?_)
  obtain ⟨⟨k1, k2⟩, -⟩ := rideS h hr
  have hN := h.1
  rw [cal_296, gd_t (Nat.le_of_ble_eq_true rfl)]
  change wp (n_296_0 (cal _) [some (.ref r), some (.int (iz c))] [] _) _
  unfold xbk at hP
  by_cases g : c < 64
  · rw [if_pos g] at hP
    have lb := l_bit (u := mJ M r 14) hc.1 g
    rw [lz_i2l (by omega) (by omega)] at lb
    by_cases b : (mJ M r 14).toBitVec.getLsbD c.toNat = true
    · rw [if_pos b] at lb
      simp (disch := first | assumption | decide | omega) only [n_296_0, n_296_48, z_iconst, z_bipush, z_sipush, z_ldc, z_ldcs, z_ldcw, z_ldc2, z_lconst0, z_lconst1, z_null, z_getstatic, z_iload_0, z_iload_1, z_iload_2, z_iload_3, z_iload, z_istore_0, z_istore_1, z_istore_2, z_istore_3, z_istore, z_lload_0, z_lload_1, z_lload_2, z_lload_3, z_lload, z_lstore_0, z_lstore_1, z_lstore_2, z_lstore_3, z_lstore, z_aload_0, z_aload_1, z_aload_2, z_aload_3, z_aload, z_astore_0, z_astore_1, z_astore_2, z_astore_3, z_astore, ald_0, ald_s, z_iinc, qst1_1i, qst2_1i, qst1_1r, qst2_1r, qst1_1u, qst2_1u, qst1_1n, qst2_1n, qst1_1l, qst2_1l, qst1_0, qst2_0, qst1_s, qst2_s, z_iadd, z_isub, z_imul, z_iand, z_ior, z_ixor, z_ishl, z_ishr, z_idiv, z_irem, z_ladd, z_lsub, z_lmul, z_land, z_lor, z_ldiv, z_lrem, z_ineg, z_lshl, z_lshr, z_i2l, z_l2i, z_i2b, z_i2c, z_lcmp, z_dupi, z_dupr, z_popi, z_popr, z_dup2, z_goto, z_get0, z_get1, z_get2, z_get3, z_put0, z_put1, z_put2, z_put2n, z_put3, z_iaload, z_baload, z_laload, z_aaload, z_iastore, z_bastore, z_lastore, z_aastore, z_aastoren, z_arraylength, z_new, z_newarray, z_anewarray, z_multi, z_objinit, z_is0, z_iv0, z_ip0, z_is1, z_iv1, z_ip1, z_is2, z_iv2, z_ip2, z_is3, z_iv3, z_ip3, z_is4, z_iv4, z_ip4, z_is5, z_iv5, z_ip5, z_is6, z_iv6, z_ip6, z_is7, z_iv7, z_ip7, z_m991, z_m992, z_m993, z_m994, z_m995, z_m996, z_m998, acal_0, acal_1, acal_2, acal_3, acal_4, aK_v, aK_n, sF_c, sF_n, b_nr, b_nn, r_I, r_Z, r_L, r_A, r_V, sw_F, sw_n, gd_tt, is01_bzT, is01_0, is01_1, qrv_s, qrv_n, bi_eq_t, bi_eq_f, bi_ne_t, bi_ne_f, bi_lt_t, bi_lt_f, bi_ge_t, bi_ge_f, bi_gt_t, bi_gt_f, bi_le_t, bi_le_f, bc_eq_t, bc_eq_f, bc_ne_t, bc_ne_f, bc_lt_t, bc_lt_f, bc_ge_t, bc_ge_f, bc_gt_t, bc_gt_f, bc_le_t, bc_le_f, bb_eq_t, bb_eq_f, bb_ne_t, bb_ne_f, sc_t, sc_f, b_nr, b_nn, mI_J, mI_R, mJ_I, mJ_R, mR_I, mR_J, mK_I, mK_J, mK_R, mN_I, mN_J, mN_R, inM_I, inM_J, inM_R, mZ_nc, mZ_nk, mZ_sm, mZ_J, mZ_R, mJ_nc, mJ_ni, mJ_sm, mI_Z, iz_add, iz_sub, iz_mul, iz_neg, iz_lt, iz_le, iz_eq, iz_clamp, iz_inB, iz_div, iz_rem, shK h, shR h, inM_lit, and_self, true_and, and_true, true_or, or_true, not_true_eq_false, not_false_eq_true, Nat.reduceEqDiff, reduceCtorEq, Int.reduceNeg, Int.reduceSub, Int.reduceAdd, Int.reduceMul, Int.reduceToNat, Int.reduceEq, Int.neg_neg, Int.cast_ofNat_Int, Nat.reduceAdd, Nat.reduceMul, Nat.reduceSub, gd_t, emod_r, iz_0, Int.zero_add, Int.add_zero, wp_some, lz_add, lz_sub, lz_mul, lz_0, lz_1, lz_of, lz_nz, lz_i2l, lz_l2i, lz_rem, lz_div, is01_i, lcmp_lt, lcmp_eq, lcmp_gt, k1, k2, lb]
      exact hP 1 M ⟨rfl, Or.inl ⟨rfl, b⟩⟩
    · rw [if_neg b] at lb
      simp (disch := first | assumption | decide | omega) only [n_296_0, n_296_48, z_iconst, z_bipush, z_sipush, z_ldc, z_ldcs, z_ldcw, z_ldc2, z_lconst0, z_lconst1, z_null, z_getstatic, z_iload_0, z_iload_1, z_iload_2, z_iload_3, z_iload, z_istore_0, z_istore_1, z_istore_2, z_istore_3, z_istore, z_lload_0, z_lload_1, z_lload_2, z_lload_3, z_lload, z_lstore_0, z_lstore_1, z_lstore_2, z_lstore_3, z_lstore, z_aload_0, z_aload_1, z_aload_2, z_aload_3, z_aload, z_astore_0, z_astore_1, z_astore_2, z_astore_3, z_astore, ald_0, ald_s, z_iinc, qst1_1i, qst2_1i, qst1_1r, qst2_1r, qst1_1u, qst2_1u, qst1_1n, qst2_1n, qst1_1l, qst2_1l, qst1_0, qst2_0, qst1_s, qst2_s, z_iadd, z_isub, z_imul, z_iand, z_ior, z_ixor, z_ishl, z_ishr, z_idiv, z_irem, z_ladd, z_lsub, z_lmul, z_land, z_lor, z_ldiv, z_lrem, z_ineg, z_lshl, z_lshr, z_i2l, z_l2i, z_i2b, z_i2c, z_lcmp, z_dupi, z_dupr, z_popi, z_popr, z_dup2, z_goto, z_get0, z_get1, z_get2, z_get3, z_put0, z_put1, z_put2, z_put2n, z_put3, z_iaload, z_baload, z_laload, z_aaload, z_iastore, z_bastore, z_lastore, z_aastore, z_aastoren, z_arraylength, z_new, z_newarray, z_anewarray, z_multi, z_objinit, z_is0, z_iv0, z_ip0, z_is1, z_iv1, z_ip1, z_is2, z_iv2, z_ip2, z_is3, z_iv3, z_ip3, z_is4, z_iv4, z_ip4, z_is5, z_iv5, z_ip5, z_is6, z_iv6, z_ip6, z_is7, z_iv7, z_ip7, z_m991, z_m992, z_m993, z_m994, z_m995, z_m996, z_m998, acal_0, acal_1, acal_2, acal_3, acal_4, aK_v, aK_n, sF_c, sF_n, b_nr, b_nn, r_I, r_Z, r_L, r_A, r_V, sw_F, sw_n, gd_tt, is01_bzT, is01_0, is01_1, qrv_s, qrv_n, bi_eq_t, bi_eq_f, bi_ne_t, bi_ne_f, bi_lt_t, bi_lt_f, bi_ge_t, bi_ge_f, bi_gt_t, bi_gt_f, bi_le_t, bi_le_f, bc_eq_t, bc_eq_f, bc_ne_t, bc_ne_f, bc_lt_t, bc_lt_f, bc_ge_t, bc_ge_f, bc_gt_t, bc_gt_f, bc_le_t, bc_le_f, bb_eq_t, bb_eq_f, bb_ne_t, bb_ne_f, sc_t, sc_f, b_nr, b_nn, mI_J, mI_R, mJ_I, mJ_R, mR_I, mR_J, mK_I, mK_J, mK_R, mN_I, mN_J, mN_R, inM_I, inM_J, inM_R, mZ_nc, mZ_nk, mZ_sm, mZ_J, mZ_R, mJ_nc, mJ_ni, mJ_sm, mI_Z, iz_add, iz_sub, iz_mul, iz_neg, iz_lt, iz_le, iz_eq, iz_clamp, iz_inB, iz_div, iz_rem, shK h, shR h, inM_lit, and_self, true_and, and_true, true_or, or_true, not_true_eq_false, not_false_eq_true, Nat.reduceEqDiff, reduceCtorEq, Int.reduceNeg, Int.reduceSub, Int.reduceAdd, Int.reduceMul, Int.reduceToNat, Int.reduceEq, Int.neg_neg, Int.cast_ofNat_Int, Nat.reduceAdd, Nat.reduceMul, Nat.reduceSub, gd_t, emod_r, iz_0, Int.zero_add, Int.add_zero, wp_some, lz_add, lz_sub, lz_mul, lz_0, lz_1, lz_of, lz_nz, lz_i2l, lz_l2i, lz_rem, lz_div, is01_i, lcmp_lt, lcmp_eq, lcmp_gt, k1, k2, lb]
      exact hP 0 M ⟨rfl, Or.inr ⟨rfl, b⟩⟩
  · rw [if_neg g] at hP
    have lb := l_bit (u := mJ M r 15) (n := c - 64) (by omega) (by omega)
    rw [lz_i2l (by omega) (by omega)] at lb
    by_cases b : (mJ M r 15).toBitVec.getLsbD (c - 64).toNat = true
    · rw [if_pos b] at lb
      simp (disch := first | assumption | decide | omega) only [n_296_0, n_296_48, z_iconst, z_bipush, z_sipush, z_ldc, z_ldcs, z_ldcw, z_ldc2, z_lconst0, z_lconst1, z_null, z_getstatic, z_iload_0, z_iload_1, z_iload_2, z_iload_3, z_iload, z_istore_0, z_istore_1, z_istore_2, z_istore_3, z_istore, z_lload_0, z_lload_1, z_lload_2, z_lload_3, z_lload, z_lstore_0, z_lstore_1, z_lstore_2, z_lstore_3, z_lstore, z_aload_0, z_aload_1, z_aload_2, z_aload_3, z_aload, z_astore_0, z_astore_1, z_astore_2, z_astore_3, z_astore, ald_0, ald_s, z_iinc, qst1_1i, qst2_1i, qst1_1r, qst2_1r, qst1_1u, qst2_1u, qst1_1n, qst2_1n, qst1_1l, qst2_1l, qst1_0, qst2_0, qst1_s, qst2_s, z_iadd, z_isub, z_imul, z_iand, z_ior, z_ixor, z_ishl, z_ishr, z_idiv, z_irem, z_ladd, z_lsub, z_lmul, z_land, z_lor, z_ldiv, z_lrem, z_ineg, z_lshl, z_lshr, z_i2l, z_l2i, z_i2b, z_i2c, z_lcmp, z_dupi, z_dupr, z_popi, z_popr, z_dup2, z_goto, z_get0, z_get1, z_get2, z_get3, z_put0, z_put1, z_put2, z_put2n, z_put3, z_iaload, z_baload, z_laload, z_aaload, z_iastore, z_bastore, z_lastore, z_aastore, z_aastoren, z_arraylength, z_new, z_newarray, z_anewarray, z_multi, z_objinit, z_is0, z_iv0, z_ip0, z_is1, z_iv1, z_ip1, z_is2, z_iv2, z_ip2, z_is3, z_iv3, z_ip3, z_is4, z_iv4, z_ip4, z_is5, z_iv5, z_ip5, z_is6, z_iv6, z_ip6, z_is7, z_iv7, z_ip7, z_m991, z_m992, z_m993, z_m994, z_m995, z_m996, z_m998, acal_0, acal_1, acal_2, acal_3, acal_4, aK_v, aK_n, sF_c, sF_n, b_nr, b_nn, r_I, r_Z, r_L, r_A, r_V, sw_F, sw_n, gd_tt, is01_bzT, is01_0, is01_1, qrv_s, qrv_n, bi_eq_t, bi_eq_f, bi_ne_t, bi_ne_f, bi_lt_t, bi_lt_f, bi_ge_t, bi_ge_f, bi_gt_t, bi_gt_f, bi_le_t, bi_le_f, bc_eq_t, bc_eq_f, bc_ne_t, bc_ne_f, bc_lt_t, bc_lt_f, bc_ge_t, bc_ge_f, bc_gt_t, bc_gt_f, bc_le_t, bc_le_f, bb_eq_t, bb_eq_f, bb_ne_t, bb_ne_f, sc_t, sc_f, b_nr, b_nn, mI_J, mI_R, mJ_I, mJ_R, mR_I, mR_J, mK_I, mK_J, mK_R, mN_I, mN_J, mN_R, inM_I, inM_J, inM_R, mZ_nc, mZ_nk, mZ_sm, mZ_J, mZ_R, mJ_nc, mJ_ni, mJ_sm, mI_Z, iz_add, iz_sub, iz_mul, iz_neg, iz_lt, iz_le, iz_eq, iz_clamp, iz_inB, iz_div, iz_rem, shK h, shR h, inM_lit, and_self, true_and, and_true, true_or, or_true, not_true_eq_false, not_false_eq_true, Nat.reduceEqDiff, reduceCtorEq, Int.reduceNeg, Int.reduceSub, Int.reduceAdd, Int.reduceMul, Int.reduceToNat, Int.reduceEq, Int.neg_neg, Int.cast_ofNat_Int, Nat.reduceAdd, Nat.reduceMul, Nat.reduceSub, gd_t, emod_r, iz_0, Int.zero_add, Int.add_zero, wp_some, lz_add, lz_sub, lz_mul, lz_0, lz_1, lz_of, lz_nz, lz_i2l, lz_l2i, lz_rem, lz_div, is01_i, lcmp_lt, lcmp_eq, lcmp_gt, k1, k2, lb]
      exact hP 1 M ⟨rfl, Or.inl ⟨rfl, b⟩⟩
    · rw [if_neg b] at lb
      simp (disch := first | assumption | decide | omega) only [n_296_0, n_296_48, z_iconst, z_bipush, z_sipush, z_ldc, z_ldcs, z_ldcw, z_ldc2, z_lconst0, z_lconst1, z_null, z_getstatic, z_iload_0, z_iload_1, z_iload_2, z_iload_3, z_iload, z_istore_0, z_istore_1, z_istore_2, z_istore_3, z_istore, z_lload_0, z_lload_1, z_lload_2, z_lload_3, z_lload, z_lstore_0, z_lstore_1, z_lstore_2, z_lstore_3, z_lstore, z_aload_0, z_aload_1, z_aload_2, z_aload_3, z_aload, z_astore_0, z_astore_1, z_astore_2, z_astore_3, z_astore, ald_0, ald_s, z_iinc, qst1_1i, qst2_1i, qst1_1r, qst2_1r, qst1_1u, qst2_1u, qst1_1n, qst2_1n, qst1_1l, qst2_1l, qst1_0, qst2_0, qst1_s, qst2_s, z_iadd, z_isub, z_imul, z_iand, z_ior, z_ixor, z_ishl, z_ishr, z_idiv, z_irem, z_ladd, z_lsub, z_lmul, z_land, z_lor, z_ldiv, z_lrem, z_ineg, z_lshl, z_lshr, z_i2l, z_l2i, z_i2b, z_i2c, z_lcmp, z_dupi, z_dupr, z_popi, z_popr, z_dup2, z_goto, z_get0, z_get1, z_get2, z_get3, z_put0, z_put1, z_put2, z_put2n, z_put3, z_iaload, z_baload, z_laload, z_aaload, z_iastore, z_bastore, z_lastore, z_aastore, z_aastoren, z_arraylength, z_new, z_newarray, z_anewarray, z_multi, z_objinit, z_is0, z_iv0, z_ip0, z_is1, z_iv1, z_ip1, z_is2, z_iv2, z_ip2, z_is3, z_iv3, z_ip3, z_is4, z_iv4, z_ip4, z_is5, z_iv5, z_ip5, z_is6, z_iv6, z_ip6, z_is7, z_iv7, z_ip7, z_m991, z_m992, z_m993, z_m994, z_m995, z_m996, z_m998, acal_0, acal_1, acal_2, acal_3, acal_4, aK_v, aK_n, sF_c, sF_n, b_nr, b_nn, r_I, r_Z, r_L, r_A, r_V, sw_F, sw_n, gd_tt, is01_bzT, is01_0, is01_1, qrv_s, qrv_n, bi_eq_t, bi_eq_f, bi_ne_t, bi_ne_f, bi_lt_t, bi_lt_f, bi_ge_t, bi_ge_f, bi_gt_t, bi_gt_f, bi_le_t, bi_le_f, bc_eq_t, bc_eq_f, bc_ne_t, bc_ne_f, bc_lt_t, bc_lt_f, bc_ge_t, bc_ge_f, bc_gt_t, bc_gt_f, bc_le_t, bc_le_f, bb_eq_t, bb_eq_f, bb_ne_t, bb_ne_f, sc_t, sc_f, b_nr, b_nn, mI_J, mI_R, mJ_I, mJ_R, mR_I, mR_J, mK_I, mK_J, mK_R, mN_I, mN_J, mN_R, inM_I, inM_J, inM_R, mZ_nc, mZ_nk, mZ_sm, mZ_J, mZ_R, mJ_nc, mJ_ni, mJ_sm, mI_Z, iz_add, iz_sub, iz_mul, iz_neg, iz_lt, iz_le, iz_eq, iz_clamp, iz_inB, iz_div, iz_rem, shK h, shR h, inM_lit, and_self, true_and, and_true, true_or, or_true, not_true_eq_false, not_false_eq_true, Nat.reduceEqDiff, reduceCtorEq, Int.reduceNeg, Int.reduceSub, Int.reduceAdd, Int.reduceMul, Int.reduceToNat, Int.reduceEq, Int.neg_neg, Int.cast_ofNat_Int, Nat.reduceAdd, Nat.reduceMul, Nat.reduceSub, gd_t, emod_r, iz_0, Int.zero_add, Int.add_zero, wp_some, lz_add, lz_sub, lz_mul, lz_0, lz_1, lz_of, lz_nz, lz_i2l, lz_l2i, lz_rem, lz_div, is01_i, lcmp_lt, lcmp_eq, lcmp_gt, k1, k2, lb]
      exact hP 0 M ⟨rfl, Or.inr ⟨rfl, b⟩⟩
theorem xbk_1 {M : qMe} {r : Nat} {a c : Int} (ha : 0 ≤ a ∧ a < 64) (hc : 0 ≤ c ∧ c < 80) : xbk (qsJ M r 14 (mJ M r 14 ||| lz 1 <<< (lz a &&& 63))) r c ↔ (xbk M r c ∨ c = a) := by
  unfold xbk
  rw [mJ_sm, mJ_ni (by decide), ← lz_i2l (a := a) (by omega) (by omega), l_set ha.1 ha.2]
  by_cases g : c < 64
  · rw [if_pos g, if_pos g, Bool.or_eq_true, decide_eq_true_eq]
    constructor
    · rintro (q | q)
      · exact Or.inl q
      · exact Or.inr (by omega)
    · rintro (q | q)
      · exact Or.inl q
      · exact Or.inr (by omega)
  · rw [if_neg g, if_neg g]
    exact ⟨fun q => Or.inl q, fun q => q.resolve_right (by omega)⟩
theorem xbk_2 {M : qMe} {r : Nat} {a c : Int} (ha : 64 ≤ a ∧ a < 80) (hc : 0 ≤ c ∧ c < 80) : xbk (qsJ M r 15 (mJ M r 15 ||| lz 1 <<< (lz (a - 64) &&& 63))) r c ↔ (xbk M r c ∨ c = a) := by
  unfold xbk
  rw [mJ_sm, mJ_ni (by decide), ← lz_i2l (a := a - 64) (by omega) (by omega), l_set (n := a - 64) (by omega) (by omega)]
  by_cases g : c < 64
  · rw [if_pos g, if_pos g]
    exact ⟨fun q => Or.inl q, fun q => q.resolve_right (by omega)⟩
  · rw [if_neg g, if_neg g, Bool.or_eq_true, decide_eq_true_eq]
    constructor
    · rintro (q | q)
      · exact Or.inl q
      · exact Or.inr (by omega)
    · rintro (q | q)
      · exact Or.inl q
      · exact Or.inr (by omega)
theorem xbk_I {M : qMe} {r i k : Nat} {x : Int32} {c : Int} : xbk (qsI M i k x) r c ↔ xbk M r c := by
  unfold xbk
  rw [mJ_I, mJ_I]
theorem xbk_k {M M1 : qMe} {r : Nat} {c : Int} (h1 : mJ M1 r 14 = mJ M r 14) (h2 : mJ M1 r 15 = mJ M r 15) : xbk M1 r c ↔ xbk M r c := by
  unfold xbk
  rw [h1, h2]
/-- breakAt: the bit, the list -/
theorem x_breakAt {d r : Nat} {M : qMe} {a b : Int} (h : shp M) (hr : isRide r) (ha : 0 ≤ a ∧ a < 80) (hb : mZ M r 7 = b) (b1 : 0 ≤ b ∧ b < 60) : wV (cal (d + 1) 300 [.ref r, .int (iz a)] M) (fun M1 => Fr M M1 (fun i k => (i = r ∧ (k = 7 ∨ k = 14 ∨ k = 15)) ∨ (i = r + 2 ∧ k = b.toNat)) ∧ mZ M1 r 7 = b + 1 ∧ mZ M1 (r + 2) b.toNat = a ∧ ∀ c, 0 ≤ c → c < 80 → (xbk M1 r c ↔ (xbk M r c ∨ c = a))) := by
  refine wV_q (fun P hP => ?_)
  obtain ⟨⟨k1, k2⟩, k3, k4, -, k5, k6, k7⟩ := rideS h hr
  have hN := h.1
  rw [cal_300, gd_t (Nat.le_of_ble_eq_true rfl)]
  change wp (n_300_0 (cal _) [some (.ref r), some (.int (iz a))] [] _) _
  by_cases g : a < 64
  · simp (disch := first | assumption | decide | omega) only [n_300_0, n_300_36, n_300_68, z_iconst, z_bipush, z_sipush, z_ldc, z_ldcs, z_ldcw, z_ldc2, z_lconst0, z_lconst1, z_null, z_getstatic, z_iload_0, z_iload_1, z_iload_2, z_iload_3, z_iload, z_istore_0, z_istore_1, z_istore_2, z_istore_3, z_istore, z_lload_0, z_lload_1, z_lload_2, z_lload_3, z_lload, z_lstore_0, z_lstore_1, z_lstore_2, z_lstore_3, z_lstore, z_aload_0, z_aload_1, z_aload_2, z_aload_3, z_aload, z_astore_0, z_astore_1, z_astore_2, z_astore_3, z_astore, ald_0, ald_s, z_iinc, qst1_1i, qst2_1i, qst1_1r, qst2_1r, qst1_1u, qst2_1u, qst1_1n, qst2_1n, qst1_1l, qst2_1l, qst1_0, qst2_0, qst1_s, qst2_s, z_iadd, z_isub, z_imul, z_iand, z_ior, z_ixor, z_ishl, z_ishr, z_idiv, z_irem, z_ladd, z_lsub, z_lmul, z_land, z_lor, z_ldiv, z_lrem, z_ineg, z_lshl, z_lshr, z_i2l, z_l2i, z_i2b, z_i2c, z_lcmp, z_dupi, z_dupr, z_popi, z_popr, z_dup2, z_goto, z_get0, z_get1, z_get2, z_get3, z_put0, z_put1, z_put2, z_put2n, z_put3, z_iaload, z_baload, z_laload, z_aaload, z_iastore, z_bastore, z_lastore, z_aastore, z_aastoren, z_arraylength, z_new, z_newarray, z_anewarray, z_multi, z_objinit, z_is0, z_iv0, z_ip0, z_is1, z_iv1, z_ip1, z_is2, z_iv2, z_ip2, z_is3, z_iv3, z_ip3, z_is4, z_iv4, z_ip4, z_is5, z_iv5, z_ip5, z_is6, z_iv6, z_ip6, z_is7, z_iv7, z_ip7, z_m991, z_m992, z_m993, z_m994, z_m995, z_m996, z_m998, acal_0, acal_1, acal_2, acal_3, acal_4, aK_v, aK_n, sF_c, sF_n, b_nr, b_nn, r_I, r_Z, r_L, r_A, r_V, sw_F, sw_n, gd_tt, is01_bzT, is01_0, is01_1, qrv_s, qrv_n, bi_eq_t, bi_eq_f, bi_ne_t, bi_ne_f, bi_lt_t, bi_lt_f, bi_ge_t, bi_ge_f, bi_gt_t, bi_gt_f, bi_le_t, bi_le_f, bc_eq_t, bc_eq_f, bc_ne_t, bc_ne_f, bc_lt_t, bc_lt_f, bc_ge_t, bc_ge_f, bc_gt_t, bc_gt_f, bc_le_t, bc_le_f, bb_eq_t, bb_eq_f, bb_ne_t, bb_ne_f, sc_t, sc_f, b_nr, b_nn, mI_J, mI_R, mJ_I, mJ_R, mR_I, mR_J, mK_I, mK_J, mK_R, mN_I, mN_J, mN_R, inM_I, inM_J, inM_R, mZ_nc, mZ_nk, mZ_sm, mZ_J, mZ_R, mJ_nc, mJ_ni, mJ_sm, mI_Z, iz_add, iz_sub, iz_mul, iz_neg, iz_lt, iz_le, iz_eq, iz_clamp, iz_inB, iz_div, iz_rem, shK h, shR h, inM_lit, and_self, true_and, and_true, true_or, or_true, not_true_eq_false, not_false_eq_true, Nat.reduceEqDiff, reduceCtorEq, Int.reduceNeg, Int.reduceSub, Int.reduceAdd, Int.reduceMul, Int.reduceToNat, Int.reduceEq, Int.neg_neg, Int.cast_ofNat_Int, Nat.reduceAdd, Nat.reduceMul, Nat.reduceSub, gd_t, emod_r, iz_0, Int.zero_add, Int.add_zero, wp_some, lz_add, lz_sub, lz_mul, lz_0, lz_1, lz_of, lz_nz, lz_i2l, lz_l2i, lz_rem, lz_div, is01_i, lcmp_lt, lcmp_eq, lcmp_gt, k1, k2, k5, k6, k7, hb]
    refine hP _ ⟨((Fr.rf.J (Or.inl ⟨rfl, by decide⟩)).I (Or.inr ⟨rfl, rfl⟩)).I (Or.inl ⟨rfl, by decide⟩), mZ_sm rfl (by omega) (by omega), ?_, fun c c1 c2 => ?_⟩
    · rw [mZ_nc (by omega), mZ_sm rfl (by omega) (by omega)]
    · rw [xbk_I, xbk_I, xbk_1 ⟨ha.1, g⟩ ⟨c1, c2⟩]
  · simp (disch := first | assumption | decide | omega) only [n_300_0, n_300_36, n_300_68, z_iconst, z_bipush, z_sipush, z_ldc, z_ldcs, z_ldcw, z_ldc2, z_lconst0, z_lconst1, z_null, z_getstatic, z_iload_0, z_iload_1, z_iload_2, z_iload_3, z_iload, z_istore_0, z_istore_1, z_istore_2, z_istore_3, z_istore, z_lload_0, z_lload_1, z_lload_2, z_lload_3, z_lload, z_lstore_0, z_lstore_1, z_lstore_2, z_lstore_3, z_lstore, z_aload_0, z_aload_1, z_aload_2, z_aload_3, z_aload, z_astore_0, z_astore_1, z_astore_2, z_astore_3, z_astore, ald_0, ald_s, z_iinc, qst1_1i, qst2_1i, qst1_1r, qst2_1r, qst1_1u, qst2_1u, qst1_1n, qst2_1n, qst1_1l, qst2_1l, qst1_0, qst2_0, qst1_s, qst2_s, z_iadd, z_isub, z_imul, z_iand, z_ior, z_ixor, z_ishl, z_ishr, z_idiv, z_irem, z_ladd, z_lsub, z_lmul, z_land, z_lor, z_ldiv, z_lrem, z_ineg, z_lshl, z_lshr, z_i2l, z_l2i, z_i2b, z_i2c, z_lcmp, z_dupi, z_dupr, z_popi, z_popr, z_dup2, z_goto, z_get0, z_get1, z_get2, z_get3, z_put0, z_put1, z_put2, z_put2n, z_put3, z_iaload, z_baload, z_laload, z_aaload, z_iastore, z_bastore, z_lastore, z_aastore, z_aastoren, z_arraylength, z_new, z_newarray, z_anewarray, z_multi, z_objinit, z_is0, z_iv0, z_ip0, z_is1, z_iv1, z_ip1, z_is2, z_iv2, z_ip2, z_is3, z_iv3, z_ip3, z_is4, z_iv4, z_ip4, z_is5, z_iv5, z_ip5, z_is6, z_iv6, z_ip6, z_is7, z_iv7, z_ip7, z_m991, z_m992, z_m993, z_m994, z_m995, z_m996, z_m998, acal_0, acal_1, acal_2, acal_3, acal_4, aK_v, aK_n, sF_c, sF_n, b_nr, b_nn, r_I, r_Z, r_L, r_A, r_V, sw_F, sw_n, gd_tt, is01_bzT, is01_0, is01_1, qrv_s, qrv_n, bi_eq_t, bi_eq_f, bi_ne_t, bi_ne_f, bi_lt_t, bi_lt_f, bi_ge_t, bi_ge_f, bi_gt_t, bi_gt_f, bi_le_t, bi_le_f, bc_eq_t, bc_eq_f, bc_ne_t, bc_ne_f, bc_lt_t, bc_lt_f, bc_ge_t, bc_ge_f, bc_gt_t, bc_gt_f, bc_le_t, bc_le_f, bb_eq_t, bb_eq_f, bb_ne_t, bb_ne_f, sc_t, sc_f, b_nr, b_nn, mI_J, mI_R, mJ_I, mJ_R, mR_I, mR_J, mK_I, mK_J, mK_R, mN_I, mN_J, mN_R, inM_I, inM_J, inM_R, mZ_nc, mZ_nk, mZ_sm, mZ_J, mZ_R, mJ_nc, mJ_ni, mJ_sm, mI_Z, iz_add, iz_sub, iz_mul, iz_neg, iz_lt, iz_le, iz_eq, iz_clamp, iz_inB, iz_div, iz_rem, shK h, shR h, inM_lit, and_self, true_and, and_true, true_or, or_true, not_true_eq_false, not_false_eq_true, Nat.reduceEqDiff, reduceCtorEq, Int.reduceNeg, Int.reduceSub, Int.reduceAdd, Int.reduceMul, Int.reduceToNat, Int.reduceEq, Int.neg_neg, Int.cast_ofNat_Int, Nat.reduceAdd, Nat.reduceMul, Nat.reduceSub, gd_t, emod_r, iz_0, Int.zero_add, Int.add_zero, wp_some, lz_add, lz_sub, lz_mul, lz_0, lz_1, lz_of, lz_nz, lz_i2l, lz_l2i, lz_rem, lz_div, is01_i, lcmp_lt, lcmp_eq, lcmp_gt, k1, k2, k5, k6, k7, hb]
    refine hP _ ⟨((Fr.rf.J (Or.inl ⟨rfl, by decide⟩)).I (Or.inr ⟨rfl, rfl⟩)).I (Or.inl ⟨rfl, by decide⟩), mZ_sm rfl (by omega) (by omega), ?_, fun c c1 c2 => ?_⟩
    · rw [mZ_nc (by omega), mZ_sm rfl (by omega) (by omega)]
    · rw [xbk_I, xbk_I, xbk_2 (by omega) ⟨c1, c2⟩]

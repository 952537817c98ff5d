/-! what is ahead of a send, kept on both sides -/
def DRe (t i k : Nat) : Prop := i = 115 + t ∨ i = 132 + t ∨ i = 149 + t ∨ i = 166 + t ∨ (i = 182 ∧ k = t) ∨ (i = 113 ∧ (k = 7 ∨ k = 8))
theorem x_remember {d s t : Nat} {M : qMe} {c : Int} (h : shp M) (hs : mZ M 113 7 = s) (ht : mZ M 113 8 = t) (s1 : s ≤ 8) (t1 : t < 16) (c1 : 0 ≤ c ∧ c ≤ 1279) : wV (cal (d + 1) 306 [.ref 113, .int (iz c)] M) (fun M1 => Dif M M1 (DRe t) ∧ (∀ j : Nat, j < 80 → mZ M1 (115 + t) j = mZ M 12 j) ∧ (∀ j : Nat, j < 8 → mZ M1 (132 + t) j = mZ M 22 j) ∧ (∀ j : Nat, j < 8 → mZ M1 (149 + t) j = mZ M 16 j) ∧ (∀ j : Nat, j < 8 → mZ M1 (166 + t) j = mZ M 17 j) ∧ mZ M1 182 t = c ∧ mZ M1 113 7 = (if s = 8 then 8 else s + 1 : Nat) ∧ mZ M1 113 8 = ((t + 1) % 16 : Nat)) := by
  refine wV_q (fun P hP => ?_)
  have hN := h.1
  have et : ((t : Int) + 1) % 16 = (((t + 1) % 16 : Nat) : Int) := by omega
  obtain ⟨f1, f2⟩ := shR_114 h t1
  obtain ⟨g1, g2⟩ := shR_131 h t1
  obtain ⟨v1, v2⟩ := shR_148 h t1
  obtain ⟨w1, w2⟩ := shR_165 h t1
  have im : ∀ i, 8 ≤ i → i < 513 → inM M i := fun i a b => of_eq_true (inM_lit hN a b)
  have i1 := im (115 + t) (by omega) (by omega)
  have i2 := im (132 + t) (by omega) (by omega)
  have i3 := im (149 + t) (by omega) (by omega)
  have i4 := im (166 + t) (by omega) (by omega)
  have n1 : ¬ 12 = 115 + t := by omega
  have n2 : ¬ 22 = 132 + t := by omega
  have n3 : ¬ 16 = 149 + t := by omega
  have n4 : ¬ 17 = 166 + t := by omega
  have fin : ∀ z : Int, z = (if s = 8 then 8 else s + 1 : Nat) → P none (qsI (qsI (qsI (qcpI (qcpI (qcpI (qcpI M 12 0 (115 + t) 0 80) 22 0 (132 + t) 0 8) 16 0 (149 + t) 0 8) 17 0 (166 + t) 0 8) 182 t (iz c)) 113 8 (iz (((t + 1) % 16 : Nat) : Int))) 113 7 (iz z)) := by
    intro z hz
    have zb : 0 ≤ z ∧ z ≤ 9 := by rw [hz]; split <;> omega
    clear f1 f2 g1 g2 v1 v2 w1 w2 i1 i2 i3 i4 im
    refine hP _ ⟨((((((Dif.rfl'.cp (fun j => by unfold DRe; omega)).cp (fun j => by unfold DRe; omega)).cp (fun j => by unfold DRe; omega)).cp (fun j => by unfold DRe; omega)).I (by unfold DRe; omega)).I (by unfold DRe; omega)).I (by unfold DRe; omega), fun j q => ?_, fun j q => ?_, fun j q => ?_, fun j q => ?_, ?_, ?_, ?_⟩
    · simp (disch := omega) only [mZ_nc, mZ_cpn, mZ_cps]
    · simp (disch := omega) only [mZ_nc, mZ_cpn, mZ_cps]
    · simp (disch := omega) only [mZ_nc, mZ_cpn, mZ_cps]
    · simp (disch := omega) only [mZ_nc, mZ_cpn, mZ_cps]
    · simp (disch := first | decide | omega) only [mZ_nc, mZ_sm]
    · simp (disch := first | decide | omega) only [mZ_sm]; exact hz
    · simp (disch := first | decide | omega) only [mZ_nk, mZ_sm]
  rw [cal_306, gd_t (Nat.le_of_ble_eq_true rfl)]
  change wp (n_306_0 (cal _) [some (.ref 113), some (.int (iz c))] [] _) _
  by_cases s8 : s = 8
  · have z := fin 8 (by rw [if_pos s8]; rfl)
    simp (disch := first | assumption | decide | omega) only [n_306_0, z_iconst, z_bipush, z_sipush, z_ldc, z_ldcs, z_ldcw, z_ldc2, z_lconst0, z_lconst1, z_null, z_getstatic, z_iload_0, z_iload_1, z_iload_2, z_iload_3, z_iload, z_istore_0, z_istore_1, z_istore_2, z_istore_3, z_istore, z_lload_0, z_lload_1, z_lload_2, z_lload_3, z_lload, z_lstore_0, z_lstore_1, z_lstore_2, z_lstore_3, z_lstore, z_aload_0, z_aload_1, z_aload_2, z_aload_3, z_aload, z_astore_0, z_astore_1, z_astore_2, z_astore_3, z_astore, ald_0, ald_s, z_iinc, qst1_1i, qst2_1i, qst1_1r, qst2_1r, qst1_1u, qst2_1u, qst1_1n, qst2_1n, qst1_1l, qst2_1l, qst1_0, qst2_0, qst1_s, qst2_s, z_iadd, z_isub, z_imul, z_iand, z_ior, z_ixor, z_ishl, z_ishr, z_idiv, z_irem, z_ladd, z_lsub, z_lmul, z_land, z_lor, z_ldiv, z_lrem, z_ineg, z_lshl, z_lshr, z_i2l, z_l2i, z_i2b, z_i2c, z_lcmp, z_dupi, z_dupr, z_popi, z_popr, z_dup2, z_goto, z_get0, z_get1, z_get2, z_get3, z_put0, z_put1, z_put2, z_put2n, z_put3, z_iaload, z_baload, z_laload, z_aaload, z_iastore, z_bastore, z_lastore, z_aastore, z_aastoren, z_arraylength, z_new, z_newarray, z_anewarray, z_multi, z_objinit, z_is0, z_iv0, z_ip0, z_is1, z_iv1, z_ip1, z_is2, z_iv2, z_ip2, z_is3, z_iv3, z_ip3, z_is4, z_iv4, z_ip4, z_is5, z_iv5, z_ip5, z_is6, z_iv6, z_ip6, z_is7, z_iv7, z_ip7, z_m991, z_m992, z_m993, z_m994, z_m995, z_m996, z_m998, acal_0, acal_1, acal_2, acal_3, acal_4, aK_v, aK_n, sF_c, sF_n, b_nr, b_nn, r_I, r_Z, r_L, r_A, r_V, sw_F, sw_n, gd_tt, is01_bzT, is01_0, is01_1, qrv_s, qrv_n, bi_eq_t, bi_eq_f, bi_ne_t, bi_ne_f, bi_lt_t, bi_lt_f, bi_ge_t, bi_ge_f, bi_gt_t, bi_gt_f, bi_le_t, bi_le_f, bc_eq_t, bc_eq_f, bc_ne_t, bc_ne_f, bc_lt_t, bc_lt_f, bc_ge_t, bc_ge_f, bc_gt_t, bc_gt_f, bc_le_t, bc_le_f, bb_eq_t, bb_eq_f, bb_ne_t, bb_ne_f, sc_t, sc_f, b_nr, b_nn, mI_J, mI_R, mJ_I, mJ_R, mR_I, mR_J, mK_I, mK_J, mK_R, mN_I, mN_J, mN_R, inM_I, inM_J, inM_R, mZ_nc, mZ_nk, mZ_sm, mZ_J, mZ_R, mJ_nc, mJ_ni, mJ_sm, mI_Z, iz_add, iz_sub, iz_mul, iz_neg, iz_lt, iz_le, iz_eq, iz_clamp, iz_inB, iz_div, iz_rem, shK h, shR h, inM_lit, and_self, true_and, and_true, true_or, or_true, not_true_eq_false, not_false_eq_true, Nat.reduceEqDiff, reduceCtorEq, Int.reduceNeg, Int.reduceSub, Int.reduceAdd, Int.reduceMul, Int.reduceToNat, Int.reduceEq, Int.neg_neg, Int.cast_ofNat_Int, Nat.reduceAdd, Nat.reduceMul, Nat.reduceSub, gd_t, emod_r, iz_0, Int.zero_add, Int.add_zero, wp_some, hs, ht, et, mK_cp, mR_cp, inM_cp, mI_cpZ, mZ_cpn, Int.reduceLE, List.length_nil, Nat.zero_le, Nat.le_refl, Int.toNat_natCast, f1, f2, g1, g2, v1, v2, w1, w2, i1, i2, i3, i4, n1, n2, n3, n4, if_pos, if_neg]
    exact z
  · have z := fin ((s : Int) + 1) (by rw [if_neg s8]; omega)
    have sl : s < 8 := by omega
    simp (disch := first | assumption | decide | omega) only [n_306_0, z_iconst, z_bipush, z_sipush, z_ldc, z_ldcs, z_ldcw, z_ldc2, z_lconst0, z_lconst1, z_null, z_getstatic, z_iload_0, z_iload_1, z_iload_2, z_iload_3, z_iload, z_istore_0, z_istore_1, z_istore_2, z_istore_3, z_istore, z_lload_0, z_lload_1, z_lload_2, z_lload_3, z_lload, z_lstore_0, z_lstore_1, z_lstore_2, z_lstore_3, z_lstore, z_aload_0, z_aload_1, z_aload_2, z_aload_3, z_aload, z_astore_0, z_astore_1, z_astore_2, z_astore_3, z_astore, ald_0, ald_s, z_iinc, qst1_1i, qst2_1i, qst1_1r, qst2_1r, qst1_1u, qst2_1u, qst1_1n, qst2_1n, qst1_1l, qst2_1l, qst1_0, qst2_0, qst1_s, qst2_s, z_iadd, z_isub, z_imul, z_iand, z_ior, z_ixor, z_ishl, z_ishr, z_idiv, z_irem, z_ladd, z_lsub, z_lmul, z_land, z_lor, z_ldiv, z_lrem, z_ineg, z_lshl, z_lshr, z_i2l, z_l2i, z_i2b, z_i2c, z_lcmp, z_dupi, z_dupr, z_popi, z_popr, z_dup2, z_goto, z_get0, z_get1, z_get2, z_get3, z_put0, z_put1, z_put2, z_put2n, z_put3, z_iaload, z_baload, z_laload, z_aaload, z_iastore, z_bastore, z_lastore, z_aastore, z_aastoren, z_arraylength, z_new, z_newarray, z_anewarray, z_multi, z_objinit, z_is0, z_iv0, z_ip0, z_is1, z_iv1, z_ip1, z_is2, z_iv2, z_ip2, z_is3, z_iv3, z_ip3, z_is4, z_iv4, z_ip4, z_is5, z_iv5, z_ip5, z_is6, z_iv6, z_ip6, z_is7, z_iv7, z_ip7, z_m991, z_m992, z_m993, z_m994, z_m995, z_m996, z_m998, acal_0, acal_1, acal_2, acal_3, acal_4, aK_v, aK_n, sF_c, sF_n, b_nr, b_nn, r_I, r_Z, r_L, r_A, r_V, sw_F, sw_n, gd_tt, is01_bzT, is01_0, is01_1, qrv_s, qrv_n, bi_eq_t, bi_eq_f, bi_ne_t, bi_ne_f, bi_lt_t, bi_lt_f, bi_ge_t, bi_ge_f, bi_gt_t, bi_gt_f, bi_le_t, bi_le_f, bc_eq_t, bc_eq_f, bc_ne_t, bc_ne_f, bc_lt_t, bc_lt_f, bc_ge_t, bc_ge_f, bc_gt_t, bc_gt_f, bc_le_t, bc_le_f, bb_eq_t, bb_eq_f, bb_ne_t, bb_ne_f, sc_t, sc_f, b_nr, b_nn, mI_J, mI_R, mJ_I, mJ_R, mR_I, mR_J, mK_I, mK_J, mK_R, mN_I, mN_J, mN_R, inM_I, inM_J, inM_R, mZ_nc, mZ_nk, mZ_sm, mZ_J, mZ_R, mJ_nc, mJ_ni, mJ_sm, mI_Z, iz_add, iz_sub, iz_mul, iz_neg, iz_lt, iz_le, iz_eq, iz_clamp, iz_inB, iz_div, iz_rem, shK h, shR h, inM_lit, and_self, true_and, and_true, true_or, or_true, not_true_eq_false, not_false_eq_true, Nat.reduceEqDiff, reduceCtorEq, Int.reduceNeg, Int.reduceSub, Int.reduceAdd, Int.reduceMul, Int.reduceToNat, Int.reduceEq, Int.neg_neg, Int.cast_ofNat_Int, Nat.reduceAdd, Nat.reduceMul, Nat.reduceSub, gd_t, emod_r, iz_0, Int.zero_add, Int.add_zero, wp_some, hs, ht, et, mK_cp, mR_cp, inM_cp, mI_cpZ, mZ_cpn, Int.reduceLE, List.length_nil, Nat.zero_le, Nat.le_refl, Int.toNat_natCast, f1, f2, g1, g2, v1, v2, w1, w2, i1, i2, i3, i4, n1, n2, n3, n4, if_pos, if_neg]
    exact z

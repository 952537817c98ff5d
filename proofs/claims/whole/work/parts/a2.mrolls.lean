/-! m's begins, rolls -/
def qst (cell d s : Int) (bk : Int → Prop) : RQ := (cell, d, s, 0, -1, bk, [], [cell])
theorem qst_I {cell d s : Int} {bk : Int → Prop} (c1 : 0 ≤ cell ∧ cell < 80) (d1 : 0 ≤ d ∧ d ≤ 3) (s1 : 0 ≤ s ∧ s ≤ 99) : QI (qst cell d s bk) := by
  refine ⟨?_, d1, s1, ?_, ?_, fun _ => ?_, ?_, ?_, ?_, fun q => ?_⟩
  · show 0 ≤ cell ∧ cell < 108; omega
  · show 0 ≤ (0 : Int) ∧ (0 : Int) ≤ 60; omega
  · show -1 ≤ (-1 : Int) ∧ (-1 : Int) ≤ 4; omega
  · show cell < 80 ∧ (0 : Int) < 60; omega
  · show ((0 : Nat) : Int) ≤ 0; omega
  · show ((1 : Nat) : Int) = 0 + 1; omega
  · rfl
  · have q : (-1 : Int) = 2 := q; omega
def DBe (i k : Nat) : Prop := (i = 479 ∧ (k = 31 ∨ k = 32 ∨ k = 33 ∨ k = 34 ∨ k = 35 ∨ k = 36 ∨ k = 37)) ∨ i = 492 ∨ i = 495
theorem m_begins {d : Nat} {M : qMe} {cell dir s : Int} (h : shp M) (hb : ∀ c : Int, 0 ≤ c → c < 80 → mZ M 493 c.toNat = 0 ∨ mZ M 493 c.toNat = 1) (c1 : 0 ≤ cell ∧ cell < 80) : wV (cal (d + 1) 150 [.ref 479, .int (iz cell), .int (iz dir), .int (iz s)] M) (fun M1 => Dif M M1 DBe ∧ ((0 ≤ dir ∧ dir ≤ 3) → (0 ≤ s ∧ s ≤ 99) → MX M1 (qst cell dir s (fun c => mZ M 493 c.toNat = 1)) 0)) := by
  refine wV_q (fun P hP => ?_)
  have hN := h.1
  rw [cal_150, gd_t (Nat.le_of_ble_eq_true rfl)]
  change wp (n_150_0 (cal _) [some (.ref 479), some (.int (iz cell)), some (.int (iz dir)), some (.int (iz s)), none] [] _) _
  simp (disch := first | assumption | decide | omega) only [n_150_0, n_150_72, n_150_45, z_iconst, z_bipush, z_sipush, z_ldc, z_ldcs, z_ldcw, z_ldc2, z_lconst0, z_lconst1, z_null, z_getstatic, z_iload_0, z_iload_1, z_iload_2, z_iload_3, z_iload, z_istore_0, z_istore_1, z_istore_2, z_istore_3, z_istore, z_lload_0, z_lload_1, z_lload_2, z_lload_3, z_lload, z_lstore_0, z_lstore_1, z_lstore_2, z_lstore_3, z_lstore, z_aload_0, z_aload_1, z_aload_2, z_aload_3, z_aload, z_astore_0, z_astore_1, z_astore_2, z_astore_3, z_astore, ald_0, ald_s, z_iinc, qst1_1i, qst2_1i, qst1_1r, qst2_1r, qst1_1u, qst2_1u, qst1_1n, qst2_1n, qst1_1l, qst2_1l, qst1_0, qst2_0, qst1_s, qst2_s, z_iadd, z_isub, z_imul, z_iand, z_ior, z_ixor, z_ishl, z_ishr, z_idiv, z_irem, z_ladd, z_lsub, z_lmul, z_land, z_lor, z_ldiv, z_lrem, z_ineg, z_lshl, z_lshr, z_i2l, z_l2i, z_i2b, z_i2c, z_lcmp, z_dupi, z_dupr, z_popi, z_popr, z_dup2, z_goto, z_get0, z_get1, z_get2, z_get3, z_put0, z_put1, z_put2, z_put2n, z_put3, z_iaload, z_baload, z_laload, z_aaload, z_iastore, z_bastore, z_lastore, z_aastore, z_aastoren, z_arraylength, z_new, z_newarray, z_anewarray, z_multi, z_objinit, z_is0, z_iv0, z_ip0, z_is1, z_iv1, z_ip1, z_is2, z_iv2, z_ip2, z_is3, z_iv3, z_ip3, z_is4, z_iv4, z_ip4, z_is5, z_iv5, z_ip5, z_is6, z_iv6, z_ip6, z_is7, z_iv7, z_ip7, z_m991, z_m992, z_m993, z_m994, z_m995, z_m996, z_m998, acal_0, acal_1, acal_2, acal_3, acal_4, aK_v, aK_n, sF_c, sF_n, b_nr, b_nn, r_I, r_Z, r_L, r_A, r_V, sw_F, sw_n, gd_tt, is01_bzT, is01_0, is01_1, qrv_s, qrv_n, bi_eq_t, bi_eq_f, bi_ne_t, bi_ne_f, bi_lt_t, bi_lt_f, bi_ge_t, bi_ge_f, bi_gt_t, bi_gt_f, bi_le_t, bi_le_f, bc_eq_t, bc_eq_f, bc_ne_t, bc_ne_f, bc_lt_t, bc_lt_f, bc_ge_t, bc_ge_f, bc_gt_t, bc_gt_f, bc_le_t, bc_le_f, bb_eq_t, bb_eq_f, bb_ne_t, bb_ne_f, sc_t, sc_f, b_nr, b_nn, mI_J, mI_R, mJ_I, mJ_R, mR_I, mR_J, mK_I, mK_J, mK_R, mN_I, mN_J, mN_R, inM_I, inM_J, inM_R, mZ_nc, mZ_nk, mZ_sm, mZ_J, mZ_R, mJ_nc, mJ_ni, mJ_sm, mI_Z, iz_add, iz_sub, iz_mul, iz_neg, iz_lt, iz_le, iz_eq, iz_clamp, iz_inB, iz_div, iz_rem, shK h, shR h, inM_lit, and_self, true_and, and_true, true_or, or_true, not_true_eq_false, not_false_eq_true, Nat.reduceEqDiff, reduceCtorEq, Int.reduceNeg, Int.reduceSub, Int.reduceAdd, Int.reduceMul, Int.reduceToNat, Int.reduceEq, Int.neg_neg, Int.cast_ofNat_Int, Nat.reduceAdd, Nat.reduceMul, Nat.reduceSub, gd_t, emod_r, iz_0, Int.zero_add, Int.add_zero, wp_some]
  have D0 : Dif M (qsI (qsI (qsI (qsI (qsI (qsI (qsI (qsI M 479 31 (iz cell)) 479 32 (iz dir)) 479 33 (iz s)) 479 34 (iz 0)) 479 35 (iz (-1))) 479 36 (iz 0)) 479 37 (iz 0)) 495 0 (iz cell)) DBe := (((((((Dif.rfl'.I (by unfold DBe; omega)).I (by unfold DBe; omega)).I (by unfold DBe; omega)).I (by unfold DBe; omega)).I (by unfold DBe; omega)).I (by unfold DBe; omega)).I (by unfold DBe; omega)).I (by unfold DBe; omega)
  generalize hM0 : qsI (qsI (qsI (qsI (qsI (qsI (qsI (qsI M 479 31 (iz cell)) 479 32 (iz dir)) 479 33 (iz s)) 479 34 (iz 0)) 479 35 (iz (-1))) 479 36 (iz 0)) 479 37 (iz 0)) 495 0 (iz cell) = M0 at *
  refine wp_lpq (fun k L M' => ∃ i : Nat, L = [some (.ref 479), some (.int (iz cell)), some (.int (iz dir)), some (.int (iz s)), some (.int (iz (i : Int)))] ∧ i + k = 80 ∧ Dif M0 M' (fun i _ => i = 492) ∧ ∀ j : Nat, j < i → mZ M' 492 j = mZ M 493 j) (k := 80) ⟨0, rfl, rfl, Dif.rfl', fun j hj => by omega⟩ (by decide) ?_
  rintro k L M' g ⟨i, rfl, hik, hD, hdo⟩ hg2
  have hDM : Dif M M' DBe := D0.tr (hD.mono (fun i k q => by unfold DBe; omega))
  have h := hDM.shp h (fun i k hi => by unfold DBe; omega)
  have hN := h.1
  by_cases i8 : i = 80
  · subst i8
    simp (disch := first | assumption | decide | omega) only [n_150_0, n_150_72, f_150_45, z_iconst, z_bipush, z_sipush, z_ldc, z_ldcs, z_ldcw, z_ldc2, z_lconst0, z_lconst1, z_null, z_getstatic, z_iload_0, z_iload_1, z_iload_2, z_iload_3, z_iload, z_istore_0, z_istore_1, z_istore_2, z_istore_3, z_istore, z_lload_0, z_lload_1, z_lload_2, z_lload_3, z_lload, z_lstore_0, z_lstore_1, z_lstore_2, z_lstore_3, z_lstore, z_aload_0, z_aload_1, z_aload_2, z_aload_3, z_aload, z_astore_0, z_astore_1, z_astore_2, z_astore_3, z_astore, ald_0, ald_s, z_iinc, qst1_1i, qst2_1i, qst1_1r, qst2_1r, qst1_1u, qst2_1u, qst1_1n, qst2_1n, qst1_1l, qst2_1l, qst1_0, qst2_0, qst1_s, qst2_s, z_iadd, z_isub, z_imul, z_iand, z_ior, z_ixor, z_ishl, z_ishr, z_idiv, z_irem, z_ladd, z_lsub, z_lmul, z_land, z_lor, z_ldiv, z_lrem, z_ineg, z_lshl, z_lshr, z_i2l, z_l2i, z_i2b, z_i2c, z_lcmp, z_dupi, z_dupr, z_popi, z_popr, z_dup2, z_goto, z_get0, z_get1, z_get2, z_get3, z_put0, z_put1, z_put2, z_put2n, z_put3, z_iaload, z_baload, z_laload, z_aaload, z_iastore, z_bastore, z_lastore, z_aastore, z_aastoren, z_arraylength, z_new, z_newarray, z_anewarray, z_multi, z_objinit, z_is0, z_iv0, z_ip0, z_is1, z_iv1, z_ip1, z_is2, z_iv2, z_ip2, z_is3, z_iv3, z_ip3, z_is4, z_iv4, z_ip4, z_is5, z_iv5, z_ip5, z_is6, z_iv6, z_ip6, z_is7, z_iv7, z_ip7, z_m991, z_m992, z_m993, z_m994, z_m995, z_m996, z_m998, acal_0, acal_1, acal_2, acal_3, acal_4, aK_v, aK_n, sF_c, sF_n, b_nr, b_nn, r_I, r_Z, r_L, r_A, r_V, sw_F, sw_n, gd_tt, is01_bzT, is01_0, is01_1, qrv_s, qrv_n, bi_eq_t, bi_eq_f, bi_ne_t, bi_ne_f, bi_lt_t, bi_lt_f, bi_ge_t, bi_ge_f, bi_gt_t, bi_gt_f, bi_le_t, bi_le_f, bc_eq_t, bc_eq_f, bc_ne_t, bc_ne_f, bc_lt_t, bc_lt_f, bc_ge_t, bc_ge_f, bc_gt_t, bc_gt_f, bc_le_t, bc_le_f, bb_eq_t, bb_eq_f, bb_ne_t, bb_ne_f, sc_t, sc_f, b_nr, b_nn, mI_J, mI_R, mJ_I, mJ_R, mR_I, mR_J, mK_I, mK_J, mK_R, mN_I, mN_J, mN_R, inM_I, inM_J, inM_R, mZ_nc, mZ_nk, mZ_sm, mZ_J, mZ_R, mJ_nc, mJ_ni, mJ_sm, mI_Z, iz_add, iz_sub, iz_mul, iz_neg, iz_lt, iz_le, iz_eq, iz_clamp, iz_inB, iz_div, iz_rem, shK h, shR h, inM_lit, and_self, true_and, and_true, true_or, or_true, not_true_eq_false, not_false_eq_true, Nat.reduceEqDiff, reduceCtorEq, Int.reduceNeg, Int.reduceSub, Int.reduceAdd, Int.reduceMul, Int.reduceToNat, Int.reduceEq, Int.neg_neg, Int.cast_ofNat_Int, Nat.reduceAdd, Nat.reduceMul, Nat.reduceSub, gd_t, emod_r, iz_0, Int.zero_add, Int.add_zero, wp_some]
    refine hP M' ⟨hDM, fun d1 s1 => ?_⟩
    have e : ∀ k, mZ M' 479 k = mZ M0 479 k := fun k => hD.z (by omega)
    refine ⟨⟨?_, ?_, ?_, ?_, ?_, ?_⟩, fun j x hj => (by cases hj), fun j x hj => ?_, fun c cc1 cc2 => ?_, ?_⟩
    · rw [e, ← hM0]; simp (disch := first | decide | omega) only [mZ_nc, mZ_nk, mZ_sm]; rfl
    · rw [e, ← hM0]; simp (disch := first | decide | omega) only [mZ_nc, mZ_nk, mZ_sm]; rfl
    · rw [e, ← hM0]; simp (disch := first | decide | omega) only [mZ_nc, mZ_nk, mZ_sm]; rfl
    · rw [e, ← hM0]; simp (disch := first | decide | omega) only [mZ_nc, mZ_nk, mZ_sm]; rfl
    · rw [e, ← hM0]; simp (disch := first | decide | omega) only [mZ_nc, mZ_nk, mZ_sm]; rfl
    · rw [e, ← hM0]; simp (disch := first | decide | omega) only [mZ_nc, mZ_nk, mZ_sm]; rfl
    · have hl := lt_of_get hj
      have hl : j < 1 := hl
      obtain rfl : j = 0 := by omega
      have hj : cell = x := Option.some.inj hj
      rw [hD.z (by omega), ← hM0, mZ_sm rfl (by omega) (by omega), hj]
    · have q := hdo c.toNat (by omega)
      unfold mbk
      rw [q]
      exact ⟨hb c cc1 cc2, Iff.rfl⟩
    · rw [e, ← hM0]; simp (disch := first | decide | omega) only [mZ_nc, mZ_nk, mZ_sm]
  · have r1 : mZ M' 493 i = mZ M 493 i := hDM.z (by unfold DBe; omega)
    have b1 := hb (i : Int) (by omega) (by omega)
    rw [Int.toNat_natCast] at b1
    have z : ∀ v : Int, v = mZ M 493 i → (v = 0 ∨ v = 1) → wp (g [some (.ref 479), some (.int (iz cell)), some (.int (iz dir)), some (.int (iz s)), some (.int (iz ((i : Int) + 1)))] [] (qsI M' 492 i (iz v))) P := fun v hv v0 => by
      have := hg2 (k - 1) [some (.ref 479), some (.int (iz cell)), some (.int (iz dir)), some (.int (iz s)), some (.int (iz ((i + 1 : Nat) : Int)))] (qsI M' 492 i (iz v)) (by omega) ⟨i + 1, rfl, by omega, hD.I rfl, fun j hj => by
        by_cases ej : j = i
        · rw [ej, mZ_sm rfl (by omega) (by omega), hv]
        · rw [mZ_nk ej]; exact hdo j (by omega)⟩
      exact this
    rcases b1 with b1 | b1
    · have z := z 0 b1.symm (Or.inl rfl)
      rw [b1] at r1
      simp (disch := first | assumption | decide | omega) only [n_150_0, n_150_72, f_150_45, z_iconst, z_bipush, z_sipush, z_ldc, z_ldcs, z_ldcw, z_ldc2, z_lconst0, z_lconst1, z_null, z_getstatic, z_iload_0, z_iload_1, z_iload_2, z_iload_3, z_iload, z_istore_0, z_istore_1, z_istore_2, z_istore_3, z_istore, z_lload_0, z_lload_1, z_lload_2, z_lload_3, z_lload, z_lstore_0, z_lstore_1, z_lstore_2, z_lstore_3, z_lstore, z_aload_0, z_aload_1, z_aload_2, z_aload_3, z_aload, z_astore_0, z_astore_1, z_astore_2, z_astore_3, z_astore, ald_0, ald_s, z_iinc, qst1_1i, qst2_1i, qst1_1r, qst2_1r, qst1_1u, qst2_1u, qst1_1n, qst2_1n, qst1_1l, qst2_1l, qst1_0, qst2_0, qst1_s, qst2_s, z_iadd, z_isub, z_imul, z_iand, z_ior, z_ixor, z_ishl, z_ishr, z_idiv, z_irem, z_ladd, z_lsub, z_lmul, z_land, z_lor, z_ldiv, z_lrem, z_ineg, z_lshl, z_lshr, z_i2l, z_l2i, z_i2b, z_i2c, z_lcmp, z_dupi, z_dupr, z_popi, z_popr, z_dup2, z_goto, z_get0, z_get1, z_get2, z_get3, z_put0, z_put1, z_put2, z_put2n, z_put3, z_iaload, z_baload, z_laload, z_aaload, z_iastore, z_bastore, z_lastore, z_aastore, z_aastoren, z_arraylength, z_new, z_newarray, z_anewarray, z_multi, z_objinit, z_is0, z_iv0, z_ip0, z_is1, z_iv1, z_ip1, z_is2, z_iv2, z_ip2, z_is3, z_iv3, z_ip3, z_is4, z_iv4, z_ip4, z_is5, z_iv5, z_ip5, z_is6, z_iv6, z_ip6, z_is7, z_iv7, z_ip7, z_m991, z_m992, z_m993, z_m994, z_m995, z_m996, z_m998, acal_0, acal_1, acal_2, acal_3, acal_4, aK_v, aK_n, sF_c, sF_n, b_nr, b_nn, r_I, r_Z, r_L, r_A, r_V, sw_F, sw_n, gd_tt, is01_bzT, is01_0, is01_1, qrv_s, qrv_n, bi_eq_t, bi_eq_f, bi_ne_t, bi_ne_f, bi_lt_t, bi_lt_f, bi_ge_t, bi_ge_f, bi_gt_t, bi_gt_f, bi_le_t, bi_le_f, bc_eq_t, bc_eq_f, bc_ne_t, bc_ne_f, bc_lt_t, bc_lt_f, bc_ge_t, bc_ge_f, bc_gt_t, bc_gt_f, bc_le_t, bc_le_f, bb_eq_t, bb_eq_f, bb_ne_t, bb_ne_f, sc_t, sc_f, b_nr, b_nn, mI_J, mI_R, mJ_I, mJ_R, mR_I, mR_J, mK_I, mK_J, mK_R, mN_I, mN_J, mN_R, inM_I, inM_J, inM_R, mZ_nc, mZ_nk, mZ_sm, mZ_J, mZ_R, mJ_nc, mJ_ni, mJ_sm, mI_Z, iz_add, iz_sub, iz_mul, iz_neg, iz_lt, iz_le, iz_eq, iz_clamp, iz_inB, iz_div, iz_rem, shK h, shR h, inM_lit, and_self, true_and, and_true, true_or, or_true, not_true_eq_false, not_false_eq_true, Nat.reduceEqDiff, reduceCtorEq, Int.reduceNeg, Int.reduceSub, Int.reduceAdd, Int.reduceMul, Int.reduceToNat, Int.reduceEq, Int.neg_neg, Int.cast_ofNat_Int, Nat.reduceAdd, Nat.reduceMul, Nat.reduceSub, gd_t, emod_r, iz_0, Int.zero_add, Int.add_zero, wp_some, r1, vb0, vb1, if_false, if_true, Int.toNat_natCast]
      exact z
    · have z := z 1 b1.symm (Or.inr rfl)
      rw [b1] at r1
      simp (disch := first | assumption | decide | omega) only [n_150_0, n_150_72, f_150_45, z_iconst, z_bipush, z_sipush, z_ldc, z_ldcs, z_ldcw, z_ldc2, z_lconst0, z_lconst1, z_null, z_getstatic, z_iload_0, z_iload_1, z_iload_2, z_iload_3, z_iload, z_istore_0, z_istore_1, z_istore_2, z_istore_3, z_istore, z_lload_0, z_lload_1, z_lload_2, z_lload_3, z_lload, z_lstore_0, z_lstore_1, z_lstore_2, z_lstore_3, z_lstore, z_aload_0, z_aload_1, z_aload_2, z_aload_3, z_aload, z_astore_0, z_astore_1, z_astore_2, z_astore_3, z_astore, ald_0, ald_s, z_iinc, qst1_1i, qst2_1i, qst1_1r, qst2_1r, qst1_1u, qst2_1u, qst1_1n, qst2_1n, qst1_1l, qst2_1l, qst1_0, qst2_0, qst1_s, qst2_s, z_iadd, z_isub, z_imul, z_iand, z_ior, z_ixor, z_ishl, z_ishr, z_idiv, z_irem, z_ladd, z_lsub, z_lmul, z_land, z_lor, z_ldiv, z_lrem, z_ineg, z_lshl, z_lshr, z_i2l, z_l2i, z_i2b, z_i2c, z_lcmp, z_dupi, z_dupr, z_popi, z_popr, z_dup2, z_goto, z_get0, z_get1, z_get2, z_get3, z_put0, z_put1, z_put2, z_put2n, z_put3, z_iaload, z_baload, z_laload, z_aaload, z_iastore, z_bastore, z_lastore, z_aastore, z_aastoren, z_arraylength, z_new, z_newarray, z_anewarray, z_multi, z_objinit, z_is0, z_iv0, z_ip0, z_is1, z_iv1, z_ip1, z_is2, z_iv2, z_ip2, z_is3, z_iv3, z_ip3, z_is4, z_iv4, z_ip4, z_is5, z_iv5, z_ip5, z_is6, z_iv6, z_ip6, z_is7, z_iv7, z_ip7, z_m991, z_m992, z_m993, z_m994, z_m995, z_m996, z_m998, acal_0, acal_1, acal_2, acal_3, acal_4, aK_v, aK_n, sF_c, sF_n, b_nr, b_nn, r_I, r_Z, r_L, r_A, r_V, sw_F, sw_n, gd_tt, is01_bzT, is01_0, is01_1, qrv_s, qrv_n, bi_eq_t, bi_eq_f, bi_ne_t, bi_ne_f, bi_lt_t, bi_lt_f, bi_ge_t, bi_ge_f, bi_gt_t, bi_gt_f, bi_le_t, bi_le_f, bc_eq_t, bc_eq_f, bc_ne_t, bc_ne_f, bc_lt_t, bc_lt_f, bc_ge_t, bc_ge_f, bc_gt_t, bc_gt_f, bc_le_t, bc_le_f, bb_eq_t, bb_eq_f, bb_ne_t, bb_ne_f, sc_t, sc_f, b_nr, b_nn, mI_J, mI_R, mJ_I, mJ_R, mR_I, mR_J, mK_I, mK_J, mK_R, mN_I, mN_J, mN_R, inM_I, inM_J, inM_R, mZ_nc, mZ_nk, mZ_sm, mZ_J, mZ_R, mJ_nc, mJ_ni, mJ_sm, mI_Z, iz_add, iz_sub, iz_mul, iz_neg, iz_lt, iz_le, iz_eq, iz_clamp, iz_inB, iz_div, iz_rem, shK h, shR h, inM_lit, and_self, true_and, and_true, true_or, or_true, not_true_eq_false, not_false_eq_true, Nat.reduceEqDiff, reduceCtorEq, Int.reduceNeg, Int.reduceSub, Int.reduceAdd, Int.reduceMul, Int.reduceToNat, Int.reduceEq, Int.neg_neg, Int.cast_ofNat_Int, Nat.reduceAdd, Nat.reduceMul, Nat.reduceSub, gd_t, emod_r, iz_0, Int.zero_add, Int.add_zero, wp_some, r1, vb0, vb1, if_false, if_true, Int.toNat_natCast]
      exact z
/-- the state behind n tries; sl: in which it slips -/
noncomputable def stN (M : qMe) (w wall : Int) (sl : Nat → Prop) : Nat → RQ → RQ
  | 0, Q => Q
  | n + 1, Q => if qy (stN M w wall sl n Q) = -1 then stepP M w wall (sl n) (stN M w wall sl n Q) else stN M w wall sl n Q
theorem stN_s {M : qMe} {w wall : Int} {sl : Nat → Prop} {Q : RQ} {n : Nat} (h : ¬ qy (stN M w wall sl n Q) = -1) : ∀ k, stN M w wall sl (n + k) Q = stN M w wall sl n Q
  | 0 => rfl
  | k + 1 => by
    show (if qy (stN M w wall sl (n + k) Q) = -1 then _ else stN M w wall sl (n + k) Q) = _
    rw [stN_s h k, if_neg h]
theorem rollP_s {M : qMe} {w wall : Int} : ∀ (k : Nat) (Q : RQ), rollP M w wall (k + 1) Q = (if qy (rollP M w wall k Q) = -1 then stepP M w wall False (rollP M w wall k Q) else rollP M w wall k Q)
  | 0, Q => rfl
  | k + 1, Q => by
    by_cases h : qy Q = -1
    · have e1 : rollP M w wall (k + 1 + 1) Q = rollP M w wall (k + 1) (stepP M w wall False Q) := by
        show (if qy Q = -1 then _ else _) = _
        rw [if_pos h]
      have e2 : rollP M w wall (k + 1) Q = rollP M w wall k (stepP M w wall False Q) := by
        show (if qy Q = -1 then _ else _) = _
        rw [if_pos h]
      rw [e1, e2]
      exact rollP_s k _
    · have e1 : ∀ k, rollP M w wall (k + 1) Q = Q := fun k => by
        show (if qy Q = -1 then _ else _) = _
        rw [if_neg h]
      rw [e1, e1, if_neg h]
theorem rollP_st {M : qMe} {w wall : Int} {sl : Nat → Prop} (hs : ∀ n, ¬ sl n) : ∀ (k : Nat) (Q : RQ), rollP M w wall k Q = stN M w wall sl k Q
  | 0, Q => rfl
  | k + 1, Q => by
    rw [rollP_s k Q, rollP_st hs k Q]
    show _ = (if qy (stN M w wall sl k Q) = -1 then stepP M w wall (sl k) (stN M w wall sl k Q) else stN M w wall sl k Q)
    rw [show sl k = False from eq_false (hs k)]
theorem stN_I {M : qMe} {w wall : Int} {sl : Nat → Prop} {Q : RQ} (hw : WFk M 481 0) (hQ : QI Q) (hn : qn Q = 0) : ∀ n : Nat, QI (stN M w wall sl n Q) ∧ (qy (stN M w wall sl n Q) = -1 → qn (stN M w wall sl n Q) = n)
  | 0 => ⟨hQ, fun _ => hn⟩
  | n + 1 => by
    obtain ⟨i1, i2⟩ := stN_I (w := w) (wall := wall) (sl := sl) hw hQ hn n
    by_cases h : qy (stN M w wall sl n Q) = -1
    · have e : stN M w wall sl (n + 1) Q = stepP M w wall (sl n) (stN M w wall sl n Q) := if_pos h
      rw [e]
      obtain ⟨a1, a2⟩ := addP_I (M := M) (w := w) (wall := wall) (way := wayP M w (sl n) (stN M w wall sl n Q)) (bk := qb (stN M w wall sl n Q)) hw i1 h wayP_b
      refine ⟨a1, fun q => ?_⟩
      rcases a2 with a2 | a2
      · have := i2 h
        show qn (addP _ _) = _
        rw [a2, this]
        omega
      · exact absurd q a2
    · have e : stN M w wall sl (n + 1) Q = stN M w wall sl n Q := if_neg h
      rw [e]
      exact ⟨i1, fun q => absurd q h⟩
theorem stN_60 {M : qMe} {w wall : Int} {sl : Nat → Prop} {Q : RQ} (hw : WFk M 481 0) (hQ : QI Q) (hn : qn Q = 0) : ¬ qy (stN M w wall sl 60 Q) = -1 := fun q => by
  obtain ⟨i1, i2⟩ := stN_I (w := w) (wall := wall) (sl := sl) hw hQ hn 60
  have := i2 q
  have := (i1.2.2.2.2.2.1 q).2
  omega

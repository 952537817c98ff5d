/-! calls that change: what holds behind both sides -/
def SimZ (M : qMe) (d yc ym : Nat) (As : List Value) (Q : qMe → Prop) : Prop := ∃ v M1 M2, cal d yc (.ref 8 :: As) M = some (some (.int v), M1) ∧ cal d ym (.ref 479 :: As) M1 = some (some (.int v), M2) ∧ Q M2
def Drf (i k : Nat) : Prop := (i = 8 ∧ k = 8) ∨ i = 72 ∨ (i = 479 ∧ k = 0) ∨ i = 480
theorem rf_D {M : qMe} {b : Int} : Dif M (mrf (xrf M b) b) Drf := (((Dif.rfl'.I (by unfold Drf; omega)).I (by unfold Drf; omega)).I (by unfold Drf; omega)).I (by unfold Drf; omega)
theorem Drf_a {i k : Nat} (h : Drf i k) : aside i ∨ i = 8 := by unfold Drf at h; unfold aside; omega
theorem rf_all {M : qMe} {b : Int} (hb : isrf b) (hW : Wo M) (hB : Rb M) : Wo (mrf (xrf M b) b) ∧ Rb (mrf (xrf M b) b) ∧ Frm M (mrf (xrf M b) b) Drf := ⟨Wo_k2 hW (Frm.of rf_D) (fun i k q => Drf_a q), (K_rf hb hW.2.1 hW.2.2.1 hB).2.2.1, Frm.of rf_D⟩
theorem Rb_of {M M2 : qMe} (h : Rb M) (h72 : ∀ k, mZ M2 72 k = mZ M 72 k) (h480 : ∀ k, mZ M2 480 k = mZ M 480 k) (s1 : mZ M2 8 8 = mZ M2 479 0) : Rb M2 := by
  unfold Rb at *
  simp only [mI_Z] at *
  rw [s1, h72, h72, h72, h72, h72, h480, h480, h480, h480, h480]
  exact ⟨rfl, h.2⟩
/-- what summer changes -/
def DSz (i k : Nat) : Prop := scr i k ∨ Drf i k ∨ (i = 8 ∧ k = 18) ∨ i = 478 ∨ i = 493 ∨ i = 512 ∨ (i = 479 ∧ k = 68)
theorem DSx_z {i k : Nat} (h : DSx i k) : DSz i k := by
  rcases h with q | q | q | q
  · rcases q with q | q | q | q | q
    · exact Or.inl (Or.inl ⟨by omega, by omega, fun z => by have := z.1; omega⟩)
    · exact Or.inl (Or.inl (by omega))
    · exact Or.inl (Or.inl (by omega))
    · exact Or.inl (Or.inl (by omega))
    · exact Or.inr (Or.inr (Or.inl q))
  · exact Or.inl (Or.inl (by omega))
  · exact Or.inr (Or.inr (Or.inr (Or.inl q)))
  · exact Or.inr (Or.inl (Or.inl q))
theorem DSy_z {i k : Nat} (h : DSy i k) : DSz i k := by
  rcases h with q | q | q | ⟨q1, q | q | q⟩
  · exact Or.inl (DSt_scr q).1
  · exact Or.inr (Or.inr (Or.inr (Or.inr (Or.inl q))))
  · exact Or.inr (Or.inr (Or.inr (Or.inr (Or.inr (Or.inl q)))))
  · exact Or.inl (Or.inr (Or.inr (Or.inl ⟨q1, by omega⟩)))
  · exact Or.inr (Or.inr (Or.inr (Or.inr (Or.inr (Or.inr ⟨q1, q⟩)))))
  · exact Or.inr (Or.inl (Or.inr (Or.inr (Or.inl ⟨q1, q⟩))))
theorem Rid_rf {M M1 : qMe} (hI : Rid M) (hF : Frm M M1 Drf) : Rid M1 := by
  obtain ⟨⟨a1, a2, a3, a4⟩, a5, a6⟩ := hI
  have e : ∀ i k, ¬ Drf i k → mZ M1 i k = mZ M i k := fun i k q => hF.z q
  exact ⟨⟨(e _ _ (by unfold Drf; omega)).trans a1, (e _ _ (by unfold Drf; omega)).trans a2, (e _ _ (by unfold Drf; omega)).trans a3, (e _ _ (by unfold Drf; omega)).trans a4⟩, (e _ _ (by unfold Drf; omega)).trans a5, fun c c1 c2 => (e _ _ (by unfold Drf; omega)).trans (a6 c c1 c2)⟩
theorem c_summer_rf {d : Nat} {M : qMe} {seed n : Int} (h : shp M) (s1 : -2147483648 ≤ seed) (s2 : seed < 2147483648) (n1 : -2147483648 ≤ n) (n2 : n < 2147483648) (g : ¬ ((0 ≤ seed ∧ seed ≤ 1000000) ∧ 1 ≤ n ∧ n ≤ 30)) : cal (d + 2) 42 [.ref 8, .int (iz seed), .int (iz n)] M = some (some (.int (iz (-1))), xrf M (-1)) := by
  have hN := h.1
  have rf := c_refused (d := d) h (Or.inl rfl : isrf (-1))
  refine (cal_42 _ _ _).trans ((gd_t (Nat.le_of_ble_eq_true rfl)).trans ?_)
  change n_42_0 (cal _) [some (.ref 8), some (.int (iz seed)), some (.int (iz n)), none, none] [] _ = _
  by_cases g1 : 0 ≤ seed ∧ seed ≤ 1000000
  · have g2 : ¬ (1 ≤ n ∧ n ≤ 30) := fun q => g ⟨g1, q⟩
    simp (disch := first | assumption | decide | omega) only [n_42_0, n_42_21, n_42_122, n_42_128, f_42_59, z_iconst, z_bipush, z_sipush, z_ldc, z_ldcs, z_ldcw, z_ldc2, z_lconst0, z_lconst1, z_null, z_getstatic, z_iload_0, z_iload_1, z_iload_2, z_iload_3, z_iload, z_istore_0, z_istore_1, z_istore_2, z_istore_3, z_istore, z_lload_0, z_lload_1, z_lload_2, z_lload_3, z_lload, z_lstore_0, z_lstore_1, z_lstore_2, z_lstore_3, z_lstore, z_aload_0, z_aload_1, z_aload_2, z_aload_3, z_aload, z_astore_0, z_astore_1, z_astore_2, z_astore_3, z_astore, ald_0, ald_s, z_iinc, qst1_1i, qst2_1i, qst1_1r, qst2_1r, qst1_1u, qst2_1u, qst1_1n, qst2_1n, qst1_1l, qst2_1l, qst1_0, qst2_0, qst1_s, qst2_s, z_iadd, z_isub, z_imul, z_iand, z_ior, z_ixor, z_ishl, z_ishr, z_idiv, z_irem, z_ladd, z_lsub, z_lmul, z_land, z_lor, z_ldiv, z_lrem, z_ineg, z_lshl, z_lshr, z_i2l, z_l2i, z_i2b, z_i2c, z_lcmp, z_dupi, z_dupr, z_popi, z_popr, z_dup2, z_goto, z_get0, z_get1, z_get2, z_get3, z_put0, z_put1, z_put2, z_put2n, z_put3, z_iaload, z_baload, z_laload, z_aaload, z_iastore, z_bastore, z_lastore, z_aastore, z_aastoren, z_arraylength, z_new, z_newarray, z_anewarray, z_multi, z_objinit, z_is0, z_iv0, z_ip0, z_is1, z_iv1, z_ip1, z_is2, z_iv2, z_ip2, z_is3, z_iv3, z_ip3, z_is4, z_iv4, z_ip4, z_is5, z_iv5, z_ip5, z_is6, z_iv6, z_ip6, z_is7, z_iv7, z_ip7, z_m991, z_m992, z_m993, z_m994, z_m995, z_m996, z_m998, acal_0, acal_1, acal_2, acal_3, acal_4, aK_v, aK_n, sF_c, sF_n, b_nr, b_nn, r_I, r_Z, r_L, r_A, r_V, sw_F, sw_n, gd_tt, is01_bzT, is01_0, is01_1, qrv_s, qrv_n, bi_eq_t, bi_eq_f, bi_ne_t, bi_ne_f, bi_lt_t, bi_lt_f, bi_ge_t, bi_ge_f, bi_gt_t, bi_gt_f, bi_le_t, bi_le_f, bc_eq_t, bc_eq_f, bc_ne_t, bc_ne_f, bc_lt_t, bc_lt_f, bc_ge_t, bc_ge_f, bc_gt_t, bc_gt_f, bc_le_t, bc_le_f, bb_eq_t, bb_eq_f, bb_ne_t, bb_ne_f, sc_t, sc_f, b_nr, b_nn, mI_J, mI_R, mJ_I, mJ_R, mR_I, mR_J, mK_I, mK_J, mK_R, mN_I, mN_J, mN_R, inM_I, inM_J, inM_R, mZ_nc, mZ_nk, mZ_sm, mZ_J, mZ_R, mJ_nc, mJ_ni, mJ_sm, mI_Z, iz_add, iz_sub, iz_mul, iz_neg, iz_lt, iz_le, iz_eq, iz_clamp, iz_inB, iz_div, iz_rem, shK h, shR h, inM_lit, and_self, true_and, and_true, true_or, or_true, not_true_eq_false, not_false_eq_true, Nat.reduceEqDiff, reduceCtorEq, Int.reduceNeg, Int.reduceSub, Int.reduceAdd, Int.reduceMul, Int.reduceToNat, Int.reduceEq, Int.neg_neg, Int.cast_ofNat_Int, Nat.reduceAdd, Nat.reduceMul, Nat.reduceSub, gd_t, emod_r, iz_0, Int.zero_add, Int.add_zero, wp_some, c_within, rf]
  · simp (disch := first | assumption | decide | omega) only [n_42_0, n_42_21, n_42_122, n_42_128, f_42_59, z_iconst, z_bipush, z_sipush, z_ldc, z_ldcs, z_ldcw, z_ldc2, z_lconst0, z_lconst1, z_null, z_getstatic, z_iload_0, z_iload_1, z_iload_2, z_iload_3, z_iload, z_istore_0, z_istore_1, z_istore_2, z_istore_3, z_istore, z_lload_0, z_lload_1, z_lload_2, z_lload_3, z_lload, z_lstore_0, z_lstore_1, z_lstore_2, z_lstore_3, z_lstore, z_aload_0, z_aload_1, z_aload_2, z_aload_3, z_aload, z_astore_0, z_astore_1, z_astore_2, z_astore_3, z_astore, ald_0, ald_s, z_iinc, qst1_1i, qst2_1i, qst1_1r, qst2_1r, qst1_1u, qst2_1u, qst1_1n, qst2_1n, qst1_1l, qst2_1l, qst1_0, qst2_0, qst1_s, qst2_s, z_iadd, z_isub, z_imul, z_iand, z_ior, z_ixor, z_ishl, z_ishr, z_idiv, z_irem, z_ladd, z_lsub, z_lmul, z_land, z_lor, z_ldiv, z_lrem, z_ineg, z_lshl, z_lshr, z_i2l, z_l2i, z_i2b, z_i2c, z_lcmp, z_dupi, z_dupr, z_popi, z_popr, z_dup2, z_goto, z_get0, z_get1, z_get2, z_get3, z_put0, z_put1, z_put2, z_put2n, z_put3, z_iaload, z_baload, z_laload, z_aaload, z_iastore, z_bastore, z_lastore, z_aastore, z_aastoren, z_arraylength, z_new, z_newarray, z_anewarray, z_multi, z_objinit, z_is0, z_iv0, z_ip0, z_is1, z_iv1, z_ip1, z_is2, z_iv2, z_ip2, z_is3, z_iv3, z_ip3, z_is4, z_iv4, z_ip4, z_is5, z_iv5, z_ip5, z_is6, z_iv6, z_ip6, z_is7, z_iv7, z_ip7, z_m991, z_m992, z_m993, z_m994, z_m995, z_m996, z_m998, acal_0, acal_1, acal_2, acal_3, acal_4, aK_v, aK_n, sF_c, sF_n, b_nr, b_nn, r_I, r_Z, r_L, r_A, r_V, sw_F, sw_n, gd_tt, is01_bzT, is01_0, is01_1, qrv_s, qrv_n, bi_eq_t, bi_eq_f, bi_ne_t, bi_ne_f, bi_lt_t, bi_lt_f, bi_ge_t, bi_ge_f, bi_gt_t, bi_gt_f, bi_le_t, bi_le_f, bc_eq_t, bc_eq_f, bc_ne_t, bc_ne_f, bc_lt_t, bc_lt_f, bc_ge_t, bc_ge_f, bc_gt_t, bc_gt_f, bc_le_t, bc_le_f, bb_eq_t, bb_eq_f, bb_ne_t, bb_ne_f, sc_t, sc_f, b_nr, b_nn, mI_J, mI_R, mJ_I, mJ_R, mR_I, mR_J, mK_I, mK_J, mK_R, mN_I, mN_J, mN_R, inM_I, inM_J, inM_R, mZ_nc, mZ_nk, mZ_sm, mZ_J, mZ_R, mJ_nc, mJ_ni, mJ_sm, mI_Z, iz_add, iz_sub, iz_mul, iz_neg, iz_lt, iz_le, iz_eq, iz_clamp, iz_inB, iz_div, iz_rem, shK h, shR h, inM_lit, and_self, true_and, and_true, true_or, or_true, not_true_eq_false, not_false_eq_true, Nat.reduceEqDiff, reduceCtorEq, Int.reduceNeg, Int.reduceSub, Int.reduceAdd, Int.reduceMul, Int.reduceToNat, Int.reduceEq, Int.neg_neg, Int.cast_ofNat_Int, Nat.reduceAdd, Nat.reduceMul, Nat.reduceSub, gd_t, emod_r, iz_0, Int.zero_add, Int.add_zero, wp_some, c_within, rf]
theorem m_summer_rf {d : Nat} {M : qMe} {seed n : Int} (h : shp M) (s1 : -2147483648 ≤ seed) (s2 : seed < 2147483648) (n1 : -2147483648 ≤ n) (n2 : n < 2147483648) (g : ¬ ((0 ≤ seed ∧ seed ≤ 1000000) ∧ 1 ≤ n ∧ n ≤ 30)) : cal (d + 2) 210 [.ref 479, .int (iz seed), .int (iz n)] M = some (some (.int (iz (-1))), mrf M (-1)) := by
  have hN := h.1
  have rf := m_refuses (d := d) h (Or.inl rfl : isrf (-1))
  refine (cal_210 _ _ _).trans ((gd_t (Nat.le_of_ble_eq_true rfl)).trans ?_)
  change n_210_0 (cal _) [some (.ref 479), some (.int (iz seed)), some (.int (iz n)), none, none, none, none, none, none] [] _ = _
  by_cases g1 : 0 ≤ seed ∧ seed ≤ 1000000
  · have g2 : ¬ (1 ≤ n ∧ n ≤ 30) := fun q => g ⟨g1, q⟩
    simp (disch := first | assumption | decide | omega) only [n_210_0, n_210_20, n_210_57, n_210_183, n_210_189, n_210_203, n_210_248, n_210_254, n_210_278, f_210_38, f_210_62, f_210_150, f_210_221, f_210_257, z_iconst, z_bipush, z_sipush, z_ldc, z_ldcs, z_ldcw, z_ldc2, z_lconst0, z_lconst1, z_null, z_getstatic, z_iload_0, z_iload_1, z_iload_2, z_iload_3, z_iload, z_istore_0, z_istore_1, z_istore_2, z_istore_3, z_istore, z_lload_0, z_lload_1, z_lload_2, z_lload_3, z_lload, z_lstore_0, z_lstore_1, z_lstore_2, z_lstore_3, z_lstore, z_aload_0, z_aload_1, z_aload_2, z_aload_3, z_aload, z_astore_0, z_astore_1, z_astore_2, z_astore_3, z_astore, ald_0, ald_s, z_iinc, qst1_1i, qst2_1i, qst1_1r, qst2_1r, qst1_1u, qst2_1u, qst1_1n, qst2_1n, qst1_1l, qst2_1l, qst1_0, qst2_0, qst1_s, qst2_s, z_iadd, z_isub, z_imul, z_iand, z_ior, z_ixor, z_ishl, z_ishr, z_idiv, z_irem, z_ladd, z_lsub, z_lmul, z_land, z_lor, z_ldiv, z_lrem, z_ineg, z_lshl, z_lshr, z_i2l, z_l2i, z_i2b, z_i2c, z_lcmp, z_dupi, z_dupr, z_popi, z_popr, z_dup2, z_goto, z_get0, z_get1, z_get2, z_get3, z_put0, z_put1, z_put2, z_put2n, z_put3, z_iaload, z_baload, z_laload, z_aaload, z_iastore, z_bastore, z_lastore, z_aastore, z_aastoren, z_arraylength, z_new, z_newarray, z_anewarray, z_multi, z_objinit, z_is0, z_iv0, z_ip0, z_is1, z_iv1, z_ip1, z_is2, z_iv2, z_ip2, z_is3, z_iv3, z_ip3, z_is4, z_iv4, z_ip4, z_is5, z_iv5, z_ip5, z_is6, z_iv6, z_ip6, z_is7, z_iv7, z_ip7, z_m991, z_m992, z_m993, z_m994, z_m995, z_m996, z_m998, acal_0, acal_1, acal_2, acal_3, acal_4, aK_v, aK_n, sF_c, sF_n, b_nr, b_nn, r_I, r_Z, r_L, r_A, r_V, sw_F, sw_n, gd_tt, is01_bzT, is01_0, is01_1, qrv_s, qrv_n, bi_eq_t, bi_eq_f, bi_ne_t, bi_ne_f, bi_lt_t, bi_lt_f, bi_ge_t, bi_ge_f, bi_gt_t, bi_gt_f, bi_le_t, bi_le_f, bc_eq_t, bc_eq_f, bc_ne_t, bc_ne_f, bc_lt_t, bc_lt_f, bc_ge_t, bc_ge_f, bc_gt_t, bc_gt_f, bc_le_t, bc_le_f, bb_eq_t, bb_eq_f, bb_ne_t, bb_ne_f, sc_t, sc_f, b_nr, b_nn, mI_J, mI_R, mJ_I, mJ_R, mR_I, mR_J, mK_I, mK_J, mK_R, mN_I, mN_J, mN_R, inM_I, inM_J, inM_R, mZ_nc, mZ_nk, mZ_sm, mZ_J, mZ_R, mJ_nc, mJ_ni, mJ_sm, mI_Z, iz_add, iz_sub, iz_mul, iz_neg, iz_lt, iz_le, iz_eq, iz_clamp, iz_inB, iz_div, iz_rem, shK h, shR h, inM_lit, and_self, true_and, and_true, true_or, or_true, not_true_eq_false, not_false_eq_true, Nat.reduceEqDiff, reduceCtorEq, Int.reduceNeg, Int.reduceSub, Int.reduceAdd, Int.reduceMul, Int.reduceToNat, Int.reduceEq, Int.neg_neg, Int.cast_ofNat_Int, Nat.reduceAdd, Nat.reduceMul, Nat.reduceSub, gd_t, emod_r, iz_0, Int.zero_add, Int.add_zero, wp_some, m_lies, rf]
  · simp (disch := first | assumption | decide | omega) only [n_210_0, n_210_20, n_210_57, n_210_183, n_210_189, n_210_203, n_210_248, n_210_254, n_210_278, f_210_38, f_210_62, f_210_150, f_210_221, f_210_257, z_iconst, z_bipush, z_sipush, z_ldc, z_ldcs, z_ldcw, z_ldc2, z_lconst0, z_lconst1, z_null, z_getstatic, z_iload_0, z_iload_1, z_iload_2, z_iload_3, z_iload, z_istore_0, z_istore_1, z_istore_2, z_istore_3, z_istore, z_lload_0, z_lload_1, z_lload_2, z_lload_3, z_lload, z_lstore_0, z_lstore_1, z_lstore_2, z_lstore_3, z_lstore, z_aload_0, z_aload_1, z_aload_2, z_aload_3, z_aload, z_astore_0, z_astore_1, z_astore_2, z_astore_3, z_astore, ald_0, ald_s, z_iinc, qst1_1i, qst2_1i, qst1_1r, qst2_1r, qst1_1u, qst2_1u, qst1_1n, qst2_1n, qst1_1l, qst2_1l, qst1_0, qst2_0, qst1_s, qst2_s, z_iadd, z_isub, z_imul, z_iand, z_ior, z_ixor, z_ishl, z_ishr, z_idiv, z_irem, z_ladd, z_lsub, z_lmul, z_land, z_lor, z_ldiv, z_lrem, z_ineg, z_lshl, z_lshr, z_i2l, z_l2i, z_i2b, z_i2c, z_lcmp, z_dupi, z_dupr, z_popi, z_popr, z_dup2, z_goto, z_get0, z_get1, z_get2, z_get3, z_put0, z_put1, z_put2, z_put2n, z_put3, z_iaload, z_baload, z_laload, z_aaload, z_iastore, z_bastore, z_lastore, z_aastore, z_aastoren, z_arraylength, z_new, z_newarray, z_anewarray, z_multi, z_objinit, z_is0, z_iv0, z_ip0, z_is1, z_iv1, z_ip1, z_is2, z_iv2, z_ip2, z_is3, z_iv3, z_ip3, z_is4, z_iv4, z_ip4, z_is5, z_iv5, z_ip5, z_is6, z_iv6, z_ip6, z_is7, z_iv7, z_ip7, z_m991, z_m992, z_m993, z_m994, z_m995, z_m996, z_m998, acal_0, acal_1, acal_2, acal_3, acal_4, aK_v, aK_n, sF_c, sF_n, b_nr, b_nn, r_I, r_Z, r_L, r_A, r_V, sw_F, sw_n, gd_tt, is01_bzT, is01_0, is01_1, qrv_s, qrv_n, bi_eq_t, bi_eq_f, bi_ne_t, bi_ne_f, bi_lt_t, bi_lt_f, bi_ge_t, bi_ge_f, bi_gt_t, bi_gt_f, bi_le_t, bi_le_f, bc_eq_t, bc_eq_f, bc_ne_t, bc_ne_f, bc_lt_t, bc_lt_f, bc_ge_t, bc_ge_f, bc_gt_t, bc_gt_f, bc_le_t, bc_le_f, bb_eq_t, bb_eq_f, bb_ne_t, bb_ne_f, sc_t, sc_f, b_nr, b_nn, mI_J, mI_R, mJ_I, mJ_R, mR_I, mR_J, mK_I, mK_J, mK_R, mN_I, mN_J, mN_R, inM_I, inM_J, inM_R, mZ_nc, mZ_nk, mZ_sm, mZ_J, mZ_R, mJ_nc, mJ_ni, mJ_sm, mI_Z, iz_add, iz_sub, iz_mul, iz_neg, iz_lt, iz_le, iz_eq, iz_clamp, iz_inB, iz_div, iz_rem, shK h, shR h, inM_lit, and_self, true_and, and_true, true_or, or_true, not_true_eq_false, not_false_eq_true, Nat.reduceEqDiff, reduceCtorEq, Int.reduceNeg, Int.reduceSub, Int.reduceAdd, Int.reduceMul, Int.reduceToNat, Int.reduceEq, Int.neg_neg, Int.cast_ofNat_Int, Nat.reduceAdd, Nat.reduceMul, Nat.reduceSub, gd_t, emod_r, iz_0, Int.zero_add, Int.add_zero, wp_some, m_lies, rf]
theorem o_summer {d : Nat} {M : qMe} {seed n : Int} (hW : Wo M) (hB : Rb M) (hS : Rs M) (hK : JK M) (hI : Rid M) (he : 0 ≤ mZ M 73 6 ∧ mZ M 73 6 < 15999999) (s1 : -2147483648 ≤ seed) (s2 : seed < 2147483648) (n1 : -2147483648 ≤ n) (n2 : n < 2147483648) : SimZ M (d + 165) 42 210 [.int (iz seed), .int (iz n)] (fun M2 => Wo M2 ∧ Rb M2 ∧ Rs M2 ∧ JK M2 ∧ Rid M2 ∧ Frm M M2 DSz ∧ mZ M2 73 6 ≤ mZ M 73 6 + 1 ∧ mZ M 73 6 ≤ mZ M2 73 6) := by
  have h := hW.1
  have hN := h.1
  by_cases g : (0 ≤ seed ∧ seed ≤ 1000000) ∧ 1 ≤ n ∧ n ≤ 30
  · obtain ⟨z, M1, c0, hz, hF, hW1, hK1, hE, st, hen⟩ := x_summer (d := d + 159) hW hK hI he g.1 g.2
    have k481 : ∀ k, mZ M1 481 k = mZ M 481 k := fun k => hF.z (by unfold DSx DRd; omega)
    have k493 : ∀ k, mZ M1 493 k = mZ M 493 k := fun k => hF.z (by unfold DSx DRd; omega)
    have hI1 : Rid M1 := by
      obtain ⟨⟨a1, a2, a3, a4⟩, a5, a6⟩ := hI
      have e : ∀ i k, ¬ DSx i k → mZ M1 i k = mZ M i k := fun i k q => hF.z q
      exact ⟨⟨(e _ _ (by unfold DSx DRd; omega)).trans a1, (e _ _ (by unfold DSx DRd; omega)).trans a2, (e _ _ (by unfold DSx DRd; omega)).trans a3, (e _ _ (by unfold DSx DRd; omega)).trans a4⟩, (e _ _ (by unfold DSx DRd; omega)).trans a5, fun c c1 c2 => (k493 _).trans (a6 c c1 c2)⟩
    obtain ⟨z2, M2, m0, hz2, hD, st2M, dn, h0, hen2⟩ := m_summer (d := d) hW1 hI1 g.1 g.2
    have en : nSum M1 n = nSum M n := by unfold nSum; rw [k481, k481]
    rw [en, cameN_k k481 k493, ← hz] at hz2
    subst hz2
    have hW2 := Wo_k hW1 (Frm.of hD) (fun i k q => DSy_a q)
    have e2 : ∀ i k, ¬ DSy i k → mZ M2 i k = mZ M1 i k := fun i k q => hD.z q
    have F2 : Frm M M2 DSz := (hF.mono (fun i k q => DSx_z q)).tr ((Frm.of hD).mono (fun i k q => DSy_z q))
    refine ⟨_, M1, M2, c0, m0, hW2, ?_, ?_, ?_, ?_, F2, ?_, ?_⟩
    · refine Rb_of hB (fun k => ?_) (fun k => ?_) ?_
      · rw [e2 _ _ (by unfold DSy DSt DOp DTo; omega), hF.z (by unfold DSx DRd; omega)]
      · rw [e2 _ _ (by unfold DSy DSt DOp DTo; omega), hF.z (by unfold DSx DRd; omega)]
      · rw [e2 _ _ (by unfold DSy DSt DOp DTo; omega), st, st2M]
    · refine ⟨Or.inr dn, fun e a b => ?_⟩
      rw [dn, if_pos rfl, hen2 e a b, e2 _ _ (by unfold DSy DSt DOp DTo; omega), hen e a b, en, endN_k k481 k493]
    · exact JK_k hK1 (Frm.of hD) (fun i k q => by unfold DSy DSt DOp DTo at q; omega)
    · obtain ⟨⟨a1, a2, a3, a4⟩, a5, a6⟩ := hI1
      exact ⟨⟨(e2 _ _ (by unfold DSy DSt DOp DTo; omega)).trans a1, (e2 _ _ (by unfold DSy DSt DOp DTo; omega)).trans a2, (e2 _ _ (by unfold DSy DSt DOp DTo; omega)).trans a3, (e2 _ _ (by unfold DSy DSt DOp DTo; omega)).trans a4⟩, (e2 _ _ (by unfold DSy DSt DOp DTo; omega)).trans a5, h0⟩
    · rw [e2 _ _ (by unfold DSy DSt DOp DTo; omega), hE]; omega
    · rw [e2 _ _ (by unfold DSy DSt DOp DTo; omega), hE]; omega
  · have hx := (xrf_D.shp h DS_8 : shp (xrf M (-1)))
    have hNx := hx.1
    have c0 := c_summer_rf (d := d + 163) h s1 s2 n1 n2 g
    have m0 := m_summer_rf (d := d + 163) hx s1 s2 n1 n2 g
    obtain ⟨w1, w2, w3⟩ := rf_all (M := M) (b := -1) (Or.inl rfl) hW hB
    have e : ∀ i k, ¬ Drf i k → mZ (mrf (xrf M (-1)) (-1)) i k = mZ M i k := fun i k q => w3.z q
    refine ⟨_, _, _, c0, m0, w1, w2, ?_, JK_k hK w3 (fun i k q => by unfold Drf at q; omega), Rid_rf hI w3, w3.mono (fun i k q => Or.inr (Or.inl q)), ?_, ?_⟩
    · unfold Rs at *
      rw [e _ _ (by unfold Drf; omega)]
      refine ⟨hS.1, fun e' a b => ?_⟩
      rw [e _ _ (by unfold Drf; omega), e _ _ (by unfold Drf; omega)]
      exact hS.2 e' a b
    · rw [e _ _ (by unfold Drf; omega)]; omega
    · rw [e _ _ (by unfold Drf; omega)]; omega

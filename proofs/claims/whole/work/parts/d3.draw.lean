/-! summer -/
def dr (s : Int) : Int := (1103 * s + 12345) % 1000003
theorem dr_b {s : Int} : 0 ≤ dr s ∧ dr s < 1000003 := by unfold dr; omega
theorem c_drawOf {d : Nat} {M : qMe} {s m : Int} (h : shp M) (hs : mZ M 8 18 = s) (s1 : 0 ≤ s ∧ s < 1000003) (m1 : 1 ≤ m ∧ m ≤ 100) : cal (d + 1) 53 [.ref 8, .int (iz m)] M = some (some (.int (iz (dr s % m))), qsI M 8 18 (iz (dr s))) := by
  have hN := h.1
  have e : s * 1103 + 12345 = 1103 * s + 12345 := by omega
  have db := dr_b (s := s)
  have e2 : 1103 * s + 12345 - (1103 * s + 12345).tdiv 1000003 * 1000003 = dr s := by
    unfold dr
    rw [Int.tdiv_eq_ediv_of_nonneg (by omega)]
    omega
  refine (cal_53 _ _ _).trans ((gd_t (Nat.le_of_ble_eq_true rfl)).trans ?_)
  change n_53_0 (cal _) [some (.ref 8), some (.int (iz m))] [] _ = _
  simp (disch := first | assumption | decide | omega) only [n_53_0, n_53_36, z_iconst, z_bipush, z_sipush, z_ldc, z_ldcs, z_ldcw, z_ldc2, z_lconst0, z_lconst1, z_null, z_getstatic, z_iload_0, z_iload_1, z_iload_2, z_iload_3, z_iload, z_istore_0, z_istore_1, z_istore_2, z_istore_3, z_istore, z_lload_0, z_lload_1, z_lload_2, z_lload_3, z_lload, z_lstore_0, z_lstore_1, z_lstore_2, z_lstore_3, z_lstore, z_aload_0, z_aload_1, z_aload_2, z_aload_3, z_aload, z_astore_0, z_astore_1, z_astore_2, z_astore_3, z_astore, ald_0, ald_s, z_iinc, qst1_1i, qst2_1i, qst1_1r, qst2_1r, qst1_1u, qst2_1u, qst1_1n, qst2_1n, qst1_1l, qst2_1l, qst1_0, qst2_0, qst1_s, qst2_s, z_iadd, z_isub, z_imul, z_iand, z_ior, z_ixor, z_ishl, z_ishr, z_idiv, z_irem, z_ladd, z_lsub, z_lmul, z_land, z_lor, z_ldiv, z_lrem, z_ineg, z_lshl, z_lshr, z_i2l, z_l2i, z_i2b, z_i2c, z_lcmp, z_dupi, z_dupr, z_popi, z_popr, z_dup2, z_goto, z_get0, z_get1, z_get2, z_get3, z_put0, z_put1, z_put2, z_put2n, z_put3, z_iaload, z_baload, z_laload, z_aaload, z_iastore, z_bastore, z_lastore, z_aastore, z_aastoren, z_arraylength, z_new, z_newarray, z_anewarray, z_multi, z_objinit, z_is0, z_iv0, z_ip0, z_is1, z_iv1, z_ip1, z_is2, z_iv2, z_ip2, z_is3, z_iv3, z_ip3, z_is4, z_iv4, z_ip4, z_is5, z_iv5, z_ip5, z_is6, z_iv6, z_ip6, z_is7, z_iv7, z_ip7, z_m991, z_m992, z_m993, z_m994, z_m995, z_m996, z_m998, acal_0, acal_1, acal_2, acal_3, acal_4, aK_v, aK_n, sF_c, sF_n, b_nr, b_nn, r_I, r_Z, r_L, r_A, r_V, sw_F, sw_n, gd_tt, is01_bzT, is01_0, is01_1, qrv_s, qrv_n, bi_eq_t, bi_eq_f, bi_ne_t, bi_ne_f, bi_lt_t, bi_lt_f, bi_ge_t, bi_ge_f, bi_gt_t, bi_gt_f, bi_le_t, bi_le_f, bc_eq_t, bc_eq_f, bc_ne_t, bc_ne_f, bc_lt_t, bc_lt_f, bc_ge_t, bc_ge_f, bc_gt_t, bc_gt_f, bc_le_t, bc_le_f, bb_eq_t, bb_eq_f, bb_ne_t, bb_ne_f, sc_t, sc_f, b_nr, b_nn, mI_J, mI_R, mJ_I, mJ_R, mR_I, mR_J, mK_I, mK_J, mK_R, mN_I, mN_J, mN_R, inM_I, inM_J, inM_R, mZ_nc, mZ_nk, mZ_sm, mZ_J, mZ_R, mJ_nc, mJ_ni, mJ_sm, mI_Z, iz_add, iz_sub, iz_mul, iz_neg, iz_lt, iz_le, iz_eq, iz_clamp, iz_inB, iz_div, iz_rem, shK h, shR h, inM_lit, and_self, true_and, and_true, true_or, or_true, not_true_eq_false, not_false_eq_true, Nat.reduceEqDiff, reduceCtorEq, Int.reduceNeg, Int.reduceSub, Int.reduceAdd, Int.reduceMul, Int.reduceToNat, Int.reduceEq, Int.neg_neg, Int.cast_ofNat_Int, Nat.reduceAdd, Nat.reduceMul, Nat.reduceSub, gd_t, emod_r, iz_0, Int.zero_add, Int.add_zero, wp_some, lz_add, lz_sub, lz_mul, lz_0, lz_1, lz_of, lz_nz, lz_i2l, lz_l2i, lz_rem, lz_div, is01_i, lcmp_lt, lcmp_eq, lcmp_gt, hs, e, e2]
theorem m_draws {d : Nat} {M : qMe} {s m : Int} (h : shp M) (hs : mZ M 479 69 = s) (s1 : 0 ≤ s ∧ s < 1000003) (m1 : 1 ≤ m ∧ m ≤ 100) : cal (d + 1) 209 [.ref 479, .int (iz m)] M = some (some (.int (iz (dr s % m))), qsI M 479 69 (iz (dr s))) := by
  have hN := h.1
  have db := dr_b (s := s)
  have e2 : 1103 * s + 12345 - (1103 * s + 12345).tdiv 1000003 * 1000003 = dr s := by
    unfold dr
    rw [Int.tdiv_eq_ediv_of_nonneg (by omega)]
    omega
  refine (cal_209 _ _ _).trans ((gd_t (Nat.le_of_ble_eq_true rfl)).trans ?_)
  change n_209_0 (cal _) [some (.ref 479), some (.int (iz m))] [] _ = _
  simp (disch := first | assumption | decide | omega) only [n_209_0, z_iconst, z_bipush, z_sipush, z_ldc, z_ldcs, z_ldcw, z_ldc2, z_lconst0, z_lconst1, z_null, z_getstatic, z_iload_0, z_iload_1, z_iload_2, z_iload_3, z_iload, z_istore_0, z_istore_1, z_istore_2, z_istore_3, z_istore, z_lload_0, z_lload_1, z_lload_2, z_lload_3, z_lload, z_lstore_0, z_lstore_1, z_lstore_2, z_lstore_3, z_lstore, z_aload_0, z_aload_1, z_aload_2, z_aload_3, z_aload, z_astore_0, z_astore_1, z_astore_2, z_astore_3, z_astore, ald_0, ald_s, z_iinc, qst1_1i, qst2_1i, qst1_1r, qst2_1r, qst1_1u, qst2_1u, qst1_1n, qst2_1n, qst1_1l, qst2_1l, qst1_0, qst2_0, qst1_s, qst2_s, z_iadd, z_isub, z_imul, z_iand, z_ior, z_ixor, z_ishl, z_ishr, z_idiv, z_irem, z_ladd, z_lsub, z_lmul, z_land, z_lor, z_ldiv, z_lrem, z_ineg, z_lshl, z_lshr, z_i2l, z_l2i, z_i2b, z_i2c, z_lcmp, z_dupi, z_dupr, z_popi, z_popr, z_dup2, z_goto, z_get0, z_get1, z_get2, z_get3, z_put0, z_put1, z_put2, z_put2n, z_put3, z_iaload, z_baload, z_laload, z_aaload, z_iastore, z_bastore, z_lastore, z_aastore, z_aastoren, z_arraylength, z_new, z_newarray, z_anewarray, z_multi, z_objinit, z_is0, z_iv0, z_ip0, z_is1, z_iv1, z_ip1, z_is2, z_iv2, z_ip2, z_is3, z_iv3, z_ip3, z_is4, z_iv4, z_ip4, z_is5, z_iv5, z_ip5, z_is6, z_iv6, z_ip6, z_is7, z_iv7, z_ip7, z_m991, z_m992, z_m993, z_m994, z_m995, z_m996, z_m998, acal_0, acal_1, acal_2, acal_3, acal_4, aK_v, aK_n, sF_c, sF_n, b_nr, b_nn, r_I, r_Z, r_L, r_A, r_V, sw_F, sw_n, gd_tt, is01_bzT, is01_0, is01_1, qrv_s, qrv_n, bi_eq_t, bi_eq_f, bi_ne_t, bi_ne_f, bi_lt_t, bi_lt_f, bi_ge_t, bi_ge_f, bi_gt_t, bi_gt_f, bi_le_t, bi_le_f, bc_eq_t, bc_eq_f, bc_ne_t, bc_ne_f, bc_lt_t, bc_lt_f, bc_ge_t, bc_ge_f, bc_gt_t, bc_gt_f, bc_le_t, bc_le_f, bb_eq_t, bb_eq_f, bb_ne_t, bb_ne_f, sc_t, sc_f, b_nr, b_nn, mI_J, mI_R, mJ_I, mJ_R, mR_I, mR_J, mK_I, mK_J, mK_R, mN_I, mN_J, mN_R, inM_I, inM_J, inM_R, mZ_nc, mZ_nk, mZ_sm, mZ_J, mZ_R, mJ_nc, mJ_ni, mJ_sm, mI_Z, iz_add, iz_sub, iz_mul, iz_neg, iz_lt, iz_le, iz_eq, iz_clamp, iz_inB, iz_div, iz_rem, shK h, shR h, inM_lit, and_self, true_and, and_true, true_or, or_true, not_true_eq_false, not_false_eq_true, Nat.reduceEqDiff, reduceCtorEq, Int.reduceNeg, Int.reduceSub, Int.reduceAdd, Int.reduceMul, Int.reduceToNat, Int.reduceEq, Int.neg_neg, Int.cast_ofNat_Int, Nat.reduceAdd, Nat.reduceMul, Nat.reduceSub, gd_t, emod_r, iz_0, Int.zero_add, Int.add_zero, wp_some, lz_add, lz_sub, lz_mul, lz_0, lz_1, lz_of, lz_nz, lz_i2l, lz_l2i, lz_rem, lz_div, is01_i, lcmp_lt, lcmp_eq, lcmp_gt, hs, e2]
theorem Wo_k2 {M M1 : qMe} {D : Nat → Nat → Prop} (h : Wo M) (hF : Frm M M1 D) (hD : ∀ i k, D i k → aside i ∨ i = 8) : Wo M1 := by
  obtain ⟨h1, h2, h3, h4⟩ := h
  have n : ∀ i k, ¬ (aside i ∨ i = 8) → ¬ D i k := fun i k q r => q (hD i k r)
  have k481 : ∀ k, mZ M1 481 k = mZ M 481 k := fun k => hF.z (n _ _ (by unfold aside; omega))
  refine ⟨hF.shp h1 (fun i k hi => n _ _ (by unfold aside; omega)), WFk_of h2 k481, Ra_of h3 k481 (fun i g1 g2 k => hF.z (n _ _ (by unfold aside; omega))), LawsR_k h4 k481 (Nat.le_of_eq hF.1.symm) (fun i _ => hF.2.1 i) (fun i k g1 _ => hF.2.2.1 i k (by omega)) (fun k => hF.2.2.1 _ k (by omega)) (fun i k g1 _ => hF.z (n _ _ (by unfold aside; omega)))⟩
noncomputable def drN (M : qMe) (w : Int) : Nat → RQ → Int → RQ × Int
  | 0, Q, s => (Q, s)
  | n + 1, Q, s => if qy Q = -1 then drN M w n (stepP M w (-1) (dr s % 10 < mZ M 481 263) Q) (dr s) else (Q, s)
theorem drN_s {M : qMe} {w s : Int} {n : Nat} {Q : RQ} (h : ¬ qy Q = -1) : drN M w n Q s = (Q, s) := by
  cases n with
  | zero => rfl
  | succ n => rw [drN, if_neg h]
theorem drN_k {M M1 : qMe} {w : Int} (h : ∀ k, mZ M1 481 k = mZ M 481 k) : ∀ (n : Nat) (Q : RQ) (s : Int), drN M1 w n Q s = drN M w n Q s
  | 0, Q, s => rfl
  | n + 1, Q, s => by rw [drN, drN, stepP_k h, h, drN_k h n]
theorem drN_I {M : qMe} {w : Int} (hw : WFk M 481 0) : ∀ (n : Nat) (Q : RQ) (s : Int), QI Q → (0 ≤ s ∧ s < 1000003) → QI (drN M w n Q s).1 ∧ (0 ≤ (drN M w n Q s).2 ∧ (drN M w n Q s).2 < 1000003)
  | 0, Q, s, h, g => ⟨h, g⟩
  | n + 1, Q, s, h, g => by
    rw [drN]
    by_cases y : qy Q = -1
    · rw [if_pos y]
      exact drN_I hw n _ _ (stepP_I hw h y).1 dr_b
    · rw [if_neg y]
      exact ⟨h, g⟩
noncomputable def sQ0 (M : qMe) (bk : Int → Prop) (s : Int) : RQ := qst (mZ M 481 (200 + dr (dr s) % mZ M 481 265).toNat) (dr (dr (dr s)) % 4) (dr (dr (dr (dr s))) % 9 + 1) bk
noncomputable def sR (M : qMe) (bk : Int → Prop) (s : Int) : RQ × Int := drN M (dr s % mZ M 481 266) 60 (sQ0 M bk s) (dr (dr (dr (dr s))))
theorem sQ0_I {M : qMe} {bk : Int → Prop} {s : Int} (hw : WFk M 481 0) (h : 0 < mZ M 481 265) : QI (sQ0 M bk s) := by
  have d2 := dr_b (s := dr s)
  have m1 : 0 ≤ dr (dr s) % mZ M 481 265 := Int.emod_nonneg _ (by omega)
  have m2 : dr (dr s) % mZ M 481 265 < mZ M 481 265 := Int.emod_lt_of_pos _ h
  have := hw.2.2.2.2.2.2.1 (dr (dr s) % mZ M 481 265) m1 m2
  rw [Int.zero_add] at this
  have d3 := dr_b (s := dr (dr s))
  have d4 := dr_b (s := dr (dr (dr s)))
  exact qst_I this (by omega) (by omega)

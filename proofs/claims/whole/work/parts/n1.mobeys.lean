/-! m obeys an ORDER -/
theorem WFk_row {M M3 : qMe} {p : Nat} {x : Int} (hw : WFk M 481 0) (hp : (80 ≤ p ∧ p < 160 ∧ 0 ≤ x ∧ x ≤ 9) ∨ (p = 260 ∧ 0 ≤ x ∧ x ≤ 99)) (rp : mZ M3 481 p = x) (rn : ∀ k, ¬ k = p → mZ M3 481 k = mZ M 481 k) : WFk M3 481 0 := by
  have xb : 0 ≤ x ∧ x ≤ 99 := by omega
  obtain ⟨w1, w2, w3, w4, w7, w8, w10, w11⟩ := WFk_iff.mp hw
  have pr : (80 ≤ p ∧ p < 160) ∨ p = 260 := by omega
  have rg : ∀ lo hi : Int, 0 ≤ lo → ((p : Int) < lo ∨ hi ≤ (p : Int)) → reg M M3 481 0 lo hi := fun lo hi a b k g1 g2 => rn _ (by omega)
  have e0 : ∀ k : Int, (0 ≤ k ∧ ¬ k = (p : Int)) → mZ M3 481 ((0 : Int) + k).toNat = mZ M 481 ((0 : Int) + k).toNat := fun k a => rn _ (by omega)
  have e264 := e0 264 (by omega)
  have e265 := e0 265 (by omega)
  have e266 := e0 266 (by omega)
  have e267 := e0 267 (by omega)
  have e268 := e0 268 (by omega)
  have e269 := e0 269 (by omega)
  have e270 := e0 270 (by omega)
  have e261 := e0 261 (by omega)
  have e262 := e0 262 (by omega)
  have e263 := e0 263 (by omega)
  obtain ⟨s1, s2, s3, s4, s5, s6, s7, s8, s9, s10, s11⟩ := id w1
  refine WFk_iff.mpr ⟨⟨by rw [e264]; exact s1, by rw [e265]; exact s2, by rw [e266]; exact s3, by rw [e267]; exact s4, by rw [e268]; exact s5, by rw [e269]; exact s6, ?_, ?_, by rw [e261]; exact s9, by rw [e262]; exact s10, by rw [e263]; exact s11⟩, W2_k w2 (rg 0 80 (by decide) (by omega)), fun c g1 g2 => ?_, W4_k w4 s1.2 (rg 160 200 (by decide) (by omega)) e264, W7_k w7 s2.2 (rg 200 204 (by decide) (by omega)) e265, W8_k w8 s3.2 (rg 204 228 (by decide) (by omega)) e266, W10_k w10 s4.2 (rg 228 244 (by decide) (by omega)) e267 (by rw [e264]; exact Int.le_refl _), W11_k w11 s5.2 (rg 244 260 (by decide) (by omega)) e268⟩
  · have s7 : -1 ≤ mZ M 481 270 ∧ mZ M 481 270 < mZ M 481 269 := s7
    have e270 : mZ M3 481 270 = mZ M 481 270 := e270
    have e269 : mZ M3 481 269 = mZ M 481 269 := e269
    show -1 ≤ mZ M3 481 270 ∧ mZ M3 481 270 < mZ M3 481 269
    omega
  · show 0 ≤ mZ M3 481 260 ∧ mZ M3 481 260 ≤ 99
    have s8 : 0 ≤ mZ M 481 260 ∧ mZ M 481 260 ≤ 99 := s8
    by_cases e : 260 = p
    · rw [e, rp]; exact xb
    · rw [rn _ e]; exact s8
  · rw [show ((0 : Int) + (80 + c)).toNat = 80 + c.toNat by omega]
    have := w3 c g1 g2
    rw [show ((0 : Int) + (80 + c)).toNat = 80 + c.toNat by omega] at this
    by_cases e : 80 + c.toNat = p
    · rw [e, rp]; omega
    · rw [rn _ e]; exact this
theorem WFk_send {M M1 : qMe} {c : Int} (hw : WFk M 481 0) (hS : SdR M M1 c) : WFk M1 481 0 := by
  obtain ⟨S1, S2, S3, S4, S5⟩ := hS
  refine WFk_u hw S5 (fun x q1 q2 => ?_) (fun w q1 q2 => ?_)
  · have a := S1 x.toNat (by omega)
    have b := hw.2.2.1 x q1 q2
    rw [Int.zero_add] at b
    rw [show (80 + x).toNat = 80 + x.toNat by omega] at b ⊢
    rw [a]
    unfold cut0
    split
    · omega
    · exact b
  · have a := S2 w.toNat (by omega)
    have b := hw.2.2.2.2.2.2.2.2.1 w q1 q2
    rw [Int.zero_add] at b
    rw [show (204 + 3 * w + 2).toNat = 206 + 3 * w.toNat by omega] at b ⊢
    rw [a]
    split
    · omega
    · exact b
theorem lieIn_w {d : Nat} {M : qMe} {a lo hi : Int} (ha : -2000000000 ≤ a ∧ a ≤ 2000000000) (hl : -1000 ≤ lo ∧ lo ≤ 1000) (hh : -1000 ≤ hi ∧ hi ≤ 1000) : wI (cal (d + 1) 207 [.long (lz a), .int (iz lo), .int (iz hi)] M) (fun z M1 => M1 = M ∧ ((z = 1 ∧ lo ≤ a ∧ a ≤ hi) ∨ (z = 0 ∧ ¬ (lo ≤ a ∧ a ≤ hi)))) := by
  refine wI_q (fun P hP => ?_)
  have yes : lo ≤ a ∧ a ≤ hi → P (some (.int (iz 1))) M := fun q => hP 1 M ⟨rfl, Or.inl ⟨rfl, q⟩⟩
  have no : ¬ (lo ≤ a ∧ a ≤ hi) → P (some (.int (iz 0))) M := fun q => hP 0 M ⟨rfl, Or.inr ⟨rfl, q⟩⟩
  clear hP
  rw [cal_207, gd_t (Nat.le_of_ble_eq_true rfl)]
  change wp (n_207_0 (cal _) [some (.long (lz a)), none, some (.int (iz lo)), some (.int (iz hi))] [] _) _
  have hi3 : hi < a ∨ hi = a ∨ a < hi := by omega
  rcases (show a < lo ∨ a = lo ∨ lo < a by omega) with e1 | e1 | e1
  · have fin := no (by omega)
    clear yes no
    simp (disch := first | assumption | decide | omega) only [n_207_0, n_207_18, n_207_19, z_iconst, z_bipush, z_sipush, z_ldc, z_ldcs, z_ldcw, z_ldc2, z_lconst0, z_lconst1, z_null, z_getstatic, z_iload_0, z_iload_1, z_iload_2, z_iload_3, z_iload, z_istore_0, z_istore_1, z_istore_2, z_istore_3, z_istore, z_lload_0, z_lload_1, z_lload_2, z_lload_3, z_lload, z_lstore_0, z_lstore_1, z_lstore_2, z_lstore_3, z_lstore, z_aload_0, z_aload_1, z_aload_2, z_aload_3, z_aload, z_astore_0, z_astore_1, z_astore_2, z_astore_3, z_astore, ald_0, ald_s, z_iinc, qst1_1i, qst2_1i, qst1_1r, qst2_1r, qst1_1u, qst2_1u, qst1_1n, qst2_1n, qst1_1l, qst2_1l, qst1_0, qst2_0, qst1_s, qst2_s, z_iadd, z_isub, z_imul, z_iand, z_ior, z_ixor, z_ishl, z_ishr, z_idiv, z_irem, z_ladd, z_lsub, z_lmul, z_land, z_lor, z_ldiv, z_lrem, z_ineg, z_lshl, z_lshr, z_i2l, z_l2i, z_i2b, z_i2c, z_lcmp, z_dupi, z_dupr, z_popi, z_popr, z_dup2, z_goto, z_get0, z_get1, z_get2, z_get3, z_put0, z_put1, z_put2, z_put2n, z_put3, z_iaload, z_baload, z_laload, z_aaload, z_iastore, z_bastore, z_lastore, z_aastore, z_aastoren, z_arraylength, z_new, z_newarray, z_anewarray, z_multi, z_objinit, z_is0, z_iv0, z_ip0, z_is1, z_iv1, z_ip1, z_is2, z_iv2, z_ip2, z_is3, z_iv3, z_ip3, z_is4, z_iv4, z_ip4, z_is5, z_iv5, z_ip5, z_is6, z_iv6, z_ip6, z_is7, z_iv7, z_ip7, z_m991, z_m992, z_m993, z_m994, z_m995, z_m996, z_m998, acal_0, acal_1, acal_2, acal_3, acal_4, aK_v, aK_n, sF_c, sF_n, b_nr, b_nn, r_I, r_Z, r_L, r_A, r_V, sw_F, sw_n, gd_tt, is01_bzT, is01_0, is01_1, qrv_s, qrv_n, bi_eq_t, bi_eq_f, bi_ne_t, bi_ne_f, bi_lt_t, bi_lt_f, bi_ge_t, bi_ge_f, bi_gt_t, bi_gt_f, bi_le_t, bi_le_f, bc_eq_t, bc_eq_f, bc_ne_t, bc_ne_f, bc_lt_t, bc_lt_f, bc_ge_t, bc_ge_f, bc_gt_t, bc_gt_f, bc_le_t, bc_le_f, bb_eq_t, bb_eq_f, bb_ne_t, bb_ne_f, sc_t, sc_f, b_nr, b_nn, mI_J, mI_R, mJ_I, mJ_R, mR_I, mR_J, mK_I, mK_J, mK_R, mN_I, mN_J, mN_R, inM_I, inM_J, inM_R, mZ_nc, mZ_nk, mZ_sm, mZ_J, mZ_R, mJ_nc, mJ_ni, mJ_sm, mI_Z, iz_add, iz_sub, iz_mul, iz_neg, iz_lt, iz_le, iz_eq, iz_clamp, iz_inB, iz_div, iz_rem, inM_lit, and_self, true_and, and_true, true_or, or_true, not_true_eq_false, not_false_eq_true, Nat.reduceEqDiff, reduceCtorEq, Int.reduceNeg, Int.reduceSub, Int.reduceAdd, Int.reduceMul, Int.reduceToNat, Int.reduceEq, Int.neg_neg, Int.cast_ofNat_Int, Nat.reduceAdd, Nat.reduceMul, Nat.reduceSub, gd_t, emod_r, iz_0, Int.zero_add, Int.add_zero, wp_some, lz_add, lz_sub, lz_mul, lz_0, lz_1, lz_of, lz_nz, lz_i2l, lz_l2i, lz_rem, lz_div, is01_i, lcmp_lt, lcmp_eq, lcmp_gt]
    exact fin
  · rcases hi3 with e2 | e2 | e2
    · have fin := no (by omega)
      clear yes no
      simp (disch := first | assumption | decide | omega) only [n_207_0, n_207_18, n_207_19, z_iconst, z_bipush, z_sipush, z_ldc, z_ldcs, z_ldcw, z_ldc2, z_lconst0, z_lconst1, z_null, z_getstatic, z_iload_0, z_iload_1, z_iload_2, z_iload_3, z_iload, z_istore_0, z_istore_1, z_istore_2, z_istore_3, z_istore, z_lload_0, z_lload_1, z_lload_2, z_lload_3, z_lload, z_lstore_0, z_lstore_1, z_lstore_2, z_lstore_3, z_lstore, z_aload_0, z_aload_1, z_aload_2, z_aload_3, z_aload, z_astore_0, z_astore_1, z_astore_2, z_astore_3, z_astore, ald_0, ald_s, z_iinc, qst1_1i, qst2_1i, qst1_1r, qst2_1r, qst1_1u, qst2_1u, qst1_1n, qst2_1n, qst1_1l, qst2_1l, qst1_0, qst2_0, qst1_s, qst2_s, z_iadd, z_isub, z_imul, z_iand, z_ior, z_ixor, z_ishl, z_ishr, z_idiv, z_irem, z_ladd, z_lsub, z_lmul, z_land, z_lor, z_ldiv, z_lrem, z_ineg, z_lshl, z_lshr, z_i2l, z_l2i, z_i2b, z_i2c, z_lcmp, z_dupi, z_dupr, z_popi, z_popr, z_dup2, z_goto, z_get0, z_get1, z_get2, z_get3, z_put0, z_put1, z_put2, z_put2n, z_put3, z_iaload, z_baload, z_laload, z_aaload, z_iastore, z_bastore, z_lastore, z_aastore, z_aastoren, z_arraylength, z_new, z_newarray, z_anewarray, z_multi, z_objinit, z_is0, z_iv0, z_ip0, z_is1, z_iv1, z_ip1, z_is2, z_iv2, z_ip2, z_is3, z_iv3, z_ip3, z_is4, z_iv4, z_ip4, z_is5, z_iv5, z_ip5, z_is6, z_iv6, z_ip6, z_is7, z_iv7, z_ip7, z_m991, z_m992, z_m993, z_m994, z_m995, z_m996, z_m998, acal_0, acal_1, acal_2, acal_3, acal_4, aK_v, aK_n, sF_c, sF_n, b_nr, b_nn, r_I, r_Z, r_L, r_A, r_V, sw_F, sw_n, gd_tt, is01_bzT, is01_0, is01_1, qrv_s, qrv_n, bi_eq_t, bi_eq_f, bi_ne_t, bi_ne_f, bi_lt_t, bi_lt_f, bi_ge_t, bi_ge_f, bi_gt_t, bi_gt_f, bi_le_t, bi_le_f, bc_eq_t, bc_eq_f, bc_ne_t, bc_ne_f, bc_lt_t, bc_lt_f, bc_ge_t, bc_ge_f, bc_gt_t, bc_gt_f, bc_le_t, bc_le_f, bb_eq_t, bb_eq_f, bb_ne_t, bb_ne_f, sc_t, sc_f, b_nr, b_nn, mI_J, mI_R, mJ_I, mJ_R, mR_I, mR_J, mK_I, mK_J, mK_R, mN_I, mN_J, mN_R, inM_I, inM_J, inM_R, mZ_nc, mZ_nk, mZ_sm, mZ_J, mZ_R, mJ_nc, mJ_ni, mJ_sm, mI_Z, iz_add, iz_sub, iz_mul, iz_neg, iz_lt, iz_le, iz_eq, iz_clamp, iz_inB, iz_div, iz_rem, inM_lit, and_self, true_and, and_true, true_or, or_true, not_true_eq_false, not_false_eq_true, Nat.reduceEqDiff, reduceCtorEq, Int.reduceNeg, Int.reduceSub, Int.reduceAdd, Int.reduceMul, Int.reduceToNat, Int.reduceEq, Int.neg_neg, Int.cast_ofNat_Int, Nat.reduceAdd, Nat.reduceMul, Nat.reduceSub, gd_t, emod_r, iz_0, Int.zero_add, Int.add_zero, wp_some, lz_add, lz_sub, lz_mul, lz_0, lz_1, lz_of, lz_nz, lz_i2l, lz_l2i, lz_rem, lz_div, is01_i, lcmp_lt, lcmp_eq, lcmp_gt]
      exact fin
    · have fin := yes (by omega)
      clear yes no
      simp (disch := first | assumption | decide | omega) only [n_207_0, n_207_18, n_207_19, z_iconst, z_bipush, z_sipush, z_ldc, z_ldcs, z_ldcw, z_ldc2, z_lconst0, z_lconst1, z_null, z_getstatic, z_iload_0, z_iload_1, z_iload_2, z_iload_3, z_iload, z_istore_0, z_istore_1, z_istore_2, z_istore_3, z_istore, z_lload_0, z_lload_1, z_lload_2, z_lload_3, z_lload, z_lstore_0, z_lstore_1, z_lstore_2, z_lstore_3, z_lstore, z_aload_0, z_aload_1, z_aload_2, z_aload_3, z_aload, z_astore_0, z_astore_1, z_astore_2, z_astore_3, z_astore, ald_0, ald_s, z_iinc, qst1_1i, qst2_1i, qst1_1r, qst2_1r, qst1_1u, qst2_1u, qst1_1n, qst2_1n, qst1_1l, qst2_1l, qst1_0, qst2_0, qst1_s, qst2_s, z_iadd, z_isub, z_imul, z_iand, z_ior, z_ixor, z_ishl, z_ishr, z_idiv, z_irem, z_ladd, z_lsub, z_lmul, z_land, z_lor, z_ldiv, z_lrem, z_ineg, z_lshl, z_lshr, z_i2l, z_l2i, z_i2b, z_i2c, z_lcmp, z_dupi, z_dupr, z_popi, z_popr, z_dup2, z_goto, z_get0, z_get1, z_get2, z_get3, z_put0, z_put1, z_put2, z_put2n, z_put3, z_iaload, z_baload, z_laload, z_aaload, z_iastore, z_bastore, z_lastore, z_aastore, z_aastoren, z_arraylength, z_new, z_newarray, z_anewarray, z_multi, z_objinit, z_is0, z_iv0, z_ip0, z_is1, z_iv1, z_ip1, z_is2, z_iv2, z_ip2, z_is3, z_iv3, z_ip3, z_is4, z_iv4, z_ip4, z_is5, z_iv5, z_ip5, z_is6, z_iv6, z_ip6, z_is7, z_iv7, z_ip7, z_m991, z_m992, z_m993, z_m994, z_m995, z_m996, z_m998, acal_0, acal_1, acal_2, acal_3, acal_4, aK_v, aK_n, sF_c, sF_n, b_nr, b_nn, r_I, r_Z, r_L, r_A, r_V, sw_F, sw_n, gd_tt, is01_bzT, is01_0, is01_1, qrv_s, qrv_n, bi_eq_t, bi_eq_f, bi_ne_t, bi_ne_f, bi_lt_t, bi_lt_f, bi_ge_t, bi_ge_f, bi_gt_t, bi_gt_f, bi_le_t, bi_le_f, bc_eq_t, bc_eq_f, bc_ne_t, bc_ne_f, bc_lt_t, bc_lt_f, bc_ge_t, bc_ge_f, bc_gt_t, bc_gt_f, bc_le_t, bc_le_f, bb_eq_t, bb_eq_f, bb_ne_t, bb_ne_f, sc_t, sc_f, b_nr, b_nn, mI_J, mI_R, mJ_I, mJ_R, mR_I, mR_J, mK_I, mK_J, mK_R, mN_I, mN_J, mN_R, inM_I, inM_J, inM_R, mZ_nc, mZ_nk, mZ_sm, mZ_J, mZ_R, mJ_nc, mJ_ni, mJ_sm, mI_Z, iz_add, iz_sub, iz_mul, iz_neg, iz_lt, iz_le, iz_eq, iz_clamp, iz_inB, iz_div, iz_rem, inM_lit, and_self, true_and, and_true, true_or, or_true, not_true_eq_false, not_false_eq_true, Nat.reduceEqDiff, reduceCtorEq, Int.reduceNeg, Int.reduceSub, Int.reduceAdd, Int.reduceMul, Int.reduceToNat, Int.reduceEq, Int.neg_neg, Int.cast_ofNat_Int, Nat.reduceAdd, Nat.reduceMul, Nat.reduceSub, gd_t, emod_r, iz_0, Int.zero_add, Int.add_zero, wp_some, lz_add, lz_sub, lz_mul, lz_0, lz_1, lz_of, lz_nz, lz_i2l, lz_l2i, lz_rem, lz_div, is01_i, lcmp_lt, lcmp_eq, lcmp_gt]
      exact fin
    · have fin := yes (by omega)
      clear yes no
      simp (disch := first | assumption | decide | omega) only [n_207_0, n_207_18, n_207_19, z_iconst, z_bipush, z_sipush, z_ldc, z_ldcs, z_ldcw, z_ldc2, z_lconst0, z_lconst1, z_null, z_getstatic, z_iload_0, z_iload_1, z_iload_2, z_iload_3, z_iload, z_istore_0, z_istore_1, z_istore_2, z_istore_3, z_istore, z_lload_0, z_lload_1, z_lload_2, z_lload_3, z_lload, z_lstore_0, z_lstore_1, z_lstore_2, z_lstore_3, z_lstore, z_aload_0, z_aload_1, z_aload_2, z_aload_3, z_aload, z_astore_0, z_astore_1, z_astore_2, z_astore_3, z_astore, ald_0, ald_s, z_iinc, qst1_1i, qst2_1i, qst1_1r, qst2_1r, qst1_1u, qst2_1u, qst1_1n, qst2_1n, qst1_1l, qst2_1l, qst1_0, qst2_0, qst1_s, qst2_s, z_iadd, z_isub, z_imul, z_iand, z_ior, z_ixor, z_ishl, z_ishr, z_idiv, z_irem, z_ladd, z_lsub, z_lmul, z_land, z_lor, z_ldiv, z_lrem, z_ineg, z_lshl, z_lshr, z_i2l, z_l2i, z_i2b, z_i2c, z_lcmp, z_dupi, z_dupr, z_popi, z_popr, z_dup2, z_goto, z_get0, z_get1, z_get2, z_get3, z_put0, z_put1, z_put2, z_put2n, z_put3, z_iaload, z_baload, z_laload, z_aaload, z_iastore, z_bastore, z_lastore, z_aastore, z_aastoren, z_arraylength, z_new, z_newarray, z_anewarray, z_multi, z_objinit, z_is0, z_iv0, z_ip0, z_is1, z_iv1, z_ip1, z_is2, z_iv2, z_ip2, z_is3, z_iv3, z_ip3, z_is4, z_iv4, z_ip4, z_is5, z_iv5, z_ip5, z_is6, z_iv6, z_ip6, z_is7, z_iv7, z_ip7, z_m991, z_m992, z_m993, z_m994, z_m995, z_m996, z_m998, acal_0, acal_1, acal_2, acal_3, acal_4, aK_v, aK_n, sF_c, sF_n, b_nr, b_nn, r_I, r_Z, r_L, r_A, r_V, sw_F, sw_n, gd_tt, is01_bzT, is01_0, is01_1, qrv_s, qrv_n, bi_eq_t, bi_eq_f, bi_ne_t, bi_ne_f, bi_lt_t, bi_lt_f, bi_ge_t, bi_ge_f, bi_gt_t, bi_gt_f, bi_le_t, bi_le_f, bc_eq_t, bc_eq_f, bc_ne_t, bc_ne_f, bc_lt_t, bc_lt_f, bc_ge_t, bc_ge_f, bc_gt_t, bc_gt_f, bc_le_t, bc_le_f, bb_eq_t, bb_eq_f, bb_ne_t, bb_ne_f, sc_t, sc_f, b_nr, b_nn, mI_J, mI_R, mJ_I, mJ_R, mR_I, mR_J, mK_I, mK_J, mK_R, mN_I, mN_J, mN_R, inM_I, inM_J, inM_R, mZ_nc, mZ_nk, mZ_sm, mZ_J, mZ_R, mJ_nc, mJ_ni, mJ_sm, mI_Z, iz_add, iz_sub, iz_mul, iz_neg, iz_lt, iz_le, iz_eq, iz_clamp, iz_inB, iz_div, iz_rem, inM_lit, and_self, true_and, and_true, true_or, or_true, not_true_eq_false, not_false_eq_true, Nat.reduceEqDiff, reduceCtorEq, Int.reduceNeg, Int.reduceSub, Int.reduceAdd, Int.reduceMul, Int.reduceToNat, Int.reduceEq, Int.neg_neg, Int.cast_ofNat_Int, Nat.reduceAdd, Nat.reduceMul, Nat.reduceSub, gd_t, emod_r, iz_0, Int.zero_add, Int.add_zero, wp_some, lz_add, lz_sub, lz_mul, lz_0, lz_1, lz_of, lz_nz, lz_i2l, lz_l2i, lz_rem, lz_div, is01_i, lcmp_lt, lcmp_eq, lcmp_gt]
      exact fin
  · rcases hi3 with e2 | e2 | e2
    · have fin := no (by omega)
      clear yes no
      simp (disch := first | assumption | decide | omega) only [n_207_0, n_207_18, n_207_19, z_iconst, z_bipush, z_sipush, z_ldc, z_ldcs, z_ldcw, z_ldc2, z_lconst0, z_lconst1, z_null, z_getstatic, z_iload_0, z_iload_1, z_iload_2, z_iload_3, z_iload, z_istore_0, z_istore_1, z_istore_2, z_istore_3, z_istore, z_lload_0, z_lload_1, z_lload_2, z_lload_3, z_lload, z_lstore_0, z_lstore_1, z_lstore_2, z_lstore_3, z_lstore, z_aload_0, z_aload_1, z_aload_2, z_aload_3, z_aload, z_astore_0, z_astore_1, z_astore_2, z_astore_3, z_astore, ald_0, ald_s, z_iinc, qst1_1i, qst2_1i, qst1_1r, qst2_1r, qst1_1u, qst2_1u, qst1_1n, qst2_1n, qst1_1l, qst2_1l, qst1_0, qst2_0, qst1_s, qst2_s, z_iadd, z_isub, z_imul, z_iand, z_ior, z_ixor, z_ishl, z_ishr, z_idiv, z_irem, z_ladd, z_lsub, z_lmul, z_land, z_lor, z_ldiv, z_lrem, z_ineg, z_lshl, z_lshr, z_i2l, z_l2i, z_i2b, z_i2c, z_lcmp, z_dupi, z_dupr, z_popi, z_popr, z_dup2, z_goto, z_get0, z_get1, z_get2, z_get3, z_put0, z_put1, z_put2, z_put2n, z_put3, z_iaload, z_baload, z_laload, z_aaload, z_iastore, z_bastore, z_lastore, z_aastore, z_aastoren, z_arraylength, z_new, z_newarray, z_anewarray, z_multi, z_objinit, z_is0, z_iv0, z_ip0, z_is1, z_iv1, z_ip1, z_is2, z_iv2, z_ip2, z_is3, z_iv3, z_ip3, z_is4, z_iv4, z_ip4, z_is5, z_iv5, z_ip5, z_is6, z_iv6, z_ip6, z_is7, z_iv7, z_ip7, z_m991, z_m992, z_m993, z_m994, z_m995, z_m996, z_m998, acal_0, acal_1, acal_2, acal_3, acal_4, aK_v, aK_n, sF_c, sF_n, b_nr, b_nn, r_I, r_Z, r_L, r_A, r_V, sw_F, sw_n, gd_tt, is01_bzT, is01_0, is01_1, qrv_s, qrv_n, bi_eq_t, bi_eq_f, bi_ne_t, bi_ne_f, bi_lt_t, bi_lt_f, bi_ge_t, bi_ge_f, bi_gt_t, bi_gt_f, bi_le_t, bi_le_f, bc_eq_t, bc_eq_f, bc_ne_t, bc_ne_f, bc_lt_t, bc_lt_f, bc_ge_t, bc_ge_f, bc_gt_t, bc_gt_f, bc_le_t, bc_le_f, bb_eq_t, bb_eq_f, bb_ne_t, bb_ne_f, sc_t, sc_f, b_nr, b_nn, mI_J, mI_R, mJ_I, mJ_R, mR_I, mR_J, mK_I, mK_J, mK_R, mN_I, mN_J, mN_R, inM_I, inM_J, inM_R, mZ_nc, mZ_nk, mZ_sm, mZ_J, mZ_R, mJ_nc, mJ_ni, mJ_sm, mI_Z, iz_add, iz_sub, iz_mul, iz_neg, iz_lt, iz_le, iz_eq, iz_clamp, iz_inB, iz_div, iz_rem, inM_lit, and_self, true_and, and_true, true_or, or_true, not_true_eq_false, not_false_eq_true, Nat.reduceEqDiff, reduceCtorEq, Int.reduceNeg, Int.reduceSub, Int.reduceAdd, Int.reduceMul, Int.reduceToNat, Int.reduceEq, Int.neg_neg, Int.cast_ofNat_Int, Nat.reduceAdd, Nat.reduceMul, Nat.reduceSub, gd_t, emod_r, iz_0, Int.zero_add, Int.add_zero, wp_some, lz_add, lz_sub, lz_mul, lz_0, lz_1, lz_of, lz_nz, lz_i2l, lz_l2i, lz_rem, lz_div, is01_i, lcmp_lt, lcmp_eq, lcmp_gt]
      exact fin
    · have fin := yes (by omega)
      clear yes no
      simp (disch := first | assumption | decide | omega) only [n_207_0, n_207_18, n_207_19, z_iconst, z_bipush, z_sipush, z_ldc, z_ldcs, z_ldcw, z_ldc2, z_lconst0, z_lconst1, z_null, z_getstatic, z_iload_0, z_iload_1, z_iload_2, z_iload_3, z_iload, z_istore_0, z_istore_1, z_istore_2, z_istore_3, z_istore, z_lload_0, z_lload_1, z_lload_2, z_lload_3, z_lload, z_lstore_0, z_lstore_1, z_lstore_2, z_lstore_3, z_lstore, z_aload_0, z_aload_1, z_aload_2, z_aload_3, z_aload, z_astore_0, z_astore_1, z_astore_2, z_astore_3, z_astore, ald_0, ald_s, z_iinc, qst1_1i, qst2_1i, qst1_1r, qst2_1r, qst1_1u, qst2_1u, qst1_1n, qst2_1n, qst1_1l, qst2_1l, qst1_0, qst2_0, qst1_s, qst2_s, z_iadd, z_isub, z_imul, z_iand, z_ior, z_ixor, z_ishl, z_ishr, z_idiv, z_irem, z_ladd, z_lsub, z_lmul, z_land, z_lor, z_ldiv, z_lrem, z_ineg, z_lshl, z_lshr, z_i2l, z_l2i, z_i2b, z_i2c, z_lcmp, z_dupi, z_dupr, z_popi, z_popr, z_dup2, z_goto, z_get0, z_get1, z_get2, z_get3, z_put0, z_put1, z_put2, z_put2n, z_put3, z_iaload, z_baload, z_laload, z_aaload, z_iastore, z_bastore, z_lastore, z_aastore, z_aastoren, z_arraylength, z_new, z_newarray, z_anewarray, z_multi, z_objinit, z_is0, z_iv0, z_ip0, z_is1, z_iv1, z_ip1, z_is2, z_iv2, z_ip2, z_is3, z_iv3, z_ip3, z_is4, z_iv4, z_ip4, z_is5, z_iv5, z_ip5, z_is6, z_iv6, z_ip6, z_is7, z_iv7, z_ip7, z_m991, z_m992, z_m993, z_m994, z_m995, z_m996, z_m998, acal_0, acal_1, acal_2, acal_3, acal_4, aK_v, aK_n, sF_c, sF_n, b_nr, b_nn, r_I, r_Z, r_L, r_A, r_V, sw_F, sw_n, gd_tt, is01_bzT, is01_0, is01_1, qrv_s, qrv_n, bi_eq_t, bi_eq_f, bi_ne_t, bi_ne_f, bi_lt_t, bi_lt_f, bi_ge_t, bi_ge_f, bi_gt_t, bi_gt_f, bi_le_t, bi_le_f, bc_eq_t, bc_eq_f, bc_ne_t, bc_ne_f, bc_lt_t, bc_lt_f, bc_ge_t, bc_ge_f, bc_gt_t, bc_gt_f, bc_le_t, bc_le_f, bb_eq_t, bb_eq_f, bb_ne_t, bb_ne_f, sc_t, sc_f, b_nr, b_nn, mI_J, mI_R, mJ_I, mJ_R, mR_I, mR_J, mK_I, mK_J, mK_R, mN_I, mN_J, mN_R, inM_I, inM_J, inM_R, mZ_nc, mZ_nk, mZ_sm, mZ_J, mZ_R, mJ_nc, mJ_ni, mJ_sm, mI_Z, iz_add, iz_sub, iz_mul, iz_neg, iz_lt, iz_le, iz_eq, iz_clamp, iz_inB, iz_div, iz_rem, inM_lit, and_self, true_and, and_true, true_or, or_true, not_true_eq_false, not_false_eq_true, Nat.reduceEqDiff, reduceCtorEq, Int.reduceNeg, Int.reduceSub, Int.reduceAdd, Int.reduceMul, Int.reduceToNat, Int.reduceEq, Int.neg_neg, Int.cast_ofNat_Int, Nat.reduceAdd, Nat.reduceMul, Nat.reduceSub, gd_t, emod_r, iz_0, Int.zero_add, Int.add_zero, wp_some, lz_add, lz_sub, lz_mul, lz_0, lz_1, lz_of, lz_nz, lz_i2l, lz_l2i, lz_rem, lz_div, is01_i, lcmp_lt, lcmp_eq, lcmp_gt]
      exact fin
    · have fin := yes (by omega)
      clear yes no
      simp (disch := first | assumption | decide | omega) only [n_207_0, n_207_18, n_207_19, z_iconst, z_bipush, z_sipush, z_ldc, z_ldcs, z_ldcw, z_ldc2, z_lconst0, z_lconst1, z_null, z_getstatic, z_iload_0, z_iload_1, z_iload_2, z_iload_3, z_iload, z_istore_0, z_istore_1, z_istore_2, z_istore_3, z_istore, z_lload_0, z_lload_1, z_lload_2, z_lload_3, z_lload, z_lstore_0, z_lstore_1, z_lstore_2, z_lstore_3, z_lstore, z_aload_0, z_aload_1, z_aload_2, z_aload_3, z_aload, z_astore_0, z_astore_1, z_astore_2, z_astore_3, z_astore, ald_0, ald_s, z_iinc, qst1_1i, qst2_1i, qst1_1r, qst2_1r, qst1_1u, qst2_1u, qst1_1n, qst2_1n, qst1_1l, qst2_1l, qst1_0, qst2_0, qst1_s, qst2_s, z_iadd, z_isub, z_imul, z_iand, z_ior, z_ixor, z_ishl, z_ishr, z_idiv, z_irem, z_ladd, z_lsub, z_lmul, z_land, z_lor, z_ldiv, z_lrem, z_ineg, z_lshl, z_lshr, z_i2l, z_l2i, z_i2b, z_i2c, z_lcmp, z_dupi, z_dupr, z_popi, z_popr, z_dup2, z_goto, z_get0, z_get1, z_get2, z_get3, z_put0, z_put1, z_put2, z_put2n, z_put3, z_iaload, z_baload, z_laload, z_aaload, z_iastore, z_bastore, z_lastore, z_aastore, z_aastoren, z_arraylength, z_new, z_newarray, z_anewarray, z_multi, z_objinit, z_is0, z_iv0, z_ip0, z_is1, z_iv1, z_ip1, z_is2, z_iv2, z_ip2, z_is3, z_iv3, z_ip3, z_is4, z_iv4, z_ip4, z_is5, z_iv5, z_ip5, z_is6, z_iv6, z_ip6, z_is7, z_iv7, z_ip7, z_m991, z_m992, z_m993, z_m994, z_m995, z_m996, z_m998, acal_0, acal_1, acal_2, acal_3, acal_4, aK_v, aK_n, sF_c, sF_n, b_nr, b_nn, r_I, r_Z, r_L, r_A, r_V, sw_F, sw_n, gd_tt, is01_bzT, is01_0, is01_1, qrv_s, qrv_n, bi_eq_t, bi_eq_f, bi_ne_t, bi_ne_f, bi_lt_t, bi_lt_f, bi_ge_t, bi_ge_f, bi_gt_t, bi_gt_f, bi_le_t, bi_le_f, bc_eq_t, bc_eq_f, bc_ne_t, bc_ne_f, bc_lt_t, bc_lt_f, bc_ge_t, bc_ge_f, bc_gt_t, bc_gt_f, bc_le_t, bc_le_f, bb_eq_t, bb_eq_f, bb_ne_t, bb_ne_f, sc_t, sc_f, b_nr, b_nn, mI_J, mI_R, mJ_I, mJ_R, mR_I, mR_J, mK_I, mK_J, mK_R, mN_I, mN_J, mN_R, inM_I, inM_J, inM_R, mZ_nc, mZ_nk, mZ_sm, mZ_J, mZ_R, mJ_nc, mJ_ni, mJ_sm, mI_Z, iz_add, iz_sub, iz_mul, iz_neg, iz_lt, iz_le, iz_eq, iz_clamp, iz_inB, iz_div, iz_rem, inM_lit, and_self, true_and, and_true, true_or, or_true, not_true_eq_false, not_false_eq_true, Nat.reduceEqDiff, reduceCtorEq, Int.reduceNeg, Int.reduceSub, Int.reduceAdd, Int.reduceMul, Int.reduceToNat, Int.reduceEq, Int.neg_neg, Int.cast_ofNat_Int, Nat.reduceAdd, Nat.reduceMul, Nat.reduceSub, gd_t, emod_r, iz_0, Int.zero_add, Int.add_zero, wp_some, lz_add, lz_sub, lz_mul, lz_0, lz_1, lz_of, lz_nz, lz_i2l, lz_l2i, lz_rem, lz_div, is01_i, lcmp_lt, lcmp_eq, lcmp_gt]
      exact fin
theorem lieIn_t {d : Nat} {M : qMe} {a lo hi : Int} (ha : -2000000000 ≤ a ∧ a ≤ 2000000000) (hl : -1000 ≤ lo ∧ lo ≤ 1000) (hh : -1000 ≤ hi ∧ hi ≤ 1000) (h : lo ≤ a ∧ a ≤ hi) : cal (d + 1) 207 [.long (lz a), .int (iz lo), .int (iz hi)] M = some (some (.int (iz 1)), M) := by
  obtain ⟨z, M1, e, rfl, q | q⟩ := lieIn_w (d := d) (M := M) ha hl hh
  · rw [e, q.1]
  · exact absurd h q.2
theorem lieIn_f {d : Nat} {M : qMe} {a lo hi : Int} (ha : -2000000000 ≤ a ∧ a ≤ 2000000000) (hl : -1000 ≤ lo ∧ lo ≤ 1000) (hh : -1000 ≤ hi ∧ hi ≤ 1000) (h : ¬ (lo ≤ a ∧ a ≤ hi)) : cal (d + 1) 207 [.long (lz a), .int (iz lo), .int (iz hi)] M = some (some (.int (iz 0)), M) := by
  obtain ⟨z, M1, e, rfl, q | q⟩ := lieIn_w (d := d) (M := M) ha hl hh
  · exact absurd q.2 h
  · rw [e, q.1]
/-- isThrow, where x's Alps are others -/
theorem isThrow_v {d : Nat} {M : qMe} {c : Int} (hW : WoM M) (hA : okM (Am (mN M)) M) (c1 : -2147483648 ≤ c) (c2 : c < 2147483648) : (isT M c → cal (d + 3) 160 [.ref 479, .int (iz c)] M = some (some (.int (iz 1)), M)) ∧ (¬ isT M c → cal (d + 3) 160 [.ref 479, .int (iz c)] M = some (some (.int (iz 0)), M)) := by
  have hN := hW.1.1
  obtain ⟨z, M1, e, e1, q⟩ := m_isThrow (d := d) (WoM_al hW) c1 c2
  rw [e1] at e
  have v := (m_via (by omega) hA (okS_479 (fun v q => by rw [List.mem_singleton] at q; exact ⟨_, q⟩)) e).1
  have v : cal (d + 3) 160 [.ref 479, .int (iz c)] M = some (some (.int (iz z)), sw (Am (mN M)) (mI M) (al M)) := v
  rw [sw_al (by omega)] at v
  rw [isT_k (M := M) (M1 := al M) (fun k => al_Z (by omega))] at q
  refine ⟨fun t => ?_, fun t => ?_⟩
  · rcases q with q | q
    · rw [v, q.1]
    · exact absurd t q.2
  · rcases q with q | q
    · exact absurd q.2 t
    · rw [v, q.1]
/-- and goes -/
theorem goes_v {d s : Nat} {M : qMe} {c : Int} (hW : WoM M) (hI : Rid M) (hA : okM (Am (mN M)) M) (ht : isT M c) (hs : mZ M 479 47 = s) (s1 : s ≤ 8) : wV (cal (d + 167) 167 [.ref 479, .int (iz c)] M) (fun M1 => Dif M M1 DGs ∧ ((mZ M1 479 48 = 1 ∧ comeP M c) ∨ (mZ M1 479 48 = 0 ∧ ¬ comeP M c)) ∧ mZ M1 479 31 = qp (castQ M (-1) c) ∧ SdR M M1 c ∧ LfR M M1 s c ∧ (-1 ≤ qp (castQ M (-1) c) ∧ qp (castQ M (-1) c) ≤ 1000)) := by
  have hN := hW.1.1
  have hWa := WoM_al hW
  have a481 : ∀ k, mZ (al M) 481 k = mZ M 481 k := fun k => al_Z (by omega)
  have a493 : ∀ k, mZ (al M) 493 k = mZ M 493 k := fun k => al_Z (by omega)
  have a501 : ∀ k, mZ (al M) 501 k = mZ M 501 k := fun k => al_Z (by omega)
  have hIa : Rid (al M) := Rid_z hI (fun i k q => al_Z (by omega))
  have hta : isT (al M) c := by rw [isT_k a481]; exact ht
  have qi := castQ_I (wall := -1) hWa hta
  rw [castQ_k a481 a493] at qi
  have qe := qi.1
  obtain ⟨M2, e, D2, cm, ps, sd, lf⟩ := m_goes (d := d) hWa hIa hta (by rw [al_Z (by omega)]; exact hs) s1
  obtain ⟨m1, -⟩ := m_via (by omega) hA (okS_479 (fun v q => by rw [List.mem_singleton] at q; exact ⟨_, q⟩)) e
  have bm : ∀ i k, 479 ≤ i → i ≤ 512 → mZ (bk1 M M2) i k = mZ M2 i k := fun i k g1 g2 => bk1_m (Or.inl ⟨g1, g2⟩)
  rw [comeP_k a481 a493] at cm
  rw [castQ_k a481 a493] at ps
  refine ⟨bk1 M M2, m1, bk1_D (by omega) D2, ?_, ?_, SdR_2 (fun k => bm _ _ (by decide) (by decide)) (SdR_k a481 a493 sd), LfR_k a481 a501 (fun k => bm _ _ (by decide) (by decide)) (bm _ _ (by decide) (by decide)) lf, by omega⟩
  · rw [bm _ _ (by decide) (by decide)]; exact cm
  · rw [bm _ _ (by decide) (by decide)]; exact ps
/-- m's row, what it can undo -/
def MS1 (B M : qMe) (o : OS) : Prop := (∀ k, mI M 481 k = o.1 k) ∧ (∀ k : Nat, (k : Int) < 105 * o.2.2.1.toInt → mI M 501 k = o.2.1 k) ∧ mI M 479 47 = o.2.2.1 ∧ (0 ≤ o.2.2.1.toInt ∧ o.2.2.1.toInt ≤ 8) ∧ ∀ k, mZ M 493 k = mZ B 493 k
theorem MS1_r {B M : qMe} {o : OS} (h : MS1 B M o) : (∀ k, mI M 481 k = mI (gO B o) 481 k) ∧ (∀ k, mZ M 481 k = mZ (gO B o) 481 k) ∧ ∀ k, mZ M 493 k = mZ (gO B o) 493 k := ⟨fun k => h.1 k, fun k => congrArg Int32.toInt (h.1 k), fun k => (h.2.2.2.2 k).trans (gm_Z (by decide) (by decide) (by omega)).symm⟩
theorem leftR_k {G1 G2 : qMe} {s : Nat} {c : Int} (h1 : ∀ k, mI G1 481 k = mI G2 481 k) (h2 : ∀ k : Nat, k < 105 * s → mI G1 501 k = mI G2 501 k) (s8 : s ≤ 8) : ∀ k : Nat, k < 105 * s1R s → leftR G1 s c k = leftR G2 s c k := by
  intro k hk
  have sn : ∀ j, snapR G1 c j = snapR G2 c j := fun j => by
    unfold snapR
    rw [h1, h1, h1]
  unfold leftR
  by_cases e : s < 8
  · rw [if_pos e, if_pos e, sn]
    by_cases e2 : k < 105 * s
    · rw [if_pos e2, if_pos e2]; exact h2 k e2
    · rw [if_neg e2, if_neg e2]
  · rw [if_neg e, if_neg e, sn]
    by_cases e2 : k < 735
    · rw [if_pos e2, if_pos e2]; exact h2 _ (by omega)
    · rw [if_neg e2, if_neg e2]
/-- behind a send -/
theorem MS1_send {B M M1 : qMe} {o : OS} {c : Int} {z : Nat → Int} (h : MS1 B M o) (hc : 0 ≤ c ∧ c ≤ 1279) (ez : castZ z = c) (hS : SdR M M1 c) (hL : LfR M M1 o.2.2.1.toInt.toNat c) (h493 : ∀ k, mZ M1 493 k = mZ M 493 k) : MS1 B M1 (doO B 0 z o) := by
  obtain ⟨r1, r2, r3⟩ := MS1_r h
  obtain ⟨m1, m2, m3, m4, m5⟩ := h
  have sr : s1R o.2.2.1.toInt.toNat ≤ 8 := by unfold s1R; split <;> omega
  obtain ⟨l1, l2⟩ := LfR_l hc (by omega) hL
  have ed : doO B 0 z o = (sendR (gO B o) c, leftR (gO B o) o.2.2.1.toInt.toNat c, iz ((s1R o.2.2.1.toInt.toNat : Nat) : Int), o.2.2.2.1 + 1, o.2.2.2.2.1 + ifC (comeP (gO B o) c) 1 0, qp (castQ (gO B o) (-1) c)) := by
    unfold doO
    rw [if_neg (by decide), if_neg (by decide), ez]
  rw [ed]
  have eI : (iz ((s1R o.2.2.1.toInt.toNat : Nat) : Int)).toInt = ((s1R o.2.2.1.toInt.toNat : Nat) : Int) := iz_toInt (by omega) (by omega)
  refine ⟨SdR_r (SdR_k r2 r3 hS), fun k q => ?_, ?_, ?_, fun k => (h493 k).trans (m5 k)⟩
  · have q : (k : Int) < 105 * (iz ((s1R o.2.2.1.toInt.toNat : Nat) : Int)).toInt := q
    rw [eI] at q
    exact (l1 k (by omega)).trans (leftR_k r1 (fun k2 q2 => m2 k2 (by omega)) (by omega) k (by omega))
  · refine I_of_Z ?_
    show _ = (iz ((s1R o.2.2.1.toInt.toNat : Nat) : Int)).toInt
    rw [eI]
    exact l2
  · show 0 ≤ (iz ((s1R o.2.2.1.toInt.toNat : Nat) : Int)).toInt ∧ (iz ((s1R o.2.2.1.toInt.toNat : Nat) : Int)).toInt ≤ 8
    rw [eI]
    omega

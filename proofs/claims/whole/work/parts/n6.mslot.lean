/-! the ORDERS' own place in m's row -/
def DLn (t N i k : Nat) : Prop := i = 481 ∧ (k = 271 + t ∨ (278 + 400 * t ≤ k ∧ k < 278 + 400 * t + N) ∨ (3078 + 400 * t ≤ k ∧ k < 3078 + 400 * t + N))
set_option maxHeartbeats 1000000 in
theorem m_laysN {d t N : Nat} {M : qMe} (hz : shp M) (hN4 : mZ M 479 18 = (N : Int)) (N4 : N ≤ 400) (t6 : t ≤ 6) : wV (cal (d + 1) 126 [.ref 479, .int (iz (t : Int))] M) (fun M1 => Dif M M1 (DLn t N) ∧ mZ M1 481 (271 + t) = (N : Int) ∧ ∀ p : Nat, p < N → mZ M1 481 (278 + 400 * t + p) = mZ M 488 p ∧ mZ M1 481 (3078 + 400 * t + p) = mZ M 489 p) := by
  refine wV_q (fun P hP => ?_)
  have h := hz
  have hN := h.1
  have e1 : (271 + (t : Int)).toNat = 271 + t := by omega
  rw [cal_126, gd_t (Nat.le_of_ble_eq_true rfl)]
  change wp (n_126_0 (cal _) [some (.ref 479), some (.int (iz (t : Int))), none] [] _) _
  simp (disch := first | assumption | decide | omega) only [n_126_0, n_126_74, n_126_16, z_iconst, z_bipush, z_sipush, z_ldc, z_ldcs, z_ldcw, z_ldc2, z_lconst0, z_lconst1, z_null, z_getstatic, z_iload_0, z_iload_1, z_iload_2, z_iload_3, z_iload, z_istore_0, z_istore_1, z_istore_2, z_istore_3, z_istore, z_lload_0, z_lload_1, z_lload_2, z_lload_3, z_lload, z_lstore_0, z_lstore_1, z_lstore_2, z_lstore_3, z_lstore, z_aload_0, z_aload_1, z_aload_2, z_aload_3, z_aload, z_astore_0, z_astore_1, z_astore_2, z_astore_3, z_astore, ald_0, ald_s, z_iinc, qst1_1i, qst2_1i, qst1_1r, qst2_1r, qst1_1u, qst2_1u, qst1_1n, qst2_1n, qst1_1l, qst2_1l, qst1_0, qst2_0, qst1_s, qst2_s, z_iadd, z_isub, z_imul, z_iand, z_ior, z_ixor, z_ishl, z_ishr, z_idiv, z_irem, z_ladd, z_lsub, z_lmul, z_land, z_lor, z_ldiv, z_lrem, z_ineg, z_lshl, z_lshr, z_i2l, z_l2i, z_i2b, z_i2c, z_lcmp, z_dupi, z_dupr, z_popi, z_popr, z_dup2, z_goto, z_get0, z_get1, z_get2, z_get3, z_put0, z_put1, z_put2, z_put2n, z_put3, z_iaload, z_baload, z_laload, z_aaload, z_iastore, z_bastore, z_lastore, z_aastore, z_aastoren, z_arraylength, z_new, z_newarray, z_anewarray, z_multi, z_objinit, z_is0, z_iv0, z_ip0, z_is1, z_iv1, z_ip1, z_is2, z_iv2, z_ip2, z_is3, z_iv3, z_ip3, z_is4, z_iv4, z_ip4, z_is5, z_iv5, z_ip5, z_is6, z_iv6, z_ip6, z_is7, z_iv7, z_ip7, z_m991, z_m992, z_m993, z_m994, z_m995, z_m996, z_m998, acal_0, acal_1, acal_2, acal_3, acal_4, aK_v, aK_n, sF_c, sF_n, b_nr, b_nn, r_I, r_Z, r_L, r_A, r_V, sw_F, sw_n, gd_tt, is01_bzT, is01_0, is01_1, qrv_s, qrv_n, bi_eq_t, bi_eq_f, bi_ne_t, bi_ne_f, bi_lt_t, bi_lt_f, bi_ge_t, bi_ge_f, bi_gt_t, bi_gt_f, bi_le_t, bi_le_f, bc_eq_t, bc_eq_f, bc_ne_t, bc_ne_f, bc_lt_t, bc_lt_f, bc_ge_t, bc_ge_f, bc_gt_t, bc_gt_f, bc_le_t, bc_le_f, bb_eq_t, bb_eq_f, bb_ne_t, bb_ne_f, sc_t, sc_f, b_nr, b_nn, mI_J, mI_R, mJ_I, mJ_R, mR_I, mR_J, mK_I, mK_J, mK_R, mN_I, mN_J, mN_R, inM_I, inM_J, inM_R, mZ_nc, mZ_nk, mZ_sm, mZ_J, mZ_R, mJ_nc, mJ_ni, mJ_sm, mI_Z, iz_add, iz_sub, iz_mul, iz_neg, iz_lt, iz_le, iz_eq, iz_clamp, iz_inB, iz_div, iz_rem, shK h, shR h, inM_lit, and_self, true_and, and_true, true_or, or_true, not_true_eq_false, not_false_eq_true, Nat.reduceEqDiff, reduceCtorEq, Int.reduceNeg, Int.reduceSub, Int.reduceAdd, Int.reduceMul, Int.reduceToNat, Int.reduceEq, Int.neg_neg, Int.cast_ofNat_Int, Nat.reduceAdd, Nat.reduceMul, Nat.reduceSub, gd_t, emod_r, iz_0, Int.zero_add, Int.add_zero, wp_some, hN4, e1]
  refine wp_lpq (fun kk L M' => ∃ i : Nat, L = [some (.ref 479), some (.int (iz (t : Int))), some (.int (iz (i : Int)))] ∧ i + kk = N ∧ Dif M M' (DLn t N) ∧ mZ M' 481 (271 + t) = (N : Int) ∧ ∀ p : Nat, p < i → mZ M' 481 (278 + 400 * t + p) = mZ M 488 p ∧ mZ M' 481 (3078 + 400 * t + p) = mZ M 489 p) (k := N) ⟨0, rfl, by omega, Dif.rfl'.I ⟨rfl, Or.inl rfl⟩, mZ_sm rfl (by omega) (by omega), fun p q => by omega⟩ (by omega) ?_
  rintro kk L M' g ⟨i, rfl, hik, hD, h0, hp⟩ hg2
  have h := hD.shp hz (fun i k hi => by unfold DLn; omega)
  have hN := h.1
  have tk : mZ M' 479 18 = (N : Int) := (hD.z (by unfold DLn; omega)).trans hN4
  have NI : (N : Int) ≤ 400 := by omega
  by_cases e : i = N
  · subst e
    have fin := hP M' ⟨hD, h0, hp⟩
    simp (disch := first | assumption | decide | omega) only [n_126_0, n_126_74, f_126_16, z_iconst, z_bipush, z_sipush, z_ldc, z_ldcs, z_ldcw, z_ldc2, z_lconst0, z_lconst1, z_null, z_getstatic, z_iload_0, z_iload_1, z_iload_2, z_iload_3, z_iload, z_istore_0, z_istore_1, z_istore_2, z_istore_3, z_istore, z_lload_0, z_lload_1, z_lload_2, z_lload_3, z_lload, z_lstore_0, z_lstore_1, z_lstore_2, z_lstore_3, z_lstore, z_aload_0, z_aload_1, z_aload_2, z_aload_3, z_aload, z_astore_0, z_astore_1, z_astore_2, z_astore_3, z_astore, ald_0, ald_s, z_iinc, qst1_1i, qst2_1i, qst1_1r, qst2_1r, qst1_1u, qst2_1u, qst1_1n, qst2_1n, qst1_1l, qst2_1l, qst1_0, qst2_0, qst1_s, qst2_s, z_iadd, z_isub, z_imul, z_iand, z_ior, z_ixor, z_ishl, z_ishr, z_idiv, z_irem, z_ladd, z_lsub, z_lmul, z_land, z_lor, z_ldiv, z_lrem, z_ineg, z_lshl, z_lshr, z_i2l, z_l2i, z_i2b, z_i2c, z_lcmp, z_dupi, z_dupr, z_popi, z_popr, z_dup2, z_goto, z_get0, z_get1, z_get2, z_get3, z_put0, z_put1, z_put2, z_put2n, z_put3, z_iaload, z_baload, z_laload, z_aaload, z_iastore, z_bastore, z_lastore, z_aastore, z_aastoren, z_arraylength, z_new, z_newarray, z_anewarray, z_multi, z_objinit, z_is0, z_iv0, z_ip0, z_is1, z_iv1, z_ip1, z_is2, z_iv2, z_ip2, z_is3, z_iv3, z_ip3, z_is4, z_iv4, z_ip4, z_is5, z_iv5, z_ip5, z_is6, z_iv6, z_ip6, z_is7, z_iv7, z_ip7, z_m991, z_m992, z_m993, z_m994, z_m995, z_m996, z_m998, acal_0, acal_1, acal_2, acal_3, acal_4, aK_v, aK_n, sF_c, sF_n, b_nr, b_nn, r_I, r_Z, r_L, r_A, r_V, sw_F, sw_n, gd_tt, is01_bzT, is01_0, is01_1, qrv_s, qrv_n, bi_eq_t, bi_eq_f, bi_ne_t, bi_ne_f, bi_lt_t, bi_lt_f, bi_ge_t, bi_ge_f, bi_gt_t, bi_gt_f, bi_le_t, bi_le_f, bc_eq_t, bc_eq_f, bc_ne_t, bc_ne_f, bc_lt_t, bc_lt_f, bc_ge_t, bc_ge_f, bc_gt_t, bc_gt_f, bc_le_t, bc_le_f, bb_eq_t, bb_eq_f, bb_ne_t, bb_ne_f, sc_t, sc_f, b_nr, b_nn, mI_J, mI_R, mJ_I, mJ_R, mR_I, mR_J, mK_I, mK_J, mK_R, mN_I, mN_J, mN_R, inM_I, inM_J, inM_R, mZ_nc, mZ_nk, mZ_sm, mZ_J, mZ_R, mJ_nc, mJ_ni, mJ_sm, mI_Z, iz_add, iz_sub, iz_mul, iz_neg, iz_lt, iz_le, iz_eq, iz_clamp, iz_inB, iz_div, iz_rem, shK h, shR h, inM_lit, and_self, true_and, and_true, true_or, or_true, not_true_eq_false, not_false_eq_true, Nat.reduceEqDiff, reduceCtorEq, Int.reduceNeg, Int.reduceSub, Int.reduceAdd, Int.reduceMul, Int.reduceToNat, Int.reduceEq, Int.neg_neg, Int.cast_ofNat_Int, Nat.reduceAdd, Nat.reduceMul, Nat.reduceSub, gd_t, emod_r, iz_0, Int.zero_add, Int.add_zero, wp_some, tk]
    exact fin
  · have iI : (i : Int) < (N : Int) := by omega
    have r1 : mZ M' 488 i = mZ M 488 i := hD.z (by unfold DLn; omega)
    have r2 : mZ M' 489 i = mZ M 489 i := hD.z (by unfold DLn; omega)
    have b1 := mZ_ge M 488 i
    have b2 := mZ_lt M 488 i
    have b3 := mZ_ge M 489 i
    have b4 := mZ_lt M 489 i
    have ea : (278 + 400 * (t : Int) + (i : Int)).toNat = 278 + 400 * t + i := by omega
    have eb : (3078 + 400 * (t : Int) + (i : Int)).toNat = 3078 + 400 * t + i := by omega
    have fin := hg2 (kk - 1) [some (.ref 479), some (.int (iz (t : Int))), some (.int (iz ((i + 1 : Nat) : Int)))] (qsI (qsI M' 481 (278 + 400 * t + i) (iz (mZ M 488 i))) 481 (3078 + 400 * t + i) (iz (mZ M 489 i))) (by omega) ⟨i + 1, rfl, by omega, (hD.I (D := DLn t N) ⟨rfl, by omega⟩).I (D := DLn t N) ⟨rfl, by omega⟩, by rw [mZ_nk (by omega), mZ_nk (by omega)]; exact h0, fun p q => by
      by_cases ep : p = i
      · subst ep
        exact ⟨by rw [mZ_nk (by omega), mZ_sm rfl b1 b2], mZ_sm rfl b3 b4⟩
      · rw [mZ_nk (by omega), mZ_nk (by omega), mZ_nk (by omega), mZ_nk (by omega)]
        exact hp p (by omega)⟩
    generalize mZ M 488 i = y1 at *
    generalize mZ M 489 i = y2 at *
    simp (disch := first | assumption | decide | omega) only [n_126_0, n_126_74, f_126_16, z_iconst, z_bipush, z_sipush, z_ldc, z_ldcs, z_ldcw, z_ldc2, z_lconst0, z_lconst1, z_null, z_getstatic, z_iload_0, z_iload_1, z_iload_2, z_iload_3, z_iload, z_istore_0, z_istore_1, z_istore_2, z_istore_3, z_istore, z_lload_0, z_lload_1, z_lload_2, z_lload_3, z_lload, z_lstore_0, z_lstore_1, z_lstore_2, z_lstore_3, z_lstore, z_aload_0, z_aload_1, z_aload_2, z_aload_3, z_aload, z_astore_0, z_astore_1, z_astore_2, z_astore_3, z_astore, ald_0, ald_s, z_iinc, qst1_1i, qst2_1i, qst1_1r, qst2_1r, qst1_1u, qst2_1u, qst1_1n, qst2_1n, qst1_1l, qst2_1l, qst1_0, qst2_0, qst1_s, qst2_s, z_iadd, z_isub, z_imul, z_iand, z_ior, z_ixor, z_ishl, z_ishr, z_idiv, z_irem, z_ladd, z_lsub, z_lmul, z_land, z_lor, z_ldiv, z_lrem, z_ineg, z_lshl, z_lshr, z_i2l, z_l2i, z_i2b, z_i2c, z_lcmp, z_dupi, z_dupr, z_popi, z_popr, z_dup2, z_goto, z_get0, z_get1, z_get2, z_get3, z_put0, z_put1, z_put2, z_put2n, z_put3, z_iaload, z_baload, z_laload, z_aaload, z_iastore, z_bastore, z_lastore, z_aastore, z_aastoren, z_arraylength, z_new, z_newarray, z_anewarray, z_multi, z_objinit, z_is0, z_iv0, z_ip0, z_is1, z_iv1, z_ip1, z_is2, z_iv2, z_ip2, z_is3, z_iv3, z_ip3, z_is4, z_iv4, z_ip4, z_is5, z_iv5, z_ip5, z_is6, z_iv6, z_ip6, z_is7, z_iv7, z_ip7, z_m991, z_m992, z_m993, z_m994, z_m995, z_m996, z_m998, acal_0, acal_1, acal_2, acal_3, acal_4, aK_v, aK_n, sF_c, sF_n, b_nr, b_nn, r_I, r_Z, r_L, r_A, r_V, sw_F, sw_n, gd_tt, is01_bzT, is01_0, is01_1, qrv_s, qrv_n, bi_eq_t, bi_eq_f, bi_ne_t, bi_ne_f, bi_lt_t, bi_lt_f, bi_ge_t, bi_ge_f, bi_gt_t, bi_gt_f, bi_le_t, bi_le_f, bc_eq_t, bc_eq_f, bc_ne_t, bc_ne_f, bc_lt_t, bc_lt_f, bc_ge_t, bc_ge_f, bc_gt_t, bc_gt_f, bc_le_t, bc_le_f, bb_eq_t, bb_eq_f, bb_ne_t, bb_ne_f, sc_t, sc_f, b_nr, b_nn, mI_J, mI_R, mJ_I, mJ_R, mR_I, mR_J, mK_I, mK_J, mK_R, mN_I, mN_J, mN_R, inM_I, inM_J, inM_R, mZ_nc, mZ_nk, mZ_sm, mZ_J, mZ_R, mJ_nc, mJ_ni, mJ_sm, mI_Z, iz_add, iz_sub, iz_mul, iz_neg, iz_lt, iz_le, iz_eq, iz_clamp, iz_inB, iz_div, iz_rem, shK h, shR h, inM_lit, and_self, true_and, and_true, true_or, or_true, not_true_eq_false, not_false_eq_true, Nat.reduceEqDiff, reduceCtorEq, Int.reduceNeg, Int.reduceSub, Int.reduceAdd, Int.reduceMul, Int.reduceToNat, Int.reduceEq, Int.neg_neg, Int.cast_ofNat_Int, Nat.reduceAdd, Nat.reduceMul, Nat.reduceSub, gd_t, emod_r, iz_0, Int.zero_add, Int.add_zero, wp_some, tk, r1, r2, ea, eb, Int.toNat_natCast]
    exact fin
theorem WFk_low {M M2 : qMe} (hw : WFk M 481 0) (hk : ∀ k : Nat, k < 271 → mZ M2 481 k = mZ M 481 k) : WFk M2 481 0 := by
  obtain ⟨w1, w2, w3, w4, w7, w8, w10, w11⟩ := WFk_iff.mp hw
  have rg : ∀ lo hi : Int, 0 ≤ lo → hi ≤ 269 → reg M M2 481 0 lo hi := fun lo hi a b k g1 g2 => hk _ (by omega)
  have e0 : ∀ k : Int, (0 ≤ k ∧ k < 271) → mZ M2 481 ((0 : Int) + k).toNat = mZ M 481 ((0 : Int) + k).toNat := fun k a => hk _ (by omega)
  obtain ⟨s1, s2, s3, s4, s5, s6, s7, s8, s9, s10, s11⟩ := id w1
  have e264 := e0 264 (by decide)
  have e265 := e0 265 (by decide)
  have e266 := e0 266 (by decide)
  have e267 := e0 267 (by decide)
  have e268 := e0 268 (by decide)
  have e270 := e0 270 (by decide)
  have e269 := e0 269 (by decide)
  have e260 := e0 260 (by decide)
  have e261 := e0 261 (by decide)
  have e262 := e0 262 (by decide)
  have e263 := e0 263 (by decide)
  refine WFk_iff.mpr ⟨⟨?_, ?_, ?_, ?_, ?_, ?_, ?_, ?_, ?_, ?_, ?_⟩, W2_k w2 (rg 0 80 (by decide) (by decide)), W3_k w3 (rg 80 160 (by decide) (by decide)), W4_k w4 s1.2 (rg 160 200 (by decide) (by decide)) e264, W7_k w7 s2.2 (rg 200 204 (by decide) (by decide)) e265, W8_k w8 s3.2 (rg 204 228 (by decide) (by decide)) e266, W10_k w10 s4.2 (rg 228 244 (by decide) (by decide)) e267 (by rw [e264]; exact Int.le_refl _), W11_k w11 s5.2 (rg 244 260 (by decide) (by decide)) e268⟩
  · rw [e264]; exact s1
  · rw [e265]; exact s2
  · rw [e266]; exact s3
  · rw [e267]; exact s4
  · rw [e268]; exact s5
  · have s6 : 0 ≤ mZ M 481 269 ∧ mZ M 481 269 ≤ 6 := s6
    have e269 : mZ M2 481 269 = mZ M 481 269 := e269
    show 0 ≤ mZ M2 481 269 ∧ mZ M2 481 269 ≤ 6
    omega
  · have s7 : -1 ≤ mZ M 481 270 ∧ mZ M 481 270 < mZ M 481 269 := s7
    have e270 : mZ M2 481 270 = mZ M 481 270 := e270
    have e269 : mZ M2 481 269 = mZ M 481 269 := e269
    show -1 ≤ mZ M2 481 270 ∧ mZ M2 481 270 < mZ M2 481 269
    omega
  · rw [e260]; exact s8
  · rw [e261]; exact s9
  · rw [e262]; exact s10
  · rw [e263]; exact s11
/-- LAWS stand where only the ORDERS' place has changed -/
theorem LawsR_6 {M M2 : qMe} (hw : WFk M 481 0) (h : LawsR M 9 481 0) (hk : ∀ k : Nat, ¬ DLy 6 481 k → mZ M2 481 k = mZ M 481 k) (hR2 : ∀ k, mR M2 26 k = mR M 26 k) (hN : mN M ≤ mN M2) (hK : ∀ i, i < mN M → mK M2 i = mK M i) (hR : ∀ i k, 513 ≤ i → i < mN M → mR M2 i k = mR M i k) (hZ : ∀ i k, 513 ≤ i → i < mN M → mZ M2 i k = mZ M i k) : LawsR M2 9 481 0 := by
  have s6 : 0 ≤ mZ M 481 269 ∧ mZ M 481 269 ≤ 6 := (WFk_s hw).2.2.2.2.2.1
  have e269 := hk 269 (by unfold DLy; omega)
  intro t g1 g2
  have g2 : t < mZ M2 481 269 := g2
  obtain ⟨tt, rfl⟩ : ∃ tt : Nat, t = (tt : Int) := ⟨t.toNat, by omega⟩
  have g3 : (tt : Int) < mZ M 481 ((0 : Int) + 269).toNat := by
    show (tt : Int) < mZ M 481 269
    omega
  obtain ⟨k1, L, Lk, Ls, Lt, Lm, Lc, m1, m2, m3⟩ := h (tt : Int) g1 g3
  obtain ⟨o1, o2, o3⟩ := pOf_one (M := M) (M2 := M2) (t := tt) (by have := k1.1; unfold nOf; omega) (fun k q => hk k (by unfold DLy; omega))
  refine ⟨⟨?_, ?_, ?_⟩, L, Lk, Ls, Lt, Lm, Lc, ?_, m2, ?_⟩
  · have := k1.1
    rw [show ((0 : Int) + 271 + (tt : Int)).toNat = 271 + tt by omega] at this ⊢
    rw [hk (271 + tt) (by unfold DLy; omega)]
    exact this
  · rw [o2]; exact k1.2.1
  · rw [o3]; exact k1.2.2
  · rw [hR2]; exact m1
  · rw [o3]
    exact TextR_k m3 m2 hN hK hR hZ
/-- the row with the ORDERS laid down -/
noncomputable def rowL (M : qMe) (b : Nat → Int) (n : Nat) (k : Nat) : Int32 := if k = 277 then iz ((nTK b n : Nat) : Int) else if 2678 ≤ k ∧ k < 2678 + nTK b n then iz (cTK b n (k - 2678)) else if 5478 ≤ k ∧ k < 5478 + nTK b n then iz (vTK b n (k - 5478)) else mI M 481 k
theorem rowL_n {M : qMe} {b : Nat → Int} {n k : Nat} (h : ¬ DLn 6 (nTK b n) 481 k) : rowL M b n k = mI M 481 k := by
  unfold DLn at h
  unfold rowL
  rw [if_neg (by omega), if_neg (by omega), if_neg (by omega)]
theorem rowL_of {M M4 : qMe} {b : Nat → Int} {n : Nat} (hn : n ≤ 400) (h0 : mZ M4 481 277 = ((nTK b n : Nat) : Int)) (h1 : ∀ p : Nat, p < nTK b n → mZ M4 481 (2678 + p) = cTK b n p ∧ mZ M4 481 (5478 + p) = vTK b n p) (h2 : ∀ k, ¬ DLn 6 (nTK b n) 481 k → mZ M4 481 k = mZ M 481 k) : ∀ k, mI M4 481 k = rowL M b n k := by
  have nl := nTK_n (b := b) (n := n)
  intro k
  unfold rowL
  by_cases e1 : k = 277
  · rw [if_pos e1, e1]
    exact I_of_Z (h0.trans (iz_toInt (by omega) (by omega)).symm)
  · rw [if_neg e1]
    by_cases e2 : 2678 ≤ k ∧ k < 2678 + nTK b n
    · rw [if_pos e2]
      have := (h1 (k - 2678) (by omega)).1
      rw [show 2678 + (k - 2678) = k by omega] at this
      rw [← this]
      exact (iz_self _).symm
    · rw [if_neg e2]
      by_cases e3 : 5478 ≤ k ∧ k < 5478 + nTK b n
      · rw [if_pos e3]
        have := (h1 (k - 5478) (by omega)).2
        rw [show 5478 + (k - 5478) = k by omega] at this
        rw [← this]
        exact (iz_self _).symm
      · rw [if_neg e3]
        exact I_of_Z (h2 k (by unfold DLn; omega))
theorem runO_i {B : qMe} : ∀ (is : List Itm) (i i' : Nat) (o o' : OS) (bb : Bool), runO B is i o = (bb, i', o') → i' ≤ i + is.length
  | [], i, i', o, o', bb, h => by
    simp only [runO, Prod.mk.injEq] at h
    rw [List.length_nil]
    omega
  | it :: is, i, i', o, o', bb, h => by
    rw [List.length_cons]
    cases e : repO B it it.2.2.2.toNat o with
    | none =>
      rw [runO_n e] at h
      simp only [Prod.mk.injEq] at h
      omega
    | some o1 =>
      rw [runO_s e] at h
      have := runO_i is (i + 1) i' o1 o' bb h
      omega

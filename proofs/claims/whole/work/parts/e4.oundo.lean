theorem LawsR_u {M M2 : qMe} {D : Nat → Nat → Prop} (hW : Wo M) (hF : Frm M M2 D) (hk : ∀ k : Nat, ¬ chg k → mZ M2 481 k = mZ M 481 k) (hD : ∀ i k, D i k → i < 513) : LawsR M2 9 481 0 := LawsR_tr (fun j a _ b => hk _ (by unfold chg; omega)) hW.2.1 hW.2.2.2 (fun k _ => hF.2.2.1 _ k (by omega)) (Nat.le_of_eq hF.1.symm) (fun i _ => hF.2.1 i) (fun i k g1 _ => hF.2.2.1 i k (by omega)) (fun i k g1 _ => hF.z (fun z => by have := hD i k z; omega))
def DXu (i k : Nat) : Prop := DTk i k ∨ (i = 8 ∧ k = 8)
theorem x_undo {d s t : Nat} {M : qMe} (h : shp M) (hs : mZ M 113 7 = s) (ht : mZ M 113 8 = t) (s1 : 1 ≤ s ∧ s ≤ 8) (t1 : t < 16) : wI (cal (d + 2) 28 [.ref 8] M) (fun z M1 => z = mZ M 182 ((t + 15) % 16) ∧ Dif M M1 DXu ∧ (∀ c : Nat, c < 80 → mZ M1 12 c = mZ M (115 + (t + 15) % 16) c) ∧ (∀ c : Nat, c < 8 → mZ M1 22 c = mZ M (132 + (t + 15) % 16) c) ∧ (∀ c : Nat, c < 8 → mZ M1 16 c = mZ M (149 + (t + 15) % 16) c) ∧ (∀ c : Nat, c < 8 → mZ M1 17 c = mZ M (166 + (t + 15) % 16) c) ∧ mZ M1 113 7 = (s : Int) - 1 ∧ mZ M1 113 8 = ((t + 15) % 16 : Nat) ∧ mZ M1 8 8 = 0) := by
  refine wI_q (fun P hP => ?_)
  have hN := h.1
  rw [cal_28, gd_t (Nat.le_of_ble_eq_true rfl)]
  change wp (n_28_0 (cal _) [some (.ref 8)] [] _) _
  simp (disch := first | assumption | decide | omega) only [n_28_0, z_iconst, z_bipush, z_sipush, z_ldc, z_ldcs, z_ldcw, z_ldc2, z_lconst0, z_lconst1, z_null, z_getstatic, z_iload_0, z_iload_1, z_iload_2, z_iload_3, z_iload, z_istore_0, z_istore_1, z_istore_2, z_istore_3, z_istore, z_lload_0, z_lload_1, z_lload_2, z_lload_3, z_lload, z_lstore_0, z_lstore_1, z_lstore_2, z_lstore_3, z_lstore, z_aload_0, z_aload_1, z_aload_2, z_aload_3, z_aload, z_astore_0, z_astore_1, z_astore_2, z_astore_3, z_astore, ald_0, ald_s, z_iinc, qst1_1i, qst2_1i, qst1_1r, qst2_1r, qst1_1u, qst2_1u, qst1_1n, qst2_1n, qst1_1l, qst2_1l, qst1_0, qst2_0, qst1_s, qst2_s, z_iadd, z_isub, z_imul, z_iand, z_ior, z_ixor, z_ishl, z_ishr, z_idiv, z_irem, z_ladd, z_lsub, z_lmul, z_land, z_lor, z_ldiv, z_lrem, z_ineg, z_lshl, z_lshr, z_i2l, z_l2i, z_i2b, z_i2c, z_lcmp, z_dupi, z_dupr, z_popi, z_popr, z_dup2, z_goto, z_get0, z_get1, z_get2, z_get3, z_put0, z_put1, z_put2, z_put2n, z_put3, z_iaload, z_baload, z_laload, z_aaload, z_iastore, z_bastore, z_lastore, z_aastore, z_aastoren, z_arraylength, z_new, z_newarray, z_anewarray, z_multi, z_objinit, z_is0, z_iv0, z_ip0, z_is1, z_iv1, z_ip1, z_is2, z_iv2, z_ip2, z_is3, z_iv3, z_ip3, z_is4, z_iv4, z_ip4, z_is5, z_iv5, z_ip5, z_is6, z_iv6, z_ip6, z_is7, z_iv7, z_ip7, z_m991, z_m992, z_m993, z_m994, z_m995, z_m996, z_m998, acal_0, acal_1, acal_2, acal_3, acal_4, aK_v, aK_n, sF_c, sF_n, b_nr, b_nn, r_I, r_Z, r_L, r_A, r_V, sw_F, sw_n, gd_tt, is01_bzT, is01_0, is01_1, qrv_s, qrv_n, bi_eq_t, bi_eq_f, bi_ne_t, bi_ne_f, bi_lt_t, bi_lt_f, bi_ge_t, bi_ge_f, bi_gt_t, bi_gt_f, bi_le_t, bi_le_f, bc_eq_t, bc_eq_f, bc_ne_t, bc_ne_f, bc_lt_t, bc_lt_f, bc_ge_t, bc_ge_f, bc_gt_t, bc_gt_f, bc_le_t, bc_le_f, bb_eq_t, bb_eq_f, bb_ne_t, bb_ne_f, sc_t, sc_f, b_nr, b_nn, mI_J, mI_R, mJ_I, mJ_R, mR_I, mR_J, mK_I, mK_J, mK_R, mN_I, mN_J, mN_R, inM_I, inM_J, inM_R, mZ_nc, mZ_nk, mZ_sm, mZ_J, mZ_R, mJ_nc, mJ_ni, mJ_sm, mI_Z, iz_add, iz_sub, iz_mul, iz_neg, iz_lt, iz_le, iz_eq, iz_clamp, iz_inB, iz_div, iz_rem, shK h, shR h, inM_lit, and_self, true_and, and_true, true_or, or_true, not_true_eq_false, not_false_eq_true, Nat.reduceEqDiff, reduceCtorEq, Int.reduceNeg, Int.reduceSub, Int.reduceAdd, Int.reduceMul, Int.reduceToNat, Int.reduceEq, Int.neg_neg, Int.cast_ofNat_Int, Nat.reduceAdd, Nat.reduceMul, Nat.reduceSub, gd_t, emod_r, iz_0, Int.zero_add, Int.add_zero, wp_some, hs]
  refine wp_cI (x_takeBack (d := d) h hs ht s1 t1) (fun z M1 q => ?_)
  obtain ⟨hz, hD, a1, a2, a3, a4, a5, a6⟩ := q
  have h1 := hD.shp h (fun i k hi => by unfold DTk; omega)
  have hN1 := h1.1
  have an := fun v => c_answered (d := d) (v := v) h1
  have fin := hP z (qsI M1 8 8 (iz 0)) ⟨hz, (hD.mono (fun i k q => Or.inl q)).I (Or.inr ⟨rfl, rfl⟩), fun c q => by rw [mZ_nc (by decide)]; exact a1 c q, fun c q => by rw [mZ_nc (by decide)]; exact a2 c q, fun c q => by rw [mZ_nc (by decide)]; exact a3 c q, fun c q => by rw [mZ_nc (by decide)]; exact a4 c q, by rw [mZ_nc (by decide)]; exact a5, by rw [mZ_nc (by decide)]; exact a6, mZ_sm rfl (by decide) (by decide)⟩
  simp (disch := first | assumption | decide | omega) only [n_28_0, z_iconst, z_bipush, z_sipush, z_ldc, z_ldcs, z_ldcw, z_ldc2, z_lconst0, z_lconst1, z_null, z_getstatic, z_iload_0, z_iload_1, z_iload_2, z_iload_3, z_iload, z_istore_0, z_istore_1, z_istore_2, z_istore_3, z_istore, z_lload_0, z_lload_1, z_lload_2, z_lload_3, z_lload, z_lstore_0, z_lstore_1, z_lstore_2, z_lstore_3, z_lstore, z_aload_0, z_aload_1, z_aload_2, z_aload_3, z_aload, z_astore_0, z_astore_1, z_astore_2, z_astore_3, z_astore, ald_0, ald_s, z_iinc, qst1_1i, qst2_1i, qst1_1r, qst2_1r, qst1_1u, qst2_1u, qst1_1n, qst2_1n, qst1_1l, qst2_1l, qst1_0, qst2_0, qst1_s, qst2_s, z_iadd, z_isub, z_imul, z_iand, z_ior, z_ixor, z_ishl, z_ishr, z_idiv, z_irem, z_ladd, z_lsub, z_lmul, z_land, z_lor, z_ldiv, z_lrem, z_ineg, z_lshl, z_lshr, z_i2l, z_l2i, z_i2b, z_i2c, z_lcmp, z_dupi, z_dupr, z_popi, z_popr, z_dup2, z_goto, z_get0, z_get1, z_get2, z_get3, z_put0, z_put1, z_put2, z_put2n, z_put3, z_iaload, z_baload, z_laload, z_aaload, z_iastore, z_bastore, z_lastore, z_aastore, z_aastoren, z_arraylength, z_new, z_newarray, z_anewarray, z_multi, z_objinit, z_is0, z_iv0, z_ip0, z_is1, z_iv1, z_ip1, z_is2, z_iv2, z_ip2, z_is3, z_iv3, z_ip3, z_is4, z_iv4, z_ip4, z_is5, z_iv5, z_ip5, z_is6, z_iv6, z_ip6, z_is7, z_iv7, z_ip7, z_m991, z_m992, z_m993, z_m994, z_m995, z_m996, z_m998, acal_0, acal_1, acal_2, acal_3, acal_4, aK_v, aK_n, sF_c, sF_n, b_nr, b_nn, r_I, r_Z, r_L, r_A, r_V, sw_F, sw_n, gd_tt, is01_bzT, is01_0, is01_1, qrv_s, qrv_n, bi_eq_t, bi_eq_f, bi_ne_t, bi_ne_f, bi_lt_t, bi_lt_f, bi_ge_t, bi_ge_f, bi_gt_t, bi_gt_f, bi_le_t, bi_le_f, bc_eq_t, bc_eq_f, bc_ne_t, bc_ne_f, bc_lt_t, bc_lt_f, bc_ge_t, bc_ge_f, bc_gt_t, bc_gt_f, bc_le_t, bc_le_f, bb_eq_t, bb_eq_f, bb_ne_t, bb_ne_f, sc_t, sc_f, b_nr, b_nn, mI_J, mI_R, mJ_I, mJ_R, mR_I, mR_J, mK_I, mK_J, mK_R, mN_I, mN_J, mN_R, inM_I, inM_J, inM_R, mZ_nc, mZ_nk, mZ_sm, mZ_J, mZ_R, mJ_nc, mJ_ni, mJ_sm, mI_Z, iz_add, iz_sub, iz_mul, iz_neg, iz_lt, iz_le, iz_eq, iz_clamp, iz_inB, iz_div, iz_rem, shK h, shR h, inM_lit, and_self, true_and, and_true, true_or, or_true, not_true_eq_false, not_false_eq_true, Nat.reduceEqDiff, reduceCtorEq, Int.reduceNeg, Int.reduceSub, Int.reduceAdd, Int.reduceMul, Int.reduceToNat, Int.reduceEq, Int.neg_neg, Int.cast_ofNat_Int, Nat.reduceAdd, Nat.reduceMul, Nat.reduceSub, gd_t, emod_r, iz_0, Int.zero_add, Int.add_zero, wp_some, shK h1, an]
  exact fin
theorem c_undo_rf {d : Nat} {M : qMe} (h : shp M) (hs : mZ M 113 7 = 0) : cal (d + 2) 28 [.ref 8] M = some (some (.int (iz (-3))), xrf M (-3)) := by
  have hN := h.1
  have rf := c_refused (d := d) h (by unfold isrf; omega : isrf (-3))
  refine (cal_28 _ _ _).trans ((gd_t (Nat.le_of_ble_eq_true rfl)).trans ?_)
  change n_28_0 (cal _) [some (.ref 8)] [] _ = _
  simp (disch := first | assumption | decide | omega) only [n_28_0, z_iconst, z_bipush, z_sipush, z_ldc, z_ldcs, z_ldcw, z_ldc2, z_lconst0, z_lconst1, z_null, z_getstatic, z_iload_0, z_iload_1, z_iload_2, z_iload_3, z_iload, z_istore_0, z_istore_1, z_istore_2, z_istore_3, z_istore, z_lload_0, z_lload_1, z_lload_2, z_lload_3, z_lload, z_lstore_0, z_lstore_1, z_lstore_2, z_lstore_3, z_lstore, z_aload_0, z_aload_1, z_aload_2, z_aload_3, z_aload, z_astore_0, z_astore_1, z_astore_2, z_astore_3, z_astore, ald_0, ald_s, z_iinc, qst1_1i, qst2_1i, qst1_1r, qst2_1r, qst1_1u, qst2_1u, qst1_1n, qst2_1n, qst1_1l, qst2_1l, qst1_0, qst2_0, qst1_s, qst2_s, z_iadd, z_isub, z_imul, z_iand, z_ior, z_ixor, z_ishl, z_ishr, z_idiv, z_irem, z_ladd, z_lsub, z_lmul, z_land, z_lor, z_ldiv, z_lrem, z_ineg, z_lshl, z_lshr, z_i2l, z_l2i, z_i2b, z_i2c, z_lcmp, z_dupi, z_dupr, z_popi, z_popr, z_dup2, z_goto, z_get0, z_get1, z_get2, z_get3, z_put0, z_put1, z_put2, z_put2n, z_put3, z_iaload, z_baload, z_laload, z_aaload, z_iastore, z_bastore, z_lastore, z_aastore, z_aastoren, z_arraylength, z_new, z_newarray, z_anewarray, z_multi, z_objinit, z_is0, z_iv0, z_ip0, z_is1, z_iv1, z_ip1, z_is2, z_iv2, z_ip2, z_is3, z_iv3, z_ip3, z_is4, z_iv4, z_ip4, z_is5, z_iv5, z_ip5, z_is6, z_iv6, z_ip6, z_is7, z_iv7, z_ip7, z_m991, z_m992, z_m993, z_m994, z_m995, z_m996, z_m998, acal_0, acal_1, acal_2, acal_3, acal_4, aK_v, aK_n, sF_c, sF_n, b_nr, b_nn, r_I, r_Z, r_L, r_A, r_V, sw_F, sw_n, gd_tt, is01_bzT, is01_0, is01_1, qrv_s, qrv_n, bi_eq_t, bi_eq_f, bi_ne_t, bi_ne_f, bi_lt_t, bi_lt_f, bi_ge_t, bi_ge_f, bi_gt_t, bi_gt_f, bi_le_t, bi_le_f, bc_eq_t, bc_eq_f, bc_ne_t, bc_ne_f, bc_lt_t, bc_lt_f, bc_ge_t, bc_ge_f, bc_gt_t, bc_gt_f, bc_le_t, bc_le_f, bb_eq_t, bb_eq_f, bb_ne_t, bb_ne_f, sc_t, sc_f, b_nr, b_nn, mI_J, mI_R, mJ_I, mJ_R, mR_I, mR_J, mK_I, mK_J, mK_R, mN_I, mN_J, mN_R, inM_I, inM_J, inM_R, mZ_nc, mZ_nk, mZ_sm, mZ_J, mZ_R, mJ_nc, mJ_ni, mJ_sm, mI_Z, iz_add, iz_sub, iz_mul, iz_neg, iz_lt, iz_le, iz_eq, iz_clamp, iz_inB, iz_div, iz_rem, shK h, shR h, inM_lit, and_self, true_and, and_true, true_or, or_true, not_true_eq_false, not_false_eq_true, Nat.reduceEqDiff, reduceCtorEq, Int.reduceNeg, Int.reduceSub, Int.reduceAdd, Int.reduceMul, Int.reduceToNat, Int.reduceEq, Int.neg_neg, Int.cast_ofNat_Int, Nat.reduceAdd, Nat.reduceMul, Nat.reduceSub, gd_t, emod_r, iz_0, Int.zero_add, Int.add_zero, wp_some, hs, rf]
theorem m_undo_rf {d : Nat} {M : qMe} (h : shp M) (hs : mZ M 479 47 = 0) : cal (d + 2) 169 [.ref 479] M = some (some (.int (iz (-3))), mrf M (-3)) := by
  have hN := h.1
  have rf := m_refuses (d := d) h (by unfold isrf; omega : isrf (-3))
  refine (cal_169 _ _ _).trans ((gd_t (Nat.le_of_ble_eq_true rfl)).trans ?_)
  change n_169_0 (cal _) [some (.ref 479), none, none] [] _ = _
  simp (disch := first | assumption | decide | omega) only [n_169_0, n_169_63, n_169_102, n_169_150, f_169_34, f_169_65, f_169_104, z_iconst, z_bipush, z_sipush, z_ldc, z_ldcs, z_ldcw, z_ldc2, z_lconst0, z_lconst1, z_null, z_getstatic, z_iload_0, z_iload_1, z_iload_2, z_iload_3, z_iload, z_istore_0, z_istore_1, z_istore_2, z_istore_3, z_istore, z_lload_0, z_lload_1, z_lload_2, z_lload_3, z_lload, z_lstore_0, z_lstore_1, z_lstore_2, z_lstore_3, z_lstore, z_aload_0, z_aload_1, z_aload_2, z_aload_3, z_aload, z_astore_0, z_astore_1, z_astore_2, z_astore_3, z_astore, ald_0, ald_s, z_iinc, qst1_1i, qst2_1i, qst1_1r, qst2_1r, qst1_1u, qst2_1u, qst1_1n, qst2_1n, qst1_1l, qst2_1l, qst1_0, qst2_0, qst1_s, qst2_s, z_iadd, z_isub, z_imul, z_iand, z_ior, z_ixor, z_ishl, z_ishr, z_idiv, z_irem, z_ladd, z_lsub, z_lmul, z_land, z_lor, z_ldiv, z_lrem, z_ineg, z_lshl, z_lshr, z_i2l, z_l2i, z_i2b, z_i2c, z_lcmp, z_dupi, z_dupr, z_popi, z_popr, z_dup2, z_goto, z_get0, z_get1, z_get2, z_get3, z_put0, z_put1, z_put2, z_put2n, z_put3, z_iaload, z_baload, z_laload, z_aaload, z_iastore, z_bastore, z_lastore, z_aastore, z_aastoren, z_arraylength, z_new, z_newarray, z_anewarray, z_multi, z_objinit, z_is0, z_iv0, z_ip0, z_is1, z_iv1, z_ip1, z_is2, z_iv2, z_ip2, z_is3, z_iv3, z_ip3, z_is4, z_iv4, z_ip4, z_is5, z_iv5, z_ip5, z_is6, z_iv6, z_ip6, z_is7, z_iv7, z_ip7, z_m991, z_m992, z_m993, z_m994, z_m995, z_m996, z_m998, acal_0, acal_1, acal_2, acal_3, acal_4, aK_v, aK_n, sF_c, sF_n, b_nr, b_nn, r_I, r_Z, r_L, r_A, r_V, sw_F, sw_n, gd_tt, is01_bzT, is01_0, is01_1, qrv_s, qrv_n, bi_eq_t, bi_eq_f, bi_ne_t, bi_ne_f, bi_lt_t, bi_lt_f, bi_ge_t, bi_ge_f, bi_gt_t, bi_gt_f, bi_le_t, bi_le_f, bc_eq_t, bc_eq_f, bc_ne_t, bc_ne_f, bc_lt_t, bc_lt_f, bc_ge_t, bc_ge_f, bc_gt_t, bc_gt_f, bc_le_t, bc_le_f, bb_eq_t, bb_eq_f, bb_ne_t, bb_ne_f, sc_t, sc_f, b_nr, b_nn, mI_J, mI_R, mJ_I, mJ_R, mR_I, mR_J, mK_I, mK_J, mK_R, mN_I, mN_J, mN_R, inM_I, inM_J, inM_R, mZ_nc, mZ_nk, mZ_sm, mZ_J, mZ_R, mJ_nc, mJ_ni, mJ_sm, mI_Z, iz_add, iz_sub, iz_mul, iz_neg, iz_lt, iz_le, iz_eq, iz_clamp, iz_inB, iz_div, iz_rem, shK h, shR h, inM_lit, and_self, true_and, and_true, true_or, or_true, not_true_eq_false, not_false_eq_true, Nat.reduceEqDiff, reduceCtorEq, Int.reduceNeg, Int.reduceSub, Int.reduceAdd, Int.reduceMul, Int.reduceToNat, Int.reduceEq, Int.neg_neg, Int.cast_ofNat_Int, Nat.reduceAdd, Nat.reduceMul, Nat.reduceSub, gd_t, emod_r, iz_0, Int.zero_add, Int.add_zero, wp_some, hs, rf]
theorem o_undo {d : Nat} {M : qMe} (hW : Wo M) (hB : Rb M) (hU : Un M) : SimZ M (d + 2) 28 169 [] (fun M2 => Wo M2 ∧ Rb M2 ∧ Un M2 ∧ (Frm M M2 Drf ∨ Frm M M2 (fun i k => DXu i k ∨ DMu i k))) := by
  have h := hW.1
  have hU0 := hU
  obtain ⟨s, t, s8, t6, h1, h2, h3, h4⟩ := hU
  by_cases s0 : s = 0
  · subst s0
    have hx := (xrf_D.shp h DS_8 : shp (xrf M (-3)))
    have c0 := c_undo_rf (d := d) h h1
    have m0 := m_undo_rf (d := d) hx (by unfold xrf; rw [mZ_nc (by decide), mZ_nc (by decide)]; exact h3)
    obtain ⟨w1, w2, w3⟩ := rf_all (M := M) (b := -3) (by unfold isrf; omega) hW hB
    exact ⟨_, _, _, c0, m0, w1, w2, Un_k hU0 (fun i k q => w3.z (by unfold Drf; omega)) (w3.z (by unfold Drf; omega)), Or.inl w3⟩
  · obtain ⟨z, M1, c0, hz, hD, a1, a2, a3, a4, a5, a6, st⟩ := x_undo (d := d) h h1 h2 (by omega) t6
    have hx := hD.shp h (fun i k hi => by unfold DXu DTk; omega)
    obtain ⟨z2, M2, m0, hz2, hD2, b1, b2, b3, b4, st2M⟩ := m_undo (d := d) (s := s) hx (by rw [hD.z (by unfold DXu DTk; omega)]; exact h3) (by omega)
    have e1 : ∀ k, mZ M1 501 k = mZ M 501 k := fun k => hD.z (by unfold DXu DTk; omega)
    simp only [e1] at hz2 b1 b2 b3
    obtain ⟨n1, n2, n3, n4, n5⟩ := h4 (s - 1) (by omega)
    rw [show (t + 16 - s + (s - 1)) % 16 = (t + 15) % 16 by omega] at n1 n2 n3 n4 n5
    rw [hz2.trans (n5.symm.trans hz.symm)] at m0
    have F2 : Frm M M2 (fun i k => DXu i k ∨ DMu i k) := ((Frm.of hD).mono (fun i k q => Or.inl q)).tr ((Frm.of hD2).mono (fun i k q => Or.inr q))
    have g1 : ∀ i k, ¬ i = 481 → ¬ i = 479 → mZ M2 i k = mZ M1 i k := fun i k q1 q2 => hD2.z (by unfold DMu; omega)
    have hk : ∀ k : Nat, ¬ chg k → mZ M2 481 k = mZ M 481 k := fun k q => by rw [hD2.z (fun z => z.elim (fun y => q y.2) (fun y => by omega)), hD.z (by unfold DXu DTk; omega)]
    have c1 : ∀ c : Int, 0 ≤ c → c < 80 → mZ M2 481 (80 + c).toNat = mZ M (115 + (t + 15) % 16) c.toNat ∧ 0 ≤ mZ M2 481 (80 + c).toNat ∧ mZ M2 481 (80 + c).toNat ≤ 9 := fun c q1 q2 => by
      have := n1 c.toNat (by omega)
      rw [show (80 + c).toNat = 80 + c.toNat by omega, b1 _ (by omega)]
      exact ⟨this.1.symm, this.2⟩
    have c2 : ∀ c : Int, 0 ≤ c → c < 8 → mZ M2 481 (204 + 3 * c + 2).toNat = mZ M (132 + (t + 15) % 16) c.toNat ∧ 0 ≤ mZ M2 481 (204 + 3 * c + 2).toNat ∧ mZ M2 481 (204 + 3 * c + 2).toNat ≤ 1 := fun c q1 q2 => by
      have := n2 c.toNat (by omega)
      rw [show (204 + 3 * c + 2).toNat = 206 + 3 * c.toNat by omega, b2 _ (by omega)]
      exact ⟨this.1.symm, this.2⟩
    have c3 : ∀ c : Int, 0 ≤ c → c < 8 → mZ M2 481 (160 + 5 * c + 2).toNat = mZ M (149 + (t + 15) % 16) c.toNat := fun c q1 q2 => by
      have := n3 c.toNat (by omega)
      have b := b3 (2 * c.toNat) (by omega)
      rw [show 162 + 5 * (2 * c.toNat / 2) + 2 * c.toNat % 2 = (160 + 5 * c + 2).toNat by omega] at b
      rw [b]; exact this.symm
    have c4 : ∀ c : Int, 0 ≤ c → c < 8 → mZ M2 481 (160 + 5 * c + 3).toNat = mZ M (166 + (t + 15) % 16) c.toNat := fun c q1 q2 => by
      have := n4 c.toNat (by omega)
      have b := b3 (2 * c.toNat + 1) (by omega)
      rw [show 162 + 5 * ((2 * c.toNat + 1) / 2) + (2 * c.toNat + 1) % 2 = (160 + 5 * c + 3).toNat by omega] at b
      rw [b]; exact this.symm
    refine ⟨_, M1, M2, c0, m0, ⟨?_, ?_, ?_, ?_⟩, ?_, ?_, Or.inr F2⟩
    · exact F2.shp h (fun i k hi => by unfold DXu DTk DMu; omega)
    · exact WFk_u hW.2.1 hk (fun c q1 q2 => (c1 c q1 q2).2) (fun c q1 q2 => (c2 c q1 q2).2)
    · refine Ra_u hW.2.1 hW.2.2.1 hk (fun i k q1 q2 q3 => ?_) (fun c q1 q2 => ?_) (fun c q1 q2 => ?_) (fun c q1 q2 => ?_) (fun c q1 q2 => ?_)
      · rw [g1 _ _ (by omega) (by omega), hD.z (by unfold DXu DTk; omega)]
      · rw [g1 _ _ (by decide) (by decide), a1 _ (by omega)]; exact (c1 c q1 q2).1.symm
      · rw [g1 _ _ (by decide) (by decide), a2 _ (by omega)]; exact (c2 c q1 q2).1.symm
      · rw [g1 _ _ (by decide) (by decide), a3 _ (by omega)]; exact (c3 c q1 q2).symm
      · rw [g1 _ _ (by decide) (by decide), a4 _ (by omega)]; exact (c4 c q1 q2).symm
    · exact LawsR_u hW F2 hk (fun i k q => by unfold DXu DTk DMu at q; omega)
    · refine Rb_of hB (fun j => F2.z ?_) (fun j => F2.z ?_) ?_
      · unfold DXu DTk DMu; omega
      · unfold DXu DTk DMu; omega
      · rw [g1 _ _ (by decide) (by decide), st, st2M]
    · refine ⟨s - 1, (t + 15) % 16, by omega, by omega, ?_, ?_, ?_, fun j q => ?_⟩
      · rw [g1 _ _ (by decide) (by decide), a5]; omega
      · rw [g1 _ _ (by decide) (by decide), a6]
      · rw [b4]; omega
      · have := h4 j (by omega)
        rw [show (t + 16 - s + j) % 16 = ((t + 15) % 16 + 16 - (s - 1) + j) % 16 by omega] at this
        exact En_k this (by omega) (fun i k z => F2.z (by unfold DXu DTk DMu; omega))

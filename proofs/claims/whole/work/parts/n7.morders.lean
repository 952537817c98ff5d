/-! m's ORDERS -/
def Dmo (i k : Nat) : Prop := DRr i k ∨ DMr i k ∨ DLy 6 i k ∨ (i = 481 ∧ k < 5878) ∨ i = 483 ∨ i = 502 ∨ i = 501 ∨ (i = 479 ∧ (k = 57 ∨ k = 47))
theorem Dmo_m {i k : Nat} (h : Dmo i k) : (479 ≤ i ∧ i ≤ 512) ∧ ¬ i = 480 ∧ ¬ i = 493 ∧ ¬ i = 482 ∧ ¬ i = 484 ∧ ¬ i = 485 ∧ ¬ i = 486 ∧ (i = 479 → ¬ k = 38 ∧ ¬ k = 0) := by
  unfold Dmo DRr DSp DRm DMr DOb DGs DKp DSt DOp DTo DGa DLy at h
  omega
/-- the state at the first ORDER -/
noncomputable def o0R (M : qMe) (b : Nat → Int) (n : Nat) : OS := (rowL M b n, mI M 501, mI M 479 47, 0, 0, -1)
/-- what m's ORDERS leave -/
def OrR (M B : qMe) (b : Nat → Int) (n : Nat) (z : Int) (M1 : qMe) : Prop :=
  ((rTK b n false).1 = false ∧ z = -6 ∧ ∃ Mq, Dif (qsI M 479 57 (iz (-1))) Mq DRr ∧ mZ Mq 479 13 = 0 ∧ mZ Mq 479 14 = ((sTK b n (rTK b n false).2.1 : Nat) : Int) ∧ M1 = mrf Mq (-6)) ∨
  ((rTK b n false).1 = true ∧ ∃ Mq i' o', Frm M Mq Dmo ∧ mZ Mq 479 13 = 0 ∧ mZ Mq 479 14 = -1 ∧ ((runO B (rTK b n false).2.2.2.2 0 (o0R M b n) = (true, i', o') ∧ z = o'.2.2.2.1 ∧ M1 = qsI Mq 479 0 (iz 0) ∧ MI B Mq o' ∧ boO o' 930 ∧ mZ Mq 479 57 = -1) ∨ (runO B (rTK b n false).2.2.2.2 0 (o0R M b n) = (false, i', o') ∧ z = -3 ∧ M1 = mrf Mq (-3) ∧ (∀ k, mZ Mq 481 k = mZ M 481 k) ∧ (∀ k : Nat, k < 840 → mZ Mq 501 k = mZ M 501 k) ∧ mZ Mq 479 47 = mZ M 479 47 ∧ mZ Mq 479 57 = (i' : Int))))
set_option maxHeartbeats 2000000 in
theorem m_orders {d n s : Nat} {M B : qMe} {b : Nat → Int} (hW : WoM M) (hI : Rid M) (hA : okM (Am (mN M)) M) (hr : Rw M) (hn : n ≤ 400) (htp : mZ M 479 13 = (n : Int)) (hb : ∀ j : Nat, j < n → mZ M 486 j = sg (b j) ∧ 0 ≤ b j ∧ b j ≤ 255) (hu : mZ M 479 47 = (s : Int)) (s8 : s ≤ 8) (h493 : ∀ k, mZ B 493 k = mZ M 493 k) (hit : ∀ it, it ∈ (rTK b n false).2.2.2.2 → itM it) (h12 : (rTK b n false).2.2.2.2.length ≤ 12) : wI (cal (d + 170) 203 [.ref 479] M) (fun z M1 => OrR M B b n z M1) := by
  refine wI_q (fun P hP => ?_)
  have h := hW.1
  have hN := h.1
  have nl := nTK_n (b := b) (n := n)
  have D0 : Dif M (qsI M 479 57 (iz (-1))) (fun i k => i = 479 ∧ k = 57) := Dif.rfl'.I ⟨rfl, rfl⟩
  have h0 := D0.shp h (fun i k hi => by omega)
  have pa := m_readsAs (d := d + 69) (n := n) (b := b) (law := false) h0 (fun j q => by rw [D0.z (by omega)]; exact hr j q) hn (by rw [D0.z (by omega)]; exact htp) (fun j q => by rw [D0.z (by omega)]; exact hb j q)
  rw [show d + 69 + 100 = d + 169 by omega] at pa
  have pa : wI (cal (d + 169) 125 [.ref 479, .int (iz 1)] (qsI M 479 57 (iz (-1)))) _ := pa
  have st0 : mZ (qsI M 479 57 (iz (-1))) 479 57 = -1 := mZ_sm rfl (by decide) (by decide)
  show wp (cal ((d + 169) + 1) 203 [.ref 479] M) P
  rw [cal_203, gd_t (Nat.le_of_ble_eq_true rfl)]
  change wp (n_203_0 (cal _) [some (.ref 479), none, none, none, none] [] _) _
  simp (disch := first | assumption | decide | omega) only [n_203_0, n_203_47, n_203_74, n_203_142, n_203_173, n_203_204, n_203_227, f_203_49, f_203_123, f_203_145, f_203_176, z_iconst, z_bipush, z_sipush, z_ldc, z_ldcs, z_ldcw, z_ldc2, z_lconst0, z_lconst1, z_null, z_getstatic, z_iload_0, z_iload_1, z_iload_2, z_iload_3, z_iload, z_istore_0, z_istore_1, z_istore_2, z_istore_3, z_istore, z_lload_0, z_lload_1, z_lload_2, z_lload_3, z_lload, z_lstore_0, z_lstore_1, z_lstore_2, z_lstore_3, z_lstore, z_aload_0, z_aload_1, z_aload_2, z_aload_3, z_aload, z_astore_0, z_astore_1, z_astore_2, z_astore_3, z_astore, ald_0, ald_s, z_iinc, qst1_1i, qst2_1i, qst1_1r, qst2_1r, qst1_1u, qst2_1u, qst1_1n, qst2_1n, qst1_1l, qst2_1l, qst1_0, qst2_0, qst1_s, qst2_s, z_iadd, z_isub, z_imul, z_iand, z_ior, z_ixor, z_ishl, z_ishr, z_idiv, z_irem, z_ladd, z_lsub, z_lmul, z_land, z_lor, z_ldiv, z_lrem, z_ineg, z_lshl, z_lshr, z_i2l, z_l2i, z_i2b, z_i2c, z_lcmp, z_dupi, z_dupr, z_popi, z_popr, z_dup2, z_goto, z_get0, z_get1, z_get2, z_get3, z_put0, z_put1, z_put2, z_put2n, z_put3, z_iaload, z_baload, z_laload, z_aaload, z_iastore, z_bastore, z_lastore, z_aastore, z_aastoren, z_arraylength, z_new, z_newarray, z_anewarray, z_multi, z_objinit, z_is0, z_iv0, z_ip0, z_is1, z_iv1, z_ip1, z_is2, z_iv2, z_ip2, z_is3, z_iv3, z_ip3, z_is4, z_iv4, z_ip4, z_is5, z_iv5, z_ip5, z_is6, z_iv6, z_ip6, z_is7, z_iv7, z_ip7, z_m991, z_m992, z_m993, z_m994, z_m995, z_m996, z_m998, acal_0, acal_1, acal_2, acal_3, acal_4, aK_v, aK_n, sF_c, sF_n, b_nr, b_nn, r_I, r_Z, r_L, r_A, r_V, sw_F, sw_n, gd_tt, is01_bzT, is01_0, is01_1, qrv_s, qrv_n, bi_eq_t, bi_eq_f, bi_ne_t, bi_ne_f, bi_lt_t, bi_lt_f, bi_ge_t, bi_ge_f, bi_gt_t, bi_gt_f, bi_le_t, bi_le_f, bc_eq_t, bc_eq_f, bc_ne_t, bc_ne_f, bc_lt_t, bc_lt_f, bc_ge_t, bc_ge_f, bc_gt_t, bc_gt_f, bc_le_t, bc_le_f, bb_eq_t, bb_eq_f, bb_ne_t, bb_ne_f, sc_t, sc_f, b_nr, b_nn, mI_J, mI_R, mJ_I, mJ_R, mR_I, mR_J, mK_I, mK_J, mK_R, mN_I, mN_J, mN_R, inM_I, inM_J, inM_R, mZ_nc, mZ_nk, mZ_sm, mZ_J, mZ_R, mJ_nc, mJ_ni, mJ_sm, mI_Z, iz_add, iz_sub, iz_mul, iz_neg, iz_lt, iz_le, iz_eq, iz_clamp, iz_inB, iz_div, iz_rem, shK h, shR h, inM_lit, and_self, true_and, and_true, true_or, or_true, not_true_eq_false, not_false_eq_true, Nat.reduceEqDiff, reduceCtorEq, Int.reduceNeg, Int.reduceSub, Int.reduceAdd, Int.reduceMul, Int.reduceToNat, Int.reduceEq, Int.neg_neg, Int.cast_ofNat_Int, Nat.reduceAdd, Nat.reduceMul, Nat.reduceSub, gd_t, emod_r, iz_0, Int.zero_add, Int.add_zero, wp_some]
  generalize hM0 : qsI M 479 57 (iz (-1)) = M0 at *
  refine wp_cI pa (fun z M2 r => ?_)
  clear pa
  obtain ⟨D2, t2, k2, r⟩ := r
  have h2 := D2.shp h0 (fun i k hi => by unfold DRr DSp DRm; omega)
  have hN2 := h2.1
  rcases r with ⟨rt, rfl, f2⟩ | ⟨rt, rfl, f2⟩
  · -- well read
    have eT : rTK b n false = (true, (rTK b n false).2) := by rw [← rt]
    obtain ⟨⟨p1, q1, cs, is⟩, e2⟩ : ∃ y, (rTK b n false).2 = y := ⟨_, rfl⟩
    rw [e2] at eT
    have eis : (rTK b n false).2.2.2.2 = is := by rw [e2]
    rw [eis] at hit h12
    unfold OrR at hP
    rw [eis] at hP
    have F02 : Frm M M2 Dmo := ((Frm.of D0).mono (fun i k q => by unfold Dmo; omega)).tr ((Frm.of D2).mono (fun i k q => Or.inl q))
    have m2 : ∀ i k, ¬ DRr i k → ¬ (i = 479 ∧ k = 57) → mZ M2 i k = mZ M i k := fun i k q1 q2 => (D2.z q1).trans (D0.z q2)
    have fin := m_ahead (d := d + 169) (P := P) h2 (fun M3 D3 a1 a2 => ?_)
    · simp (disch := first | assumption | decide | omega) only [n_203_0, n_203_47, n_203_74, n_203_142, n_203_173, n_203_204, n_203_227, f_203_49, f_203_123, f_203_145, f_203_176, z_iconst, z_bipush, z_sipush, z_ldc, z_ldcs, z_ldcw, z_ldc2, z_lconst0, z_lconst1, z_null, z_getstatic, z_iload_0, z_iload_1, z_iload_2, z_iload_3, z_iload, z_istore_0, z_istore_1, z_istore_2, z_istore_3, z_istore, z_lload_0, z_lload_1, z_lload_2, z_lload_3, z_lload, z_lstore_0, z_lstore_1, z_lstore_2, z_lstore_3, z_lstore, z_aload_0, z_aload_1, z_aload_2, z_aload_3, z_aload, z_astore_0, z_astore_1, z_astore_2, z_astore_3, z_astore, ald_0, ald_s, z_iinc, qst1_1i, qst2_1i, qst1_1r, qst2_1r, qst1_1u, qst2_1u, qst1_1n, qst2_1n, qst1_1l, qst2_1l, qst1_0, qst2_0, qst1_s, qst2_s, z_iadd, z_isub, z_imul, z_iand, z_ior, z_ixor, z_ishl, z_ishr, z_idiv, z_irem, z_ladd, z_lsub, z_lmul, z_land, z_lor, z_ldiv, z_lrem, z_ineg, z_lshl, z_lshr, z_i2l, z_l2i, z_i2b, z_i2c, z_lcmp, z_dupi, z_dupr, z_popi, z_popr, z_dup2, z_goto, z_get0, z_get1, z_get2, z_get3, z_put0, z_put1, z_put2, z_put2n, z_put3, z_iaload, z_baload, z_laload, z_aaload, z_iastore, z_bastore, z_lastore, z_aastore, z_aastoren, z_arraylength, z_new, z_newarray, z_anewarray, z_multi, z_objinit, z_is0, z_iv0, z_ip0, z_is1, z_iv1, z_ip1, z_is2, z_iv2, z_ip2, z_is3, z_iv3, z_ip3, z_is4, z_iv4, z_ip4, z_is5, z_iv5, z_ip5, z_is6, z_iv6, z_ip6, z_is7, z_iv7, z_ip7, z_m991, z_m992, z_m993, z_m994, z_m995, z_m996, z_m998, acal_0, acal_1, acal_2, acal_3, acal_4, aK_v, aK_n, sF_c, sF_n, b_nr, b_nn, r_I, r_Z, r_L, r_A, r_V, sw_F, sw_n, gd_tt, is01_bzT, is01_0, is01_1, qrv_s, qrv_n, bi_eq_t, bi_eq_f, bi_ne_t, bi_ne_f, bi_lt_t, bi_lt_f, bi_ge_t, bi_ge_f, bi_gt_t, bi_gt_f, bi_le_t, bi_le_f, bc_eq_t, bc_eq_f, bc_ne_t, bc_ne_f, bc_lt_t, bc_lt_f, bc_ge_t, bc_ge_f, bc_gt_t, bc_gt_f, bc_le_t, bc_le_f, bb_eq_t, bb_eq_f, bb_ne_t, bb_ne_f, sc_t, sc_f, b_nr, b_nn, mI_J, mI_R, mJ_I, mJ_R, mR_I, mR_J, mK_I, mK_J, mK_R, mN_I, mN_J, mN_R, inM_I, inM_J, inM_R, mZ_nc, mZ_nk, mZ_sm, mZ_J, mZ_R, mJ_nc, mJ_ni, mJ_sm, mI_Z, iz_add, iz_sub, iz_mul, iz_neg, iz_lt, iz_le, iz_eq, iz_clamp, iz_inB, iz_div, iz_rem, shK h, shR h, inM_lit, and_self, true_and, and_true, true_or, or_true, not_true_eq_false, not_false_eq_true, Nat.reduceEqDiff, reduceCtorEq, Int.reduceNeg, Int.reduceSub, Int.reduceAdd, Int.reduceMul, Int.reduceToNat, Int.reduceEq, Int.neg_neg, Int.cast_ofNat_Int, Nat.reduceAdd, Nat.reduceMul, Nat.reduceSub, gd_t, emod_r, iz_0, Int.zero_add, Int.add_zero, wp_some, shK h2, shR h2]
      exact fin
    · have h3 := D3.shp h2 (fun i k hi => by omega)
      have hN3 := h3.1
      have la := m_laysN (d := d + 168) (t := 6) (N := nTK b n) h3 ((D3.z (by omega)).trans k2.1) (by omega) (by decide)
      rw [show d + 168 + 1 = d + 169 by omega] at la
      have la : wV (cal (d + 169) 126 [.ref 479, .int (iz 6)] M3) _ := la
      have u3 : mZ M3 479 47 = (s : Int) := (D3.z (by omega)).trans ((m2 _ _ (by unfold DRr DSp DRm; omega) (by omega)).trans hu)
      simp (disch := first | assumption | decide | omega) only [n_203_0, n_203_47, n_203_74, n_203_142, n_203_173, n_203_204, n_203_227, f_203_22, f_203_49, f_203_145, f_203_176, n_203_123, z_iconst, z_bipush, z_sipush, z_ldc, z_ldcs, z_ldcw, z_ldc2, z_lconst0, z_lconst1, z_null, z_getstatic, z_iload_0, z_iload_1, z_iload_2, z_iload_3, z_iload, z_istore_0, z_istore_1, z_istore_2, z_istore_3, z_istore, z_lload_0, z_lload_1, z_lload_2, z_lload_3, z_lload, z_lstore_0, z_lstore_1, z_lstore_2, z_lstore_3, z_lstore, z_aload_0, z_aload_1, z_aload_2, z_aload_3, z_aload, z_astore_0, z_astore_1, z_astore_2, z_astore_3, z_astore, ald_0, ald_s, z_iinc, qst1_1i, qst2_1i, qst1_1r, qst2_1r, qst1_1u, qst2_1u, qst1_1n, qst2_1n, qst1_1l, qst2_1l, qst1_0, qst2_0, qst1_s, qst2_s, z_iadd, z_isub, z_imul, z_iand, z_ior, z_ixor, z_ishl, z_ishr, z_idiv, z_irem, z_ladd, z_lsub, z_lmul, z_land, z_lor, z_ldiv, z_lrem, z_ineg, z_lshl, z_lshr, z_i2l, z_l2i, z_i2b, z_i2c, z_lcmp, z_dupi, z_dupr, z_popi, z_popr, z_dup2, z_goto, z_get0, z_get1, z_get2, z_get3, z_put0, z_put1, z_put2, z_put2n, z_put3, z_iaload, z_baload, z_laload, z_aaload, z_iastore, z_bastore, z_lastore, z_aastore, z_aastoren, z_arraylength, z_new, z_newarray, z_anewarray, z_multi, z_objinit, z_is0, z_iv0, z_ip0, z_is1, z_iv1, z_ip1, z_is2, z_iv2, z_ip2, z_is3, z_iv3, z_ip3, z_is4, z_iv4, z_ip4, z_is5, z_iv5, z_ip5, z_is6, z_iv6, z_ip6, z_is7, z_iv7, z_ip7, z_m991, z_m992, z_m993, z_m994, z_m995, z_m996, z_m998, acal_0, acal_1, acal_2, acal_3, acal_4, aK_v, aK_n, sF_c, sF_n, b_nr, b_nn, r_I, r_Z, r_L, r_A, r_V, sw_F, sw_n, gd_tt, is01_bzT, is01_0, is01_1, qrv_s, qrv_n, bi_eq_t, bi_eq_f, bi_ne_t, bi_ne_f, bi_lt_t, bi_lt_f, bi_ge_t, bi_ge_f, bi_gt_t, bi_gt_f, bi_le_t, bi_le_f, bc_eq_t, bc_eq_f, bc_ne_t, bc_ne_f, bc_lt_t, bc_lt_f, bc_ge_t, bc_ge_f, bc_gt_t, bc_gt_f, bc_le_t, bc_le_f, bb_eq_t, bb_eq_f, bb_ne_t, bb_ne_f, sc_t, sc_f, b_nr, b_nn, mI_J, mI_R, mJ_I, mJ_R, mR_I, mR_J, mK_I, mK_J, mK_R, mN_I, mN_J, mN_R, inM_I, inM_J, inM_R, mZ_nc, mZ_nk, mZ_sm, mZ_J, mZ_R, mJ_nc, mJ_ni, mJ_sm, mI_Z, iz_add, iz_sub, iz_mul, iz_neg, iz_lt, iz_le, iz_eq, iz_clamp, iz_inB, iz_div, iz_rem, inM_lit, and_self, true_and, and_true, true_or, or_true, not_true_eq_false, not_false_eq_true, Nat.reduceEqDiff, reduceCtorEq, Int.reduceNeg, Int.reduceSub, Int.reduceAdd, Int.reduceMul, Int.reduceToNat, Int.reduceEq, Int.neg_neg, Int.cast_ofNat_Int, Nat.reduceAdd, Nat.reduceMul, Nat.reduceSub, gd_t, emod_r, iz_0, Int.zero_add, Int.add_zero, wp_some, shK h3, shR h3, u3]
      refine wp_cV la (fun M4 r => ?_)
      clear la
      obtain ⟨D4, l0, l1⟩ := r
      have h4 := D4.shp h3 (fun i k hi => by unfold DLn; omega)
      have hN4 := h4.1
      have r4 : ∀ k, mI M4 481 k = rowL M b n k := rowL_of hn l0 (fun p q => by
        obtain ⟨y1, y2⟩ := l1 p q
        obtain ⟨y3, y4⟩ := k2.2 p (by omega)
        rw [D3.z (by omega), y3] at y1
        rw [D3.z (by omega), y4] at y2
        exact ⟨y1, y2⟩) (fun k q => by rw [D4.z q, D3.z (by omega), m2 _ _ (by unfold DRr DSp DRm; omega) (by omega)])
      have D5 : Dif M4 (qsI (qsI (qsI (qsI M4 479 58 (iz 0)) 479 59 (iz 0)) 479 60 (iz (-1))) 479 61 (iz 2400)) (fun i k => i = 479 ∧ (k = 58 ∨ k = 59 ∨ k = 60 ∨ k = 61)) := (((Dif.rfl'.I ⟨rfl, Or.inl rfl⟩).I ⟨rfl, Or.inr (Or.inl rfl)⟩).I ⟨rfl, Or.inr (Or.inr (Or.inl rfl))⟩).I ⟨rfl, Or.inr (Or.inr (Or.inr rfl))⟩
      have h5 := D5.shp h4 (fun i k hi => by omega)
      have hN5 := h5.1
      have oa5 : mZ (qsI (qsI (qsI (qsI M4 479 58 (iz 0)) 479 59 (iz 0)) 479 60 (iz (-1))) 479 61 (iz 2400)) 479 61 = 2400 := mZ_sm rfl (by decide) (by decide)
      have C5 : CkM (qsI (qsI (qsI (qsI M4 479 58 (iz 0)) 479 59 (iz 0)) 479 60 (iz (-1))) 479 61 (iz 2400)) 0 0 (-1) := ⟨by rw [mZ_nk (by decide), mZ_nk (by decide), mZ_nk (by decide), mZ_sm rfl (by decide) (by decide)], by rw [mZ_nk (by decide), mZ_nk (by decide), mZ_sm rfl (by decide) (by decide)], by rw [mZ_nk (by decide), mZ_sm rfl (by decide) (by decide)]⟩
      have l5 : mZ (qsI (qsI (qsI (qsI M4 479 58 (iz 0)) 479 59 (iz 0)) 479 60 (iz (-1))) 479 61 (iz 2400)) 481 277 = ((nTK b n : Nat) : Int) := (D5.z (by omega)).trans l0
      have l0' : mZ M4 481 277 = ((nTK b n : Nat) : Int) := l0
      have NI : ((nTK b n : Nat) : Int) ≤ 400 := by omega
      simp (disch := first | assumption | decide | omega) only [n_203_0, n_203_47, n_203_74, n_203_142, n_203_173, n_203_204, n_203_227, f_203_22, f_203_49, f_203_145, f_203_176, n_203_123, z_iconst, z_bipush, z_sipush, z_ldc, z_ldcs, z_ldcw, z_ldc2, z_lconst0, z_lconst1, z_null, z_getstatic, z_iload_0, z_iload_1, z_iload_2, z_iload_3, z_iload, z_istore_0, z_istore_1, z_istore_2, z_istore_3, z_istore, z_lload_0, z_lload_1, z_lload_2, z_lload_3, z_lload, z_lstore_0, z_lstore_1, z_lstore_2, z_lstore_3, z_lstore, z_aload_0, z_aload_1, z_aload_2, z_aload_3, z_aload, z_astore_0, z_astore_1, z_astore_2, z_astore_3, z_astore, ald_0, ald_s, z_iinc, qst1_1i, qst2_1i, qst1_1r, qst2_1r, qst1_1u, qst2_1u, qst1_1n, qst2_1n, qst1_1l, qst2_1l, qst1_0, qst2_0, qst1_s, qst2_s, z_iadd, z_isub, z_imul, z_iand, z_ior, z_ixor, z_ishl, z_ishr, z_idiv, z_irem, z_ladd, z_lsub, z_lmul, z_land, z_lor, z_ldiv, z_lrem, z_ineg, z_lshl, z_lshr, z_i2l, z_l2i, z_i2b, z_i2c, z_lcmp, z_dupi, z_dupr, z_popi, z_popr, z_dup2, z_goto, z_get0, z_get1, z_get2, z_get3, z_put0, z_put1, z_put2, z_put2n, z_put3, z_iaload, z_baload, z_laload, z_aaload, z_iastore, z_bastore, z_lastore, z_aastore, z_aastoren, z_arraylength, z_new, z_newarray, z_anewarray, z_multi, z_objinit, z_is0, z_iv0, z_ip0, z_is1, z_iv1, z_ip1, z_is2, z_iv2, z_ip2, z_is3, z_iv3, z_ip3, z_is4, z_iv4, z_ip4, z_is5, z_iv5, z_ip5, z_is6, z_iv6, z_ip6, z_is7, z_iv7, z_ip7, z_m991, z_m992, z_m993, z_m994, z_m995, z_m996, z_m998, acal_0, acal_1, acal_2, acal_3, acal_4, aK_v, aK_n, sF_c, sF_n, b_nr, b_nn, r_I, r_Z, r_L, r_A, r_V, sw_F, sw_n, gd_tt, is01_bzT, is01_0, is01_1, qrv_s, qrv_n, bi_eq_t, bi_eq_f, bi_ne_t, bi_ne_f, bi_lt_t, bi_lt_f, bi_ge_t, bi_ge_f, bi_gt_t, bi_gt_f, bi_le_t, bi_le_f, bc_eq_t, bc_eq_f, bc_ne_t, bc_ne_f, bc_lt_t, bc_lt_f, bc_ge_t, bc_ge_f, bc_gt_t, bc_gt_f, bc_le_t, bc_le_f, bb_eq_t, bb_eq_f, bb_ne_t, bb_ne_f, sc_t, sc_f, b_nr, b_nn, mI_J, mI_R, mJ_I, mJ_R, mR_I, mR_J, mK_I, mK_J, mK_R, mN_I, mN_J, mN_R, inM_I, inM_J, inM_R, mZ_nc, mZ_nk, mZ_sm, mZ_J, mZ_R, mJ_nc, mJ_ni, mJ_sm, mI_Z, iz_add, iz_sub, iz_mul, iz_neg, iz_lt, iz_le, iz_eq, iz_clamp, iz_inB, iz_div, iz_rem, inM_lit, and_self, true_and, and_true, true_or, or_true, not_true_eq_false, not_false_eq_true, Nat.reduceEqDiff, reduceCtorEq, Int.reduceNeg, Int.reduceSub, Int.reduceAdd, Int.reduceMul, Int.reduceToNat, Int.reduceEq, Int.neg_neg, Int.cast_ofNat_Int, Nat.reduceAdd, Nat.reduceMul, Nat.reduceSub, gd_t, emod_r, iz_0, Int.zero_add, Int.add_zero, wp_some, shK h4, shR h4, l0']
      generalize qsI (qsI (qsI (qsI M4 479 58 (iz 0)) 479 59 (iz 0)) 479 60 (iz (-1))) 479 61 (iz 2400) = M5 at *
      have F25 : Frm M2 M5 (fun i k => i = 483 ∨ i = 502 ∨ DLn 6 (nTK b n) i k ∨ (i = 479 ∧ (k = 58 ∨ k = 59 ∨ k = 60 ∨ k = 61))) := ((Frm.of D3).mono (fun i k q => by omega)).tr (((Frm.of D4).mono (fun i k q => Or.inr (Or.inr (Or.inl q)))).tr ((Frm.of D5).mono (fun i k q => Or.inr (Or.inr (Or.inr q)))))
      have F05 : Frm M M5 Dmo := F02.tr (F25.mono (fun i k q => by
        unfold DLn at q
        unfold Dmo DMr DOb
        omega))
      have r5 : ∀ k, mI M5 481 k = rowL M b n k := fun k => (I_of_Z (D5.z (by omega))).trans (r4 k)
      have k481 : ∀ k, ¬ DLy 6 481 k → mZ M5 481 k = mZ M 481 k := fun k q => by
        show (mI M5 481 k).toInt = _
        rw [r5 k, rowL_n (fun z => q (by unfold DLn at z; unfold DLy; omega))]
        rfl
      have m5 : ∀ i k, ¬ DRr i k → ¬ (i = 479 ∧ k = 57) → ¬ (i = 483 ∨ i = 502 ∨ DLn 6 (nTK b n) i k ∨ (i = 479 ∧ (k = 58 ∨ k = 59 ∨ k = 60 ∨ k = 61))) → mZ M5 i k = mZ M i k := fun i k q1 q2 q3 => (F25.z q3).trans (m2 i k q1 q2)
      have W5 : WoM M5 := ⟨h5, WFk_low hW.2.1 (fun k q => k481 k (by unfold DLy; omega)), LawsR_6 hW.2.1 hW.2.2 k481 (fun k => F05.2.2.1 _ _ (by omega)) (Nat.le_of_eq F05.1.symm) (fun i _ => F05.2.1 i) (fun i k g1 _ => F05.2.2.1 _ _ (by omega)) (fun i k g1 _ => F05.z (fun z => by have := Dmo_m z; omega))⟩
      have I5 : Rid M5 := Rid_z hI (fun i k q => F05.z (fun z => by have := Dmo_m z; omega))
      have es : mI M 479 47 = iz (s : Int) := I_of_Z (hu.trans (iz_toInt (by omega) (by omega)).symm)
      have esI : (mI M 479 47).toInt = (s : Int) := hu
      have MI5 : MI B M5 (o0R M b n) := ⟨W5, I5, okM_m hA F05 hN, ⟨r5, fun k _ => I_of_Z (m5 _ _ (by unfold DRr DSp DRm; omega) (by omega) (by unfold DLn; omega)), I_of_Z (m5 _ _ (by unfold DRr DSp DRm; omega) (by omega) (by unfold DLn; omega)), by show 0 ≤ (mI M 479 47).toInt ∧ (mI M 479 47).toInt ≤ 8; omega, fun k => by rw [h493]; exact m5 _ _ (by unfold DRr DSp DRm; omega) (by omega) (by unfold DLn; omega)⟩, C5⟩
      have T5 : Tk6 M5 (cTK b n) (vTK b n) (nTK b n) := ⟨by omega, fun p q => by
        obtain ⟨y1, y2⟩ := l1 p q
        obtain ⟨y3, y4⟩ := k2.2 p (by omega)
        rw [D3.z (by omega), y3] at y1
        rw [D3.z (by omega), y4] at y2
        exact ⟨(D5.z (by omega)).trans y1, (D5.z (by omega)).trans y2⟩, cTK_0, fun p => (vTK_b p).1⟩
      have tp5 : mZ M5 479 13 = 0 := (F25.z (by unfold DLn; omega)).trans t2
      have ft5 : mZ M5 479 14 = -1 := (F25.z (by unfold DLn; omega)).trans f2
      have so5 : mZ M5 479 57 = -1 := (F25.z (by unfold DLn; omega)).trans ((D2.z (by unfold DRr DSp DRm; omega)).trans st0)
      have dmr : ∀ k, DMr 479 k → ¬ k = 13 ∧ ¬ k = 14 ∧ ¬ k = 57 := fun k q => by
        unfold DMr DOb DGs DKp DSt DOp DTo DGa at q
        omega
      have dmr2 : ∀ i k, DMr i k → ¬ i = 483 ∧ ¬ i = 502 := fun i k q => by
        unfold DMr DOb DGs DKp DSt DOp DTo DGa at q
        omega
      have eT : pTxt (cTK b n) (vTK b n) false (nTK b n) 12 0 0 0 = (true, p1, q1, cs, is) := eT
      have fin := m_runAll (d := d) (N := nTK b n) (B := B) (M0 := M5) (x := 2400 + ((nTK b n : Nat) : Int)) (um := (s : Int)) (P := P) rfl 12 0 0 0 p1 q1 0 qLF cs is (o0R M b n) M5 0 eT (by have := qLF_ge; omega) (by omega) (by omega) hit MI5 ⟨by show 0 ≤ (0 : Int) ∧ (0 : Int) ≤ 0; omega, by show 0 ≤ (0 : Int) ∧ (0 : Int) ≤ 0; omega, by show -1 ≤ (-1 : Int) ∧ (-1 : Int) ≤ 1000; omega⟩ (by omega) (Frm.of Dif.rfl') T5 oa5 (fun M' i' o' er mi bo F => ?_) (fun M' i' o' v4 er F h' => ?_)
      · exact fin
      · exact hP _ _ (Or.inr ⟨rt, M', i', o', F05.tr (F.mono (fun i k q => Or.inr (Or.inl q))), (F.z (fun z => (dmr _ z).1 rfl)).trans tp5, (F.z (fun z => (dmr _ z).2.1 rfl)).trans ft5, Or.inl ⟨er, rfl, rfl, mi, bo, (F.z (fun z => (dmr _ z).2.2 rfl)).trans so5⟩⟩)
      · refine m_restore (d := d + 169) h' (fun M6 v D6 b1 b2 => ?_)
        have h6 := D6.shp h' (fun i k hi => by omega)
        have hN6 := h6.1
        have ib := runO_i is 0 i' _ o' false er
        have D7 : Dif M6 (qsI (qsI M6 479 47 (iz (s : Int))) 479 57 (iz (i' : Int))) (fun i k => i = 479 ∧ (k = 47 ∨ k = 57)) := (Dif.rfl'.I ⟨rfl, Or.inl rfl⟩).I ⟨rfl, Or.inr rfl⟩
        have h7 := D7.shp h6 (fun i k hi => by omega)
        have re := m_refuses (d := d + 168) (b := -3) h7 (by unfold isrf; omega)
        rw [show d + 168 + 1 = d + 169 by omega] at re
        have F57 : Frm M5 (qsI (qsI M6 479 47 (iz (s : Int))) 479 57 (iz (i' : Int))) (fun i k => DMr i k ∨ ((i = 481 ∧ k < 5878) ∨ (i = 501 ∧ k < 840)) ∨ (i = 479 ∧ (k = 47 ∨ k = 57))) := (F.mono (fun i k q => Or.inl q)).tr (((Frm.of D6).mono (fun i k q => Or.inr (Or.inl q))).tr ((Frm.of D7).mono (fun i k q => Or.inr (Or.inr q))))
        have F07 : Frm M (qsI (qsI M6 479 47 (iz (s : Int))) 479 57 (iz (i' : Int))) Dmo := F05.tr (F57.mono (fun i k q => by
          rcases q with q | q
          · exact Or.inr (Or.inl q)
          · unfold Dmo; omega))
        have c483 : ∀ k : Nat, k < 5878 → mZ M' 483 k = mZ M 481 k := fun k q => by
          rw [F.z (fun z => (dmr2 _ _ z).1 rfl), D5.z (by omega), D4.z (by unfold DLn; omega), a1 k q]
          exact m2 _ _ (by unfold DRr DSp DRm; omega) (by omega)
        have c502 : ∀ k : Nat, k < 840 → mZ M' 502 k = mZ M 501 k := fun k q => by
          rw [F.z (fun z => (dmr2 _ _ z).2 rfl), D5.z (by omega), D4.z (by unfold DLn; omega), a2 k q]
          exact m2 _ _ (by unfold DRr DSp DRm; omega) (by omega)
        have fin := hP (-3) _ (Or.inr ⟨rt, _, i', o', F07, (F57.z (fun z => by
          rcases z with z | z
          · exact (dmr _ z).1 rfl
          · omega)).trans tp5, (F57.z (fun z => by
          rcases z with z | z
          · exact (dmr _ z).2.1 rfl
          · omega)).trans ft5, Or.inr ⟨er, rfl, rfl, fun k => ?_, fun k q => ?_, ?_, mZ_sm rfl (by omega) (by omega)⟩⟩)
        · clear hP
          simp (disch := first | assumption | decide | omega) only [n_203_0, n_203_47, n_203_74, n_203_142, n_203_173, n_203_204, n_203_227, f_203_22, f_203_49, f_203_123, f_203_145, f_203_176, z_iconst, z_bipush, z_sipush, z_ldc, z_ldcs, z_ldcw, z_ldc2, z_lconst0, z_lconst1, z_null, z_getstatic, z_iload_0, z_iload_1, z_iload_2, z_iload_3, z_iload, z_istore_0, z_istore_1, z_istore_2, z_istore_3, z_istore, z_lload_0, z_lload_1, z_lload_2, z_lload_3, z_lload, z_lstore_0, z_lstore_1, z_lstore_2, z_lstore_3, z_lstore, z_aload_0, z_aload_1, z_aload_2, z_aload_3, z_aload, z_astore_0, z_astore_1, z_astore_2, z_astore_3, z_astore, ald_0, ald_s, z_iinc, qst1_1i, qst2_1i, qst1_1r, qst2_1r, qst1_1u, qst2_1u, qst1_1n, qst2_1n, qst1_1l, qst2_1l, qst1_0, qst2_0, qst1_s, qst2_s, z_iadd, z_isub, z_imul, z_iand, z_ior, z_ixor, z_ishl, z_ishr, z_idiv, z_irem, z_ladd, z_lsub, z_lmul, z_land, z_lor, z_ldiv, z_lrem, z_ineg, z_lshl, z_lshr, z_i2l, z_l2i, z_i2b, z_i2c, z_lcmp, z_dupi, z_dupr, z_popi, z_popr, z_dup2, z_goto, z_get0, z_get1, z_get2, z_get3, z_put0, z_put1, z_put2, z_put2n, z_put3, z_iaload, z_baload, z_laload, z_aaload, z_iastore, z_bastore, z_lastore, z_aastore, z_aastoren, z_arraylength, z_new, z_newarray, z_anewarray, z_multi, z_objinit, z_is0, z_iv0, z_ip0, z_is1, z_iv1, z_ip1, z_is2, z_iv2, z_ip2, z_is3, z_iv3, z_ip3, z_is4, z_iv4, z_ip4, z_is5, z_iv5, z_ip5, z_is6, z_iv6, z_ip6, z_is7, z_iv7, z_ip7, z_m991, z_m992, z_m993, z_m994, z_m995, z_m996, z_m998, acal_0, acal_1, acal_2, acal_3, acal_4, aK_v, aK_n, sF_c, sF_n, b_nr, b_nn, r_I, r_Z, r_L, r_A, r_V, sw_F, sw_n, gd_tt, is01_bzT, is01_0, is01_1, qrv_s, qrv_n, bi_eq_t, bi_eq_f, bi_ne_t, bi_ne_f, bi_lt_t, bi_lt_f, bi_ge_t, bi_ge_f, bi_gt_t, bi_gt_f, bi_le_t, bi_le_f, bc_eq_t, bc_eq_f, bc_ne_t, bc_ne_f, bc_lt_t, bc_lt_f, bc_ge_t, bc_ge_f, bc_gt_t, bc_gt_f, bc_le_t, bc_le_f, bb_eq_t, bb_eq_f, bb_ne_t, bb_ne_f, sc_t, sc_f, b_nr, b_nn, mI_J, mI_R, mJ_I, mJ_R, mR_I, mR_J, mK_I, mK_J, mK_R, mN_I, mN_J, mN_R, inM_I, inM_J, inM_R, mZ_nc, mZ_nk, mZ_sm, mZ_J, mZ_R, mJ_nc, mJ_ni, mJ_sm, mI_Z, iz_add, iz_sub, iz_mul, iz_neg, iz_lt, iz_le, iz_eq, iz_clamp, iz_inB, iz_div, iz_rem, inM_lit, and_self, true_and, and_true, true_or, or_true, not_true_eq_false, not_false_eq_true, Nat.reduceEqDiff, reduceCtorEq, Int.reduceNeg, Int.reduceSub, Int.reduceAdd, Int.reduceMul, Int.reduceToNat, Int.reduceEq, Int.neg_neg, Int.cast_ofNat_Int, Nat.reduceAdd, Nat.reduceMul, Nat.reduceSub, gd_t, emod_r, iz_0, Int.zero_add, Int.add_zero, wp_some, shK h6, shR h6]
          generalize qsI (qsI M6 479 47 (iz (s : Int))) 479 57 (iz (i' : Int)) = M7 at *
          have hN7 := h7.1
          simp (disch := first | assumption | decide | omega) only [n_203_0, n_203_47, n_203_74, n_203_142, n_203_173, n_203_204, n_203_227, f_203_22, f_203_49, f_203_123, f_203_145, f_203_176, z_iconst, z_bipush, z_sipush, z_ldc, z_ldcs, z_ldcw, z_ldc2, z_lconst0, z_lconst1, z_null, z_getstatic, z_iload_0, z_iload_1, z_iload_2, z_iload_3, z_iload, z_istore_0, z_istore_1, z_istore_2, z_istore_3, z_istore, z_lload_0, z_lload_1, z_lload_2, z_lload_3, z_lload, z_lstore_0, z_lstore_1, z_lstore_2, z_lstore_3, z_lstore, z_aload_0, z_aload_1, z_aload_2, z_aload_3, z_aload, z_astore_0, z_astore_1, z_astore_2, z_astore_3, z_astore, ald_0, ald_s, z_iinc, qst1_1i, qst2_1i, qst1_1r, qst2_1r, qst1_1u, qst2_1u, qst1_1n, qst2_1n, qst1_1l, qst2_1l, qst1_0, qst2_0, qst1_s, qst2_s, z_iadd, z_isub, z_imul, z_iand, z_ior, z_ixor, z_ishl, z_ishr, z_idiv, z_irem, z_ladd, z_lsub, z_lmul, z_land, z_lor, z_ldiv, z_lrem, z_ineg, z_lshl, z_lshr, z_i2l, z_l2i, z_i2b, z_i2c, z_lcmp, z_dupi, z_dupr, z_popi, z_popr, z_dup2, z_goto, z_get0, z_get1, z_get2, z_get3, z_put0, z_put1, z_put2, z_put2n, z_put3, z_iaload, z_baload, z_laload, z_aaload, z_iastore, z_bastore, z_lastore, z_aastore, z_aastoren, z_arraylength, z_new, z_newarray, z_anewarray, z_multi, z_objinit, z_is0, z_iv0, z_ip0, z_is1, z_iv1, z_ip1, z_is2, z_iv2, z_ip2, z_is3, z_iv3, z_ip3, z_is4, z_iv4, z_ip4, z_is5, z_iv5, z_ip5, z_is6, z_iv6, z_ip6, z_is7, z_iv7, z_ip7, z_m991, z_m992, z_m993, z_m994, z_m995, z_m996, z_m998, acal_0, acal_1, acal_2, acal_3, acal_4, aK_v, aK_n, sF_c, sF_n, b_nr, b_nn, r_I, r_Z, r_L, r_A, r_V, sw_F, sw_n, gd_tt, is01_bzT, is01_0, is01_1, qrv_s, qrv_n, bi_eq_t, bi_eq_f, bi_ne_t, bi_ne_f, bi_lt_t, bi_lt_f, bi_ge_t, bi_ge_f, bi_gt_t, bi_gt_f, bi_le_t, bi_le_f, bc_eq_t, bc_eq_f, bc_ne_t, bc_ne_f, bc_lt_t, bc_lt_f, bc_ge_t, bc_ge_f, bc_gt_t, bc_gt_f, bc_le_t, bc_le_f, bb_eq_t, bb_eq_f, bb_ne_t, bb_ne_f, sc_t, sc_f, b_nr, b_nn, mI_J, mI_R, mJ_I, mJ_R, mR_I, mR_J, mK_I, mK_J, mK_R, mN_I, mN_J, mN_R, inM_I, inM_J, inM_R, mZ_nc, mZ_nk, mZ_sm, mZ_J, mZ_R, mJ_nc, mJ_ni, mJ_sm, mI_Z, iz_add, iz_sub, iz_mul, iz_neg, iz_lt, iz_le, iz_eq, iz_clamp, iz_inB, iz_div, iz_rem, inM_lit, and_self, true_and, and_true, true_or, or_true, not_true_eq_false, not_false_eq_true, Nat.reduceEqDiff, reduceCtorEq, Int.reduceNeg, Int.reduceSub, Int.reduceAdd, Int.reduceMul, Int.reduceToNat, Int.reduceEq, Int.neg_neg, Int.cast_ofNat_Int, Nat.reduceAdd, Nat.reduceMul, Nat.reduceSub, gd_t, emod_r, iz_0, Int.zero_add, Int.add_zero, wp_some, shK h7, shR h7, re]
          exact fin
        · by_cases kk : k < 5878
          · rw [D7.z (by omega), b1 k kk, c483 k kk]
          · rw [D7.z (by omega), D6.z (by omega), F.z (fun z => by have := (DMr_m z).2.2.1 rfl; omega)]
            exact k481 k (by unfold DLy; omega)
        · rw [D7.z (by omega), b2 k q, c502 k q]
        · rw [mZ_nk (by decide), mZ_sm rfl (by omega) (by omega), hu]
  · have re := m_refuses (d := d + 168) (b := -6) h2 (by unfold isrf; omega)
    rw [show d + 168 + 1 = d + 169 by omega] at re
    have fin := hP (-6) _ (Or.inl ⟨rt, rfl, M2, by rw [hM0]; exact D2, t2, f2, rfl⟩)
    clear hP
    simp (disch := first | assumption | decide | omega) only [n_203_0, n_203_47, n_203_74, n_203_142, n_203_173, n_203_204, n_203_227, f_203_22, f_203_49, f_203_123, f_203_145, f_203_176, z_iconst, z_bipush, z_sipush, z_ldc, z_ldcs, z_ldcw, z_ldc2, z_lconst0, z_lconst1, z_null, z_getstatic, z_iload_0, z_iload_1, z_iload_2, z_iload_3, z_iload, z_istore_0, z_istore_1, z_istore_2, z_istore_3, z_istore, z_lload_0, z_lload_1, z_lload_2, z_lload_3, z_lload, z_lstore_0, z_lstore_1, z_lstore_2, z_lstore_3, z_lstore, z_aload_0, z_aload_1, z_aload_2, z_aload_3, z_aload, z_astore_0, z_astore_1, z_astore_2, z_astore_3, z_astore, ald_0, ald_s, z_iinc, qst1_1i, qst2_1i, qst1_1r, qst2_1r, qst1_1u, qst2_1u, qst1_1n, qst2_1n, qst1_1l, qst2_1l, qst1_0, qst2_0, qst1_s, qst2_s, z_iadd, z_isub, z_imul, z_iand, z_ior, z_ixor, z_ishl, z_ishr, z_idiv, z_irem, z_ladd, z_lsub, z_lmul, z_land, z_lor, z_ldiv, z_lrem, z_ineg, z_lshl, z_lshr, z_i2l, z_l2i, z_i2b, z_i2c, z_lcmp, z_dupi, z_dupr, z_popi, z_popr, z_dup2, z_goto, z_get0, z_get1, z_get2, z_get3, z_put0, z_put1, z_put2, z_put2n, z_put3, z_iaload, z_baload, z_laload, z_aaload, z_iastore, z_bastore, z_lastore, z_aastore, z_aastoren, z_arraylength, z_new, z_newarray, z_anewarray, z_multi, z_objinit, z_is0, z_iv0, z_ip0, z_is1, z_iv1, z_ip1, z_is2, z_iv2, z_ip2, z_is3, z_iv3, z_ip3, z_is4, z_iv4, z_ip4, z_is5, z_iv5, z_ip5, z_is6, z_iv6, z_ip6, z_is7, z_iv7, z_ip7, z_m991, z_m992, z_m993, z_m994, z_m995, z_m996, z_m998, acal_0, acal_1, acal_2, acal_3, acal_4, aK_v, aK_n, sF_c, sF_n, b_nr, b_nn, r_I, r_Z, r_L, r_A, r_V, sw_F, sw_n, gd_tt, is01_bzT, is01_0, is01_1, qrv_s, qrv_n, bi_eq_t, bi_eq_f, bi_ne_t, bi_ne_f, bi_lt_t, bi_lt_f, bi_ge_t, bi_ge_f, bi_gt_t, bi_gt_f, bi_le_t, bi_le_f, bc_eq_t, bc_eq_f, bc_ne_t, bc_ne_f, bc_lt_t, bc_lt_f, bc_ge_t, bc_ge_f, bc_gt_t, bc_gt_f, bc_le_t, bc_le_f, bb_eq_t, bb_eq_f, bb_ne_t, bb_ne_f, sc_t, sc_f, b_nr, b_nn, mI_J, mI_R, mJ_I, mJ_R, mR_I, mR_J, mK_I, mK_J, mK_R, mN_I, mN_J, mN_R, inM_I, inM_J, inM_R, mZ_nc, mZ_nk, mZ_sm, mZ_J, mZ_R, mJ_nc, mJ_ni, mJ_sm, mI_Z, iz_add, iz_sub, iz_mul, iz_neg, iz_lt, iz_le, iz_eq, iz_clamp, iz_inB, iz_div, iz_rem, inM_lit, and_self, true_and, and_true, true_or, or_true, not_true_eq_false, not_false_eq_true, Nat.reduceEqDiff, reduceCtorEq, Int.reduceNeg, Int.reduceSub, Int.reduceAdd, Int.reduceMul, Int.reduceToNat, Int.reduceEq, Int.neg_neg, Int.cast_ofNat_Int, Nat.reduceAdd, Nat.reduceMul, Nat.reduceSub, gd_t, emod_r, iz_0, Int.zero_add, Int.add_zero, wp_some, shK h2, shR h2, re]
    exact fin

/-! x's followRows -/
def DFo (t : Nat) (i k : Nat) : Prop := (104 + 3 * t ≤ i ∧ i ≤ 112 ∧ ¬ ((i = 104 ∨ i = 107 ∨ i = 110) ∧ k = 11)) ∨ (74 ≤ i ∧ i ≤ 77) ∨ i = 83 ∨ (i = 81 ∧ k = 4)
theorem DFo_scr {t i k : Nat} (h : DFo t i k) : scr i k := by unfold DFo at h; unfold scr; omega
def Fol (D t k : Nat) : Prop := ∀ (M : qMe) (w : Int) (Q : RQ), Wo M → JG M → Rid M → RXL M (104 + 3 * t) w Q → QI Q → (0 ≤ w ∧ w < mZ M 481 266) → (∀ e : Int, 0 ≤ e → e < 108 → 0 ≤ mZ M 83 e.toNat ∧ mZ M 83 e.toNat ≤ 10000 * (t + 1)) → (0 ≤ mZ M 81 4 ∧ mZ M 81 4 ≤ 10000 * (t + 1)) → wV (cal D 232 [.ref 81, .int (iz (t : Int)), .int (iz (k : Int))] M) (fun M1 => Fr M M1 (DFo t) ∧ JG M1 ∧ Wo M1 ∧ (∀ e : Int, 0 ≤ e → e < 108 → mZ M1 83 e.toNat = mZ M 83 e.toNat + rowsG M w (one e) 60 k Q) ∧ mZ M1 81 4 = mZ M 81 4 + rowsG M w (fun _ => 1) 60 k Q)
theorem x_followS {d t k : Nat} (ht : t ≤ 2) (hk : k + t ≤ 2) (hRec : 0 < k → Fol (d + 4) (t + 1) (k - 1)) : Fol (d + 5) t k := by
  intro M w Q hW hG hI hX hQ w1 hE hR
  refine wV_q (fun P hP => ?_)
  have h := hW.1
  have hN := h.1
  have rr := ridesR h ht
  have w8 : w < 8 := by have := (WFk_s hW.2.1).2.2.1; omega
  have hr : isRide (104 + 3 * t) := by unfold isRide; omega
  have c1f : ∀ p : Int, 0 ≤ (fun _ => 1 : Int → Int) p ∧ (fun _ => 1 : Int → Int) p ≤ 1 := fun p => by dsimp only; omega
  have k2 : k ≤ 2 := by omega
  have tE : ∀ e : Int, 0 ≤ rowsG M w (one e) 60 k Q ∧ rowsG M w (one e) 60 k Q ≤ 3721 := fun e => rowsG_B (fun p => one_b) (by decide) k2
  have tR : 0 ≤ rowsG M w (fun _ => 1) 60 k Q ∧ rowsG M w (fun _ => 1) 60 k Q ≤ 3721 := rowsG_B c1f (by decide) k2
  rw [cal_232, gd_t (Nat.le_of_ble_eq_true rfl)]
  change wp (n_232_0 (cal _) [some (.ref 81), some (.int (iz (t : Int))), some (.int (iz (k : Int))), none, none] [] _) _
  simp (disch := first | assumption | decide | omega) only [n_232_0, n_232_89, n_232_103, n_232_10, z_iconst, z_bipush, z_sipush, z_ldc, z_ldcs, z_ldcw, z_ldc2, z_lconst0, z_lconst1, z_null, z_getstatic, z_iload_0, z_iload_1, z_iload_2, z_iload_3, z_iload, z_istore_0, z_istore_1, z_istore_2, z_istore_3, z_istore, z_lload_0, z_lload_1, z_lload_2, z_lload_3, z_lload, z_lstore_0, z_lstore_1, z_lstore_2, z_lstore_3, z_lstore, z_aload_0, z_aload_1, z_aload_2, z_aload_3, z_aload, z_astore_0, z_astore_1, z_astore_2, z_astore_3, z_astore, ald_0, ald_s, z_iinc, qst1_1i, qst2_1i, qst1_1r, qst2_1r, qst1_1u, qst2_1u, qst1_1n, qst2_1n, qst1_1l, qst2_1l, qst1_0, qst2_0, qst1_s, qst2_s, z_iadd, z_isub, z_imul, z_iand, z_ior, z_ixor, z_ishl, z_ishr, z_idiv, z_irem, z_ladd, z_lsub, z_lmul, z_land, z_lor, z_ldiv, z_lrem, z_ineg, z_lshl, z_lshr, z_i2l, z_l2i, z_i2b, z_i2c, z_lcmp, z_dupi, z_dupr, z_popi, z_popr, z_dup2, z_goto, z_get0, z_get1, z_get2, z_get3, z_put0, z_put1, z_put2, z_put2n, z_put3, z_iaload, z_baload, z_laload, z_aaload, z_iastore, z_bastore, z_lastore, z_aastore, z_aastoren, z_arraylength, z_new, z_newarray, z_anewarray, z_multi, z_objinit, z_is0, z_iv0, z_ip0, z_is1, z_iv1, z_ip1, z_is2, z_iv2, z_ip2, z_is3, z_iv3, z_ip3, z_is4, z_iv4, z_ip4, z_is5, z_iv5, z_ip5, z_is6, z_iv6, z_ip6, z_is7, z_iv7, z_ip7, z_m991, z_m992, z_m993, z_m994, z_m995, z_m996, z_m998, acal_0, acal_1, acal_2, acal_3, acal_4, aK_v, aK_n, sF_c, sF_n, b_nr, b_nn, r_I, r_Z, r_L, r_A, r_V, sw_F, sw_n, gd_tt, is01_bzT, is01_0, is01_1, qrv_s, qrv_n, bi_eq_t, bi_eq_f, bi_ne_t, bi_ne_f, bi_lt_t, bi_lt_f, bi_ge_t, bi_ge_f, bi_gt_t, bi_gt_f, bi_le_t, bi_le_f, bc_eq_t, bc_eq_f, bc_ne_t, bc_ne_f, bc_lt_t, bc_lt_f, bc_ge_t, bc_ge_f, bc_gt_t, bc_gt_f, bc_le_t, bc_le_f, bb_eq_t, bb_eq_f, bb_ne_t, bb_ne_f, sc_t, sc_f, b_nr, b_nn, mI_J, mI_R, mJ_I, mJ_R, mR_I, mR_J, mK_I, mK_J, mK_R, mN_I, mN_J, mN_R, inM_I, inM_J, inM_R, mZ_nc, mZ_nk, mZ_sm, mZ_J, mZ_R, mJ_nc, mJ_ni, mJ_sm, mI_Z, iz_add, iz_sub, iz_mul, iz_neg, iz_lt, iz_le, iz_eq, iz_clamp, iz_inB, iz_div, iz_rem, shK h, shR h, inM_lit, and_self, true_and, and_true, true_or, or_true, not_true_eq_false, not_false_eq_true, Nat.reduceEqDiff, reduceCtorEq, Int.reduceNeg, Int.reduceSub, Int.reduceAdd, Int.reduceMul, Int.reduceToNat, Int.reduceEq, Int.neg_neg, Int.cast_ofNat_Int, Nat.reduceAdd, Nat.reduceMul, Nat.reduceSub, gd_t, emod_r, iz_0, Int.zero_add, Int.add_zero, wp_some, Int.toNat_natCast, rr]
  refine wp_lpq (fun kk L M' => ∃ (i : Nat) (Q' : RQ), L = [some (.ref 81), some (.int (iz (t : Int))), some (.int (iz (k : Int))), some (.ref (104 + 3 * t)), some (.int (iz (i : Int)))] ∧ i + kk = 60 ∧ Fr M M' (DFo t) ∧ JG M' ∧ Wo M' ∧ RXL M' (104 + 3 * t) w Q' ∧ QI Q' ∧ (60 ≤ qn Q' + kk ∨ ¬ qy Q' = -1) ∧ (∀ e : Int, 0 ≤ e → e < 108 → mZ M 83 e.toNat ≤ mZ M' 83 e.toNat) ∧ mZ M 81 4 ≤ mZ M' 81 4 ∧ (∀ e : Int, 0 ≤ e → e < 108 → mZ M' 83 e.toNat + rowsG M w (one e) kk k Q' = mZ M 83 e.toNat + rowsG M w (one e) 60 k Q) ∧ mZ M' 81 4 + rowsG M w (fun _ => 1) kk k Q' = mZ M 81 4 + rowsG M w (fun _ => 1) 60 k Q) (k := 60) ⟨0, Q, rfl, rfl, Fr.rf, hG, hW, hX, hQ, Or.inl (by have := hQ.2.2.2.1; omega), fun e _ _ => Int.le_refl _, Int.le_refl _, fun e _ _ => rfl, rfl⟩ (by decide) ?_
  rintro kk L M' g ⟨i, Q', rfl, hik, hF, hG', hW', hX', hQ', hfu, lE, lR, hE', hR'⟩ hg2
  have h := hW'.1
  have hN := h.1
  have hI' := Rid_k hI (hF.frm.mono (fun i k q => DFo_scr q))
  obtain ⟨⟨k1, k2'⟩, -⟩ := rideS h hr
  obtain ⟨⟨r1, r2, r3, r4, r5, r6, r7⟩, -⟩ := id hX'
  have yb := hQ'.2.2.2.2.1
  have pb := hQ'.1
  by_cases y : qy Q' = -1
  · have q6 := hQ'.2.2.2.2.2.1 y
    have hfu := hfu.resolve_right (fun z => z y)
    obtain ⟨n, rfl⟩ : ∃ n, kk = n + 1 := ⟨kk - 1, by omega⟩
    have k481 : ∀ k, mZ M' 481 k = mZ M 481 k := fun k => hF.z (by unfold DFo; omega)
    have w1' : 0 ≤ w ∧ w < mZ M' 481 266 := by rw [k481]; exact w1
    obtain ⟨iT, jT⟩ := stepP_I (w := w) (wall := -1) (slip := True) hW.2.1 hQ' y
    obtain ⟨iF, jF⟩ := stepP_I (w := w) (wall := -1) (slip := False) hW.2.1 hQ' y
    simp (disch := first | assumption | decide | omega) only [n_232_0, f_232_10, z_iconst, z_bipush, z_sipush, z_ldc, z_ldcs, z_ldcw, z_ldc2, z_lconst0, z_lconst1, z_null, z_getstatic, z_iload_0, z_iload_1, z_iload_2, z_iload_3, z_iload, z_istore_0, z_istore_1, z_istore_2, z_istore_3, z_istore, z_lload_0, z_lload_1, z_lload_2, z_lload_3, z_lload, z_lstore_0, z_lstore_1, z_lstore_2, z_lstore_3, z_lstore, z_aload_0, z_aload_1, z_aload_2, z_aload_3, z_aload, z_astore_0, z_astore_1, z_astore_2, z_astore_3, z_astore, ald_0, ald_s, z_iinc, qst1_1i, qst2_1i, qst1_1r, qst2_1r, qst1_1u, qst2_1u, qst1_1n, qst2_1n, qst1_1l, qst2_1l, qst1_0, qst2_0, qst1_s, qst2_s, z_iadd, z_isub, z_imul, z_iand, z_ior, z_ixor, z_ishl, z_ishr, z_idiv, z_irem, z_ladd, z_lsub, z_lmul, z_land, z_lor, z_ldiv, z_lrem, z_ineg, z_lshl, z_lshr, z_i2l, z_l2i, z_i2b, z_i2c, z_lcmp, z_dupi, z_dupr, z_popi, z_popr, z_dup2, z_goto, z_get0, z_get1, z_get2, z_get3, z_put0, z_put1, z_put2, z_put2n, z_put3, z_iaload, z_baload, z_laload, z_aaload, z_iastore, z_bastore, z_lastore, z_aastore, z_aastoren, z_arraylength, z_new, z_newarray, z_anewarray, z_multi, z_objinit, z_is0, z_iv0, z_ip0, z_is1, z_iv1, z_ip1, z_is2, z_iv2, z_ip2, z_is3, z_iv3, z_ip3, z_is4, z_iv4, z_ip4, z_is5, z_iv5, z_ip5, z_is6, z_iv6, z_ip6, z_is7, z_iv7, z_ip7, z_m991, z_m992, z_m993, z_m994, z_m995, z_m996, z_m998, acal_0, acal_1, acal_2, acal_3, acal_4, aK_v, aK_n, sF_c, sF_n, b_nr, b_nn, r_I, r_Z, r_L, r_A, r_V, sw_F, sw_n, gd_tt, is01_bzT, is01_0, is01_1, qrv_s, qrv_n, bi_eq_t, bi_eq_f, bi_ne_t, bi_ne_f, bi_lt_t, bi_lt_f, bi_ge_t, bi_ge_f, bi_gt_t, bi_gt_f, bi_le_t, bi_le_f, bc_eq_t, bc_eq_f, bc_ne_t, bc_ne_f, bc_lt_t, bc_lt_f, bc_ge_t, bc_ge_f, bc_gt_t, bc_gt_f, bc_le_t, bc_le_f, bb_eq_t, bb_eq_f, bb_ne_t, bb_ne_f, sc_t, sc_f, b_nr, b_nn, mI_J, mI_R, mJ_I, mJ_R, mR_I, mR_J, mK_I, mK_J, mK_R, mN_I, mN_J, mN_R, inM_I, inM_J, inM_R, mZ_nc, mZ_nk, mZ_sm, mZ_J, mZ_R, mJ_nc, mJ_ni, mJ_sm, mI_Z, iz_add, iz_sub, iz_mul, iz_neg, iz_lt, iz_le, iz_eq, iz_clamp, iz_inB, iz_div, iz_rem, shK h, shR h, inM_lit, and_self, true_and, and_true, true_or, or_true, not_true_eq_false, not_false_eq_true, Nat.reduceEqDiff, reduceCtorEq, Int.reduceNeg, Int.reduceSub, Int.reduceAdd, Int.reduceMul, Int.reduceToNat, Int.reduceEq, Int.neg_neg, Int.cast_ofNat_Int, Nat.reduceAdd, Nat.reduceMul, Nat.reduceSub, gd_t, emod_r, iz_0, Int.zero_add, Int.add_zero, wp_some, k1, k2', r7]
    refine wp_cV (x_lookR (d := d) hW' hG' hr hX' hQ' y w1') (fun M2 q2 => ?_)
    obtain ⟨hF2, hG2, hW2, hX2, f1, f2⟩ := q2
    rw [wy_k k481] at f1 f2
    have h2 := hW2.1
    have hN2 := h2.1
    have rr2 := ridesR h2 ht
    obtain ⟨⟨j1, j2⟩, -⟩ := rideS h2 hr
    have hI2 := Rid_k hI' (hF2.frm.mono (fun i k q => by unfold DLk at q; unfold scr; omega))
    have k481' : ∀ k, mZ M2 481 k = mZ M 481 k := fun k => by rw [hF2.z (by unfold DLk; omega)]; exact k481 k
    have e83 : ∀ k, mZ M2 83 k = mZ M' 83 k := fun k => hF2.z (by unfold DLk; omega)
    have e81 : ∀ k, mZ M2 81 k = mZ M' 81 k := fun k => hF2.z (by unfold DLk; omega)
    have ef : wfi (wy M w (qp Q') (qd Q') (qs Q') 4) = wayP M w False Q' := wayP_f.symm
    rw [ef] at f1
    have yb2 := wayP_b (M := M) (w := w) (slip := False) (Q := Q')
    have wl : ∀ (M5 : qMe) (r : Nat), isRide r → Rid M5 → mZ M5 r 11 = -1 := fun M5 r hr hi => by
      obtain ⟨⟨a, b, c, e⟩, -⟩ := hi
      unfold isRide at hr
      rcases hr with rfl | rfl | rfl | rfl
      · exact a
      · exact b
      · exact c
      · exact e
    -- behind those that slip
    have beh : ∀ M5 : qMe, Fr M2 M5 (DFo (t + 1)) → JG M5 → Wo M5 → (∀ e : Int, 0 ≤ e → e < 108 → mZ M' 83 e.toNat ≤ mZ M5 83 e.toNat) → mZ M' 81 4 ≤ mZ M5 81 4 → (∀ e : Int, 0 ≤ e → e < 108 → mZ M5 83 e.toNat + rowsG M w (one e) n k (stepP M w (-1) False Q') = mZ M 83 e.toNat + rowsG M w (one e) 60 k Q) → mZ M5 81 4 + rowsG M w (fun _ => 1) n k (stepP M w (-1) False Q') = mZ M 81 4 + rowsG M w (fun _ => 1) 60 k Q → wp (n_232_89 (cal (d + 4)) g [some (.ref 81), some (.int (iz (t : Int))), some (.int (iz (k : Int))), some (.ref (104 + 3 * t)), some (.int (iz (i : Int)))] [] M5) P := by
      intro M5 hF5 hG5 hW5 l5 l6 hE5 hR5
      have h := hW5.1
      have hN5 := h.1
      obtain ⟨⟨u1, u2⟩, -⟩ := rideS h hr
      have hI5 := Rid_k hI2 (hF5.frm.mono (fun i k q => DFo_scr q))
      have hX5 : RXL M5 (104 + 3 * t) w Q' := RXL_k hX2 hF5 (fun k hk => by unfold DFo; omega)
      have f5 : mZ M5 (104 + 3 * t) 9 = wayP M w False Q' := by rw [hF5.z (by unfold DFo; omega)]; exact f1
      have k5 : ∀ k, mZ M5 481 k = mZ M 481 k := fun k => by rw [hF5.z (by unfold DFo; omega)]; exact k481' k
      simp (disch := first | assumption | decide | omega) only [n_232_0, n_232_89, n_232_103, f_232_10, z_iconst, z_bipush, z_sipush, z_ldc, z_ldcs, z_ldcw, z_ldc2, z_lconst0, z_lconst1, z_null, z_getstatic, z_iload_0, z_iload_1, z_iload_2, z_iload_3, z_iload, z_istore_0, z_istore_1, z_istore_2, z_istore_3, z_istore, z_lload_0, z_lload_1, z_lload_2, z_lload_3, z_lload, z_lstore_0, z_lstore_1, z_lstore_2, z_lstore_3, z_lstore, z_aload_0, z_aload_1, z_aload_2, z_aload_3, z_aload, z_astore_0, z_astore_1, z_astore_2, z_astore_3, z_astore, ald_0, ald_s, z_iinc, qst1_1i, qst2_1i, qst1_1r, qst2_1r, qst1_1u, qst2_1u, qst1_1n, qst2_1n, qst1_1l, qst2_1l, qst1_0, qst2_0, qst1_s, qst2_s, z_iadd, z_isub, z_imul, z_iand, z_ior, z_ixor, z_ishl, z_ishr, z_idiv, z_irem, z_ladd, z_lsub, z_lmul, z_land, z_lor, z_ldiv, z_lrem, z_ineg, z_lshl, z_lshr, z_i2l, z_l2i, z_i2b, z_i2c, z_lcmp, z_dupi, z_dupr, z_popi, z_popr, z_dup2, z_goto, z_get0, z_get1, z_get2, z_get3, z_put0, z_put1, z_put2, z_put2n, z_put3, z_iaload, z_baload, z_laload, z_aaload, z_iastore, z_bastore, z_lastore, z_aastore, z_aastoren, z_arraylength, z_new, z_newarray, z_anewarray, z_multi, z_objinit, z_is0, z_iv0, z_ip0, z_is1, z_iv1, z_ip1, z_is2, z_iv2, z_ip2, z_is3, z_iv3, z_ip3, z_is4, z_iv4, z_ip4, z_is5, z_iv5, z_ip5, z_is6, z_iv6, z_ip6, z_is7, z_iv7, z_ip7, z_m991, z_m992, z_m993, z_m994, z_m995, z_m996, z_m998, acal_0, acal_1, acal_2, acal_3, acal_4, aK_v, aK_n, sF_c, sF_n, b_nr, b_nn, r_I, r_Z, r_L, r_A, r_V, sw_F, sw_n, gd_tt, is01_bzT, is01_0, is01_1, qrv_s, qrv_n, bi_eq_t, bi_eq_f, bi_ne_t, bi_ne_f, bi_lt_t, bi_lt_f, bi_ge_t, bi_ge_f, bi_gt_t, bi_gt_f, bi_le_t, bi_le_f, bc_eq_t, bc_eq_f, bc_ne_t, bc_ne_f, bc_lt_t, bc_lt_f, bc_ge_t, bc_ge_f, bc_gt_t, bc_gt_f, bc_le_t, bc_le_f, bb_eq_t, bb_eq_f, bb_ne_t, bb_ne_f, sc_t, sc_f, b_nr, b_nn, mI_J, mI_R, mJ_I, mJ_R, mR_I, mR_J, mK_I, mK_J, mK_R, mN_I, mN_J, mN_R, inM_I, inM_J, inM_R, mZ_nc, mZ_nk, mZ_sm, mZ_J, mZ_R, mJ_nc, mJ_ni, mJ_sm, mI_Z, iz_add, iz_sub, iz_mul, iz_neg, iz_lt, iz_le, iz_eq, iz_clamp, iz_inB, iz_div, iz_rem, shK h, shR h, inM_lit, and_self, true_and, and_true, true_or, or_true, not_true_eq_false, not_false_eq_true, Nat.reduceEqDiff, reduceCtorEq, Int.reduceNeg, Int.reduceSub, Int.reduceAdd, Int.reduceMul, Int.reduceToNat, Int.reduceEq, Int.neg_neg, Int.cast_ofNat_Int, Nat.reduceAdd, Nat.reduceMul, Nat.reduceSub, gd_t, emod_r, iz_0, Int.zero_add, Int.add_zero, wp_some, u1, u2, f5]
      refine wp_cV (x_goR (d := d) (wall := -1) hW5 hG5 hr hX5 hQ' y (wl _ _ hr hI5) (by rw [k5]; exact w1) yb2) (fun M6 q6 => ?_)
      obtain ⟨hF6, hG6, hW6, hX6⟩ := q6
      rw [goP_k k5] at hX6
      have z83 : ∀ k, mZ M6 83 k = mZ M5 83 k := fun k => hF6.z (by unfold DGo; omega)
      have z81 : ∀ k, mZ M6 81 k = mZ M5 81 k := fun k => hF6.z (by unfold DGo; omega)
      have z := hg2 n [some (.ref 81), some (.int (iz (t : Int))), some (.int (iz (k : Int))), some (.ref (104 + 3 * t)), some (.int (iz ((i + 1 : Nat) : Int)))] M6 (by omega) ⟨i + 1, stepP M w (-1) False Q', rfl, by omega, ((hF.tr (hF2.mono (fun i k q => by unfold DLk at q; unfold DFo; omega))).tr (hF5.mono (fun i k q => by unfold DFo at *; omega))).tr (hF6.mono (fun i k q => by unfold DGo at q; unfold DFo; omega)), hG6, hW6, hX6, iF, jF.imp (fun z => by omega) (fun z => z), fun e a b => by rw [z83]; have := lE e a b; have := l5 e a b; omega, by rw [z81]; omega, fun e a b => by rw [z83]; exact hE5 e a b, by rw [z81]; exact hR5⟩
      rw [show ((i + 1 : Nat) : Int) = (i : Int) + 1 by omega] at z
      exact z
    by_cases c : 0 < k ∧ csl M w Q' = 1
    · have c2 := csl_1.mp c.2
      have sb := wayP_b (M := M) (w := w) (slip := True) (Q := Q')
      rw [wayP_t c2] at sb
      have hrn : isRide (104 + 3 * (t + 1)) := by unfold isRide; omega
      have rr3 := ridesR h2 (show t + 1 ≤ 2 by omega)
      have rec0 := hRec c.1
      obtain ⟨⟨jn1, jn2⟩, -⟩ := rideS h2 hrn
      have en : ((t : Int) + 1).toNat = t + 1 := by omega
      simp (disch := first | assumption | decide | omega) only [n_232_0, f_232_10, z_iconst, z_bipush, z_sipush, z_ldc, z_ldcs, z_ldcw, z_ldc2, z_lconst0, z_lconst1, z_null, z_getstatic, z_iload_0, z_iload_1, z_iload_2, z_iload_3, z_iload, z_istore_0, z_istore_1, z_istore_2, z_istore_3, z_istore, z_lload_0, z_lload_1, z_lload_2, z_lload_3, z_lload, z_lstore_0, z_lstore_1, z_lstore_2, z_lstore_3, z_lstore, z_aload_0, z_aload_1, z_aload_2, z_aload_3, z_aload, z_astore_0, z_astore_1, z_astore_2, z_astore_3, z_astore, ald_0, ald_s, z_iinc, qst1_1i, qst2_1i, qst1_1r, qst2_1r, qst1_1u, qst2_1u, qst1_1n, qst2_1n, qst1_1l, qst2_1l, qst1_0, qst2_0, qst1_s, qst2_s, z_iadd, z_isub, z_imul, z_iand, z_ior, z_ixor, z_ishl, z_ishr, z_idiv, z_irem, z_ladd, z_lsub, z_lmul, z_land, z_lor, z_ldiv, z_lrem, z_ineg, z_lshl, z_lshr, z_i2l, z_l2i, z_i2b, z_i2c, z_lcmp, z_dupi, z_dupr, z_popi, z_popr, z_dup2, z_goto, z_get0, z_get1, z_get2, z_get3, z_put0, z_put1, z_put2, z_put2n, z_put3, z_iaload, z_baload, z_laload, z_aaload, z_iastore, z_bastore, z_lastore, z_aastore, z_aastoren, z_arraylength, z_new, z_newarray, z_anewarray, z_multi, z_objinit, z_is0, z_iv0, z_ip0, z_is1, z_iv1, z_ip1, z_is2, z_iv2, z_ip2, z_is3, z_iv3, z_ip3, z_is4, z_iv4, z_ip4, z_is5, z_iv5, z_ip5, z_is6, z_iv6, z_ip6, z_is7, z_iv7, z_ip7, z_m991, z_m992, z_m993, z_m994, z_m995, z_m996, z_m998, acal_0, acal_1, acal_2, acal_3, acal_4, aK_v, aK_n, sF_c, sF_n, b_nr, b_nn, r_I, r_Z, r_L, r_A, r_V, sw_F, sw_n, gd_tt, is01_bzT, is01_0, is01_1, qrv_s, qrv_n, bi_eq_t, bi_eq_f, bi_ne_t, bi_ne_f, bi_lt_t, bi_lt_f, bi_ge_t, bi_ge_f, bi_gt_t, bi_gt_f, bi_le_t, bi_le_f, bc_eq_t, bc_eq_f, bc_ne_t, bc_ne_f, bc_lt_t, bc_lt_f, bc_ge_t, bc_ge_f, bc_gt_t, bc_gt_f, bc_le_t, bc_le_f, bb_eq_t, bb_eq_f, bb_ne_t, bb_ne_f, sc_t, sc_f, b_nr, b_nn, mI_J, mI_R, mJ_I, mJ_R, mR_I, mR_J, mK_I, mK_J, mK_R, mN_I, mN_J, mN_R, inM_I, inM_J, inM_R, mZ_nc, mZ_nk, mZ_sm, mZ_J, mZ_R, mJ_nc, mJ_ni, mJ_sm, mI_Z, iz_add, iz_sub, iz_mul, iz_neg, iz_lt, iz_le, iz_eq, iz_clamp, iz_inB, iz_div, iz_rem, shK h, shR h, inM_lit, and_self, true_and, and_true, true_or, or_true, not_true_eq_false, not_false_eq_true, Nat.reduceEqDiff, reduceCtorEq, Int.reduceNeg, Int.reduceSub, Int.reduceAdd, Int.reduceMul, Int.reduceToNat, Int.reduceEq, Int.neg_neg, Int.cast_ofNat_Int, Nat.reduceAdd, Nat.reduceMul, Nat.reduceSub, gd_t, emod_r, iz_0, Int.zero_add, Int.add_zero, wp_some, shK h2, shR h2, j1, j2, f2, rr2, rr3, en, jn1, jn2]
      refine wp_cV (x_branch (d := d + 3) h2 hrn hr (by omega) hX2 hQ' ⟨w1.1, w8⟩) (fun M3 q3 => ?_)
      obtain ⟨hF3, hX3⟩ := q3
      have hW3 := Wo_k hW2 hF3.frm (fun i k q => by unfold DBr at q; unfold aside; omega)
      have hG3 : JG M3 := JG_k hG2 hF3 (fun i k q => by unfold DBr at q; omega)
      have h3 := hW3.1
      have hN3 := h3.1
      have rr4 := ridesR h3 (show t + 1 ≤ 2 by omega)
      obtain ⟨⟨v1, v2⟩, -⟩ := rideS h3 hr
      obtain ⟨⟨vn1, vn2⟩, -⟩ := rideS h3 hrn
      have hI3 := Rid_k hI2 (hF3.frm.mono (fun i k q => by unfold DBr at q; unfold scr; omega))
      have k3 : ∀ k, mZ M3 481 k = mZ M 481 k := fun k => by rw [hF3.z (by unfold DBr; omega)]; exact k481' k
      have f3 : mZ M3 (104 + 3 * t) 10 = wse (wy M w (qp Q') (qd Q') (qs Q') 4) := by rw [hF3.z (by unfold DBr; omega)]; exact f2
      simp (disch := first | assumption | decide | omega) only [n_232_0, f_232_10, z_iconst, z_bipush, z_sipush, z_ldc, z_ldcs, z_ldcw, z_ldc2, z_lconst0, z_lconst1, z_null, z_getstatic, z_iload_0, z_iload_1, z_iload_2, z_iload_3, z_iload, z_istore_0, z_istore_1, z_istore_2, z_istore_3, z_istore, z_lload_0, z_lload_1, z_lload_2, z_lload_3, z_lload, z_lstore_0, z_lstore_1, z_lstore_2, z_lstore_3, z_lstore, z_aload_0, z_aload_1, z_aload_2, z_aload_3, z_aload, z_astore_0, z_astore_1, z_astore_2, z_astore_3, z_astore, ald_0, ald_s, z_iinc, qst1_1i, qst2_1i, qst1_1r, qst2_1r, qst1_1u, qst2_1u, qst1_1n, qst2_1n, qst1_1l, qst2_1l, qst1_0, qst2_0, qst1_s, qst2_s, z_iadd, z_isub, z_imul, z_iand, z_ior, z_ixor, z_ishl, z_ishr, z_idiv, z_irem, z_ladd, z_lsub, z_lmul, z_land, z_lor, z_ldiv, z_lrem, z_ineg, z_lshl, z_lshr, z_i2l, z_l2i, z_i2b, z_i2c, z_lcmp, z_dupi, z_dupr, z_popi, z_popr, z_dup2, z_goto, z_get0, z_get1, z_get2, z_get3, z_put0, z_put1, z_put2, z_put2n, z_put3, z_iaload, z_baload, z_laload, z_aaload, z_iastore, z_bastore, z_lastore, z_aastore, z_aastoren, z_arraylength, z_new, z_newarray, z_anewarray, z_multi, z_objinit, z_is0, z_iv0, z_ip0, z_is1, z_iv1, z_ip1, z_is2, z_iv2, z_ip2, z_is3, z_iv3, z_ip3, z_is4, z_iv4, z_ip4, z_is5, z_iv5, z_ip5, z_is6, z_iv6, z_ip6, z_is7, z_iv7, z_ip7, z_m991, z_m992, z_m993, z_m994, z_m995, z_m996, z_m998, acal_0, acal_1, acal_2, acal_3, acal_4, aK_v, aK_n, sF_c, sF_n, b_nr, b_nn, r_I, r_Z, r_L, r_A, r_V, sw_F, sw_n, gd_tt, is01_bzT, is01_0, is01_1, qrv_s, qrv_n, bi_eq_t, bi_eq_f, bi_ne_t, bi_ne_f, bi_lt_t, bi_lt_f, bi_ge_t, bi_ge_f, bi_gt_t, bi_gt_f, bi_le_t, bi_le_f, bc_eq_t, bc_eq_f, bc_ne_t, bc_ne_f, bc_lt_t, bc_lt_f, bc_ge_t, bc_ge_f, bc_gt_t, bc_gt_f, bc_le_t, bc_le_f, bb_eq_t, bb_eq_f, bb_ne_t, bb_ne_f, sc_t, sc_f, b_nr, b_nn, mI_J, mI_R, mJ_I, mJ_R, mR_I, mR_J, mK_I, mK_J, mK_R, mN_I, mN_J, mN_R, inM_I, inM_J, inM_R, mZ_nc, mZ_nk, mZ_sm, mZ_J, mZ_R, mJ_nc, mJ_ni, mJ_sm, mI_Z, iz_add, iz_sub, iz_mul, iz_neg, iz_lt, iz_le, iz_eq, iz_clamp, iz_inB, iz_div, iz_rem, shK h, shR h, inM_lit, and_self, true_and, and_true, true_or, or_true, not_true_eq_false, not_false_eq_true, Nat.reduceEqDiff, reduceCtorEq, Int.reduceNeg, Int.reduceSub, Int.reduceAdd, Int.reduceMul, Int.reduceToNat, Int.reduceEq, Int.neg_neg, Int.cast_ofNat_Int, Nat.reduceAdd, Nat.reduceMul, Nat.reduceSub, gd_t, emod_r, iz_0, Int.zero_add, Int.add_zero, wp_some, shK h3, shR h3, v1, v2, f3, rr4, en, vn1, vn2]
      refine wp_cV (x_goR (d := d) (wall := -1) hW3 hG3 hrn hX3 hQ' y (wl _ _ hrn hI3) (by rw [k3]; exact w1) sb) (fun M4 q4 => ?_)
      obtain ⟨hF4, hG4, hW4, hX4⟩ := q4
      rw [goP_k k3, ← wayP_t c2] at hX4
      have hX4 : RXL M4 (104 + 3 * (t + 1)) w (stepP M w (-1) True Q') := hX4
      have hF34 := (hF3.mono (D2 := DFo (t + 1)) (fun i k q => by unfold DBr at q; unfold DFo; omega)).tr (hF4.mono (fun i k q => by unfold DGo at q; unfold DFo; omega))
      have hI4 := Rid_k hI2 (hF34.frm.mono (fun i k q => DFo_scr q))
      have k4 : ∀ k, mZ M4 481 k = mZ M 481 k := fun k => by rw [hF4.z (by unfold DGo; omega)]; exact k3 k
      have a83 : ∀ k, mZ M4 83 k = mZ M' 83 k := fun k => by rw [hF4.z (by unfold DGo; omega), hF3.z (by unfold DBr; omega)]; exact e83 k
      have a81 : ∀ k, mZ M4 81 k = mZ M' 81 k := fun k => by rw [hF4.z (by unfold DGo; omega), hF3.z (by unfold DBr; omega)]; exact e81 k
      have bE : ∀ e : Int, 0 ≤ e → e < 108 → 0 ≤ mZ M4 83 e.toNat ∧ mZ M4 83 e.toNat ≤ 10000 * ((t + 1 : Nat) + 1) := fun e a b => by
        have u := hE' e a b
        have v := (rowsG_B (M := M) (w := w) (Q := Q') (n := n + 1) (f := one e) (fun p => one_b) (by omega) k2).1
        have := tE e
        have := hE e a b
        have nn := lE e a b
        rw [a83]
        omega
      have bR : 0 ≤ mZ M4 81 4 ∧ mZ M4 81 4 ≤ 10000 * ((t + 1 : Nat) + 1) := by
        have u := hR'
        have v := (rowsG_B (M := M) (w := w) (Q := Q') (n := n + 1) c1f (by omega) k2).1
        have nn := lR
        rw [a81]
        omega
      have rec1 := rec0 M4 w (stepP M w (-1) True Q') hW4 hG4 hI4 hX4 iT (by rw [k4]; exact w1) bE bR
      rw [show (((t + 1 : Nat)) : Int) = (t : Int) + 1 by omega, show ((k - 1 : Nat) : Int) = (k : Int) - 1 by omega] at rec1
      have h4 := hW4.1
      have hN4 := h4.1
      simp (disch := first | assumption | decide | omega) only [n_232_0, f_232_10, z_iconst, z_bipush, z_sipush, z_ldc, z_ldcs, z_ldcw, z_ldc2, z_lconst0, z_lconst1, z_null, z_getstatic, z_iload_0, z_iload_1, z_iload_2, z_iload_3, z_iload, z_istore_0, z_istore_1, z_istore_2, z_istore_3, z_istore, z_lload_0, z_lload_1, z_lload_2, z_lload_3, z_lload, z_lstore_0, z_lstore_1, z_lstore_2, z_lstore_3, z_lstore, z_aload_0, z_aload_1, z_aload_2, z_aload_3, z_aload, z_astore_0, z_astore_1, z_astore_2, z_astore_3, z_astore, ald_0, ald_s, z_iinc, qst1_1i, qst2_1i, qst1_1r, qst2_1r, qst1_1u, qst2_1u, qst1_1n, qst2_1n, qst1_1l, qst2_1l, qst1_0, qst2_0, qst1_s, qst2_s, z_iadd, z_isub, z_imul, z_iand, z_ior, z_ixor, z_ishl, z_ishr, z_idiv, z_irem, z_ladd, z_lsub, z_lmul, z_land, z_lor, z_ldiv, z_lrem, z_ineg, z_lshl, z_lshr, z_i2l, z_l2i, z_i2b, z_i2c, z_lcmp, z_dupi, z_dupr, z_popi, z_popr, z_dup2, z_goto, z_get0, z_get1, z_get2, z_get3, z_put0, z_put1, z_put2, z_put2n, z_put3, z_iaload, z_baload, z_laload, z_aaload, z_iastore, z_bastore, z_lastore, z_aastore, z_aastoren, z_arraylength, z_new, z_newarray, z_anewarray, z_multi, z_objinit, z_is0, z_iv0, z_ip0, z_is1, z_iv1, z_ip1, z_is2, z_iv2, z_ip2, z_is3, z_iv3, z_ip3, z_is4, z_iv4, z_ip4, z_is5, z_iv5, z_ip5, z_is6, z_iv6, z_ip6, z_is7, z_iv7, z_ip7, z_m991, z_m992, z_m993, z_m994, z_m995, z_m996, z_m998, acal_0, acal_1, acal_2, acal_3, acal_4, aK_v, aK_n, sF_c, sF_n, b_nr, b_nn, r_I, r_Z, r_L, r_A, r_V, sw_F, sw_n, gd_tt, is01_bzT, is01_0, is01_1, qrv_s, qrv_n, bi_eq_t, bi_eq_f, bi_ne_t, bi_ne_f, bi_lt_t, bi_lt_f, bi_ge_t, bi_ge_f, bi_gt_t, bi_gt_f, bi_le_t, bi_le_f, bc_eq_t, bc_eq_f, bc_ne_t, bc_ne_f, bc_lt_t, bc_lt_f, bc_ge_t, bc_ge_f, bc_gt_t, bc_gt_f, bc_le_t, bc_le_f, bb_eq_t, bb_eq_f, bb_ne_t, bb_ne_f, sc_t, sc_f, b_nr, b_nn, mI_J, mI_R, mJ_I, mJ_R, mR_I, mR_J, mK_I, mK_J, mK_R, mN_I, mN_J, mN_R, inM_I, inM_J, inM_R, mZ_nc, mZ_nk, mZ_sm, mZ_J, mZ_R, mJ_nc, mJ_ni, mJ_sm, mI_Z, iz_add, iz_sub, iz_mul, iz_neg, iz_lt, iz_le, iz_eq, iz_clamp, iz_inB, iz_div, iz_rem, shK h, shR h, inM_lit, and_self, true_and, and_true, true_or, or_true, not_true_eq_false, not_false_eq_true, Nat.reduceEqDiff, reduceCtorEq, Int.reduceNeg, Int.reduceSub, Int.reduceAdd, Int.reduceMul, Int.reduceToNat, Int.reduceEq, Int.neg_neg, Int.cast_ofNat_Int, Nat.reduceAdd, Nat.reduceMul, Nat.reduceSub, gd_t, emod_r, iz_0, Int.zero_add, Int.add_zero, wp_some, shK h4]
      refine wp_cV rec1 (fun M5 q5 => ?_)
      obtain ⟨hF5, hG5, hW5, hE5, hR5⟩ := q5
      have z := beh M5 (hF34.tr hF5) hG5 hW5 (fun e a b => ?_) ?_ (fun e a b => ?_) ?_
      · exact z
      · have v := hE5 e a b
        have := (rowsG_B (M := M4) (w := w) (Q := stepP M w (-1) True Q') (n := 60) (k := k - 1) (f := one e) (fun p => one_b) (by omega) (by omega)).1
        rw [a83] at v
        omega
      · have v := hR5
        have := (rowsG_B (M := M4) (w := w) (Q := stepP M w (-1) True Q') (n := 60) (k := k - 1) c1f (by omega) (by omega)).1
        rw [a81] at v
        omega
      · have u := hE' e a b
        have v := hE5 e a b
        rw [rowsG, if_pos y, if_pos c] at u
        rw [rowsG_k k4, a83, rowsG_f hW.2.1 60 n (k - 1) _ iT (Or.inl (by have := iT.2.2.2.1; omega)) (jT.imp (fun z => by omega) (fun z => z))] at v
        omega
      · have u := hR'
        have v := hR5
        rw [rowsG, if_pos y, if_pos c] at u
        rw [rowsG_k k4, a81, rowsG_f hW.2.1 60 n (k - 1) _ iT (Or.inl (by have := iT.2.2.2.1; omega)) (jT.imp (fun z => by omega) (fun z => z))] at v
        omega
    · have z := beh M2 Fr.rf hG2 hW2 (fun e a b => by rw [e83]; exact Int.le_refl _) (by rw [e81]; exact Int.le_refl _) (fun e a b => by
        have u := hE' e a b
        rw [rowsG, if_pos y, if_neg c, Int.zero_add] at u
        rw [e83]; exact u) (by
        have u := hR'
        rw [rowsG, if_pos y, if_neg c, Int.zero_add] at u
        rw [e81]; exact u)
      by_cases k0 : 0 < k
      · have c2 : wse (wy M w (qp Q') (qd Q') (qs Q') 4) = -1 := by
          by_cases q : wse (wy M w (qp Q') (qd Q') (qs Q') 4) = -1
          · exact q
          · exact absurd ⟨k0, csl_1.mpr q⟩ c
        simp (disch := first | assumption | decide | omega) only [n_232_0, f_232_10, z_iconst, z_bipush, z_sipush, z_ldc, z_ldcs, z_ldcw, z_ldc2, z_lconst0, z_lconst1, z_null, z_getstatic, z_iload_0, z_iload_1, z_iload_2, z_iload_3, z_iload, z_istore_0, z_istore_1, z_istore_2, z_istore_3, z_istore, z_lload_0, z_lload_1, z_lload_2, z_lload_3, z_lload, z_lstore_0, z_lstore_1, z_lstore_2, z_lstore_3, z_lstore, z_aload_0, z_aload_1, z_aload_2, z_aload_3, z_aload, z_astore_0, z_astore_1, z_astore_2, z_astore_3, z_astore, ald_0, ald_s, z_iinc, qst1_1i, qst2_1i, qst1_1r, qst2_1r, qst1_1u, qst2_1u, qst1_1n, qst2_1n, qst1_1l, qst2_1l, qst1_0, qst2_0, qst1_s, qst2_s, z_iadd, z_isub, z_imul, z_iand, z_ior, z_ixor, z_ishl, z_ishr, z_idiv, z_irem, z_ladd, z_lsub, z_lmul, z_land, z_lor, z_ldiv, z_lrem, z_ineg, z_lshl, z_lshr, z_i2l, z_l2i, z_i2b, z_i2c, z_lcmp, z_dupi, z_dupr, z_popi, z_popr, z_dup2, z_goto, z_get0, z_get1, z_get2, z_get3, z_put0, z_put1, z_put2, z_put2n, z_put3, z_iaload, z_baload, z_laload, z_aaload, z_iastore, z_bastore, z_lastore, z_aastore, z_aastoren, z_arraylength, z_new, z_newarray, z_anewarray, z_multi, z_objinit, z_is0, z_iv0, z_ip0, z_is1, z_iv1, z_ip1, z_is2, z_iv2, z_ip2, z_is3, z_iv3, z_ip3, z_is4, z_iv4, z_ip4, z_is5, z_iv5, z_ip5, z_is6, z_iv6, z_ip6, z_is7, z_iv7, z_ip7, z_m991, z_m992, z_m993, z_m994, z_m995, z_m996, z_m998, acal_0, acal_1, acal_2, acal_3, acal_4, aK_v, aK_n, sF_c, sF_n, b_nr, b_nn, r_I, r_Z, r_L, r_A, r_V, sw_F, sw_n, gd_tt, is01_bzT, is01_0, is01_1, qrv_s, qrv_n, bi_eq_t, bi_eq_f, bi_ne_t, bi_ne_f, bi_lt_t, bi_lt_f, bi_ge_t, bi_ge_f, bi_gt_t, bi_gt_f, bi_le_t, bi_le_f, bc_eq_t, bc_eq_f, bc_ne_t, bc_ne_f, bc_lt_t, bc_lt_f, bc_ge_t, bc_ge_f, bc_gt_t, bc_gt_f, bc_le_t, bc_le_f, bb_eq_t, bb_eq_f, bb_ne_t, bb_ne_f, sc_t, sc_f, b_nr, b_nn, mI_J, mI_R, mJ_I, mJ_R, mR_I, mR_J, mK_I, mK_J, mK_R, mN_I, mN_J, mN_R, inM_I, inM_J, inM_R, mZ_nc, mZ_nk, mZ_sm, mZ_J, mZ_R, mJ_nc, mJ_ni, mJ_sm, mI_Z, iz_add, iz_sub, iz_mul, iz_neg, iz_lt, iz_le, iz_eq, iz_clamp, iz_inB, iz_div, iz_rem, shK h, shR h, inM_lit, and_self, true_and, and_true, true_or, or_true, not_true_eq_false, not_false_eq_true, Nat.reduceEqDiff, reduceCtorEq, Int.reduceNeg, Int.reduceSub, Int.reduceAdd, Int.reduceMul, Int.reduceToNat, Int.reduceEq, Int.neg_neg, Int.cast_ofNat_Int, Nat.reduceAdd, Nat.reduceMul, Nat.reduceSub, gd_t, emod_r, iz_0, Int.zero_add, Int.add_zero, wp_some, shK h2, shR h2, j1, j2, f2, rr2]
        exact z
      · simp (disch := first | assumption | decide | omega) only [n_232_0, f_232_10, z_iconst, z_bipush, z_sipush, z_ldc, z_ldcs, z_ldcw, z_ldc2, z_lconst0, z_lconst1, z_null, z_getstatic, z_iload_0, z_iload_1, z_iload_2, z_iload_3, z_iload, z_istore_0, z_istore_1, z_istore_2, z_istore_3, z_istore, z_lload_0, z_lload_1, z_lload_2, z_lload_3, z_lload, z_lstore_0, z_lstore_1, z_lstore_2, z_lstore_3, z_lstore, z_aload_0, z_aload_1, z_aload_2, z_aload_3, z_aload, z_astore_0, z_astore_1, z_astore_2, z_astore_3, z_astore, ald_0, ald_s, z_iinc, qst1_1i, qst2_1i, qst1_1r, qst2_1r, qst1_1u, qst2_1u, qst1_1n, qst2_1n, qst1_1l, qst2_1l, qst1_0, qst2_0, qst1_s, qst2_s, z_iadd, z_isub, z_imul, z_iand, z_ior, z_ixor, z_ishl, z_ishr, z_idiv, z_irem, z_ladd, z_lsub, z_lmul, z_land, z_lor, z_ldiv, z_lrem, z_ineg, z_lshl, z_lshr, z_i2l, z_l2i, z_i2b, z_i2c, z_lcmp, z_dupi, z_dupr, z_popi, z_popr, z_dup2, z_goto, z_get0, z_get1, z_get2, z_get3, z_put0, z_put1, z_put2, z_put2n, z_put3, z_iaload, z_baload, z_laload, z_aaload, z_iastore, z_bastore, z_lastore, z_aastore, z_aastoren, z_arraylength, z_new, z_newarray, z_anewarray, z_multi, z_objinit, z_is0, z_iv0, z_ip0, z_is1, z_iv1, z_ip1, z_is2, z_iv2, z_ip2, z_is3, z_iv3, z_ip3, z_is4, z_iv4, z_ip4, z_is5, z_iv5, z_ip5, z_is6, z_iv6, z_ip6, z_is7, z_iv7, z_ip7, z_m991, z_m992, z_m993, z_m994, z_m995, z_m996, z_m998, acal_0, acal_1, acal_2, acal_3, acal_4, aK_v, aK_n, sF_c, sF_n, b_nr, b_nn, r_I, r_Z, r_L, r_A, r_V, sw_F, sw_n, gd_tt, is01_bzT, is01_0, is01_1, qrv_s, qrv_n, bi_eq_t, bi_eq_f, bi_ne_t, bi_ne_f, bi_lt_t, bi_lt_f, bi_ge_t, bi_ge_f, bi_gt_t, bi_gt_f, bi_le_t, bi_le_f, bc_eq_t, bc_eq_f, bc_ne_t, bc_ne_f, bc_lt_t, bc_lt_f, bc_ge_t, bc_ge_f, bc_gt_t, bc_gt_f, bc_le_t, bc_le_f, bb_eq_t, bb_eq_f, bb_ne_t, bb_ne_f, sc_t, sc_f, b_nr, b_nn, mI_J, mI_R, mJ_I, mJ_R, mR_I, mR_J, mK_I, mK_J, mK_R, mN_I, mN_J, mN_R, inM_I, inM_J, inM_R, mZ_nc, mZ_nk, mZ_sm, mZ_J, mZ_R, mJ_nc, mJ_ni, mJ_sm, mI_Z, iz_add, iz_sub, iz_mul, iz_neg, iz_lt, iz_le, iz_eq, iz_clamp, iz_inB, iz_div, iz_rem, shK h, shR h, inM_lit, and_self, true_and, and_true, true_or, or_true, not_true_eq_false, not_false_eq_true, Nat.reduceEqDiff, reduceCtorEq, Int.reduceNeg, Int.reduceSub, Int.reduceAdd, Int.reduceMul, Int.reduceToNat, Int.reduceEq, Int.neg_neg, Int.cast_ofNat_Int, Nat.reduceAdd, Nat.reduceMul, Nat.reduceSub, gd_t, emod_r, iz_0, Int.zero_add, Int.add_zero, wp_some]
        exact z
  · have hb := hE' (qp Q') pb.1 pb.2
    rw [rowsG_s y] at hR' hb
    have hE0 := hE (qp Q') pb.1 pb.2
    have hE1 := tE (qp Q')
    have o1 : one (qp Q') (qp Q') = 1 := if_pos rfl
    rw [o1] at hb
    have fin : P none (qsI (qsI M' 83 (qp Q').toNat (iz (mZ M' 83 (qp Q').toNat + 1))) 81 4 (iz (mZ M' 81 4 + 1))) := by
      refine hP _ ⟨(hF.I (by unfold DFo; omega)).I (by unfold DFo; omega), JG_I (JG_I hG' (by decide)) (by decide), Wo_k hW' (Frm.of ((Dif.rfl' (D := fun i _ => i = 83 ∨ i = 81)).I (Or.inl rfl) |>.I (Or.inr rfl))) (fun i k q => by unfold aside; omega), fun e a b => ?_, ?_⟩
      · rw [mZ_nc (by decide)]
        by_cases ee : e = qp Q'
        · subst ee
          rw [mZ_sm rfl (by omega) (by omega)]
          omega
        · rw [mZ_nk (by omega)]
          have u := hE' e a b
          rw [rowsG_s y] at u
          have o0 : one e (qp Q') = 0 := if_neg (fun z => ee z.symm)
          omega
      · rw [mZ_sm rfl (by omega) (by omega)]
        omega
    by_cases i6 : i = 60
    · simp (disch := first | assumption | decide | omega) only [n_232_0, n_232_89, n_232_103, f_232_10, z_iconst, z_bipush, z_sipush, z_ldc, z_ldcs, z_ldcw, z_ldc2, z_lconst0, z_lconst1, z_null, z_getstatic, z_iload_0, z_iload_1, z_iload_2, z_iload_3, z_iload, z_istore_0, z_istore_1, z_istore_2, z_istore_3, z_istore, z_lload_0, z_lload_1, z_lload_2, z_lload_3, z_lload, z_lstore_0, z_lstore_1, z_lstore_2, z_lstore_3, z_lstore, z_aload_0, z_aload_1, z_aload_2, z_aload_3, z_aload, z_astore_0, z_astore_1, z_astore_2, z_astore_3, z_astore, ald_0, ald_s, z_iinc, qst1_1i, qst2_1i, qst1_1r, qst2_1r, qst1_1u, qst2_1u, qst1_1n, qst2_1n, qst1_1l, qst2_1l, qst1_0, qst2_0, qst1_s, qst2_s, z_iadd, z_isub, z_imul, z_iand, z_ior, z_ixor, z_ishl, z_ishr, z_idiv, z_irem, z_ladd, z_lsub, z_lmul, z_land, z_lor, z_ldiv, z_lrem, z_ineg, z_lshl, z_lshr, z_i2l, z_l2i, z_i2b, z_i2c, z_lcmp, z_dupi, z_dupr, z_popi, z_popr, z_dup2, z_goto, z_get0, z_get1, z_get2, z_get3, z_put0, z_put1, z_put2, z_put2n, z_put3, z_iaload, z_baload, z_laload, z_aaload, z_iastore, z_bastore, z_lastore, z_aastore, z_aastoren, z_arraylength, z_new, z_newarray, z_anewarray, z_multi, z_objinit, z_is0, z_iv0, z_ip0, z_is1, z_iv1, z_ip1, z_is2, z_iv2, z_ip2, z_is3, z_iv3, z_ip3, z_is4, z_iv4, z_ip4, z_is5, z_iv5, z_ip5, z_is6, z_iv6, z_ip6, z_is7, z_iv7, z_ip7, z_m991, z_m992, z_m993, z_m994, z_m995, z_m996, z_m998, acal_0, acal_1, acal_2, acal_3, acal_4, aK_v, aK_n, sF_c, sF_n, b_nr, b_nn, r_I, r_Z, r_L, r_A, r_V, sw_F, sw_n, gd_tt, is01_bzT, is01_0, is01_1, qrv_s, qrv_n, bi_eq_t, bi_eq_f, bi_ne_t, bi_ne_f, bi_lt_t, bi_lt_f, bi_ge_t, bi_ge_f, bi_gt_t, bi_gt_f, bi_le_t, bi_le_f, bc_eq_t, bc_eq_f, bc_ne_t, bc_ne_f, bc_lt_t, bc_lt_f, bc_ge_t, bc_ge_f, bc_gt_t, bc_gt_f, bc_le_t, bc_le_f, bb_eq_t, bb_eq_f, bb_ne_t, bb_ne_f, sc_t, sc_f, b_nr, b_nn, mI_J, mI_R, mJ_I, mJ_R, mR_I, mR_J, mK_I, mK_J, mK_R, mN_I, mN_J, mN_R, inM_I, inM_J, inM_R, mZ_nc, mZ_nk, mZ_sm, mZ_J, mZ_R, mJ_nc, mJ_ni, mJ_sm, mI_Z, iz_add, iz_sub, iz_mul, iz_neg, iz_lt, iz_le, iz_eq, iz_clamp, iz_inB, iz_div, iz_rem, shK h, shR h, inM_lit, and_self, true_and, and_true, true_or, or_true, not_true_eq_false, not_false_eq_true, Nat.reduceEqDiff, reduceCtorEq, Int.reduceNeg, Int.reduceSub, Int.reduceAdd, Int.reduceMul, Int.reduceToNat, Int.reduceEq, Int.neg_neg, Int.cast_ofNat_Int, Nat.reduceAdd, Nat.reduceMul, Nat.reduceSub, gd_t, emod_r, iz_0, Int.zero_add, Int.add_zero, wp_some, k1, k2', r1]
      exact fin
    · simp (disch := first | assumption | decide | omega) only [n_232_0, n_232_89, n_232_103, f_232_10, z_iconst, z_bipush, z_sipush, z_ldc, z_ldcs, z_ldcw, z_ldc2, z_lconst0, z_lconst1, z_null, z_getstatic, z_iload_0, z_iload_1, z_iload_2, z_iload_3, z_iload, z_istore_0, z_istore_1, z_istore_2, z_istore_3, z_istore, z_lload_0, z_lload_1, z_lload_2, z_lload_3, z_lload, z_lstore_0, z_lstore_1, z_lstore_2, z_lstore_3, z_lstore, z_aload_0, z_aload_1, z_aload_2, z_aload_3, z_aload, z_astore_0, z_astore_1, z_astore_2, z_astore_3, z_astore, ald_0, ald_s, z_iinc, qst1_1i, qst2_1i, qst1_1r, qst2_1r, qst1_1u, qst2_1u, qst1_1n, qst2_1n, qst1_1l, qst2_1l, qst1_0, qst2_0, qst1_s, qst2_s, z_iadd, z_isub, z_imul, z_iand, z_ior, z_ixor, z_ishl, z_ishr, z_idiv, z_irem, z_ladd, z_lsub, z_lmul, z_land, z_lor, z_ldiv, z_lrem, z_ineg, z_lshl, z_lshr, z_i2l, z_l2i, z_i2b, z_i2c, z_lcmp, z_dupi, z_dupr, z_popi, z_popr, z_dup2, z_goto, z_get0, z_get1, z_get2, z_get3, z_put0, z_put1, z_put2, z_put2n, z_put3, z_iaload, z_baload, z_laload, z_aaload, z_iastore, z_bastore, z_lastore, z_aastore, z_aastoren, z_arraylength, z_new, z_newarray, z_anewarray, z_multi, z_objinit, z_is0, z_iv0, z_ip0, z_is1, z_iv1, z_ip1, z_is2, z_iv2, z_ip2, z_is3, z_iv3, z_ip3, z_is4, z_iv4, z_ip4, z_is5, z_iv5, z_ip5, z_is6, z_iv6, z_ip6, z_is7, z_iv7, z_ip7, z_m991, z_m992, z_m993, z_m994, z_m995, z_m996, z_m998, acal_0, acal_1, acal_2, acal_3, acal_4, aK_v, aK_n, sF_c, sF_n, b_nr, b_nn, r_I, r_Z, r_L, r_A, r_V, sw_F, sw_n, gd_tt, is01_bzT, is01_0, is01_1, qrv_s, qrv_n, bi_eq_t, bi_eq_f, bi_ne_t, bi_ne_f, bi_lt_t, bi_lt_f, bi_ge_t, bi_ge_f, bi_gt_t, bi_gt_f, bi_le_t, bi_le_f, bc_eq_t, bc_eq_f, bc_ne_t, bc_ne_f, bc_lt_t, bc_lt_f, bc_ge_t, bc_ge_f, bc_gt_t, bc_gt_f, bc_le_t, bc_le_f, bb_eq_t, bb_eq_f, bb_ne_t, bb_ne_f, sc_t, sc_f, b_nr, b_nn, mI_J, mI_R, mJ_I, mJ_R, mR_I, mR_J, mK_I, mK_J, mK_R, mN_I, mN_J, mN_R, inM_I, inM_J, inM_R, mZ_nc, mZ_nk, mZ_sm, mZ_J, mZ_R, mJ_nc, mJ_ni, mJ_sm, mI_Z, iz_add, iz_sub, iz_mul, iz_neg, iz_lt, iz_le, iz_eq, iz_clamp, iz_inB, iz_div, iz_rem, shK h, shR h, inM_lit, and_self, true_and, and_true, true_or, or_true, not_true_eq_false, not_false_eq_true, Nat.reduceEqDiff, reduceCtorEq, Int.reduceNeg, Int.reduceSub, Int.reduceAdd, Int.reduceMul, Int.reduceToNat, Int.reduceEq, Int.neg_neg, Int.cast_ofNat_Int, Nat.reduceAdd, Nat.reduceMul, Nat.reduceSub, gd_t, emod_r, iz_0, Int.zero_add, Int.add_zero, wp_some, k1, k2', r1, r7]
      exact fin

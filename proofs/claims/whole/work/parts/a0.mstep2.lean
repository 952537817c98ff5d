/-- behind the SPEED F, at the end e of the way -/
theorem m_step_130 {d : Nat} {P : Option Value → qMe → Prop} {M0 M : qMe} {w wall s way e F T : Int} {Q : RQ} {x6 : Option Value} (hW : Wo M) (hX : MX M Q T) (k481 : ∀ k, mZ M 481 k = mZ M0 481 k) (hQ : QI Q) (hy : qy Q = 0) (n6 : qn Q < 60) (hwl : mZ M 479 38 = wall) (w1 : 0 ≤ w ∧ w < mZ M 481 266) (he : (0 ≤ e ∧ e < 80) ∨ (100 ≤ e ∧ e < 108)) (fb : F ≤ 99) (fl : -1000 ≤ F) (yb : 0 ≤ way ∧ way ≤ 3)
    (hP : ∀ M1, Dif M M1 DSt → (∀ k, mZ M1 496 k = mZ M 496 k) → MX M1 (addP Q (if F < 1 then (qp Q, qd Q, qs Q, qn Q, 0, -1) else if F * mZ M0 481 (204 + 3 * w).toNat < 10 * gS M0 wall (qb Q) e then (qp Q, qd Q, qs Q, qn Q, 1, -1) else (e, way, (if 0 < gS M0 wall (qb Q) e then (if F - gS M0 wall (qb Q) e < 1 then 1 else F - gS M0 wall (qb Q) e) else F), qn Q + 1, whyOf M0 e (qn Q + 1), (if 0 < gS M0 wall (qb Q) e then e else -1)))) T → P none M1) : wp (n_151_130 (cal (d + 1)) [some (.ref 479), some (.int (iz w)), some (.int (iz s)), some (.int (iz way)), some (.int (iz e)), some (.int (iz F)), x6] [] M) P := by
  have h := hW.1
  have hN := h.1
  obtain ⟨⟨m1, m2, m3, m4, m5, m6⟩, x2, x3, x4, x5⟩ := hX
  obtain ⟨a1, a2, a3, a4, a5, a6, a7, a8, a9, a10⟩ := hQ
  have stay : ∀ (y : Int) (M1 : qMe), M1 = M ∨ M1 = qsI M 479 35 (iz y) → (y = 0 ∨ y = 1) → mZ M1 479 35 = y → Dif M M1 DSt ∧ (∀ k, mZ M1 496 k = mZ M 496 k) ∧ MX M1 (addP Q (qp Q, qd Q, qs Q, qn Q, y, -1)) T := by
    intro y M1 hM y0 hy1
    have D1 : Dif M M1 (fun i k => i = 479 ∧ k = 35) := by
      rcases hM with rfl | rfl
      · exact Dif.rfl'
      · exact Dif.rfl'.I ⟨rfl, rfl⟩
    have e1 : ∀ k, ¬ k = 35 → mZ M1 479 k = mZ M 479 k := fun k hk => D1.z (by omega)
    have e2 : ∀ i k, ¬ i = 479 → mZ M1 i k = mZ M i k := fun i k hi => D1.z (by omega)
    have el : ql (addP Q (qp Q, qd Q, qs Q, qn Q, y, -1)) = ql Q := by
      show (if (-1 : Int) = -1 then ql Q else ql Q ++ [-1]) = ql Q
      rw [if_pos rfl]
    have et : qt (addP Q (qp Q, qd Q, qs Q, qn Q, y, -1)) = qt Q := if_pos (show qn Q = qn Q from rfl)
    refine ⟨D1.mono (fun i k q => by unfold DSt; omega), fun k => e2 _ _ (by decide), ⟨(e1 _ (by decide)).trans m1, (e1 _ (by decide)).trans m2, (e1 _ (by decide)).trans m3, (e1 _ (by decide)).trans m4, by rw [el]; exact (e1 _ (by decide)).trans m5, hy1⟩, fun j x hj => ?_, fun j x hj => ?_, fun c c1 c2 => ?_, (e1 _ (by decide)).trans x5⟩
    · rw [el] at hj; rw [e2 _ _ (by decide)]; exact x2 j x hj
    · rw [et] at hj; rw [e2 _ _ (by decide)]; exact x3 j x hj
    · unfold mbk
      rw [e2 _ _ (by decide)]
      have := x4 c c1 c2
      refine ⟨this.1, this.2.trans ?_⟩
      exact ⟨fun q => Or.inl q, fun q => q.resolve_right (by simp only; omega)⟩
  by_cases f1 : F < 1
  · rw [if_pos f1] at hP
    have z := stay 0 M (Or.inl rfl) (Or.inl rfl) (by rw [m6, hy])
    simp (disch := first | assumption | decide | omega) only [n_151_0, n_151_26, n_151_70, n_151_71, n_151_130, n_151_226, n_151_306, z_iconst, z_bipush, z_sipush, z_ldc, z_ldcs, z_ldcw, z_ldc2, z_lconst0, z_lconst1, z_null, z_getstatic, z_iload_0, z_iload_1, z_iload_2, z_iload_3, z_iload, z_istore_0, z_istore_1, z_istore_2, z_istore_3, z_istore, z_lload_0, z_lload_1, z_lload_2, z_lload_3, z_lload, z_lstore_0, z_lstore_1, z_lstore_2, z_lstore_3, z_lstore, z_aload_0, z_aload_1, z_aload_2, z_aload_3, z_aload, z_astore_0, z_astore_1, z_astore_2, z_astore_3, z_astore, ald_0, ald_s, z_iinc, qst1_1i, qst2_1i, qst1_1r, qst2_1r, qst1_1u, qst2_1u, qst1_1n, qst2_1n, qst1_1l, qst2_1l, qst1_0, qst2_0, qst1_s, qst2_s, z_iadd, z_isub, z_imul, z_iand, z_ior, z_ixor, z_ishl, z_ishr, z_idiv, z_irem, z_ladd, z_lsub, z_lmul, z_land, z_lor, z_ldiv, z_lrem, z_ineg, z_lshl, z_lshr, z_i2l, z_l2i, z_i2b, z_i2c, z_lcmp, z_dupi, z_dupr, z_popi, z_popr, z_dup2, z_goto, z_get0, z_get1, z_get2, z_get3, z_put0, z_put1, z_put2, z_put2n, z_put3, z_iaload, z_baload, z_laload, z_aaload, z_iastore, z_bastore, z_lastore, z_aastore, z_aastoren, z_arraylength, z_new, z_newarray, z_anewarray, z_multi, z_objinit, z_is0, z_iv0, z_ip0, z_is1, z_iv1, z_ip1, z_is2, z_iv2, z_ip2, z_is3, z_iv3, z_ip3, z_is4, z_iv4, z_ip4, z_is5, z_iv5, z_ip5, z_is6, z_iv6, z_ip6, z_is7, z_iv7, z_ip7, z_m991, z_m992, z_m993, z_m994, z_m995, z_m996, z_m998, acal_0, acal_1, acal_2, acal_3, acal_4, aK_v, aK_n, sF_c, sF_n, b_nr, b_nn, r_I, r_Z, r_L, r_A, r_V, sw_F, sw_n, gd_tt, is01_bzT, is01_0, is01_1, qrv_s, qrv_n, bi_eq_t, bi_eq_f, bi_ne_t, bi_ne_f, bi_lt_t, bi_lt_f, bi_ge_t, bi_ge_f, bi_gt_t, bi_gt_f, bi_le_t, bi_le_f, bc_eq_t, bc_eq_f, bc_ne_t, bc_ne_f, bc_lt_t, bc_lt_f, bc_ge_t, bc_ge_f, bc_gt_t, bc_gt_f, bc_le_t, bc_le_f, bb_eq_t, bb_eq_f, bb_ne_t, bb_ne_f, sc_t, sc_f, b_nr, b_nn, mI_J, mI_R, mJ_I, mJ_R, mR_I, mR_J, mK_I, mK_J, mK_R, mN_I, mN_J, mN_R, inM_I, inM_J, inM_R, mZ_nc, mZ_nk, mZ_sm, mZ_J, mZ_R, mJ_nc, mJ_ni, mJ_sm, mI_Z, iz_add, iz_sub, iz_mul, iz_neg, iz_lt, iz_le, iz_eq, iz_clamp, iz_inB, iz_div, iz_rem, shK h, shR h, inM_lit, and_self, true_and, and_true, true_or, or_true, not_true_eq_false, not_false_eq_true, Nat.reduceEqDiff, reduceCtorEq, Int.reduceNeg, Int.reduceSub, Int.reduceAdd, Int.reduceMul, Int.reduceToNat, Int.reduceEq, Int.neg_neg, Int.cast_ofNat_Int, Nat.reduceAdd, Nat.reduceMul, Nat.reduceSub, gd_t, emod_r, iz_0, Int.zero_add, Int.add_zero, wp_some]
    exact hP M z.1 z.2.1 z.2.2
  · rw [if_neg f1] at hP
    have fa := m_fenceAt (d := d) (e := e) h hwl (fun c c1 c2 => (x4 c c1 c2).1) he
    have eS : gS M wall (mbk M) e = gS M0 wall (qb Q) e := by
      rw [gS_c (b2 := qb Q) (fun c c1 c2 => (x4 c c1 c2).2) (by omega)]
      unfold gS
      rw [k481]
    rw [eS] at fa
    have sb := gS_b (M := M0) (wall := wall) (bk := qb Q) (e := e) (WFk_of hW.2.1 (fun k => (k481 k).symm)) (by omega)
    have e80 : 0 < gS M0 wall (qb Q) e → e < 80 := fun q => by
      rcases he with r | r
      · exact r.2
      · exfalso
        have : gS M0 wall (qb Q) e = 0 := by unfold gS; rw [if_pos (Or.inl (by omega))]
        omega
    generalize hS : gS M0 wall (qb Q) e = S at *
    have wz := (hW.2.1.2.2.2.2.2.2.2.1 w w1.1 w1.2).1
    rw [Int.zero_add, k481] at wz
    have zz : mZ M 481 (204 + 3 * w).toNat = mZ M0 481 (204 + 3 * w).toNat := k481 _
    generalize hZ : mZ M0 481 (204 + 3 * w).toNat = Z at *
    have w8 : w < 8 := by have := (WFk_s hW.2.1).2.2.1; omega
    have p1 : F * Z ≤ 99 * 9 := Int.mul_le_mul fb wz.2 (by omega) (by decide)
    have p0 : 0 ≤ F * Z := Int.mul_nonneg (by omega) (by omega)
    have p2 : F * 1 ≤ F * Z := Int.mul_le_mul_of_nonneg_left wz.1 (by omega)
    have ewy : ∀ M1 : qMe, (∀ k, mZ M1 481 k = mZ M 481 k) → whyOf M1 e (qn Q + 1) = whyOf M0 e (qn Q + 1) := fun M1 hk => by
      unfold whyOf
      rw [hAt_eq (fun k => (hk k).trans (k481 k))]
    have wyb := whyOf_b (M := M0) (e := e) (n := qn Q + 1) he
    by_cases s0 : 0 < S
    · by_cases c1 : F * Z < 10 * S
      · rw [if_pos c1] at hP
        have z := stay 1 (qsI M 479 35 (iz 1)) (Or.inr rfl) (Or.inr rfl) (mZ_sm rfl (by decide) (by decide))
        simp (disch := first | assumption | decide | omega) only [n_151_0, n_151_26, n_151_70, n_151_71, n_151_130, n_151_226, n_151_306, z_iconst, z_bipush, z_sipush, z_ldc, z_ldcs, z_ldcw, z_ldc2, z_lconst0, z_lconst1, z_null, z_getstatic, z_iload_0, z_iload_1, z_iload_2, z_iload_3, z_iload, z_istore_0, z_istore_1, z_istore_2, z_istore_3, z_istore, z_lload_0, z_lload_1, z_lload_2, z_lload_3, z_lload, z_lstore_0, z_lstore_1, z_lstore_2, z_lstore_3, z_lstore, z_aload_0, z_aload_1, z_aload_2, z_aload_3, z_aload, z_astore_0, z_astore_1, z_astore_2, z_astore_3, z_astore, ald_0, ald_s, z_iinc, qst1_1i, qst2_1i, qst1_1r, qst2_1r, qst1_1u, qst2_1u, qst1_1n, qst2_1n, qst1_1l, qst2_1l, qst1_0, qst2_0, qst1_s, qst2_s, z_iadd, z_isub, z_imul, z_iand, z_ior, z_ixor, z_ishl, z_ishr, z_idiv, z_irem, z_ladd, z_lsub, z_lmul, z_land, z_lor, z_ldiv, z_lrem, z_ineg, z_lshl, z_lshr, z_i2l, z_l2i, z_i2b, z_i2c, z_lcmp, z_dupi, z_dupr, z_popi, z_popr, z_dup2, z_goto, z_get0, z_get1, z_get2, z_get3, z_put0, z_put1, z_put2, z_put2n, z_put3, z_iaload, z_baload, z_laload, z_aaload, z_iastore, z_bastore, z_lastore, z_aastore, z_aastoren, z_arraylength, z_new, z_newarray, z_anewarray, z_multi, z_objinit, z_is0, z_iv0, z_ip0, z_is1, z_iv1, z_ip1, z_is2, z_iv2, z_ip2, z_is3, z_iv3, z_ip3, z_is4, z_iv4, z_ip4, z_is5, z_iv5, z_ip5, z_is6, z_iv6, z_ip6, z_is7, z_iv7, z_ip7, z_m991, z_m992, z_m993, z_m994, z_m995, z_m996, z_m998, acal_0, acal_1, acal_2, acal_3, acal_4, aK_v, aK_n, sF_c, sF_n, b_nr, b_nn, r_I, r_Z, r_L, r_A, r_V, sw_F, sw_n, gd_tt, is01_bzT, is01_0, is01_1, qrv_s, qrv_n, bi_eq_t, bi_eq_f, bi_ne_t, bi_ne_f, bi_lt_t, bi_lt_f, bi_ge_t, bi_ge_f, bi_gt_t, bi_gt_f, bi_le_t, bi_le_f, bc_eq_t, bc_eq_f, bc_ne_t, bc_ne_f, bc_lt_t, bc_lt_f, bc_ge_t, bc_ge_f, bc_gt_t, bc_gt_f, bc_le_t, bc_le_f, bb_eq_t, bb_eq_f, bb_ne_t, bb_ne_f, sc_t, sc_f, b_nr, b_nn, mI_J, mI_R, mJ_I, mJ_R, mR_I, mR_J, mK_I, mK_J, mK_R, mN_I, mN_J, mN_R, inM_I, inM_J, inM_R, mZ_nc, mZ_nk, mZ_sm, mZ_J, mZ_R, mJ_nc, mJ_ni, mJ_sm, mI_Z, iz_add, iz_sub, iz_mul, iz_neg, iz_lt, iz_le, iz_eq, iz_clamp, iz_inB, iz_div, iz_rem, shK h, shR h, inM_lit, and_self, true_and, and_true, true_or, or_true, not_true_eq_false, not_false_eq_true, Nat.reduceEqDiff, reduceCtorEq, Int.reduceNeg, Int.reduceSub, Int.reduceAdd, Int.reduceMul, Int.reduceToNat, Int.reduceEq, Int.neg_neg, Int.cast_ofNat_Int, Nat.reduceAdd, Nat.reduceMul, Nat.reduceSub, gd_t, emod_r, iz_0, Int.zero_add, Int.add_zero, wp_some, fa, zz]
        exact hP _ z.1 z.2.1 z.2.2
      · rw [if_neg c1, if_pos s0, if_pos s0] at hP
        have e8 := e80 s0
        have D4 : Dif M (qsI (qsI (qsI (qsI M 479 35 (iz 1)) 492 e.toNat (iz 1)) 494 (ql Q).length (iz e)) 479 36 (iz (((ql Q).length : Int) + 1))) DSt := (((Dif.rfl'.I (by unfold DSt; omega)).I (by unfold DSt; omega)).I (by unfold DSt; omega)).I (by unfold DSt; omega)
        have hW4 := Wo_k hW (Frm.of D4) (fun i k q => by unfold DSt DOp DTo at q; unfold aside; omega)
        have go : ∀ F', F' = (if F - S < 1 then 1 else F - S) → ∀ x6 : Option Value, wp (n_151_228 (cal (d + 1)) [some (.ref 479), some (.int (iz w)), some (.int (iz s)), some (.int (iz way)), some (.int (iz e)), some (.int (iz F')), x6] [] (qsI (qsI (qsI (qsI M 479 35 (iz 1)) 492 e.toNat (iz 1)) 494 (ql Q).length (iz e)) 479 36 (iz (((ql Q).length : Int) + 1)))) P := by
          intro F' hF' x6
          have Fb : 1 ≤ F' ∧ F' ≤ 99 := by rw [hF']; split <;> omega
          refine m_step_228 hW4 (n := qn Q) (by simp (disch := first | decide | omega) only [mZ_nc, mZ_nk]; exact m4) (by omega) he ?_
          rw [ewy _ (fun k => by simp (disch := decide) only [mZ_nc])]
          generalize hwy : whyOf M0 e (qn Q + 1) = Y at *
          have et : qt (addP Q (e, way, F', qn Q + 1, Y, e)) = qt Q ++ [e] := if_neg (by simp only; omega)
          have el : ql (addP Q (e, way, F', qn Q + 1, Y, e)) = ql Q ++ [e] := if_neg (by simp only; omega)
          refine hP _ ?_ (fun k => by simp (disch := first | decide | omega) only [mZ_nc]) ?_
          · exact (((((D4.I (by unfold DSt; omega)).I (by unfold DSt; omega)).I (by unfold DSt; omega)).I (by unfold DSt; omega)).I (by unfold DSt; omega)).I (by unfold DSt; omega)
          · rw [← hF']
            refine ⟨⟨?_, ?_, ?_, ?_, ?_, ?_⟩, fun j x hj => ?_, fun j x hj => ?_, fun c c1 c2 => ?_, ?_⟩
            · simp (disch := first | decide | omega) only [mZ_nc, mZ_nk, mZ_sm]; rfl
            · simp (disch := first | decide | omega) only [mZ_nc, mZ_nk, mZ_sm]; rfl
            · simp (disch := first | decide | omega) only [mZ_nc, mZ_nk, mZ_sm]; rfl
            · simp (disch := first | decide | omega) only [mZ_nc, mZ_nk, mZ_sm]; rfl
            · rw [el]
              simp (disch := first | decide | omega) only [mZ_nc, mZ_nk, mZ_sm, List.length_append, List.length_cons, List.length_nil]
              omega
            · simp (disch := first | decide | omega) only [mZ_nc, mZ_nk, mZ_sm]; rfl
            · rw [el] at hj
              have hl := lt_of_get hj
              simp only [List.length_append, List.length_cons, List.length_nil] at hl
              rcases Nat.lt_or_ge j (ql Q).length with z | z
              · rw [List.getElem?_append_left z] at hj
                simp (disch := first | decide | omega) only [mZ_nc, mZ_nk]
                exact x2 j x hj
              · have ej : j = (ql Q).length := by omega
                rw [ej, List.getElem?_append_right (Nat.le_refl _), Nat.sub_self] at hj
                have hj : e = x := Option.some.inj hj
                simp (disch := first | decide | omega) only [mZ_nc, mZ_nk, mZ_sm]
                exact hj
            · rw [et] at hj
              have hl := lt_of_get hj
              simp only [List.length_append, List.length_cons, List.length_nil] at hl
              rcases Nat.lt_or_ge j (qt Q).length with z | z
              · rw [List.getElem?_append_left z] at hj
                simp (disch := first | decide | omega) only [mZ_nc, mZ_nk]
                exact x3 j x hj
              · have ej : j = (qt Q).length := by omega
                rw [ej, List.getElem?_append_right (Nat.le_refl _), Nat.sub_self] at hj
                have hj : e = x := Option.some.inj hj
                simp (disch := first | decide | omega) only [mZ_nc, mZ_nk, mZ_sm]
                exact hj
            · have := x4 c c1 c2
              unfold mbk at this ⊢
              by_cases ec : c = e
              · subst ec
                simp (disch := first | decide | omega) only [mZ_nc, mZ_nk, mZ_sm]
                exact ⟨Or.inr trivial, fun _ => Or.inr rfl, fun _ => trivial⟩
              · simp (disch := first | decide | omega) only [mZ_nc, mZ_nk, mZ_sm]
                exact ⟨this.1, this.2.trans ⟨fun q => Or.inl q, fun q => q.resolve_right ec⟩⟩
            · simp (disch := first | decide | omega) only [mZ_nc, mZ_nk, mZ_sm]
              exact x5
        have l60 : ((ql Q).length : Int) < 60 := by omega
        by_cases c2 : F - S < 1
        · have z := go 1 (by rw [if_pos c2])
          simp (disch := first | assumption | decide | omega) only [n_151_0, n_151_26, n_151_70, n_151_71, n_151_130, n_151_226, n_151_306, z_iconst, z_bipush, z_sipush, z_ldc, z_ldcs, z_ldcw, z_ldc2, z_lconst0, z_lconst1, z_null, z_getstatic, z_iload_0, z_iload_1, z_iload_2, z_iload_3, z_iload, z_istore_0, z_istore_1, z_istore_2, z_istore_3, z_istore, z_lload_0, z_lload_1, z_lload_2, z_lload_3, z_lload, z_lstore_0, z_lstore_1, z_lstore_2, z_lstore_3, z_lstore, z_aload_0, z_aload_1, z_aload_2, z_aload_3, z_aload, z_astore_0, z_astore_1, z_astore_2, z_astore_3, z_astore, ald_0, ald_s, z_iinc, qst1_1i, qst2_1i, qst1_1r, qst2_1r, qst1_1u, qst2_1u, qst1_1n, qst2_1n, qst1_1l, qst2_1l, qst1_0, qst2_0, qst1_s, qst2_s, z_iadd, z_isub, z_imul, z_iand, z_ior, z_ixor, z_ishl, z_ishr, z_idiv, z_irem, z_ladd, z_lsub, z_lmul, z_land, z_lor, z_ldiv, z_lrem, z_ineg, z_lshl, z_lshr, z_i2l, z_l2i, z_i2b, z_i2c, z_lcmp, z_dupi, z_dupr, z_popi, z_popr, z_dup2, z_goto, z_get0, z_get1, z_get2, z_get3, z_put0, z_put1, z_put2, z_put2n, z_put3, z_iaload, z_baload, z_laload, z_aaload, z_iastore, z_bastore, z_lastore, z_aastore, z_aastoren, z_arraylength, z_new, z_newarray, z_anewarray, z_multi, z_objinit, z_is0, z_iv0, z_ip0, z_is1, z_iv1, z_ip1, z_is2, z_iv2, z_ip2, z_is3, z_iv3, z_ip3, z_is4, z_iv4, z_ip4, z_is5, z_iv5, z_ip5, z_is6, z_iv6, z_ip6, z_is7, z_iv7, z_ip7, z_m991, z_m992, z_m993, z_m994, z_m995, z_m996, z_m998, acal_0, acal_1, acal_2, acal_3, acal_4, aK_v, aK_n, sF_c, sF_n, b_nr, b_nn, r_I, r_Z, r_L, r_A, r_V, sw_F, sw_n, gd_tt, is01_bzT, is01_0, is01_1, qrv_s, qrv_n, bi_eq_t, bi_eq_f, bi_ne_t, bi_ne_f, bi_lt_t, bi_lt_f, bi_ge_t, bi_ge_f, bi_gt_t, bi_gt_f, bi_le_t, bi_le_f, bc_eq_t, bc_eq_f, bc_ne_t, bc_ne_f, bc_lt_t, bc_lt_f, bc_ge_t, bc_ge_f, bc_gt_t, bc_gt_f, bc_le_t, bc_le_f, bb_eq_t, bb_eq_f, bb_ne_t, bb_ne_f, sc_t, sc_f, b_nr, b_nn, mI_J, mI_R, mJ_I, mJ_R, mR_I, mR_J, mK_I, mK_J, mK_R, mN_I, mN_J, mN_R, inM_I, inM_J, inM_R, mZ_nc, mZ_nk, mZ_sm, mZ_J, mZ_R, mJ_nc, mJ_ni, mJ_sm, mI_Z, iz_add, iz_sub, iz_mul, iz_neg, iz_lt, iz_le, iz_eq, iz_clamp, iz_inB, iz_div, iz_rem, shK h, shR h, inM_lit, and_self, true_and, and_true, true_or, or_true, not_true_eq_false, not_false_eq_true, Nat.reduceEqDiff, reduceCtorEq, Int.reduceNeg, Int.reduceSub, Int.reduceAdd, Int.reduceMul, Int.reduceToNat, Int.reduceEq, Int.neg_neg, Int.cast_ofNat_Int, Nat.reduceAdd, Nat.reduceMul, Nat.reduceSub, gd_t, emod_r, iz_0, Int.zero_add, Int.add_zero, wp_some, fa, zz, m5, vb1, if_false, if_true, Int.toNat_natCast]
          exact z _
        · have z := go (F - S) (by rw [if_neg c2])
          simp (disch := first | assumption | decide | omega) only [n_151_0, n_151_26, n_151_70, n_151_71, n_151_130, n_151_226, n_151_306, z_iconst, z_bipush, z_sipush, z_ldc, z_ldcs, z_ldcw, z_ldc2, z_lconst0, z_lconst1, z_null, z_getstatic, z_iload_0, z_iload_1, z_iload_2, z_iload_3, z_iload, z_istore_0, z_istore_1, z_istore_2, z_istore_3, z_istore, z_lload_0, z_lload_1, z_lload_2, z_lload_3, z_lload, z_lstore_0, z_lstore_1, z_lstore_2, z_lstore_3, z_lstore, z_aload_0, z_aload_1, z_aload_2, z_aload_3, z_aload, z_astore_0, z_astore_1, z_astore_2, z_astore_3, z_astore, ald_0, ald_s, z_iinc, qst1_1i, qst2_1i, qst1_1r, qst2_1r, qst1_1u, qst2_1u, qst1_1n, qst2_1n, qst1_1l, qst2_1l, qst1_0, qst2_0, qst1_s, qst2_s, z_iadd, z_isub, z_imul, z_iand, z_ior, z_ixor, z_ishl, z_ishr, z_idiv, z_irem, z_ladd, z_lsub, z_lmul, z_land, z_lor, z_ldiv, z_lrem, z_ineg, z_lshl, z_lshr, z_i2l, z_l2i, z_i2b, z_i2c, z_lcmp, z_dupi, z_dupr, z_popi, z_popr, z_dup2, z_goto, z_get0, z_get1, z_get2, z_get3, z_put0, z_put1, z_put2, z_put2n, z_put3, z_iaload, z_baload, z_laload, z_aaload, z_iastore, z_bastore, z_lastore, z_aastore, z_aastoren, z_arraylength, z_new, z_newarray, z_anewarray, z_multi, z_objinit, z_is0, z_iv0, z_ip0, z_is1, z_iv1, z_ip1, z_is2, z_iv2, z_ip2, z_is3, z_iv3, z_ip3, z_is4, z_iv4, z_ip4, z_is5, z_iv5, z_ip5, z_is6, z_iv6, z_ip6, z_is7, z_iv7, z_ip7, z_m991, z_m992, z_m993, z_m994, z_m995, z_m996, z_m998, acal_0, acal_1, acal_2, acal_3, acal_4, aK_v, aK_n, sF_c, sF_n, b_nr, b_nn, r_I, r_Z, r_L, r_A, r_V, sw_F, sw_n, gd_tt, is01_bzT, is01_0, is01_1, qrv_s, qrv_n, bi_eq_t, bi_eq_f, bi_ne_t, bi_ne_f, bi_lt_t, bi_lt_f, bi_ge_t, bi_ge_f, bi_gt_t, bi_gt_f, bi_le_t, bi_le_f, bc_eq_t, bc_eq_f, bc_ne_t, bc_ne_f, bc_lt_t, bc_lt_f, bc_ge_t, bc_ge_f, bc_gt_t, bc_gt_f, bc_le_t, bc_le_f, bb_eq_t, bb_eq_f, bb_ne_t, bb_ne_f, sc_t, sc_f, b_nr, b_nn, mI_J, mI_R, mJ_I, mJ_R, mR_I, mR_J, mK_I, mK_J, mK_R, mN_I, mN_J, mN_R, inM_I, inM_J, inM_R, mZ_nc, mZ_nk, mZ_sm, mZ_J, mZ_R, mJ_nc, mJ_ni, mJ_sm, mI_Z, iz_add, iz_sub, iz_mul, iz_neg, iz_lt, iz_le, iz_eq, iz_clamp, iz_inB, iz_div, iz_rem, shK h, shR h, inM_lit, and_self, true_and, and_true, true_or, or_true, not_true_eq_false, not_false_eq_true, Nat.reduceEqDiff, reduceCtorEq, Int.reduceNeg, Int.reduceSub, Int.reduceAdd, Int.reduceMul, Int.reduceToNat, Int.reduceEq, Int.neg_neg, Int.cast_ofNat_Int, Nat.reduceAdd, Nat.reduceMul, Nat.reduceSub, gd_t, emod_r, iz_0, Int.zero_add, Int.add_zero, wp_some, fa, zz, m5, vb1, if_false, if_true, Int.toNat_natCast]
          exact z _
    · have S0 : S = 0 := by omega
      rw [if_neg (by omega), if_neg s0, if_neg s0] at hP
      have go : ∀ x6 : Option Value, wp (n_151_228 (cal (d + 1)) [some (.ref 479), some (.int (iz w)), some (.int (iz s)), some (.int (iz way)), some (.int (iz e)), some (.int (iz F)), x6] [] M) P := by
        intro x6
        refine m_step_228 hW (n := qn Q) m4 (by omega) he ?_
        rw [ewy _ (fun k => rfl)]
        generalize hwy : whyOf M0 e (qn Q + 1) = Y at *
        have et : qt (addP Q (e, way, F, qn Q + 1, Y, -1)) = qt Q ++ [e] := if_neg (by simp only; omega)
        have el : ql (addP Q (e, way, F, qn Q + 1, Y, -1)) = ql Q := by
          show (if (-1 : Int) = -1 then ql Q else ql Q ++ [-1]) = ql Q
          rw [if_pos rfl]
        refine hP _ ?_ (fun k => by simp (disch := first | decide | omega) only [mZ_nc]) ?_
        · exact (((((Dif.rfl'.I (by unfold DSt; omega)).I (by unfold DSt; omega)).I (by unfold DSt; omega)).I (by unfold DSt; omega)).I (by unfold DSt; omega)).I (by unfold DSt; omega)
        · refine ⟨⟨?_, ?_, ?_, ?_, ?_, ?_⟩, fun j x hj => ?_, fun j x hj => ?_, fun c c1 c2 => ?_, ?_⟩
          · simp (disch := first | decide | omega) only [mZ_nc, mZ_nk, mZ_sm]; rfl
          · simp (disch := first | decide | omega) only [mZ_nc, mZ_nk, mZ_sm]; rfl
          · simp (disch := first | decide | omega) only [mZ_nc, mZ_nk, mZ_sm]; rfl
          · simp (disch := first | decide | omega) only [mZ_nc, mZ_nk, mZ_sm]; rfl
          · rw [el]
            simp (disch := first | decide | omega) only [mZ_nc, mZ_nk]
            exact m5
          · simp (disch := first | decide | omega) only [mZ_nc, mZ_nk, mZ_sm]; rfl
          · rw [el] at hj
            simp (disch := first | decide | omega) only [mZ_nc]
            exact x2 j x hj
          · rw [et] at hj
            have hl := lt_of_get hj
            simp only [List.length_append, List.length_cons, List.length_nil] at hl
            rcases Nat.lt_or_ge j (qt Q).length with z | z
            · rw [List.getElem?_append_left z] at hj
              simp (disch := first | decide | omega) only [mZ_nc, mZ_nk]
              exact x3 j x hj
            · have ej : j = (qt Q).length := by omega
              rw [ej, List.getElem?_append_right (Nat.le_refl _), Nat.sub_self] at hj
              have hj : e = x := Option.some.inj hj
              simp (disch := first | decide | omega) only [mZ_nc, mZ_nk, mZ_sm]
              exact hj
          · have := x4 c c1 c2
            unfold mbk at this ⊢
            simp (disch := first | decide | omega) only [mZ_nc]
            exact ⟨this.1, this.2.trans ⟨fun q => Or.inl q, fun q => q.resolve_right (by simp only; omega)⟩⟩
          · simp (disch := first | decide | omega) only [mZ_nc, mZ_nk]
            exact x5
      simp (disch := first | assumption | decide | omega) only [n_151_0, n_151_26, n_151_70, n_151_71, n_151_130, n_151_226, n_151_306, z_iconst, z_bipush, z_sipush, z_ldc, z_ldcs, z_ldcw, z_ldc2, z_lconst0, z_lconst1, z_null, z_getstatic, z_iload_0, z_iload_1, z_iload_2, z_iload_3, z_iload, z_istore_0, z_istore_1, z_istore_2, z_istore_3, z_istore, z_lload_0, z_lload_1, z_lload_2, z_lload_3, z_lload, z_lstore_0, z_lstore_1, z_lstore_2, z_lstore_3, z_lstore, z_aload_0, z_aload_1, z_aload_2, z_aload_3, z_aload, z_astore_0, z_astore_1, z_astore_2, z_astore_3, z_astore, ald_0, ald_s, z_iinc, qst1_1i, qst2_1i, qst1_1r, qst2_1r, qst1_1u, qst2_1u, qst1_1n, qst2_1n, qst1_1l, qst2_1l, qst1_0, qst2_0, qst1_s, qst2_s, z_iadd, z_isub, z_imul, z_iand, z_ior, z_ixor, z_ishl, z_ishr, z_idiv, z_irem, z_ladd, z_lsub, z_lmul, z_land, z_lor, z_ldiv, z_lrem, z_ineg, z_lshl, z_lshr, z_i2l, z_l2i, z_i2b, z_i2c, z_lcmp, z_dupi, z_dupr, z_popi, z_popr, z_dup2, z_goto, z_get0, z_get1, z_get2, z_get3, z_put0, z_put1, z_put2, z_put2n, z_put3, z_iaload, z_baload, z_laload, z_aaload, z_iastore, z_bastore, z_lastore, z_aastore, z_aastoren, z_arraylength, z_new, z_newarray, z_anewarray, z_multi, z_objinit, z_is0, z_iv0, z_ip0, z_is1, z_iv1, z_ip1, z_is2, z_iv2, z_ip2, z_is3, z_iv3, z_ip3, z_is4, z_iv4, z_ip4, z_is5, z_iv5, z_ip5, z_is6, z_iv6, z_ip6, z_is7, z_iv7, z_ip7, z_m991, z_m992, z_m993, z_m994, z_m995, z_m996, z_m998, acal_0, acal_1, acal_2, acal_3, acal_4, aK_v, aK_n, sF_c, sF_n, b_nr, b_nn, r_I, r_Z, r_L, r_A, r_V, sw_F, sw_n, gd_tt, is01_bzT, is01_0, is01_1, qrv_s, qrv_n, bi_eq_t, bi_eq_f, bi_ne_t, bi_ne_f, bi_lt_t, bi_lt_f, bi_ge_t, bi_ge_f, bi_gt_t, bi_gt_f, bi_le_t, bi_le_f, bc_eq_t, bc_eq_f, bc_ne_t, bc_ne_f, bc_lt_t, bc_lt_f, bc_ge_t, bc_ge_f, bc_gt_t, bc_gt_f, bc_le_t, bc_le_f, bb_eq_t, bb_eq_f, bb_ne_t, bb_ne_f, sc_t, sc_f, b_nr, b_nn, mI_J, mI_R, mJ_I, mJ_R, mR_I, mR_J, mK_I, mK_J, mK_R, mN_I, mN_J, mN_R, inM_I, inM_J, inM_R, mZ_nc, mZ_nk, mZ_sm, mZ_J, mZ_R, mJ_nc, mJ_ni, mJ_sm, mI_Z, iz_add, iz_sub, iz_mul, iz_neg, iz_lt, iz_le, iz_eq, iz_clamp, iz_inB, iz_div, iz_rem, shK h, shR h, inM_lit, and_self, true_and, and_true, true_or, or_true, not_true_eq_false, not_false_eq_true, Nat.reduceEqDiff, reduceCtorEq, Int.reduceNeg, Int.reduceSub, Int.reduceAdd, Int.reduceMul, Int.reduceToNat, Int.reduceEq, Int.neg_neg, Int.cast_ofNat_Int, Nat.reduceAdd, Nat.reduceMul, Nat.reduceSub, gd_t, emod_r, iz_0, Int.zero_add, Int.add_zero, wp_some, fa]
      exact go _

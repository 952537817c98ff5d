section
variable {M : qMe} {b fw : Int} {N : Nat} {c v e : Nat → Int}
/-- m's evaluator of a TEST, a BOTH, a PLAIN does what was read -/
theorem m_T {lw : Int} (hf : 0 < fw) (hlw : lw ≤ fw + 8) (hl5 : lw < 50) : ∀ (n lv deep p q a : Nat), lv ≤ 2 → p ≤ N → q ≤ 50 → (pT c v fw lw n lv deep p q a).1 = true → ∀ d, EvB (d + 40 + 2 * n) (136 + lv) b N fw c v e p (pT c v fw lw n lv deep p q a)
  | 0, _, _, _, _, _, _, _, _, ok => by cases ok
  | n + 1, lv, deep, p, q, a, hlv, hp, hq, ok => by
    intro d M l bk hE hg hb k0 hl
    have h := hE.1
    have hN := h.1
    have hz : ∀ p, N ≤ p → c p = 0 := hE.2.2.2.2.2.1
    have hlt : ∀ p, ¬ c p = 0 → p < N := fun p q => by
      rcases Nat.lt_or_ge p N with z | z
      · exact z
      · exact absurd (hz p z) q
    have hn := nots_le hz 401 p hp
    by_cases e2 : lv = 2
    · subst e2
      unfold pT at ok ⊢
      rw [if_pos rfl] at ok ⊢
      have dd : d + 40 + 2 * (n + 1) = (d + 38 + 2 * n) + 4 := by omega
      rw [dd]
      show wI (cal ((d + 38 + 2 * n) + 4) 138 [.ref 479, .int (iz l)] M) _
      by_cases c1 : c (p + nots c 401 p) = 140
      · rw [if_pos c1] at ok ⊢
        by_cases c2 : deep = 8
        · rw [if_pos c2] at ok; cases ok
        · rw [if_neg c2] at ok ⊢
          obtain ⟨p1, q1, cs, D, e3, e4⟩ := pThen_ok ok
          rw [e4] at ok ⊢
          have c3 : c p1 = 141 := by
            by_cases c3 : c p1 = 141
            · exact c3
            · rw [if_neg c3] at ok; cases ok
          rw [if_pos c3]
          have hp1 := hlt (p + nots c 401 p) (by omega)
          have s0 := m_T hf hlw hl5 n 0 (deep + 1) (p + nots c 401 p + 1) q a (by omega) (by omega) hq (by rw [e3]) d
          refine m_plain hE hg hb k0 hl hp (fun M1 hE1 hg1 hb1 => ?_)
          have dd : d + 38 + 2 * n + 3 = (d + 37 + 2 * n) + 4 := by omega
          have dd2 : d + 40 + 2 * n = (d + 37 + 2 * n) + 3 := by omega
          rw [dd]
          rw [dd2] at s0
          exact m_pos_br hE1 hg1 hb1 k0 hl hp1 c1 (by rw [e3]) (hlt p1 (by omega)) (by rw [e3]) s0
      · rw [if_neg c1] at ok ⊢
        obtain ⟨p1, q1, cs, D, e3, e4⟩ := pThen_ok ok
        rw [e4] at ok ⊢
        by_cases c3 : opC (c p1) = 0
        · rw [if_pos c3] at ok; cases ok
        · rw [if_neg c3] at ok ⊢
          obtain ⟨p2, q2, cs2, D2, e5, e6⟩ := pThen_ok ok
          rw [e6]
          have hp1 := hlt p1 (opC_s c3)
          have so := pE_ok (c := c) (v := v) (fw := fw) (lw := lw) (N := N) hz hf 30 0 deep (p + nots c 401 p) q a hn hq
          rw [e3] at so
          have so := (so rfl).2.2.2.1
          have s1 := m_E (b := b) (e := e) hf hlw hl5 30 0 deep (p + nots c 401 p) q a (by omega) hn hq (by rw [e3]) (d + 7 + 2 * n)
          have s2 := m_E (b := b) (e := e) hf hlw hl5 30 0 deep (p1 + 1) q1 (a + cs.length) (by omega) hp1 so (by rw [e5]) (d + 7 + 2 * n)
          refine m_plain hE hg hb k0 hl hp (fun M1 hE1 hg1 hb1 => ?_)
          have dd : d + 38 + 2 * n + 3 = (d + 37 + 2 * n) + 4 := by omega
          have dd2 : d + 7 + 2 * n + 3 + 30 = (d + 37 + 2 * n) + 3 := by omega
          rw [dd]
          rw [dd2] at s1 s2
          exact m_pos_cmp hE1 hg1 hb1 k0 hl hn c1 (by rw [e3]) hp1 (by rw [e3]) s1 c3 (by rw [e5]) (by rw [e5]) s2
    · unfold pT at ok ⊢
      rw [if_neg e2] at ok ⊢
      obtain ⟨p1, q1, cs, D, e3, e4⟩ := pThen_ok ok
      rw [e4] at ok ⊢
      have sok := fun p q a h1 h2 => pT_ok (c := c) (v := v) (fw := fw) (lw := lw) (N := N) hz hf n (lv + 1) deep p q a h1 h2
      have so := sok p q a hp hq
      rw [e3] at so
      have so := so rfl
      have s0 := m_T hf hlw hl5 n (lv + 1) deep p q a (by omega) hp hq (by rw [e3]) (d + 1) M l bk hE hg hb k0 hl
      rw [e3] at s0
      have hs : ∀ p q a, p ≤ N → q ≤ 50 → (pT c v fw lw n (lv + 1) deep p q a).1 = true → EvB (d + 1 + 40 + 2 * n) (136 + (lv + 1)) b N fw c v e p (pT c v fw lw n (lv + 1) deep p q a) ∧ (pT c v fw lw n (lv + 1) deep p q a).2.1 ≤ N ∧ (pT c v fw lw n (lv + 1) deep p q a).2.2.1 ≤ 50 := fun p q a g1 g2 g3 => ⟨m_T hf hlw hl5 n (lv + 1) deep p q a (by omega) g1 g2 g3 (d + 1), (sok p q a g1 g2 g3).2.1, (sok p q a g1 g2 g3).2.2.2.1⟩
      refine wI_q (fun P hP => ?_)
      have dd : d + 1 + 40 + 2 * n = (d + 38 + 2 * n) + 3 := by omega
      have dd2 : d + 40 + 2 * (n + 1) = (d + 38 + 2 * n + 3) + 1 := by omega
      rw [dd] at hs s0
      rw [dd2]
      rcases (show lv = 0 ∨ lv = 1 by omega) with rfl | rfl
      · show wp (cal (d + 38 + 2 * n + 3 + 1) 136 [.ref 479, .int (iz l)] M) P
        rw [cal_136, gd_t (Nat.le_of_ble_eq_true rfl)]
        change wp (n_136_0 (cal (d + 38 + 2 * n + 3)) [some (.ref 479), some (.int (iz l)), none, none] [] _) _
        simp (disch := first | assumption | decide | omega) only [n_136_0, n_136_28, n_136_29, n_136_41, n_136_46, n_136_50, n_136_6, z_iconst, z_bipush, z_sipush, z_ldc, z_ldcs, z_ldcw, z_ldc2, z_lconst0, z_lconst1, z_null, z_getstatic, z_iload_0, z_iload_1, z_iload_2, z_iload_3, z_iload, z_istore_0, z_istore_1, z_istore_2, z_istore_3, z_istore, z_lload_0, z_lload_1, z_lload_2, z_lload_3, z_lload, z_lstore_0, z_lstore_1, z_lstore_2, z_lstore_3, z_lstore, z_aload_0, z_aload_1, z_aload_2, z_aload_3, z_aload, z_astore_0, z_astore_1, z_astore_2, z_astore_3, z_astore, ald_0, ald_s, z_iinc, qst1_1i, qst2_1i, qst1_1r, qst2_1r, qst1_1u, qst2_1u, qst1_1n, qst2_1n, qst1_1l, qst2_1l, qst1_0, qst2_0, qst1_s, qst2_s, z_iadd, z_isub, z_imul, z_iand, z_ior, z_ixor, z_ishl, z_ishr, z_idiv, z_irem, z_ladd, z_lsub, z_lmul, z_land, z_lor, z_ldiv, z_lrem, z_ineg, z_lshl, z_lshr, z_i2l, z_l2i, z_i2b, z_i2c, z_lcmp, z_dupi, z_dupr, z_popi, z_popr, z_dup2, z_goto, z_get0, z_get1, z_get2, z_get3, z_put0, z_put1, z_put2, z_put2n, z_put3, z_iaload, z_baload, z_laload, z_aaload, z_iastore, z_bastore, z_lastore, z_aastore, z_aastoren, z_arraylength, z_new, z_newarray, z_anewarray, z_multi, z_objinit, z_is0, z_iv0, z_ip0, z_is1, z_iv1, z_ip1, z_is2, z_iv2, z_ip2, z_is3, z_iv3, z_ip3, z_is4, z_iv4, z_ip4, z_is5, z_iv5, z_ip5, z_is6, z_iv6, z_ip6, z_is7, z_iv7, z_ip7, z_m991, z_m992, z_m993, z_m994, z_m995, z_m996, z_m998, acal_0, acal_1, acal_2, acal_3, acal_4, aK_v, aK_n, sF_c, sF_n, b_nr, b_nn, r_I, r_Z, r_L, r_A, r_V, sw_F, sw_n, gd_tt, is01_bzT, is01_0, is01_1, qrv_s, qrv_n, bi_eq_t, bi_eq_f, bi_ne_t, bi_ne_f, bi_lt_t, bi_lt_f, bi_ge_t, bi_ge_f, bi_gt_t, bi_gt_f, bi_le_t, bi_le_f, bc_eq_t, bc_eq_f, bc_ne_t, bc_ne_f, bc_lt_t, bc_lt_f, bc_ge_t, bc_ge_f, bc_gt_t, bc_gt_f, bc_le_t, bc_le_f, bb_eq_t, bb_eq_f, bb_ne_t, bb_ne_f, sc_t, sc_f, b_nr, b_nn, mI_J, mI_R, mJ_I, mJ_R, mR_I, mR_J, mK_I, mK_J, mK_R, mN_I, mN_J, mN_R, inM_I, inM_J, inM_R, mZ_nc, mZ_nk, mZ_sm, mZ_J, mZ_R, mJ_nc, mJ_ni, mJ_sm, mI_Z, iz_add, iz_sub, iz_mul, iz_neg, iz_lt, iz_le, iz_eq, iz_clamp, iz_inB, iz_div, iz_rem, shK h, shR h, inM_lit, and_self, true_and, and_true, true_or, or_true, not_true_eq_false, not_false_eq_true, Nat.reduceEqDiff, reduceCtorEq, Int.reduceNeg, Int.reduceSub, Int.reduceAdd, Int.reduceMul, Int.reduceToNat, Int.reduceEq, Int.neg_neg, Int.cast_ofNat_Int, Nat.reduceAdd, Nat.reduceMul, Nat.reduceSub, gd_t, emod_r, iz_0, Int.zero_add, Int.add_zero, wp_some]
        refine wp_cI s0 (fun z M1 q1 => ?_)
        obtain ⟨hD1, hg1, hr1⟩ := q1
        simp (disch := first | assumption | decide | omega) only [n_136_0, n_136_28, n_136_29, n_136_41, n_136_46, n_136_50, n_136_6, z_iconst, z_bipush, z_sipush, z_ldc, z_ldcs, z_ldcw, z_ldc2, z_lconst0, z_lconst1, z_null, z_getstatic, z_iload_0, z_iload_1, z_iload_2, z_iload_3, z_iload, z_istore_0, z_istore_1, z_istore_2, z_istore_3, z_istore, z_lload_0, z_lload_1, z_lload_2, z_lload_3, z_lload, z_lstore_0, z_lstore_1, z_lstore_2, z_lstore_3, z_lstore, z_aload_0, z_aload_1, z_aload_2, z_aload_3, z_aload, z_astore_0, z_astore_1, z_astore_2, z_astore_3, z_astore, ald_0, ald_s, z_iinc, qst1_1i, qst2_1i, qst1_1r, qst2_1r, qst1_1u, qst2_1u, qst1_1n, qst2_1n, qst1_1l, qst2_1l, qst1_0, qst2_0, qst1_s, qst2_s, z_iadd, z_isub, z_imul, z_iand, z_ior, z_ixor, z_ishl, z_ishr, z_idiv, z_irem, z_ladd, z_lsub, z_lmul, z_land, z_lor, z_ldiv, z_lrem, z_ineg, z_lshl, z_lshr, z_i2l, z_l2i, z_i2b, z_i2c, z_lcmp, z_dupi, z_dupr, z_popi, z_popr, z_dup2, z_goto, z_get0, z_get1, z_get2, z_get3, z_put0, z_put1, z_put2, z_put2n, z_put3, z_iaload, z_baload, z_laload, z_aaload, z_iastore, z_bastore, z_lastore, z_aastore, z_aastoren, z_arraylength, z_new, z_newarray, z_anewarray, z_multi, z_objinit, z_is0, z_iv0, z_ip0, z_is1, z_iv1, z_ip1, z_is2, z_iv2, z_ip2, z_is3, z_iv3, z_ip3, z_is4, z_iv4, z_ip4, z_is5, z_iv5, z_ip5, z_is6, z_iv6, z_ip6, z_is7, z_iv7, z_ip7, z_m991, z_m992, z_m993, z_m994, z_m995, z_m996, z_m998, acal_0, acal_1, acal_2, acal_3, acal_4, aK_v, aK_n, sF_c, sF_n, b_nr, b_nn, r_I, r_Z, r_L, r_A, r_V, sw_F, sw_n, gd_tt, is01_bzT, is01_0, is01_1, qrv_s, qrv_n, bi_eq_t, bi_eq_f, bi_ne_t, bi_ne_f, bi_lt_t, bi_lt_f, bi_ge_t, bi_ge_f, bi_gt_t, bi_gt_f, bi_le_t, bi_le_f, bc_eq_t, bc_eq_f, bc_ne_t, bc_ne_f, bc_lt_t, bc_lt_f, bc_ge_t, bc_ge_f, bc_gt_t, bc_gt_f, bc_le_t, bc_le_f, bb_eq_t, bb_eq_f, bb_ne_t, bb_ne_f, sc_t, sc_f, b_nr, b_nn, mI_J, mI_R, mJ_I, mJ_R, mR_I, mR_J, mK_I, mK_J, mK_R, mN_I, mN_J, mN_R, inM_I, inM_J, inM_R, mZ_nc, mZ_nk, mZ_sm, mZ_J, mZ_R, mJ_nc, mJ_ni, mJ_sm, mI_Z, iz_add, iz_sub, iz_mul, iz_neg, iz_lt, iz_le, iz_eq, iz_clamp, iz_inB, iz_div, iz_rem, shK h, shR h, inM_lit, and_self, true_and, and_true, true_or, or_true, not_true_eq_false, not_false_eq_true, Nat.reduceEqDiff, reduceCtorEq, Int.reduceNeg, Int.reduceSub, Int.reduceAdd, Int.reduceMul, Int.reduceToNat, Int.reduceEq, Int.neg_neg, Int.cast_ofNat_Int, Nat.reduceAdd, Nat.reduceMul, Nat.reduceSub, gd_t, emod_r, iz_0, Int.zero_add, Int.add_zero, wp_some]
        exact m_test_lp hs hE hl k0 rfl ok (by decide) so.2.1 so.2.2.2.1 hD1 hg1 hr1 (fun z M1 g1 g2 g3 => hP z M1 ⟨g1, g2, g3⟩)
      · show wp (cal (d + 38 + 2 * n + 3 + 1) 137 [.ref 479, .int (iz l)] M) P
        rw [cal_137, gd_t (Nat.le_of_ble_eq_true rfl)]
        change wp (n_137_0 (cal (d + 38 + 2 * n + 3)) [some (.ref 479), some (.int (iz l)), none, none] [] _) _
        simp (disch := first | assumption | decide | omega) only [n_137_0, n_137_28, n_137_29, n_137_45, n_137_46, n_137_50, n_137_6, z_iconst, z_bipush, z_sipush, z_ldc, z_ldcs, z_ldcw, z_ldc2, z_lconst0, z_lconst1, z_null, z_getstatic, z_iload_0, z_iload_1, z_iload_2, z_iload_3, z_iload, z_istore_0, z_istore_1, z_istore_2, z_istore_3, z_istore, z_lload_0, z_lload_1, z_lload_2, z_lload_3, z_lload, z_lstore_0, z_lstore_1, z_lstore_2, z_lstore_3, z_lstore, z_aload_0, z_aload_1, z_aload_2, z_aload_3, z_aload, z_astore_0, z_astore_1, z_astore_2, z_astore_3, z_astore, ald_0, ald_s, z_iinc, qst1_1i, qst2_1i, qst1_1r, qst2_1r, qst1_1u, qst2_1u, qst1_1n, qst2_1n, qst1_1l, qst2_1l, qst1_0, qst2_0, qst1_s, qst2_s, z_iadd, z_isub, z_imul, z_iand, z_ior, z_ixor, z_ishl, z_ishr, z_idiv, z_irem, z_ladd, z_lsub, z_lmul, z_land, z_lor, z_ldiv, z_lrem, z_ineg, z_lshl, z_lshr, z_i2l, z_l2i, z_i2b, z_i2c, z_lcmp, z_dupi, z_dupr, z_popi, z_popr, z_dup2, z_goto, z_get0, z_get1, z_get2, z_get3, z_put0, z_put1, z_put2, z_put2n, z_put3, z_iaload, z_baload, z_laload, z_aaload, z_iastore, z_bastore, z_lastore, z_aastore, z_aastoren, z_arraylength, z_new, z_newarray, z_anewarray, z_multi, z_objinit, z_is0, z_iv0, z_ip0, z_is1, z_iv1, z_ip1, z_is2, z_iv2, z_ip2, z_is3, z_iv3, z_ip3, z_is4, z_iv4, z_ip4, z_is5, z_iv5, z_ip5, z_is6, z_iv6, z_ip6, z_is7, z_iv7, z_ip7, z_m991, z_m992, z_m993, z_m994, z_m995, z_m996, z_m998, acal_0, acal_1, acal_2, acal_3, acal_4, aK_v, aK_n, sF_c, sF_n, b_nr, b_nn, r_I, r_Z, r_L, r_A, r_V, sw_F, sw_n, gd_tt, is01_bzT, is01_0, is01_1, qrv_s, qrv_n, bi_eq_t, bi_eq_f, bi_ne_t, bi_ne_f, bi_lt_t, bi_lt_f, bi_ge_t, bi_ge_f, bi_gt_t, bi_gt_f, bi_le_t, bi_le_f, bc_eq_t, bc_eq_f, bc_ne_t, bc_ne_f, bc_lt_t, bc_lt_f, bc_ge_t, bc_ge_f, bc_gt_t, bc_gt_f, bc_le_t, bc_le_f, bb_eq_t, bb_eq_f, bb_ne_t, bb_ne_f, sc_t, sc_f, b_nr, b_nn, mI_J, mI_R, mJ_I, mJ_R, mR_I, mR_J, mK_I, mK_J, mK_R, mN_I, mN_J, mN_R, inM_I, inM_J, inM_R, mZ_nc, mZ_nk, mZ_sm, mZ_J, mZ_R, mJ_nc, mJ_ni, mJ_sm, mI_Z, iz_add, iz_sub, iz_mul, iz_neg, iz_lt, iz_le, iz_eq, iz_clamp, iz_inB, iz_div, iz_rem, shK h, shR h, inM_lit, and_self, true_and, and_true, true_or, or_true, not_true_eq_false, not_false_eq_true, Nat.reduceEqDiff, reduceCtorEq, Int.reduceNeg, Int.reduceSub, Int.reduceAdd, Int.reduceMul, Int.reduceToNat, Int.reduceEq, Int.neg_neg, Int.cast_ofNat_Int, Nat.reduceAdd, Nat.reduceMul, Nat.reduceSub, gd_t, emod_r, iz_0, Int.zero_add, Int.add_zero, wp_some]
        refine wp_cI s0 (fun z M1 q1 => ?_)
        obtain ⟨hD1, hg1, hr1⟩ := q1
        simp (disch := first | assumption | decide | omega) only [n_137_0, n_137_28, n_137_29, n_137_45, n_137_46, n_137_50, n_137_6, z_iconst, z_bipush, z_sipush, z_ldc, z_ldcs, z_ldcw, z_ldc2, z_lconst0, z_lconst1, z_null, z_getstatic, z_iload_0, z_iload_1, z_iload_2, z_iload_3, z_iload, z_istore_0, z_istore_1, z_istore_2, z_istore_3, z_istore, z_lload_0, z_lload_1, z_lload_2, z_lload_3, z_lload, z_lstore_0, z_lstore_1, z_lstore_2, z_lstore_3, z_lstore, z_aload_0, z_aload_1, z_aload_2, z_aload_3, z_aload, z_astore_0, z_astore_1, z_astore_2, z_astore_3, z_astore, ald_0, ald_s, z_iinc, qst1_1i, qst2_1i, qst1_1r, qst2_1r, qst1_1u, qst2_1u, qst1_1n, qst2_1n, qst1_1l, qst2_1l, qst1_0, qst2_0, qst1_s, qst2_s, z_iadd, z_isub, z_imul, z_iand, z_ior, z_ixor, z_ishl, z_ishr, z_idiv, z_irem, z_ladd, z_lsub, z_lmul, z_land, z_lor, z_ldiv, z_lrem, z_ineg, z_lshl, z_lshr, z_i2l, z_l2i, z_i2b, z_i2c, z_lcmp, z_dupi, z_dupr, z_popi, z_popr, z_dup2, z_goto, z_get0, z_get1, z_get2, z_get3, z_put0, z_put1, z_put2, z_put2n, z_put3, z_iaload, z_baload, z_laload, z_aaload, z_iastore, z_bastore, z_lastore, z_aastore, z_aastoren, z_arraylength, z_new, z_newarray, z_anewarray, z_multi, z_objinit, z_is0, z_iv0, z_ip0, z_is1, z_iv1, z_ip1, z_is2, z_iv2, z_ip2, z_is3, z_iv3, z_ip3, z_is4, z_iv4, z_ip4, z_is5, z_iv5, z_ip5, z_is6, z_iv6, z_ip6, z_is7, z_iv7, z_ip7, z_m991, z_m992, z_m993, z_m994, z_m995, z_m996, z_m998, acal_0, acal_1, acal_2, acal_3, acal_4, aK_v, aK_n, sF_c, sF_n, b_nr, b_nn, r_I, r_Z, r_L, r_A, r_V, sw_F, sw_n, gd_tt, is01_bzT, is01_0, is01_1, qrv_s, qrv_n, bi_eq_t, bi_eq_f, bi_ne_t, bi_ne_f, bi_lt_t, bi_lt_f, bi_ge_t, bi_ge_f, bi_gt_t, bi_gt_f, bi_le_t, bi_le_f, bc_eq_t, bc_eq_f, bc_ne_t, bc_ne_f, bc_lt_t, bc_lt_f, bc_ge_t, bc_ge_f, bc_gt_t, bc_gt_f, bc_le_t, bc_le_f, bb_eq_t, bb_eq_f, bb_ne_t, bb_ne_f, sc_t, sc_f, b_nr, b_nn, mI_J, mI_R, mJ_I, mJ_R, mR_I, mR_J, mK_I, mK_J, mK_R, mN_I, mN_J, mN_R, inM_I, inM_J, inM_R, mZ_nc, mZ_nk, mZ_sm, mZ_J, mZ_R, mJ_nc, mJ_ni, mJ_sm, mI_Z, iz_add, iz_sub, iz_mul, iz_neg, iz_lt, iz_le, iz_eq, iz_clamp, iz_inB, iz_div, iz_rem, shK h, shR h, inM_lit, and_self, true_and, and_true, true_or, or_true, not_true_eq_false, not_false_eq_true, Nat.reduceEqDiff, reduceCtorEq, Int.reduceNeg, Int.reduceSub, Int.reduceAdd, Int.reduceMul, Int.reduceToNat, Int.reduceEq, Int.neg_neg, Int.cast_ofNat_Int, Nat.reduceAdd, Nat.reduceMul, Nat.reduceSub, gd_t, emod_r, iz_0, Int.zero_add, Int.add_zero, wp_some]
        exact m_both_lp hs hE hl k0 rfl ok (by decide) so.2.1 so.2.2.2.1 hD1 hg1 hr1 (fun z M1 g1 g2 g3 => hP z M1 ⟨g1, g2, g3⟩)
end

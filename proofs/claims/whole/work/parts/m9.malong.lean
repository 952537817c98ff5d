/-- the cells that going along writes -/
def DGa (i k : Nat) : Prop := (i = 479 ∧ (k = 8 ∨ k = 23 ∨ k = 22 ∨ k = 24 ∨ k = 63 ∨ k = 64 ∨ k = 65 ∨ k = 66)) ∨ i = 491 ∨ i = 511
theorem DGa_8 {i k : Nat} (hi : i < 8) : ¬ DGa i k := by unfold DGa; omega
/-- which SUMS are reckoned so far, F: all of them -/
def SmA (M : qMe) (l : Int) (F : Option (List Int)) (pre : List Int) (rest : Option (List Int)) : Prop := (mZ M 479 63 = 0 ∨ mZ M 479 63 = 1) ∧ (l = 1 → (mZ M 479 63 = 1 ∧ (∀ t, rest = some t → F = some (pre ++ t)) ∧ (rest = none → F = none) ∧ ∀ (n : Nat) (x : Int), pre[n]? = some x → mJ M 511 n = lz x) ∨ (mZ M 479 63 = 0 ∧ F = none))
def SmZ (M : qMe) (l : Int) (F : Option (List Int)) : Prop := l = 1 → (mZ M 479 63 = 1 ∧ ∃ zs, F = some zs ∧ ∀ (n : Nat) (x : Int), zs[n]? = some x → mJ M 511 n = lz x) ∨ (mZ M 479 63 = 0 ∧ F = none)
theorem EvO_F {M M1 : qMe} {b fw : Int} {N : Nat} {c v e : Nat → Int} (h : EvO M b N fw c v e) (hF : Fr M M1 (fun i k => (i = 479 ∧ (k = 22 ∨ k = 24 ∨ k = 63 ∨ k = 64 ∨ k = 65 ∨ k = 66)) ∨ i = 511)) : EvO M1 b N fw c v e := by
  obtain ⟨h1, h2, h3, h4, h5, h6, h7, h8⟩ := h
  refine ⟨hF.shp h1 (fun i k hi => by omega), h2, ?_, ?_, fun p hp => ?_, h6, h7, fun k hk => ?_⟩
  · rw [hF.z (by omega)]; exact h3
  · rw [hF.z (by omega)]; exact h4
  · rw [hF.z (by omega), hF.z (by omega)]; exact h5 p hp
  · rw [hF.z (by omega)]; exact h8 k hk
/-- as DGa, but for the words -/
def DGb (i k : Nat) : Prop := (i = 479 ∧ (k = 22 ∨ k = 24 ∨ k = 63 ∨ k = 64 ∨ k = 65 ∨ k = 66)) ∨ i = 511
theorem DGb_8 {i k : Nat} (hi : i < 8) : ¬ DGb i k := by unfold DGb; omega
def DGc (i k : Nat) : Prop := (i = 479 ∧ (k = 22 ∨ k = 24 ∨ k = 63)) ∨ i = 511
theorem DGc_8 {i k : Nat} (hi : i < 8) : ¬ DGc i k := by unfold DGc; omega
theorem DGc_b {i k : Nat} (h : DGc i k) : DGb i k := by unfold DGc at h; unfold DGb; omega
set_option maxHeartbeats 2000000 in
theorem m_osum1 {c v e : Nat → Int} {N d i p q a p1 q1 : Nat} {x l n : Int} {F : Option (List Int)} {cs : List Int} {D : Den} {s0 : Nat × Den} {Ss : List (Nat × Den)} {pre : List Int} {M : qMe} {K : qF} {P : Option Value → qMe → Prop} (hl : l = 0 ∨ l = 1) (hi : i < 4) (hpE : pE c v 17 22 30 0 0 p q a = (true, p1, q1, cs, D)) (hs0 : s0.2 = D) (hp : p ≤ N) (hq : q ≤ 50) (hE : EvO M 2400 N 17 c v e) (hg : mZ M 479 22 = 2400 + (p : Int)) (hpl : pre.length = i) (hA : SmA M l F pre (sumsV (s0 :: Ss) e))
    (hK : ∀ M1 pre1, Fr M M1 DGc → mZ M1 479 22 = 2400 + (p1 : Int) → pre1.length = i + 1 → SmA M1 l F pre1 (sumsV Ss e) → wp (K [some (.ref 479), some (.int (iz x)), some (.int (iz l)), some (.int (iz n)), some (.int (iz ((i + 1 : Nat) : Int)))] [] M1) P) : wp (n_205_92 (cal (d + 160)) K [some (.ref 479), some (.int (iz x)), some (.int (iz l)), some (.int (iz n)), some (.int (iz (i : Int)))] [] M) P := by
  have h := hE.1
  have hN := h.1
  have iI : (i : Int) < 4 := by omega
  have i0 : 0 ≤ (i : Int) := by omega
  obtain ⟨hA1, hA2⟩ := hA
  have hE0 : EvO (qsI M 479 24 (iz 0)) 2400 N 17 c v e := Ev_IO hE (Or.inr rfl)
  have mE := m_EO (b := 2400) (fw := 17) (N := N) (c := c) (v := v) (e := e) (lw := 22) (by decide) (by decide) (by decide) 30 0 0 p q a (by decide) hp hq (by rw [hpE]) (d + 127)
  rw [hpE] at mE
  have so := mE (qsI M 479 24 (iz 0)) l 0 hE0 (by rw [mZ_nk (by decide)]; exact hg) (mZ_sm rfl (by decide) (by decide)) (Or.inl rfl) hl
  have so : wL (cal (d + 160) 133 [.ref 479, .int (iz l)] (qsI M 479 24 (iz 0))) (fun z M1 => Dif (qsI M 479 24 (iz 0)) M1 DEv ∧ mZ M1 479 22 = 2400 + (p1 : Int) ∧ EvZ (mZ M1 479 24) D e l 0 z) := so
  have F0 : Fr M (qsI M 479 24 (iz 0)) DGc := Fr.rf.I (by unfold DGc; omega)
  have sa0 : mZ (qsI M 479 24 (iz 0)) 479 63 = mZ M 479 63 := mZ_nk (by decide)
  have j0 : ∀ k, mJ (qsI M 479 24 (iz 0)) 511 k = mJ M 511 k := fun k => rfl
  simp (disch := first | assumption | decide | omega) only [n_205_0, n_205_67, n_205_92, n_205_128, n_205_129, n_205_138, n_205_179, n_205_201, n_205_206, n_205_228, n_205_229, f_205_71, z_iconst, z_bipush, z_sipush, z_ldc, z_ldcs, z_ldcw, z_ldc2, z_lconst0, z_lconst1, z_null, z_getstatic, z_iload_0, z_iload_1, z_iload_2, z_iload_3, z_iload, z_istore_0, z_istore_1, z_istore_2, z_istore_3, z_istore, z_lload_0, z_lload_1, z_lload_2, z_lload_3, z_lload, z_lstore_0, z_lstore_1, z_lstore_2, z_lstore_3, z_lstore, z_aload_0, z_aload_1, z_aload_2, z_aload_3, z_aload, z_astore_0, z_astore_1, z_astore_2, z_astore_3, z_astore, ald_0, ald_s, z_iinc, qst1_1i, qst2_1i, qst1_1r, qst2_1r, qst1_1u, qst2_1u, qst1_1n, qst2_1n, qst1_1l, qst2_1l, qst1_0, qst2_0, qst1_s, qst2_s, z_iadd, z_isub, z_imul, z_iand, z_ior, z_ixor, z_ishl, z_ishr, z_idiv, z_irem, z_ladd, z_lsub, z_lmul, z_land, z_lor, z_ldiv, z_lrem, z_ineg, z_lshl, z_lshr, z_i2l, z_l2i, z_i2b, z_i2c, z_lcmp, z_dupi, z_dupr, z_popi, z_popr, z_dup2, z_goto, z_get0, z_get1, z_get2, z_get3, z_put0, z_put1, z_put2, z_put2n, z_put3, z_iaload, z_baload, z_laload, z_aaload, z_iastore, z_bastore, z_lastore, z_aastore, z_aastoren, z_arraylength, z_new, z_newarray, z_anewarray, z_multi, z_objinit, z_is0, z_iv0, z_ip0, z_is1, z_iv1, z_ip1, z_is2, z_iv2, z_ip2, z_is3, z_iv3, z_ip3, z_is4, z_iv4, z_ip4, z_is5, z_iv5, z_ip5, z_is6, z_iv6, z_ip6, z_is7, z_iv7, z_ip7, z_m991, z_m992, z_m993, z_m994, z_m995, z_m996, z_m998, acal_0, acal_1, acal_2, acal_3, acal_4, aK_v, aK_n, sF_c, sF_n, b_nr, b_nn, r_I, r_Z, r_L, r_A, r_V, sw_F, sw_n, gd_tt, is01_bzT, is01_0, is01_1, qrv_s, qrv_n, bi_eq_t, bi_eq_f, bi_ne_t, bi_ne_f, bi_lt_t, bi_lt_f, bi_ge_t, bi_ge_f, bi_gt_t, bi_gt_f, bi_le_t, bi_le_f, bc_eq_t, bc_eq_f, bc_ne_t, bc_ne_f, bc_lt_t, bc_lt_f, bc_ge_t, bc_ge_f, bc_gt_t, bc_gt_f, bc_le_t, bc_le_f, bb_eq_t, bb_eq_f, bb_ne_t, bb_ne_f, sc_t, sc_f, b_nr, b_nn, mI_J, mI_R, mJ_I, mJ_R, mR_I, mR_J, mK_I, mK_J, mK_R, mN_I, mN_J, mN_R, inM_I, inM_J, inM_R, mZ_nc, mZ_nk, mZ_sm, mZ_J, mZ_R, mJ_nc, mJ_ni, mJ_sm, mI_Z, iz_add, iz_sub, iz_mul, iz_neg, iz_lt, iz_le, iz_eq, iz_clamp, iz_inB, iz_div, iz_rem, shK h, shR h, inM_lit, and_self, true_and, and_true, true_or, or_true, not_true_eq_false, not_false_eq_true, Nat.reduceEqDiff, reduceCtorEq, Int.reduceNeg, Int.reduceSub, Int.reduceAdd, Int.reduceMul, Int.reduceToNat, Int.reduceEq, Int.neg_neg, Int.cast_ofNat_Int, Nat.reduceAdd, Nat.reduceMul, Nat.reduceSub, gd_t, emod_r, iz_0, Int.zero_add, Int.add_zero, wp_some, lz_add, lz_sub, lz_mul, lz_0, lz_1, lz_of, lz_nz, lz_i2l, lz_l2i, lz_rem, lz_div, is01_i, lcmp_lt, lcmp_eq, lcmp_gt]
  generalize qsI M 479 24 (iz 0) = Ma at *
  refine wp_cL so (fun z M2 r => ?_)
  clear so mE
  obtain ⟨D2, g2, ez⟩ := r
  have F2 : Fr M M2 DGc := F0.tr ((Fr.of D2).mono (fun i k q => by unfold DEv at q; unfold DGc; omega))
  have h2 := F2.shp h (fun i k hi => DGc_8 hi)
  have hN2 := h2.1
  have sa2 : mZ M2 479 63 = mZ M 479 63 := (D2.z (by unfold DEv; omega)).trans sa0
  have j2 : ∀ k, mJ M2 511 k = mJ M 511 k := fun k => (D2.2.2.2.1 511 k).trans (j0 k)
  obtain ⟨zb, bb, ez0, ez1, ez2⟩ := ez
  -- behind the stores
  have fin : ∀ w : Int, (w = 0 ∨ w = 1) → (w = 1 ↔ mZ M 479 63 = 1 ∧ mZ M2 479 24 = 0) → wp (K [some (.ref 479), some (.int (iz x)), some (.int (iz l)), some (.int (iz n)), some (.int (iz ((i + 1 : Nat) : Int)))] [] (qsI (qsJ M2 511 i (lz z)) 479 63 (iz w))) P := fun w w01 hw => by
    have F3 : Fr M (qsI (qsJ M2 511 i (lz z)) 479 63 (iz w)) DGc := (F2.J (by unfold DGc; omega)).I (by unfold DGc; omega)
    refine hK _ (pre ++ [z]) F3 (by rw [mZ_nk (by decide), mZ_J]; exact g2) (by rw [List.length_append, hpl]; rfl) ⟨by rw [mZ_sm rfl (by omega) (by omega)]; exact w01, fun l1 => ?_⟩
    rw [mZ_sm rfl (by omega) (by omega)]
    rcases hA2 l1 with ⟨s1, f1, f2, f3⟩ | ⟨s1, f1⟩
    · rcases ez2 l1 rfl with ⟨de, b0⟩ | ⟨de, b1⟩
      · obtain ⟨v1, v2⟩ := sumsV_s (s := s0) (ss := Ss) (e := e) (z := z) (by rw [hs0]; exact de)
        refine Or.inl ⟨hw.mpr ⟨s1, b0⟩, fun t q => ?_, fun q => f2 (v2 q), fun m y q => ?_⟩
        · rw [List.append_assoc]
          exact f1 _ (v1 t q)
        · rw [mJ_I]
          by_cases nl : m < pre.length
          · rw [List.getElem?_append_left nl] at q
            rw [mJ_ni (by omega), j2]
            exact f3 m y q
          · rw [List.getElem?_append_right (by omega)] at q
            have n0 : m - pre.length = 0 := by
              have := lt_of_get q
              simp only [List.length_cons, List.length_nil] at this
              omega
            rw [n0] at q
            have q : z = y := Option.some.inj q
            rw [show m = i by omega, mJ_sm, q]
      · refine Or.inr ⟨?_, f2 (sumsV_n (by rw [hs0]; exact de))⟩
        rcases w01 with w0 | w1
        · exact w0
        · have := (hw.mp w1).2; omega
    · refine Or.inr ⟨?_, f1⟩
      rcases w01 with w0 | w1
      · exact w0
      · have := (hw.mp w1).1; omega
  clear hK
  generalize hsa : mZ M 479 63 = sa at *
  generalize hbr : mZ M2 479 24 = br at *
  rcases hA1 with rfl | rfl
  · have fin := fin 0 (Or.inl rfl) ⟨fun q => by omega, fun q => by omega⟩
    simp (disch := first | assumption | decide | omega) only [n_205_0, n_205_67, n_205_92, n_205_128, n_205_129, n_205_138, n_205_179, n_205_201, n_205_206, n_205_228, n_205_229, f_205_71, z_iconst, z_bipush, z_sipush, z_ldc, z_ldcs, z_ldcw, z_ldc2, z_lconst0, z_lconst1, z_null, z_getstatic, z_iload_0, z_iload_1, z_iload_2, z_iload_3, z_iload, z_istore_0, z_istore_1, z_istore_2, z_istore_3, z_istore, z_lload_0, z_lload_1, z_lload_2, z_lload_3, z_lload, z_lstore_0, z_lstore_1, z_lstore_2, z_lstore_3, z_lstore, z_aload_0, z_aload_1, z_aload_2, z_aload_3, z_aload, z_astore_0, z_astore_1, z_astore_2, z_astore_3, z_astore, ald_0, ald_s, z_iinc, qst1_1i, qst2_1i, qst1_1r, qst2_1r, qst1_1u, qst2_1u, qst1_1n, qst2_1n, qst1_1l, qst2_1l, qst1_0, qst2_0, qst1_s, qst2_s, z_iadd, z_isub, z_imul, z_iand, z_ior, z_ixor, z_ishl, z_ishr, z_idiv, z_irem, z_ladd, z_lsub, z_lmul, z_land, z_lor, z_ldiv, z_lrem, z_ineg, z_lshl, z_lshr, z_i2l, z_l2i, z_i2b, z_i2c, z_lcmp, z_dupi, z_dupr, z_popi, z_popr, z_dup2, z_goto, z_get0, z_get1, z_get2, z_get3, z_put0, z_put1, z_put2, z_put2n, z_put3, z_iaload, z_baload, z_laload, z_aaload, z_iastore, z_bastore, z_lastore, z_aastore, z_aastoren, z_arraylength, z_new, z_newarray, z_anewarray, z_multi, z_objinit, z_is0, z_iv0, z_ip0, z_is1, z_iv1, z_ip1, z_is2, z_iv2, z_ip2, z_is3, z_iv3, z_ip3, z_is4, z_iv4, z_ip4, z_is5, z_iv5, z_ip5, z_is6, z_iv6, z_ip6, z_is7, z_iv7, z_ip7, z_m991, z_m992, z_m993, z_m994, z_m995, z_m996, z_m998, acal_0, acal_1, acal_2, acal_3, acal_4, aK_v, aK_n, sF_c, sF_n, b_nr, b_nn, r_I, r_Z, r_L, r_A, r_V, sw_F, sw_n, gd_tt, is01_bzT, is01_0, is01_1, qrv_s, qrv_n, bi_eq_t, bi_eq_f, bi_ne_t, bi_ne_f, bi_lt_t, bi_lt_f, bi_ge_t, bi_ge_f, bi_gt_t, bi_gt_f, bi_le_t, bi_le_f, bc_eq_t, bc_eq_f, bc_ne_t, bc_ne_f, bc_lt_t, bc_lt_f, bc_ge_t, bc_ge_f, bc_gt_t, bc_gt_f, bc_le_t, bc_le_f, bb_eq_t, bb_eq_f, bb_ne_t, bb_ne_f, sc_t, sc_f, b_nr, b_nn, mI_J, mI_R, mJ_I, mJ_R, mR_I, mR_J, mK_I, mK_J, mK_R, mN_I, mN_J, mN_R, inM_I, inM_J, inM_R, mZ_nc, mZ_nk, mZ_sm, mZ_J, mZ_R, mJ_nc, mJ_ni, mJ_sm, mI_Z, iz_add, iz_sub, iz_mul, iz_neg, iz_lt, iz_le, iz_eq, iz_clamp, iz_inB, iz_div, iz_rem, inM_lit, and_self, true_and, and_true, true_or, or_true, not_true_eq_false, not_false_eq_true, Nat.reduceEqDiff, reduceCtorEq, Int.reduceNeg, Int.reduceSub, Int.reduceAdd, Int.reduceMul, Int.reduceToNat, Int.reduceEq, Int.neg_neg, Int.cast_ofNat_Int, Nat.reduceAdd, Nat.reduceMul, Nat.reduceSub, gd_t, emod_r, iz_0, Int.zero_add, Int.add_zero, wp_some, lz_add, lz_sub, lz_mul, lz_0, lz_1, lz_of, lz_nz, lz_i2l, lz_l2i, lz_rem, lz_div, is01_i, lcmp_lt, lcmp_eq, lcmp_gt, shK h2, shR h2, sa2, hbr, Int.toNat_natCast]
    exact fin
  · by_cases b0 : br = 0
    · have fin := fin 1 (Or.inr rfl) ⟨fun _ => ⟨rfl, b0⟩, fun _ => rfl⟩
      simp (disch := first | assumption | decide | omega) only [n_205_0, n_205_67, n_205_92, n_205_128, n_205_129, n_205_138, n_205_179, n_205_201, n_205_206, n_205_228, n_205_229, f_205_71, z_iconst, z_bipush, z_sipush, z_ldc, z_ldcs, z_ldcw, z_ldc2, z_lconst0, z_lconst1, z_null, z_getstatic, z_iload_0, z_iload_1, z_iload_2, z_iload_3, z_iload, z_istore_0, z_istore_1, z_istore_2, z_istore_3, z_istore, z_lload_0, z_lload_1, z_lload_2, z_lload_3, z_lload, z_lstore_0, z_lstore_1, z_lstore_2, z_lstore_3, z_lstore, z_aload_0, z_aload_1, z_aload_2, z_aload_3, z_aload, z_astore_0, z_astore_1, z_astore_2, z_astore_3, z_astore, ald_0, ald_s, z_iinc, qst1_1i, qst2_1i, qst1_1r, qst2_1r, qst1_1u, qst2_1u, qst1_1n, qst2_1n, qst1_1l, qst2_1l, qst1_0, qst2_0, qst1_s, qst2_s, z_iadd, z_isub, z_imul, z_iand, z_ior, z_ixor, z_ishl, z_ishr, z_idiv, z_irem, z_ladd, z_lsub, z_lmul, z_land, z_lor, z_ldiv, z_lrem, z_ineg, z_lshl, z_lshr, z_i2l, z_l2i, z_i2b, z_i2c, z_lcmp, z_dupi, z_dupr, z_popi, z_popr, z_dup2, z_goto, z_get0, z_get1, z_get2, z_get3, z_put0, z_put1, z_put2, z_put2n, z_put3, z_iaload, z_baload, z_laload, z_aaload, z_iastore, z_bastore, z_lastore, z_aastore, z_aastoren, z_arraylength, z_new, z_newarray, z_anewarray, z_multi, z_objinit, z_is0, z_iv0, z_ip0, z_is1, z_iv1, z_ip1, z_is2, z_iv2, z_ip2, z_is3, z_iv3, z_ip3, z_is4, z_iv4, z_ip4, z_is5, z_iv5, z_ip5, z_is6, z_iv6, z_ip6, z_is7, z_iv7, z_ip7, z_m991, z_m992, z_m993, z_m994, z_m995, z_m996, z_m998, acal_0, acal_1, acal_2, acal_3, acal_4, aK_v, aK_n, sF_c, sF_n, b_nr, b_nn, r_I, r_Z, r_L, r_A, r_V, sw_F, sw_n, gd_tt, is01_bzT, is01_0, is01_1, qrv_s, qrv_n, bi_eq_t, bi_eq_f, bi_ne_t, bi_ne_f, bi_lt_t, bi_lt_f, bi_ge_t, bi_ge_f, bi_gt_t, bi_gt_f, bi_le_t, bi_le_f, bc_eq_t, bc_eq_f, bc_ne_t, bc_ne_f, bc_lt_t, bc_lt_f, bc_ge_t, bc_ge_f, bc_gt_t, bc_gt_f, bc_le_t, bc_le_f, bb_eq_t, bb_eq_f, bb_ne_t, bb_ne_f, sc_t, sc_f, b_nr, b_nn, mI_J, mI_R, mJ_I, mJ_R, mR_I, mR_J, mK_I, mK_J, mK_R, mN_I, mN_J, mN_R, inM_I, inM_J, inM_R, mZ_nc, mZ_nk, mZ_sm, mZ_J, mZ_R, mJ_nc, mJ_ni, mJ_sm, mI_Z, iz_add, iz_sub, iz_mul, iz_neg, iz_lt, iz_le, iz_eq, iz_clamp, iz_inB, iz_div, iz_rem, inM_lit, and_self, true_and, and_true, true_or, or_true, not_true_eq_false, not_false_eq_true, Nat.reduceEqDiff, reduceCtorEq, Int.reduceNeg, Int.reduceSub, Int.reduceAdd, Int.reduceMul, Int.reduceToNat, Int.reduceEq, Int.neg_neg, Int.cast_ofNat_Int, Nat.reduceAdd, Nat.reduceMul, Nat.reduceSub, gd_t, emod_r, iz_0, Int.zero_add, Int.add_zero, wp_some, lz_add, lz_sub, lz_mul, lz_0, lz_1, lz_of, lz_nz, lz_i2l, lz_l2i, lz_rem, lz_div, is01_i, lcmp_lt, lcmp_eq, lcmp_gt, shK h2, shR h2, sa2, hbr, b0, Int.toNat_natCast]
      exact fin
    · have fin := fin 0 (Or.inl rfl) ⟨fun q => by omega, fun q => absurd q.2 b0⟩
      simp (disch := first | assumption | decide | omega) only [n_205_0, n_205_67, n_205_92, n_205_128, n_205_129, n_205_138, n_205_179, n_205_201, n_205_206, n_205_228, n_205_229, f_205_71, z_iconst, z_bipush, z_sipush, z_ldc, z_ldcs, z_ldcw, z_ldc2, z_lconst0, z_lconst1, z_null, z_getstatic, z_iload_0, z_iload_1, z_iload_2, z_iload_3, z_iload, z_istore_0, z_istore_1, z_istore_2, z_istore_3, z_istore, z_lload_0, z_lload_1, z_lload_2, z_lload_3, z_lload, z_lstore_0, z_lstore_1, z_lstore_2, z_lstore_3, z_lstore, z_aload_0, z_aload_1, z_aload_2, z_aload_3, z_aload, z_astore_0, z_astore_1, z_astore_2, z_astore_3, z_astore, ald_0, ald_s, z_iinc, qst1_1i, qst2_1i, qst1_1r, qst2_1r, qst1_1u, qst2_1u, qst1_1n, qst2_1n, qst1_1l, qst2_1l, qst1_0, qst2_0, qst1_s, qst2_s, z_iadd, z_isub, z_imul, z_iand, z_ior, z_ixor, z_ishl, z_ishr, z_idiv, z_irem, z_ladd, z_lsub, z_lmul, z_land, z_lor, z_ldiv, z_lrem, z_ineg, z_lshl, z_lshr, z_i2l, z_l2i, z_i2b, z_i2c, z_lcmp, z_dupi, z_dupr, z_popi, z_popr, z_dup2, z_goto, z_get0, z_get1, z_get2, z_get3, z_put0, z_put1, z_put2, z_put2n, z_put3, z_iaload, z_baload, z_laload, z_aaload, z_iastore, z_bastore, z_lastore, z_aastore, z_aastoren, z_arraylength, z_new, z_newarray, z_anewarray, z_multi, z_objinit, z_is0, z_iv0, z_ip0, z_is1, z_iv1, z_ip1, z_is2, z_iv2, z_ip2, z_is3, z_iv3, z_ip3, z_is4, z_iv4, z_ip4, z_is5, z_iv5, z_ip5, z_is6, z_iv6, z_ip6, z_is7, z_iv7, z_ip7, z_m991, z_m992, z_m993, z_m994, z_m995, z_m996, z_m998, acal_0, acal_1, acal_2, acal_3, acal_4, aK_v, aK_n, sF_c, sF_n, b_nr, b_nn, r_I, r_Z, r_L, r_A, r_V, sw_F, sw_n, gd_tt, is01_bzT, is01_0, is01_1, qrv_s, qrv_n, bi_eq_t, bi_eq_f, bi_ne_t, bi_ne_f, bi_lt_t, bi_lt_f, bi_ge_t, bi_ge_f, bi_gt_t, bi_gt_f, bi_le_t, bi_le_f, bc_eq_t, bc_eq_f, bc_ne_t, bc_ne_f, bc_lt_t, bc_lt_f, bc_ge_t, bc_ge_f, bc_gt_t, bc_gt_f, bc_le_t, bc_le_f, bb_eq_t, bb_eq_f, bb_ne_t, bb_ne_f, sc_t, sc_f, b_nr, b_nn, mI_J, mI_R, mJ_I, mJ_R, mR_I, mR_J, mK_I, mK_J, mK_R, mN_I, mN_J, mN_R, inM_I, inM_J, inM_R, mZ_nc, mZ_nk, mZ_sm, mZ_J, mZ_R, mJ_nc, mJ_ni, mJ_sm, mI_Z, iz_add, iz_sub, iz_mul, iz_neg, iz_lt, iz_le, iz_eq, iz_clamp, iz_inB, iz_div, iz_rem, inM_lit, and_self, true_and, and_true, true_or, or_true, not_true_eq_false, not_false_eq_true, Nat.reduceEqDiff, reduceCtorEq, Int.reduceNeg, Int.reduceSub, Int.reduceAdd, Int.reduceMul, Int.reduceToNat, Int.reduceEq, Int.neg_neg, Int.cast_ofNat_Int, Nat.reduceAdd, Nat.reduceMul, Nat.reduceSub, gd_t, emod_r, iz_0, Int.zero_add, Int.add_zero, wp_some, lz_add, lz_sub, lz_mul, lz_0, lz_1, lz_of, lz_nz, lz_i2l, lz_l2i, lz_rem, lz_div, is01_i, lcmp_lt, lcmp_eq, lcmp_gt, shK h2, shR h2, sa2, hbr, Int.toNat_natCast]
      exact fin
set_option maxHeartbeats 2000000 in
theorem m_osums {c v e : Nat → Int} {N d n : Nat} {x l : Int} {F : Option (List Int)} (hl : l = 0 ∨ l = 1) (hn : n ≤ 4) : ∀ (ss : List Int) (i fuel p q a p1 q1 : Nat) (cs : List Int) (Ss : List (Nat × Den)) (pre : List Int) (M : qMe) (P : Option Value → qMe → Prop), i + ss.length + 1 = n → ss.length + 1 < fuel → (∀ s, s ∈ ss → ¬ s = 0) → pSs c v 17 22 ss p q a = (true, p1, q1, cs, Ss) → p ≤ N → q ≤ 50 → EvO M 2400 N 17 c v e → mZ M 479 22 = 2400 + (p : Int) → pre.length = i → SmA M l F pre (sumsV Ss e) → (∀ M1, Fr M M1 DGc → mZ M1 479 22 = 2400 + (p1 : Int) → SmZ M1 l F → wp (n_205_138 (cal (d + 160)) [some (.ref 479), some (.int (iz x)), some (.int (iz l)), some (.int (iz (n : Int))), some (.int (iz (n : Int)))] [] M1) P) → wp (n_205_92 (cal (d + 160)) (lp (f_205_71 (cal (d + 160))) fuel) [some (.ref 479), some (.int (iz x)), some (.int (iz l)), some (.int (iz (n : Int))), some (.int (iz (i : Int)))] [] M) P
  | [], i, fuel, p, q, a, p1, q1, cs, Ss, pre, M, P, hik, hf, h0, hS, hp, hq, hE, hg, hpl, hA, hP => by
    rw [pSs_nil] at hS
    obtain ⟨p2, q2, cs2, D, e1, e2⟩ := pThen_ok (by rw [hS])
    rw [e2] at hS
    simp only [Prod.mk.injEq, true_and] at hS
    obtain ⟨rfl, rfl, rfl, rfl⟩ := hS
    rw [List.length_nil] at hik hf
    refine m_osum1 (s0 := (a, D)) (Ss := []) hl (by omega) e1 rfl hp hq hE hg hpl hA (fun M1 pre1 F1 g1 pl1 A1 => ?_)
    have h1 := F1.shp hE.1 (fun i k hi => DGc_8 hi)
    have hN1 := h1.1
    have fin := hP M1 F1 g1 (fun l1 => by
      rcases A1.2 l1 with ⟨s1, f1, f2, f3⟩ | ⟨s1, f1⟩
      · have := f1 [] rfl
        rw [List.append_nil] at this
        exact Or.inl ⟨s1, pre1, this, f3⟩
      · exact Or.inr ⟨s1, f1⟩)
    obtain ⟨n', rfl⟩ : ∃ n', fuel = n' + 1 := ⟨fuel - 1, by omega⟩
    have eI : ((i + 1 : Nat) : Int) = (n : Int) := by omega
    rw [lp_s, eI]
    simp (disch := first | assumption | decide | omega) only [n_205_0, n_205_67, n_205_92, n_205_128, n_205_129, n_205_179, n_205_201, n_205_206, n_205_228, n_205_229, f_205_71, z_iconst, z_bipush, z_sipush, z_ldc, z_ldcs, z_ldcw, z_ldc2, z_lconst0, z_lconst1, z_null, z_getstatic, z_iload_0, z_iload_1, z_iload_2, z_iload_3, z_iload, z_istore_0, z_istore_1, z_istore_2, z_istore_3, z_istore, z_lload_0, z_lload_1, z_lload_2, z_lload_3, z_lload, z_lstore_0, z_lstore_1, z_lstore_2, z_lstore_3, z_lstore, z_aload_0, z_aload_1, z_aload_2, z_aload_3, z_aload, z_astore_0, z_astore_1, z_astore_2, z_astore_3, z_astore, ald_0, ald_s, z_iinc, qst1_1i, qst2_1i, qst1_1r, qst2_1r, qst1_1u, qst2_1u, qst1_1n, qst2_1n, qst1_1l, qst2_1l, qst1_0, qst2_0, qst1_s, qst2_s, z_iadd, z_isub, z_imul, z_iand, z_ior, z_ixor, z_ishl, z_ishr, z_idiv, z_irem, z_ladd, z_lsub, z_lmul, z_land, z_lor, z_ldiv, z_lrem, z_ineg, z_lshl, z_lshr, z_i2l, z_l2i, z_i2b, z_i2c, z_lcmp, z_dupi, z_dupr, z_popi, z_popr, z_dup2, z_goto, z_get0, z_get1, z_get2, z_get3, z_put0, z_put1, z_put2, z_put2n, z_put3, z_iaload, z_baload, z_laload, z_aaload, z_iastore, z_bastore, z_lastore, z_aastore, z_aastoren, z_arraylength, z_new, z_newarray, z_anewarray, z_multi, z_objinit, z_is0, z_iv0, z_ip0, z_is1, z_iv1, z_ip1, z_is2, z_iv2, z_ip2, z_is3, z_iv3, z_ip3, z_is4, z_iv4, z_ip4, z_is5, z_iv5, z_ip5, z_is6, z_iv6, z_ip6, z_is7, z_iv7, z_ip7, z_m991, z_m992, z_m993, z_m994, z_m995, z_m996, z_m998, acal_0, acal_1, acal_2, acal_3, acal_4, aK_v, aK_n, sF_c, sF_n, b_nr, b_nn, r_I, r_Z, r_L, r_A, r_V, sw_F, sw_n, gd_tt, is01_bzT, is01_0, is01_1, qrv_s, qrv_n, bi_eq_t, bi_eq_f, bi_ne_t, bi_ne_f, bi_lt_t, bi_lt_f, bi_ge_t, bi_ge_f, bi_gt_t, bi_gt_f, bi_le_t, bi_le_f, bc_eq_t, bc_eq_f, bc_ne_t, bc_ne_f, bc_lt_t, bc_lt_f, bc_ge_t, bc_ge_f, bc_gt_t, bc_gt_f, bc_le_t, bc_le_f, bb_eq_t, bb_eq_f, bb_ne_t, bb_ne_f, sc_t, sc_f, b_nr, b_nn, mI_J, mI_R, mJ_I, mJ_R, mR_I, mR_J, mK_I, mK_J, mK_R, mN_I, mN_J, mN_R, inM_I, inM_J, inM_R, mZ_nc, mZ_nk, mZ_sm, mZ_J, mZ_R, mJ_nc, mJ_ni, mJ_sm, mI_Z, iz_add, iz_sub, iz_mul, iz_neg, iz_lt, iz_le, iz_eq, iz_clamp, iz_inB, iz_div, iz_rem, inM_lit, and_self, true_and, and_true, true_or, or_true, not_true_eq_false, not_false_eq_true, Nat.reduceEqDiff, reduceCtorEq, Int.reduceNeg, Int.reduceSub, Int.reduceAdd, Int.reduceMul, Int.reduceToNat, Int.reduceEq, Int.neg_neg, Int.cast_ofNat_Int, Nat.reduceAdd, Nat.reduceMul, Nat.reduceSub, gd_t, emod_r, iz_0, Int.zero_add, Int.add_zero, wp_some]
    exact fin
  | s :: ss, i, fuel, p, q, a, p1, q1, cs, Ss, pre, M, P, hik, hf, h0, hS, hp, hq, hE, hg, hpl, hA, hP => by
    rw [pSs_cons] at hS
    obtain ⟨p2, q2, cs2, D, e1, e2⟩ := pThen_ok (by rw [hS])
    rw [e2] at hS
    by_cases cs1 : c p2 = s
    · rw [if_pos cs1] at hS
      obtain ⟨p3, q3, cs3, Ds, e3, e4⟩ := pThen_ok (by rw [hS])
      rw [e4] at hS
      simp only [Prod.mk.injEq, true_and] at hS
      obtain ⟨rfl, rfl, rfl, rfl⟩ := hS
      rw [List.length_cons] at hik hf
      have ok := pE_ok (v := v) (lw := 22) (N := N) (c := c) (fw := 17) hE.2.2.2.2.2.1 (by decide) 30 0 0 p q a hp hq
      rw [e1] at ok
      obtain ⟨o1, o2, o3, o4, o5⟩ := ok rfl
      simp only at o1 o2 o3 o4 o5
      have s0 := h0 s List.mem_cons_self
      have pN : p2 + 1 ≤ N := lt_tok hE.2.2.2.2.2.1 (by omega)
      have N4 := hE.2.1.2.2
      refine m_osum1 (s0 := (a, D)) (Ss := Ds) hl (by omega) e1 rfl hp hq hE hg hpl hA (fun M1 pre1 F1 g1 pl1 A1 => ?_)
      have h1 := F1.shp hE.1 (fun i k hi => DGc_8 hi)
      have hN1 := h1.1
      obtain ⟨n', rfl⟩ : ∃ n', fuel = n' + 1 := ⟨fuel - 1, by omega⟩
      have F2 : Fr M (qsI M1 479 22 (iz (2400 + (p2 : Int) + 1))) DGc := F1.I (by unfold DGc; omega)
      have g2 : mZ (qsI M1 479 22 (iz (2400 + (p2 : Int) + 1))) 479 22 = 2400 + ((p2 + 1 : Nat) : Int) := by rw [mZ_sm rfl (by omega) (by omega)]; omega
      have A2 : SmA (qsI M1 479 22 (iz (2400 + (p2 : Int) + 1))) l F pre1 (sumsV Ds e) := by
        obtain ⟨y1, y2⟩ := A1
        refine ⟨by rw [mZ_nk (by decide)]; exact y1, fun l1 => ?_⟩
        rw [mZ_nk (by decide)]
        exact y2 l1
      have again := m_osums hl hn ss (i + 1) n' (p2 + 1) q2 (a + cs2.length + 1) p3 q3 cs3 Ds pre1 (qsI M1 479 22 (iz (2400 + (p2 : Int) + 1))) P (by omega) (by omega) (fun t ht => h0 t (List.mem_cons_of_mem _ ht)) e3 pN o4 (EvO_F hE (F2.mono (fun i k q => DGc_b q))) g2 pl1 A2 (fun M3 F3 g3 z3 => hP M3 (F2.tr F3) g3 z3)
      have i1 : ((i + 1 : Nat) : Int) < (n : Int) := by omega
      have i2 : 0 < ((i + 1 : Nat) : Int) := by omega
      have i3 : ((i + 1 : Nat) : Int) ≤ 4 := by omega
      have nI : (n : Int) ≤ 4 := by omega
      generalize ((i + 1 : Nat) : Int) = i9 at *
      rw [lp_s]
      simp (disch := first | assumption | decide | omega) only [n_205_0, n_205_67, n_205_128, n_205_129, n_205_179, n_205_201, n_205_206, n_205_228, n_205_229, f_205_71, z_iconst, z_bipush, z_sipush, z_ldc, z_ldcs, z_ldcw, z_ldc2, z_lconst0, z_lconst1, z_null, z_getstatic, z_iload_0, z_iload_1, z_iload_2, z_iload_3, z_iload, z_istore_0, z_istore_1, z_istore_2, z_istore_3, z_istore, z_lload_0, z_lload_1, z_lload_2, z_lload_3, z_lload, z_lstore_0, z_lstore_1, z_lstore_2, z_lstore_3, z_lstore, z_aload_0, z_aload_1, z_aload_2, z_aload_3, z_aload, z_astore_0, z_astore_1, z_astore_2, z_astore_3, z_astore, ald_0, ald_s, z_iinc, qst1_1i, qst2_1i, qst1_1r, qst2_1r, qst1_1u, qst2_1u, qst1_1n, qst2_1n, qst1_1l, qst2_1l, qst1_0, qst2_0, qst1_s, qst2_s, z_iadd, z_isub, z_imul, z_iand, z_ior, z_ixor, z_ishl, z_ishr, z_idiv, z_irem, z_ladd, z_lsub, z_lmul, z_land, z_lor, z_ldiv, z_lrem, z_ineg, z_lshl, z_lshr, z_i2l, z_l2i, z_i2b, z_i2c, z_lcmp, z_dupi, z_dupr, z_popi, z_popr, z_dup2, z_goto, z_get0, z_get1, z_get2, z_get3, z_put0, z_put1, z_put2, z_put2n, z_put3, z_iaload, z_baload, z_laload, z_aaload, z_iastore, z_bastore, z_lastore, z_aastore, z_aastoren, z_arraylength, z_new, z_newarray, z_anewarray, z_multi, z_objinit, z_is0, z_iv0, z_ip0, z_is1, z_iv1, z_ip1, z_is2, z_iv2, z_ip2, z_is3, z_iv3, z_ip3, z_is4, z_iv4, z_ip4, z_is5, z_iv5, z_ip5, z_is6, z_iv6, z_ip6, z_is7, z_iv7, z_ip7, z_m991, z_m992, z_m993, z_m994, z_m995, z_m996, z_m998, acal_0, acal_1, acal_2, acal_3, acal_4, aK_v, aK_n, sF_c, sF_n, b_nr, b_nn, r_I, r_Z, r_L, r_A, r_V, sw_F, sw_n, gd_tt, is01_bzT, is01_0, is01_1, qrv_s, qrv_n, bi_eq_t, bi_eq_f, bi_ne_t, bi_ne_f, bi_lt_t, bi_lt_f, bi_ge_t, bi_ge_f, bi_gt_t, bi_gt_f, bi_le_t, bi_le_f, bc_eq_t, bc_eq_f, bc_ne_t, bc_ne_f, bc_lt_t, bc_lt_f, bc_ge_t, bc_ge_f, bc_gt_t, bc_gt_f, bc_le_t, bc_le_f, bb_eq_t, bb_eq_f, bb_ne_t, bb_ne_f, sc_t, sc_f, b_nr, b_nn, mI_J, mI_R, mJ_I, mJ_R, mR_I, mR_J, mK_I, mK_J, mK_R, mN_I, mN_J, mN_R, inM_I, inM_J, inM_R, mZ_nc, mZ_nk, mZ_sm, mZ_J, mZ_R, mJ_nc, mJ_ni, mJ_sm, mI_Z, iz_add, iz_sub, iz_mul, iz_neg, iz_lt, iz_le, iz_eq, iz_clamp, iz_inB, iz_div, iz_rem, inM_lit, and_self, true_and, and_true, true_or, or_true, not_true_eq_false, not_false_eq_true, Nat.reduceEqDiff, reduceCtorEq, Int.reduceNeg, Int.reduceSub, Int.reduceAdd, Int.reduceMul, Int.reduceToNat, Int.reduceEq, Int.neg_neg, Int.cast_ofNat_Int, Nat.reduceAdd, Nat.reduceMul, Nat.reduceSub, gd_t, emod_r, iz_0, Int.zero_add, Int.add_zero, wp_some, shK h1, shR h1, g1]
      exact again
    · rw [if_neg cs1] at hS
      cases hS

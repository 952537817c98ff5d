/-! slows, shuts, costs, eats on both sides; asks answers alike -/
/-- cells, sorts and references stay; ints and longs but of D -/
def Fr (M M1 : qMe) (D : Nat → Nat → Prop) : Prop := mN M1 = mN M ∧ (∀ i, mK M1 i = mK M i) ∧ (∀ i k, mR M1 i k = mR M i k) ∧ (∀ i k, ¬ D i k → mZ M1 i k = mZ M i k) ∧ (∀ i k, ¬ D i k → mJ M1 i k = mJ M i k)
theorem Fr.of {M M1 : qMe} {D : Nat → Nat → Prop} (h : Dif M M1 D) : Fr M M1 D := ⟨h.1, h.2.1, h.2.2.1, fun i k hn => h.z hn, fun i k _ => h.2.2.2.1 i k⟩
theorem Fr.frm {M M1 : qMe} {D : Nat → Nat → Prop} (h : Fr M M1 D) : Frm M M1 D := ⟨h.1, h.2.1, fun i k _ => h.2.2.1 i k, h.2.2.2.1⟩
theorem Fr.rf {M : qMe} {D : Nat → Nat → Prop} : Fr M M D := Fr.of Dif.rfl'
theorem Fr.tr {M M1 M2 : qMe} {D : Nat → Nat → Prop} (h : Fr M M1 D) (g : Fr M1 M2 D) : Fr M M2 D := ⟨g.1.trans h.1, fun i => (g.2.1 i).trans (h.2.1 i), fun i k => (g.2.2.1 i k).trans (h.2.2.1 i k), fun i k hn => (g.2.2.2.1 i k hn).trans (h.2.2.2.1 i k hn), fun i k hn => (g.2.2.2.2 i k hn).trans (h.2.2.2.2 i k hn)⟩
theorem Fr.mono {M M1 : qMe} {D D2 : Nat → Nat → Prop} (h : Fr M M1 D) (hD : ∀ i k, D i k → D2 i k) : Fr M M1 D2 := ⟨h.1, h.2.1, h.2.2.1, fun i k hn => h.2.2.2.1 i k (fun q => hn (hD i k q)), fun i k hn => h.2.2.2.2 i k (fun q => hn (hD i k q))⟩
theorem Fr.z {M M1 : qMe} {D : Nat → Nat → Prop} (h : Fr M M1 D) {i k : Nat} (hn : ¬ D i k) : mZ M1 i k = mZ M i k := h.2.2.2.1 i k hn
theorem Fr.j {M M1 : qMe} {D : Nat → Nat → Prop} (h : Fr M M1 D) {i k : Nat} (hn : ¬ D i k) : mJ M1 i k = mJ M i k := h.2.2.2.2 i k hn
theorem Fr.I {M M1 : qMe} {D : Nat → Nat → Prop} {i k : Nat} {x : Int32} (h : Fr M M1 D) (hD : D i k) : Fr M (qsI M1 i k x) D := h.tr (Fr.of (Dif.rfl'.I hD))
theorem Fr.J {M M1 : qMe} {D : Nat → Nat → Prop} {i k : Nat} {x : Int64} (h : Fr M M1 D) (hD : D i k) : Fr M (qsJ M1 i k x) D := by
  refine h.tr ⟨rfl, fun _ => rfl, fun _ _ => rfl, fun _ _ _ => rfl, fun i1 k1 hn => ?_⟩
  rw [mJ_J]
  split
  · next e =>
    split
    · next e2 => subst e e2; exact absurd hD hn
    · rfl
  · rfl
theorem Fr.shp {M M1 : qMe} {D : Nat → Nat → Prop} (h : Fr M M1 D) (hs : shp M) (hD : ∀ i k, i < 8 → ¬ D i k) : shp M1 := h.frm.shp hs hD
theorem Fr.inm {M M1 : qMe} {D : Nat → Nat → Prop} (h : Fr M M1 D) (i : Nat) : inM M1 i = inM M i := h.frm.inm i
/-- both sides' Alps, tied, with their laws -/
def Wo (M : qMe) : Prop := shp M ∧ WFk M 481 0 ∧ Ra M 9 481 0 ∧ LawsR M 9 481 0
/-- cells that are neither Alps nor laws -/
def aside (i : Nat) : Prop := (29 ≤ i ∧ i < 481) ∨ (482 ≤ i ∧ i < 513)
theorem Wo_k {M M1 : qMe} {D : Nat → Nat → Prop} (h : Wo M) (hF : Frm M M1 D) (hD : ∀ i k, D i k → aside i) : Wo M1 := by
  obtain ⟨h1, h2, h3, h4⟩ := h
  have n : ∀ i k, ¬ aside i → ¬ D i k := fun i k q r => q (hD i k r)
  have k481 : ∀ k, mZ M1 481 k = mZ M 481 k := fun k => hF.z (n _ _ (by unfold aside; omega))
  refine ⟨hF.shp h1 (fun i k hi => n _ _ (by unfold aside; omega)), WFk_of h2 k481, Ra_of h3 k481 (fun i g1 g2 k => hF.z (n _ _ (by unfold aside; omega))), LawsR_k h4 k481 (Nat.le_of_eq hF.1.symm) (fun i _ => hF.2.1 i) (fun i k g1 _ => hF.2.2.1 i k (by omega)) (fun k => hF.2.2.1 _ k (by omega)) (fun i k g1 _ => hF.z (n _ _ (by unfold aside; omega)))⟩
theorem JG_k {M M1 : qMe} {D : Nat → Nat → Prop} (h : JG M) (hF : Fr M M1 D) (hD : ∀ i k, D i k → ¬ i = 73 ∧ ¬ i = 76 ∧ ¬ i = 77 ∧ ¬ i = 481) : JG M1 := by
  have k73 : ∀ k, mZ M1 73 k = mZ M 73 k := fun k => hF.z (fun q => (hD _ _ q).1 rfl)
  have k76 : ∀ k, mZ M1 76 k = mZ M 76 k := fun k => hF.z (fun q => (hD _ _ q).2.1 rfl)
  have k77 : ∀ k, mZ M1 77 k = mZ M 77 k := fun k => hF.z (fun q => (hD _ _ q).2.2.1 rfl)
  have k481 : ∀ k, mZ M1 481 k = mZ M 481 k := fun k => hF.z (fun q => (hD _ _ q).2.2.2 rfl)
  have kt : ∀ kk hi wo c w s, tau M1 kk hi wo c w s = tau M kk hi wo c w s := fun kk hi wo c w s => tau_k k481
  unfold JG JL JK at *
  simp only [k73, k76, k77, k481, hF.2.2.1, kt]
  exact h
theorem tau_01 {M : qMe} {kk : Nat} {cell w sp : Int} (hk : 2 ≤ kk) : tau M kk 99 0 cell w sp = 0 ∨ tau M kk 99 0 cell w sp = 1 := by
  rw [tau_hi (h2 := 1) hk (by decide) (by decide)]
  have := tau_b (M := M) (kk := kk) (hi := 1) (wo := 0) (cell := cell) (w := w) (sp := sp) (by decide) (by decide)
  omega
theorem x_slowed {d : Nat} {M : qMe} {cell w sp : Int} (hW : Wo M) (hG : JG M) (c1 : 0 ≤ cell ∧ cell < 80) (w1 : 0 ≤ w ∧ w < mZ M 481 266) (s1 : 0 ≤ sp ∧ sp ≤ 99) : wI (cal (d + 3) 256 [.ref 73, .int (iz cell), .int (iz w), .int (iz sp)] M) (fun z M1 => z = tau M 0 99 1 cell w sp ∧ Fr M M1 (fun i _ => i = 74 ∨ i = 75 ∨ i = 76) ∧ JG M1) := by
  have h := hW.1
  refine wI_q (fun P hP => ?_)
  rw [cal_256, gd_t (Nat.le_of_ble_eq_true rfl)]
  change wp (n_256_0 (cal _) [some (.ref 73), some (.int (iz cell)), some (.int (iz w)), some (.int (iz sp)), none] [] _) _
  have hN := h.1
  have w8 : w < 8 := by have := (WFk_s hW.2.1).2.2.1; omega
  have G := hG
  obtain ⟨gJ, gE, gK, gS, -, gC⟩ := hG
  generalize hE : mZ M 73 6 = E at *
  have kp := (gK ((w * 80 + cell) * 100 + sp) (by omega) (by omega)).1
  have kl := mZ_lt M 76 ((w * 80 + cell) * 100 + sp).toNat
  have kc := (gC w cell sp w1.1 w8 c1.1 c1.2 s1.1 (by omega)).1
  rcases gS with ⟨g1, g2⟩ | g1
  · simp (disch := first | assumption | decide | omega) only [n_256_0, n_256_62, z_iconst, z_bipush, z_sipush, z_ldc, z_ldcs, z_ldcw, z_ldc2, z_lconst0, z_lconst1, z_null, z_getstatic, z_iload_0, z_iload_1, z_iload_2, z_iload_3, z_iload, z_istore_0, z_istore_1, z_istore_2, z_istore_3, z_istore, z_lload_0, z_lload_1, z_lload_2, z_lload_3, z_lload, z_lstore_0, z_lstore_1, z_lstore_2, z_lstore_3, z_lstore, z_aload_0, z_aload_1, z_aload_2, z_aload_3, z_aload, z_astore_0, z_astore_1, z_astore_2, z_astore_3, z_astore, ald_0, ald_s, z_iinc, qst1_1i, qst2_1i, qst1_1r, qst2_1r, qst1_1u, qst2_1u, qst1_1n, qst2_1n, qst1_1l, qst2_1l, qst1_0, qst2_0, qst1_s, qst2_s, z_iadd, z_isub, z_imul, z_iand, z_ior, z_ixor, z_ishl, z_ishr, z_idiv, z_irem, z_ladd, z_lsub, z_lmul, z_land, z_lor, z_ldiv, z_lrem, z_ineg, z_lshl, z_lshr, z_i2l, z_l2i, z_i2b, z_i2c, z_lcmp, z_dupi, z_dupr, z_popi, z_popr, z_dup2, z_goto, z_get0, z_get1, z_get2, z_get3, z_put0, z_put1, z_put2, z_put2n, z_put3, z_iaload, z_baload, z_laload, z_aaload, z_iastore, z_bastore, z_lastore, z_aastore, z_aastoren, z_arraylength, z_new, z_newarray, z_anewarray, z_multi, z_objinit, z_is0, z_iv0, z_ip0, z_is1, z_iv1, z_ip1, z_is2, z_iv2, z_ip2, z_is3, z_iv3, z_ip3, z_is4, z_iv4, z_ip4, z_is5, z_iv5, z_ip5, z_is6, z_iv6, z_ip6, z_is7, z_iv7, z_ip7, z_m991, z_m992, z_m993, z_m994, z_m995, z_m996, z_m998, acal_0, acal_1, acal_2, acal_3, acal_4, aK_v, aK_n, sF_c, sF_n, b_nr, b_nn, r_I, r_Z, r_L, r_A, r_V, sw_F, sw_n, gd_tt, is01_bzT, is01_0, is01_1, qrv_s, qrv_n, bi_eq_t, bi_eq_f, bi_ne_t, bi_ne_f, bi_lt_t, bi_lt_f, bi_ge_t, bi_ge_f, bi_gt_t, bi_gt_f, bi_le_t, bi_le_f, bc_eq_t, bc_eq_f, bc_ne_t, bc_ne_f, bc_lt_t, bc_lt_f, bc_ge_t, bc_ge_f, bc_gt_t, bc_gt_f, bc_le_t, bc_le_f, bb_eq_t, bb_eq_f, bb_ne_t, bb_ne_f, sc_t, sc_f, b_nr, b_nn, mI_J, mI_R, mJ_I, mJ_R, mR_I, mR_J, mK_I, mK_J, mK_R, mN_I, mN_J, mN_R, inM_I, inM_J, inM_R, mZ_nc, mZ_nk, mZ_sm, mZ_J, mZ_R, mJ_nc, mJ_ni, mJ_sm, mI_Z, iz_add, iz_sub, iz_mul, iz_neg, iz_lt, iz_le, iz_eq, iz_clamp, iz_inB, iz_div, iz_rem, shK h, shR h, inM_lit, and_self, true_and, and_true, true_or, or_true, not_true_eq_false, not_false_eq_true, Nat.reduceEqDiff, reduceCtorEq, Int.reduceNeg, Int.reduceSub, Int.reduceAdd, Int.reduceMul, Int.reduceToNat, Int.reduceEq, Int.neg_neg, Int.cast_ofNat_Int, Nat.reduceAdd, Nat.reduceMul, Nat.reduceSub, gd_t, emod_r, iz_0, Int.zero_add, Int.add_zero, wp_some, g1]
    exact hP 1 M ⟨(g2 _ _ _).symm, Fr.rf, G⟩
  · by_cases q : mZ M 76 ((w * 80 + cell) * 100 + sp).toNat / 128 = E
    · have a1 := shr7 (x := mZ M 76 ((w * 80 + cell) * 100 + sp).toNat) kp.1 kl
      have a2 := and127 (x := mZ M 76 ((w * 80 + cell) * 100 + sp).toNat) kp.1 kl
      rw [q] at a1
      rw [kc q] at a2
      simp (disch := first | assumption | decide | omega) only [n_256_0, n_256_62, z_iconst, z_bipush, z_sipush, z_ldc, z_ldcs, z_ldcw, z_ldc2, z_lconst0, z_lconst1, z_null, z_getstatic, z_iload_0, z_iload_1, z_iload_2, z_iload_3, z_iload, z_istore_0, z_istore_1, z_istore_2, z_istore_3, z_istore, z_lload_0, z_lload_1, z_lload_2, z_lload_3, z_lload, z_lstore_0, z_lstore_1, z_lstore_2, z_lstore_3, z_lstore, z_aload_0, z_aload_1, z_aload_2, z_aload_3, z_aload, z_astore_0, z_astore_1, z_astore_2, z_astore_3, z_astore, ald_0, ald_s, z_iinc, qst1_1i, qst2_1i, qst1_1r, qst2_1r, qst1_1u, qst2_1u, qst1_1n, qst2_1n, qst1_1l, qst2_1l, qst1_0, qst2_0, qst1_s, qst2_s, z_iadd, z_isub, z_imul, z_iand, z_ior, z_ixor, z_ishl, z_ishr, z_idiv, z_irem, z_ladd, z_lsub, z_lmul, z_land, z_lor, z_ldiv, z_lrem, z_ineg, z_lshl, z_lshr, z_i2l, z_l2i, z_i2b, z_i2c, z_lcmp, z_dupi, z_dupr, z_popi, z_popr, z_dup2, z_goto, z_get0, z_get1, z_get2, z_get3, z_put0, z_put1, z_put2, z_put2n, z_put3, z_iaload, z_baload, z_laload, z_aaload, z_iastore, z_bastore, z_lastore, z_aastore, z_aastoren, z_arraylength, z_new, z_newarray, z_anewarray, z_multi, z_objinit, z_is0, z_iv0, z_ip0, z_is1, z_iv1, z_ip1, z_is2, z_iv2, z_ip2, z_is3, z_iv3, z_ip3, z_is4, z_iv4, z_ip4, z_is5, z_iv5, z_ip5, z_is6, z_iv6, z_ip6, z_is7, z_iv7, z_ip7, z_m991, z_m992, z_m993, z_m994, z_m995, z_m996, z_m998, acal_0, acal_1, acal_2, acal_3, acal_4, aK_v, aK_n, sF_c, sF_n, b_nr, b_nn, r_I, r_Z, r_L, r_A, r_V, sw_F, sw_n, gd_tt, is01_bzT, is01_0, is01_1, qrv_s, qrv_n, bi_eq_t, bi_eq_f, bi_ne_t, bi_ne_f, bi_lt_t, bi_lt_f, bi_ge_t, bi_ge_f, bi_gt_t, bi_gt_f, bi_le_t, bi_le_f, bc_eq_t, bc_eq_f, bc_ne_t, bc_ne_f, bc_lt_t, bc_lt_f, bc_ge_t, bc_ge_f, bc_gt_t, bc_gt_f, bc_le_t, bc_le_f, bb_eq_t, bb_eq_f, bb_ne_t, bb_ne_f, sc_t, sc_f, b_nr, b_nn, mI_J, mI_R, mJ_I, mJ_R, mR_I, mR_J, mK_I, mK_J, mK_R, mN_I, mN_J, mN_R, inM_I, inM_J, inM_R, mZ_nc, mZ_nk, mZ_sm, mZ_J, mZ_R, mJ_nc, mJ_ni, mJ_sm, mI_Z, iz_add, iz_sub, iz_mul, iz_neg, iz_lt, iz_le, iz_eq, iz_clamp, iz_inB, iz_div, iz_rem, shK h, shR h, inM_lit, and_self, true_and, and_true, true_or, or_true, not_true_eq_false, not_false_eq_true, Nat.reduceEqDiff, reduceCtorEq, Int.reduceNeg, Int.reduceSub, Int.reduceAdd, Int.reduceMul, Int.reduceToNat, Int.reduceEq, Int.neg_neg, Int.cast_ofNat_Int, Nat.reduceAdd, Nat.reduceMul, Nat.reduceSub, gd_t, emod_r, iz_0, Int.zero_add, Int.add_zero, wp_some, g1, hE, a1, a2]
      exact hP _ M ⟨rfl, Fr.rf, G⟩
    · have a1 := shr7 (x := mZ M 76 ((w * 80 + cell) * 100 + sp).toNat) kp.1 kl
      simp (disch := first | assumption | decide | omega) only [n_256_0, n_256_62, z_iconst, z_bipush, z_sipush, z_ldc, z_ldcs, z_ldcw, z_ldc2, z_lconst0, z_lconst1, z_null, z_getstatic, z_iload_0, z_iload_1, z_iload_2, z_iload_3, z_iload, z_istore_0, z_istore_1, z_istore_2, z_istore_3, z_istore, z_lload_0, z_lload_1, z_lload_2, z_lload_3, z_lload, z_lstore_0, z_lstore_1, z_lstore_2, z_lstore_3, z_lstore, z_aload_0, z_aload_1, z_aload_2, z_aload_3, z_aload, z_astore_0, z_astore_1, z_astore_2, z_astore_3, z_astore, ald_0, ald_s, z_iinc, qst1_1i, qst2_1i, qst1_1r, qst2_1r, qst1_1u, qst2_1u, qst1_1n, qst2_1n, qst1_1l, qst2_1l, qst1_0, qst2_0, qst1_s, qst2_s, z_iadd, z_isub, z_imul, z_iand, z_ior, z_ixor, z_ishl, z_ishr, z_idiv, z_irem, z_ladd, z_lsub, z_lmul, z_land, z_lor, z_ldiv, z_lrem, z_ineg, z_lshl, z_lshr, z_i2l, z_l2i, z_i2b, z_i2c, z_lcmp, z_dupi, z_dupr, z_popi, z_popr, z_dup2, z_goto, z_get0, z_get1, z_get2, z_get3, z_put0, z_put1, z_put2, z_put2n, z_put3, z_iaload, z_baload, z_laload, z_aaload, z_iastore, z_bastore, z_lastore, z_aastore, z_aastoren, z_arraylength, z_new, z_newarray, z_anewarray, z_multi, z_objinit, z_is0, z_iv0, z_ip0, z_is1, z_iv1, z_ip1, z_is2, z_iv2, z_ip2, z_is3, z_iv3, z_ip3, z_is4, z_iv4, z_ip4, z_is5, z_iv5, z_ip5, z_is6, z_iv6, z_ip6, z_is7, z_iv7, z_ip7, z_m991, z_m992, z_m993, z_m994, z_m995, z_m996, z_m998, acal_0, acal_1, acal_2, acal_3, acal_4, aK_v, aK_n, sF_c, sF_n, b_nr, b_nn, r_I, r_Z, r_L, r_A, r_V, sw_F, sw_n, gd_tt, is01_bzT, is01_0, is01_1, qrv_s, qrv_n, bi_eq_t, bi_eq_f, bi_ne_t, bi_ne_f, bi_lt_t, bi_lt_f, bi_ge_t, bi_ge_f, bi_gt_t, bi_gt_f, bi_le_t, bi_le_f, bc_eq_t, bc_eq_f, bc_ne_t, bc_ne_f, bc_lt_t, bc_lt_f, bc_ge_t, bc_ge_f, bc_gt_t, bc_gt_f, bc_le_t, bc_le_f, bb_eq_t, bb_eq_f, bb_ne_t, bb_ne_f, sc_t, sc_f, b_nr, b_nn, mI_J, mI_R, mJ_I, mJ_R, mR_I, mR_J, mK_I, mK_J, mK_R, mN_I, mN_J, mN_R, inM_I, inM_J, inM_R, mZ_nc, mZ_nk, mZ_sm, mZ_J, mZ_R, mJ_nc, mJ_ni, mJ_sm, mI_Z, iz_add, iz_sub, iz_mul, iz_neg, iz_lt, iz_le, iz_eq, iz_clamp, iz_inB, iz_div, iz_rem, shK h, shR h, inM_lit, and_self, true_and, and_true, true_or, or_true, not_true_eq_false, not_false_eq_true, Nat.reduceEqDiff, reduceCtorEq, Int.reduceNeg, Int.reduceSub, Int.reduceAdd, Int.reduceMul, Int.reduceToNat, Int.reduceEq, Int.neg_neg, Int.cast_ofNat_Int, Nat.reduceAdd, Nat.reduceMul, Nat.reduceSub, gd_t, emod_r, iz_0, Int.zero_add, Int.add_zero, wp_some, g1, hE, a1]
      refine wp_cI (x_told (d := d) (kk := 0) h hW.2.1 hW.2.2.1 hW.2.2.2 gJ c1 w1 s1 (by decide)) (fun z M1 q1 => ?_)
      obtain ⟨hz, hD⟩ := q1
      have hz : z = tau M 0 99 1 cell w sp := hz
      have tb := tau_b (M := M) (kk := 0) (hi := 99) (wo := 1) (cell := cell) (w := w) (sp := sp) (by decide) (by decide)
      have h1 := hD.shp h (fun i k hi => by omega)
      have hN1 := h1.1
      have so := shl7or (x := E) (t := z) (by omega) (by omega) (by omega) (by omega)
      have a2 := and127 (x := E * 128 + z) (by omega) (by omega)
      rw [show (E * 128 + z) % 128 = z by omega] at a2
      simp (disch := first | assumption | decide | omega) only [n_256_0, n_256_62, z_iconst, z_bipush, z_sipush, z_ldc, z_ldcs, z_ldcw, z_ldc2, z_lconst0, z_lconst1, z_null, z_getstatic, z_iload_0, z_iload_1, z_iload_2, z_iload_3, z_iload, z_istore_0, z_istore_1, z_istore_2, z_istore_3, z_istore, z_lload_0, z_lload_1, z_lload_2, z_lload_3, z_lload, z_lstore_0, z_lstore_1, z_lstore_2, z_lstore_3, z_lstore, z_aload_0, z_aload_1, z_aload_2, z_aload_3, z_aload, z_astore_0, z_astore_1, z_astore_2, z_astore_3, z_astore, ald_0, ald_s, z_iinc, qst1_1i, qst2_1i, qst1_1r, qst2_1r, qst1_1u, qst2_1u, qst1_1n, qst2_1n, qst1_1l, qst2_1l, qst1_0, qst2_0, qst1_s, qst2_s, z_iadd, z_isub, z_imul, z_iand, z_ior, z_ixor, z_ishl, z_ishr, z_idiv, z_irem, z_ladd, z_lsub, z_lmul, z_land, z_lor, z_ldiv, z_lrem, z_ineg, z_lshl, z_lshr, z_i2l, z_l2i, z_i2b, z_i2c, z_lcmp, z_dupi, z_dupr, z_popi, z_popr, z_dup2, z_goto, z_get0, z_get1, z_get2, z_get3, z_put0, z_put1, z_put2, z_put2n, z_put3, z_iaload, z_baload, z_laload, z_aaload, z_iastore, z_bastore, z_lastore, z_aastore, z_aastoren, z_arraylength, z_new, z_newarray, z_anewarray, z_multi, z_objinit, z_is0, z_iv0, z_ip0, z_is1, z_iv1, z_ip1, z_is2, z_iv2, z_ip2, z_is3, z_iv3, z_ip3, z_is4, z_iv4, z_ip4, z_is5, z_iv5, z_ip5, z_is6, z_iv6, z_ip6, z_is7, z_iv7, z_ip7, z_m991, z_m992, z_m993, z_m994, z_m995, z_m996, z_m998, acal_0, acal_1, acal_2, acal_3, acal_4, aK_v, aK_n, sF_c, sF_n, b_nr, b_nn, r_I, r_Z, r_L, r_A, r_V, sw_F, sw_n, gd_tt, is01_bzT, is01_0, is01_1, qrv_s, qrv_n, bi_eq_t, bi_eq_f, bi_ne_t, bi_ne_f, bi_lt_t, bi_lt_f, bi_ge_t, bi_ge_f, bi_gt_t, bi_gt_f, bi_le_t, bi_le_f, bc_eq_t, bc_eq_f, bc_ne_t, bc_ne_f, bc_lt_t, bc_lt_f, bc_ge_t, bc_ge_f, bc_gt_t, bc_gt_f, bc_le_t, bc_le_f, bb_eq_t, bb_eq_f, bb_ne_t, bb_ne_f, sc_t, sc_f, b_nr, b_nn, mI_J, mI_R, mJ_I, mJ_R, mR_I, mR_J, mK_I, mK_J, mK_R, mN_I, mN_J, mN_R, inM_I, inM_J, inM_R, mZ_nc, mZ_nk, mZ_sm, mZ_J, mZ_R, mJ_nc, mJ_ni, mJ_sm, mI_Z, iz_add, iz_sub, iz_mul, iz_neg, iz_lt, iz_le, iz_eq, iz_clamp, iz_inB, iz_div, iz_rem, shK h, shR h, inM_lit, and_self, true_and, and_true, true_or, or_true, not_true_eq_false, not_false_eq_true, Nat.reduceEqDiff, reduceCtorEq, Int.reduceNeg, Int.reduceSub, Int.reduceAdd, Int.reduceMul, Int.reduceToNat, Int.reduceEq, Int.neg_neg, Int.cast_ofNat_Int, Nat.reduceAdd, Nat.reduceMul, Nat.reduceSub, gd_t, emod_r, iz_0, Int.zero_add, Int.add_zero, wp_some, shK h1, shR h1, so, a2]
      have F1 : Fr M (qsI M1 76 ((w * 80 + cell) * 100 + sp).toNat (iz (E * 128 + z))) (fun i _ => i = 74 ∨ i = 75 ∨ i = 76) := (Fr.of (hD.mono (fun i k q => by omega))).I (Or.inr (Or.inr rfl))
      refine hP z _ ⟨hz, F1, ?_⟩
      have k73 : ∀ k, mZ (qsI M1 76 ((w * 80 + cell) * 100 + sp).toNat (iz (E * 128 + z))) 73 k = mZ M 73 k := fun k => F1.z (by omega)
      have k77 : ∀ k, mZ (qsI M1 76 ((w * 80 + cell) * 100 + sp).toNat (iz (E * 128 + z))) 77 k = mZ M 77 k := fun k => F1.z (by omega)
      have k481 : ∀ k, mZ (qsI M1 76 ((w * 80 + cell) * 100 + sp).toNat (iz (E * 128 + z))) 481 k = mZ M 481 k := fun k => F1.z (by omega)
      have kt : ∀ kk hi wo c' w' s', tau (qsI M1 76 ((w * 80 + cell) * 100 + sp).toNat (iz (E * 128 + z))) kk hi wo c' w' s' = tau M kk hi wo c' w' s' := fun kk hi wo c' w' s' => tau_k k481
      have k76 : ∀ p : Int, 0 ≤ p → mZ (qsI M1 76 ((w * 80 + cell) * 100 + sp).toNat (iz (E * 128 + z))) 76 p.toNat = if p = (w * 80 + cell) * 100 + sp then E * 128 + z else mZ M 76 p.toNat := fun p p1 => by
        by_cases e : p = (w * 80 + cell) * 100 + sp
        · rw [if_pos e, mZ_sm (by rw [e]) (by omega) (by omega)]
        · rw [if_neg e, mZ_nk (by omega), hD.z (by omega)]
      obtain ⟨b1, b2, b3, b4, b5, b6⟩ := G
      refine ⟨?_, ?_, fun p p1 p2 => ?_, ?_, ?_, fun w' c' s' w1' w2' c1' c2' s1' s2' => ?_⟩
      · unfold JL at *
        rw [F1.2.2.1, k481, F1.2.2.1]
        exact b1
      · rw [k73]; exact b2
      · have := b3 p p1 p2
        rw [k76 p p1, k77, k73, hE]
        rw [hE] at this
        split
        · omega
        · exact this
      · rw [k73]; simp only [kt]; exact b4
      · rw [k73]; simp only [kt]; exact b5
      · have := b6 w' c' s' w1' w2' c1' c2' s1' s2'
        rw [k76 _ (by omega), k77, k73, kt, kt, hE]
        rw [hE] at this
        refine ⟨?_, this.2⟩
        by_cases e : (w' * 80 + c') * 100 + s' = (w * 80 + cell) * 100 + sp
        · rw [if_pos e]
          intro _
          obtain ⟨rfl, rfl, rfl⟩ : w' = w ∧ c' = cell ∧ s' = sp := by omega
          omega
        · rw [if_neg e]; exact this.1
theorem x_isShut {d : Nat} {M : qMe} {cell w sp : Int} (hW : Wo M) (hG : JG M) (c1 : 0 ≤ cell ∧ cell < 80) (w1 : 0 ≤ w ∧ w < mZ M 481 266) (s1 : 0 ≤ sp ∧ sp ≤ 99) : wI (cal (d + 3) 257 [.ref 73, .int (iz cell), .int (iz w), .int (iz sp)] M) (fun z M1 => z = tau M 2 99 0 cell w sp ∧ Fr M M1 (fun i _ => i = 74 ∨ i = 75 ∨ i = 77) ∧ JG M1) := by
  have h := hW.1
  refine wI_q (fun P hP => ?_)
  rw [cal_257, gd_t (Nat.le_of_ble_eq_true rfl)]
  change wp (n_257_0 (cal _) [some (.ref 73), some (.int (iz cell)), some (.int (iz w)), some (.int (iz sp)), none] [] _) _
  have hN := h.1
  have w8 : w < 8 := by have := (WFk_s hW.2.1).2.2.1; omega
  have G := hG
  obtain ⟨gJ, gE, gK, -, gS, gC⟩ := hG
  generalize hE : mZ M 73 6 = E at *
  have kp := (gK ((w * 80 + cell) * 100 + sp) (by omega) (by omega)).2
  have kl := mZ_lt M 77 ((w * 80 + cell) * 100 + sp).toNat
  have kc := (gC w cell sp w1.1 w8 c1.1 c1.2 s1.1 (by omega)).2
  have t01 := tau_01 (M := M) (kk := 2) (cell := cell) (w := w) (sp := sp) (by decide)
  rcases gS with ⟨g1, g2⟩ | g1
  · simp (disch := first | assumption | decide | omega) only [n_257_0, n_257_62, n_257_81, z_iconst, z_bipush, z_sipush, z_ldc, z_ldcs, z_ldcw, z_ldc2, z_lconst0, z_lconst1, z_null, z_getstatic, z_iload_0, z_iload_1, z_iload_2, z_iload_3, z_iload, z_istore_0, z_istore_1, z_istore_2, z_istore_3, z_istore, z_lload_0, z_lload_1, z_lload_2, z_lload_3, z_lload, z_lstore_0, z_lstore_1, z_lstore_2, z_lstore_3, z_lstore, z_aload_0, z_aload_1, z_aload_2, z_aload_3, z_aload, z_astore_0, z_astore_1, z_astore_2, z_astore_3, z_astore, ald_0, ald_s, z_iinc, qst1_1i, qst2_1i, qst1_1r, qst2_1r, qst1_1u, qst2_1u, qst1_1n, qst2_1n, qst1_1l, qst2_1l, qst1_0, qst2_0, qst1_s, qst2_s, z_iadd, z_isub, z_imul, z_iand, z_ior, z_ixor, z_ishl, z_ishr, z_idiv, z_irem, z_ladd, z_lsub, z_lmul, z_land, z_lor, z_ldiv, z_lrem, z_ineg, z_lshl, z_lshr, z_i2l, z_l2i, z_i2b, z_i2c, z_lcmp, z_dupi, z_dupr, z_popi, z_popr, z_dup2, z_goto, z_get0, z_get1, z_get2, z_get3, z_put0, z_put1, z_put2, z_put2n, z_put3, z_iaload, z_baload, z_laload, z_aaload, z_iastore, z_bastore, z_lastore, z_aastore, z_aastoren, z_arraylength, z_new, z_newarray, z_anewarray, z_multi, z_objinit, z_is0, z_iv0, z_ip0, z_is1, z_iv1, z_ip1, z_is2, z_iv2, z_ip2, z_is3, z_iv3, z_ip3, z_is4, z_iv4, z_ip4, z_is5, z_iv5, z_ip5, z_is6, z_iv6, z_ip6, z_is7, z_iv7, z_ip7, z_m991, z_m992, z_m993, z_m994, z_m995, z_m996, z_m998, acal_0, acal_1, acal_2, acal_3, acal_4, aK_v, aK_n, sF_c, sF_n, b_nr, b_nn, r_I, r_Z, r_L, r_A, r_V, sw_F, sw_n, gd_tt, is01_bzT, is01_0, is01_1, qrv_s, qrv_n, bi_eq_t, bi_eq_f, bi_ne_t, bi_ne_f, bi_lt_t, bi_lt_f, bi_ge_t, bi_ge_f, bi_gt_t, bi_gt_f, bi_le_t, bi_le_f, bc_eq_t, bc_eq_f, bc_ne_t, bc_ne_f, bc_lt_t, bc_lt_f, bc_ge_t, bc_ge_f, bc_gt_t, bc_gt_f, bc_le_t, bc_le_f, bb_eq_t, bb_eq_f, bb_ne_t, bb_ne_f, sc_t, sc_f, b_nr, b_nn, mI_J, mI_R, mJ_I, mJ_R, mR_I, mR_J, mK_I, mK_J, mK_R, mN_I, mN_J, mN_R, inM_I, inM_J, inM_R, mZ_nc, mZ_nk, mZ_sm, mZ_J, mZ_R, mJ_nc, mJ_ni, mJ_sm, mI_Z, iz_add, iz_sub, iz_mul, iz_neg, iz_lt, iz_le, iz_eq, iz_clamp, iz_inB, iz_div, iz_rem, shK h, shR h, inM_lit, and_self, true_and, and_true, true_or, or_true, not_true_eq_false, not_false_eq_true, Nat.reduceEqDiff, reduceCtorEq, Int.reduceNeg, Int.reduceSub, Int.reduceAdd, Int.reduceMul, Int.reduceToNat, Int.reduceEq, Int.neg_neg, Int.cast_ofNat_Int, Nat.reduceAdd, Nat.reduceMul, Nat.reduceSub, gd_t, emod_r, iz_0, Int.zero_add, Int.add_zero, wp_some, g1]
    exact hP 0 M ⟨(g2 _ _ _).symm, Fr.rf, G⟩
  · by_cases q : mZ M 77 ((w * 80 + cell) * 100 + sp).toNat / 128 = E
    · have a1 := shr7 (x := mZ M 77 ((w * 80 + cell) * 100 + sp).toNat) kp.1 kl
      have a2 := and127 (x := mZ M 77 ((w * 80 + cell) * 100 + sp).toNat) kp.1 kl
      rw [q] at a1
      rw [kc q] at a2
      rcases t01 with t | t
      · rw [t] at a2
        simp (disch := first | assumption | decide | omega) only [n_257_0, n_257_62, n_257_81, z_iconst, z_bipush, z_sipush, z_ldc, z_ldcs, z_ldcw, z_ldc2, z_lconst0, z_lconst1, z_null, z_getstatic, z_iload_0, z_iload_1, z_iload_2, z_iload_3, z_iload, z_istore_0, z_istore_1, z_istore_2, z_istore_3, z_istore, z_lload_0, z_lload_1, z_lload_2, z_lload_3, z_lload, z_lstore_0, z_lstore_1, z_lstore_2, z_lstore_3, z_lstore, z_aload_0, z_aload_1, z_aload_2, z_aload_3, z_aload, z_astore_0, z_astore_1, z_astore_2, z_astore_3, z_astore, ald_0, ald_s, z_iinc, qst1_1i, qst2_1i, qst1_1r, qst2_1r, qst1_1u, qst2_1u, qst1_1n, qst2_1n, qst1_1l, qst2_1l, qst1_0, qst2_0, qst1_s, qst2_s, z_iadd, z_isub, z_imul, z_iand, z_ior, z_ixor, z_ishl, z_ishr, z_idiv, z_irem, z_ladd, z_lsub, z_lmul, z_land, z_lor, z_ldiv, z_lrem, z_ineg, z_lshl, z_lshr, z_i2l, z_l2i, z_i2b, z_i2c, z_lcmp, z_dupi, z_dupr, z_popi, z_popr, z_dup2, z_goto, z_get0, z_get1, z_get2, z_get3, z_put0, z_put1, z_put2, z_put2n, z_put3, z_iaload, z_baload, z_laload, z_aaload, z_iastore, z_bastore, z_lastore, z_aastore, z_aastoren, z_arraylength, z_new, z_newarray, z_anewarray, z_multi, z_objinit, z_is0, z_iv0, z_ip0, z_is1, z_iv1, z_ip1, z_is2, z_iv2, z_ip2, z_is3, z_iv3, z_ip3, z_is4, z_iv4, z_ip4, z_is5, z_iv5, z_ip5, z_is6, z_iv6, z_ip6, z_is7, z_iv7, z_ip7, z_m991, z_m992, z_m993, z_m994, z_m995, z_m996, z_m998, acal_0, acal_1, acal_2, acal_3, acal_4, aK_v, aK_n, sF_c, sF_n, b_nr, b_nn, r_I, r_Z, r_L, r_A, r_V, sw_F, sw_n, gd_tt, is01_bzT, is01_0, is01_1, qrv_s, qrv_n, bi_eq_t, bi_eq_f, bi_ne_t, bi_ne_f, bi_lt_t, bi_lt_f, bi_ge_t, bi_ge_f, bi_gt_t, bi_gt_f, bi_le_t, bi_le_f, bc_eq_t, bc_eq_f, bc_ne_t, bc_ne_f, bc_lt_t, bc_lt_f, bc_ge_t, bc_ge_f, bc_gt_t, bc_gt_f, bc_le_t, bc_le_f, bb_eq_t, bb_eq_f, bb_ne_t, bb_ne_f, sc_t, sc_f, b_nr, b_nn, mI_J, mI_R, mJ_I, mJ_R, mR_I, mR_J, mK_I, mK_J, mK_R, mN_I, mN_J, mN_R, inM_I, inM_J, inM_R, mZ_nc, mZ_nk, mZ_sm, mZ_J, mZ_R, mJ_nc, mJ_ni, mJ_sm, mI_Z, iz_add, iz_sub, iz_mul, iz_neg, iz_lt, iz_le, iz_eq, iz_clamp, iz_inB, iz_div, iz_rem, shK h, shR h, inM_lit, and_self, true_and, and_true, true_or, or_true, not_true_eq_false, not_false_eq_true, Nat.reduceEqDiff, reduceCtorEq, Int.reduceNeg, Int.reduceSub, Int.reduceAdd, Int.reduceMul, Int.reduceToNat, Int.reduceEq, Int.neg_neg, Int.cast_ofNat_Int, Nat.reduceAdd, Nat.reduceMul, Nat.reduceSub, gd_t, emod_r, iz_0, Int.zero_add, Int.add_zero, wp_some, g1, hE, a1, a2]
        exact hP 0 M ⟨t.symm, Fr.rf, G⟩
      · rw [t] at a2
        simp (disch := first | assumption | decide | omega) only [n_257_0, n_257_62, n_257_81, z_iconst, z_bipush, z_sipush, z_ldc, z_ldcs, z_ldcw, z_ldc2, z_lconst0, z_lconst1, z_null, z_getstatic, z_iload_0, z_iload_1, z_iload_2, z_iload_3, z_iload, z_istore_0, z_istore_1, z_istore_2, z_istore_3, z_istore, z_lload_0, z_lload_1, z_lload_2, z_lload_3, z_lload, z_lstore_0, z_lstore_1, z_lstore_2, z_lstore_3, z_lstore, z_aload_0, z_aload_1, z_aload_2, z_aload_3, z_aload, z_astore_0, z_astore_1, z_astore_2, z_astore_3, z_astore, ald_0, ald_s, z_iinc, qst1_1i, qst2_1i, qst1_1r, qst2_1r, qst1_1u, qst2_1u, qst1_1n, qst2_1n, qst1_1l, qst2_1l, qst1_0, qst2_0, qst1_s, qst2_s, z_iadd, z_isub, z_imul, z_iand, z_ior, z_ixor, z_ishl, z_ishr, z_idiv, z_irem, z_ladd, z_lsub, z_lmul, z_land, z_lor, z_ldiv, z_lrem, z_ineg, z_lshl, z_lshr, z_i2l, z_l2i, z_i2b, z_i2c, z_lcmp, z_dupi, z_dupr, z_popi, z_popr, z_dup2, z_goto, z_get0, z_get1, z_get2, z_get3, z_put0, z_put1, z_put2, z_put2n, z_put3, z_iaload, z_baload, z_laload, z_aaload, z_iastore, z_bastore, z_lastore, z_aastore, z_aastoren, z_arraylength, z_new, z_newarray, z_anewarray, z_multi, z_objinit, z_is0, z_iv0, z_ip0, z_is1, z_iv1, z_ip1, z_is2, z_iv2, z_ip2, z_is3, z_iv3, z_ip3, z_is4, z_iv4, z_ip4, z_is5, z_iv5, z_ip5, z_is6, z_iv6, z_ip6, z_is7, z_iv7, z_ip7, z_m991, z_m992, z_m993, z_m994, z_m995, z_m996, z_m998, acal_0, acal_1, acal_2, acal_3, acal_4, aK_v, aK_n, sF_c, sF_n, b_nr, b_nn, r_I, r_Z, r_L, r_A, r_V, sw_F, sw_n, gd_tt, is01_bzT, is01_0, is01_1, qrv_s, qrv_n, bi_eq_t, bi_eq_f, bi_ne_t, bi_ne_f, bi_lt_t, bi_lt_f, bi_ge_t, bi_ge_f, bi_gt_t, bi_gt_f, bi_le_t, bi_le_f, bc_eq_t, bc_eq_f, bc_ne_t, bc_ne_f, bc_lt_t, bc_lt_f, bc_ge_t, bc_ge_f, bc_gt_t, bc_gt_f, bc_le_t, bc_le_f, bb_eq_t, bb_eq_f, bb_ne_t, bb_ne_f, sc_t, sc_f, b_nr, b_nn, mI_J, mI_R, mJ_I, mJ_R, mR_I, mR_J, mK_I, mK_J, mK_R, mN_I, mN_J, mN_R, inM_I, inM_J, inM_R, mZ_nc, mZ_nk, mZ_sm, mZ_J, mZ_R, mJ_nc, mJ_ni, mJ_sm, mI_Z, iz_add, iz_sub, iz_mul, iz_neg, iz_lt, iz_le, iz_eq, iz_clamp, iz_inB, iz_div, iz_rem, shK h, shR h, inM_lit, and_self, true_and, and_true, true_or, or_true, not_true_eq_false, not_false_eq_true, Nat.reduceEqDiff, reduceCtorEq, Int.reduceNeg, Int.reduceSub, Int.reduceAdd, Int.reduceMul, Int.reduceToNat, Int.reduceEq, Int.neg_neg, Int.cast_ofNat_Int, Nat.reduceAdd, Nat.reduceMul, Nat.reduceSub, gd_t, emod_r, iz_0, Int.zero_add, Int.add_zero, wp_some, g1, hE, a1, a2]
        exact hP 1 M ⟨t.symm, Fr.rf, G⟩
    · have a1 := shr7 (x := mZ M 77 ((w * 80 + cell) * 100 + sp).toNat) kp.1 kl
      simp (disch := first | assumption | decide | omega) only [n_257_0, n_257_62, n_257_81, z_iconst, z_bipush, z_sipush, z_ldc, z_ldcs, z_ldcw, z_ldc2, z_lconst0, z_lconst1, z_null, z_getstatic, z_iload_0, z_iload_1, z_iload_2, z_iload_3, z_iload, z_istore_0, z_istore_1, z_istore_2, z_istore_3, z_istore, z_lload_0, z_lload_1, z_lload_2, z_lload_3, z_lload, z_lstore_0, z_lstore_1, z_lstore_2, z_lstore_3, z_lstore, z_aload_0, z_aload_1, z_aload_2, z_aload_3, z_aload, z_astore_0, z_astore_1, z_astore_2, z_astore_3, z_astore, ald_0, ald_s, z_iinc, qst1_1i, qst2_1i, qst1_1r, qst2_1r, qst1_1u, qst2_1u, qst1_1n, qst2_1n, qst1_1l, qst2_1l, qst1_0, qst2_0, qst1_s, qst2_s, z_iadd, z_isub, z_imul, z_iand, z_ior, z_ixor, z_ishl, z_ishr, z_idiv, z_irem, z_ladd, z_lsub, z_lmul, z_land, z_lor, z_ldiv, z_lrem, z_ineg, z_lshl, z_lshr, z_i2l, z_l2i, z_i2b, z_i2c, z_lcmp, z_dupi, z_dupr, z_popi, z_popr, z_dup2, z_goto, z_get0, z_get1, z_get2, z_get3, z_put0, z_put1, z_put2, z_put2n, z_put3, z_iaload, z_baload, z_laload, z_aaload, z_iastore, z_bastore, z_lastore, z_aastore, z_aastoren, z_arraylength, z_new, z_newarray, z_anewarray, z_multi, z_objinit, z_is0, z_iv0, z_ip0, z_is1, z_iv1, z_ip1, z_is2, z_iv2, z_ip2, z_is3, z_iv3, z_ip3, z_is4, z_iv4, z_ip4, z_is5, z_iv5, z_ip5, z_is6, z_iv6, z_ip6, z_is7, z_iv7, z_ip7, z_m991, z_m992, z_m993, z_m994, z_m995, z_m996, z_m998, acal_0, acal_1, acal_2, acal_3, acal_4, aK_v, aK_n, sF_c, sF_n, b_nr, b_nn, r_I, r_Z, r_L, r_A, r_V, sw_F, sw_n, gd_tt, is01_bzT, is01_0, is01_1, qrv_s, qrv_n, bi_eq_t, bi_eq_f, bi_ne_t, bi_ne_f, bi_lt_t, bi_lt_f, bi_ge_t, bi_ge_f, bi_gt_t, bi_gt_f, bi_le_t, bi_le_f, bc_eq_t, bc_eq_f, bc_ne_t, bc_ne_f, bc_lt_t, bc_lt_f, bc_ge_t, bc_ge_f, bc_gt_t, bc_gt_f, bc_le_t, bc_le_f, bb_eq_t, bb_eq_f, bb_ne_t, bb_ne_f, sc_t, sc_f, b_nr, b_nn, mI_J, mI_R, mJ_I, mJ_R, mR_I, mR_J, mK_I, mK_J, mK_R, mN_I, mN_J, mN_R, inM_I, inM_J, inM_R, mZ_nc, mZ_nk, mZ_sm, mZ_J, mZ_R, mJ_nc, mJ_ni, mJ_sm, mI_Z, iz_add, iz_sub, iz_mul, iz_neg, iz_lt, iz_le, iz_eq, iz_clamp, iz_inB, iz_div, iz_rem, shK h, shR h, inM_lit, and_self, true_and, and_true, true_or, or_true, not_true_eq_false, not_false_eq_true, Nat.reduceEqDiff, reduceCtorEq, Int.reduceNeg, Int.reduceSub, Int.reduceAdd, Int.reduceMul, Int.reduceToNat, Int.reduceEq, Int.neg_neg, Int.cast_ofNat_Int, Nat.reduceAdd, Nat.reduceMul, Nat.reduceSub, gd_t, emod_r, iz_0, Int.zero_add, Int.add_zero, wp_some, g1, hE, a1]
      refine wp_cI (x_told (d := d) (kk := 2) h hW.2.1 hW.2.2.1 hW.2.2.2 gJ c1 w1 s1 (by decide)) (fun z M1 q1 => ?_)
      obtain ⟨hz, hD⟩ := q1
      have hz : z = tau M 2 99 0 cell w sp := hz
      have h1 := hD.shp h (fun i k hi => by omega)
      have hN1 := h1.1
      have so := shl7or (x := E) (t := z) (by omega) (by omega) (by omega) (by omega)
      have a2 := and127 (x := E * 128 + z) (by omega) (by omega)
      rw [show (E * 128 + z) % 128 = z by omega] at a2
      have F1 : Fr M (qsI M1 77 ((w * 80 + cell) * 100 + sp).toNat (iz (E * 128 + z))) (fun i _ => i = 74 ∨ i = 75 ∨ i = 77) := (Fr.of (hD.mono (fun i k q => by omega))).I (Or.inr (Or.inr rfl))
      have fin : P (some (.int (iz z))) (qsI M1 77 ((w * 80 + cell) * 100 + sp).toNat (iz (E * 128 + z))) := by
        refine hP z _ ⟨hz, F1, ?_⟩
        have k73 : ∀ k, mZ (qsI M1 77 ((w * 80 + cell) * 100 + sp).toNat (iz (E * 128 + z))) 73 k = mZ M 73 k := fun k => F1.z (by omega)
        have k77 : ∀ k, mZ (qsI M1 77 ((w * 80 + cell) * 100 + sp).toNat (iz (E * 128 + z))) 76 k = mZ M 76 k := fun k => F1.z (by omega)
        have k481 : ∀ k, mZ (qsI M1 77 ((w * 80 + cell) * 100 + sp).toNat (iz (E * 128 + z))) 481 k = mZ M 481 k := fun k => F1.z (by omega)
        have kt : ∀ kk hi wo c' w' s', tau (qsI M1 77 ((w * 80 + cell) * 100 + sp).toNat (iz (E * 128 + z))) kk hi wo c' w' s' = tau M kk hi wo c' w' s' := fun kk hi wo c' w' s' => tau_k k481
        have k76 : ∀ p : Int, 0 ≤ p → mZ (qsI M1 77 ((w * 80 + cell) * 100 + sp).toNat (iz (E * 128 + z))) 77 p.toNat = if p = (w * 80 + cell) * 100 + sp then E * 128 + z else mZ M 77 p.toNat := fun p p1 => by
          by_cases e : p = (w * 80 + cell) * 100 + sp
          · rw [if_pos e, mZ_sm (by rw [e]) (by omega) (by omega)]
          · rw [if_neg e, mZ_nk (by omega), hD.z (by omega)]
        obtain ⟨b1, b2, b3, b4, b5, b6⟩ := G
        refine ⟨?_, ?_, fun p p1 p2 => ?_, ?_, ?_, fun w' c' s' w1' w2' c1' c2' s1' s2' => ?_⟩
        · unfold JL at *
          rw [F1.2.2.1, k481, F1.2.2.1]
          exact b1
        · rw [k73]; exact b2
        · have := b3 p p1 p2
          rw [k76 p p1, k77, k73, hE]
          rw [hE] at this
          split
          · omega
          · exact this
        · rw [k73]; simp only [kt]; exact b4
        · rw [k73]; simp only [kt]; exact b5
        · have := b6 w' c' s' w1' w2' c1' c2' s1' s2'
          rw [k76 _ (by omega), k77, k73, kt, kt, hE]
          rw [hE] at this
          refine ⟨this.1, ?_⟩
          by_cases e : (w' * 80 + c') * 100 + s' = (w * 80 + cell) * 100 + sp
          · rw [if_pos e]
            intro _
            obtain ⟨rfl, rfl, rfl⟩ : w' = w ∧ c' = cell ∧ s' = sp := by omega
            omega
          · rw [if_neg e]; exact this.2
      rw [← hz] at t01
      rcases t01 with t | t
      · subst t
        rw [Int.add_zero] at a2 fin so
        simp (disch := first | assumption | decide | omega) only [n_257_0, n_257_62, n_257_81, z_iconst, z_bipush, z_sipush, z_ldc, z_ldcs, z_ldcw, z_ldc2, z_lconst0, z_lconst1, z_null, z_getstatic, z_iload_0, z_iload_1, z_iload_2, z_iload_3, z_iload, z_istore_0, z_istore_1, z_istore_2, z_istore_3, z_istore, z_lload_0, z_lload_1, z_lload_2, z_lload_3, z_lload, z_lstore_0, z_lstore_1, z_lstore_2, z_lstore_3, z_lstore, z_aload_0, z_aload_1, z_aload_2, z_aload_3, z_aload, z_astore_0, z_astore_1, z_astore_2, z_astore_3, z_astore, ald_0, ald_s, z_iinc, qst1_1i, qst2_1i, qst1_1r, qst2_1r, qst1_1u, qst2_1u, qst1_1n, qst2_1n, qst1_1l, qst2_1l, qst1_0, qst2_0, qst1_s, qst2_s, z_iadd, z_isub, z_imul, z_iand, z_ior, z_ixor, z_ishl, z_ishr, z_idiv, z_irem, z_ladd, z_lsub, z_lmul, z_land, z_lor, z_ldiv, z_lrem, z_ineg, z_lshl, z_lshr, z_i2l, z_l2i, z_i2b, z_i2c, z_lcmp, z_dupi, z_dupr, z_popi, z_popr, z_dup2, z_goto, z_get0, z_get1, z_get2, z_get3, z_put0, z_put1, z_put2, z_put2n, z_put3, z_iaload, z_baload, z_laload, z_aaload, z_iastore, z_bastore, z_lastore, z_aastore, z_aastoren, z_arraylength, z_new, z_newarray, z_anewarray, z_multi, z_objinit, z_is0, z_iv0, z_ip0, z_is1, z_iv1, z_ip1, z_is2, z_iv2, z_ip2, z_is3, z_iv3, z_ip3, z_is4, z_iv4, z_ip4, z_is5, z_iv5, z_ip5, z_is6, z_iv6, z_ip6, z_is7, z_iv7, z_ip7, z_m991, z_m992, z_m993, z_m994, z_m995, z_m996, z_m998, acal_0, acal_1, acal_2, acal_3, acal_4, aK_v, aK_n, sF_c, sF_n, b_nr, b_nn, r_I, r_Z, r_L, r_A, r_V, sw_F, sw_n, gd_tt, is01_bzT, is01_0, is01_1, qrv_s, qrv_n, bi_eq_t, bi_eq_f, bi_ne_t, bi_ne_f, bi_lt_t, bi_lt_f, bi_ge_t, bi_ge_f, bi_gt_t, bi_gt_f, bi_le_t, bi_le_f, bc_eq_t, bc_eq_f, bc_ne_t, bc_ne_f, bc_lt_t, bc_lt_f, bc_ge_t, bc_ge_f, bc_gt_t, bc_gt_f, bc_le_t, bc_le_f, bb_eq_t, bb_eq_f, bb_ne_t, bb_ne_f, sc_t, sc_f, b_nr, b_nn, mI_J, mI_R, mJ_I, mJ_R, mR_I, mR_J, mK_I, mK_J, mK_R, mN_I, mN_J, mN_R, inM_I, inM_J, inM_R, mZ_nc, mZ_nk, mZ_sm, mZ_J, mZ_R, mJ_nc, mJ_ni, mJ_sm, mI_Z, iz_add, iz_sub, iz_mul, iz_neg, iz_lt, iz_le, iz_eq, iz_clamp, iz_inB, iz_div, iz_rem, shK h, shR h, inM_lit, and_self, true_and, and_true, true_or, or_true, not_true_eq_false, not_false_eq_true, Nat.reduceEqDiff, reduceCtorEq, Int.reduceNeg, Int.reduceSub, Int.reduceAdd, Int.reduceMul, Int.reduceToNat, Int.reduceEq, Int.neg_neg, Int.cast_ofNat_Int, Nat.reduceAdd, Nat.reduceMul, Nat.reduceSub, gd_t, emod_r, iz_0, Int.zero_add, Int.add_zero, wp_some, shK h1, shR h1, so, a2]
        exact fin
      · subst t
        simp (disch := first | assumption | decide | omega) only [n_257_0, n_257_62, n_257_81, z_iconst, z_bipush, z_sipush, z_ldc, z_ldcs, z_ldcw, z_ldc2, z_lconst0, z_lconst1, z_null, z_getstatic, z_iload_0, z_iload_1, z_iload_2, z_iload_3, z_iload, z_istore_0, z_istore_1, z_istore_2, z_istore_3, z_istore, z_lload_0, z_lload_1, z_lload_2, z_lload_3, z_lload, z_lstore_0, z_lstore_1, z_lstore_2, z_lstore_3, z_lstore, z_aload_0, z_aload_1, z_aload_2, z_aload_3, z_aload, z_astore_0, z_astore_1, z_astore_2, z_astore_3, z_astore, ald_0, ald_s, z_iinc, qst1_1i, qst2_1i, qst1_1r, qst2_1r, qst1_1u, qst2_1u, qst1_1n, qst2_1n, qst1_1l, qst2_1l, qst1_0, qst2_0, qst1_s, qst2_s, z_iadd, z_isub, z_imul, z_iand, z_ior, z_ixor, z_ishl, z_ishr, z_idiv, z_irem, z_ladd, z_lsub, z_lmul, z_land, z_lor, z_ldiv, z_lrem, z_ineg, z_lshl, z_lshr, z_i2l, z_l2i, z_i2b, z_i2c, z_lcmp, z_dupi, z_dupr, z_popi, z_popr, z_dup2, z_goto, z_get0, z_get1, z_get2, z_get3, z_put0, z_put1, z_put2, z_put2n, z_put3, z_iaload, z_baload, z_laload, z_aaload, z_iastore, z_bastore, z_lastore, z_aastore, z_aastoren, z_arraylength, z_new, z_newarray, z_anewarray, z_multi, z_objinit, z_is0, z_iv0, z_ip0, z_is1, z_iv1, z_ip1, z_is2, z_iv2, z_ip2, z_is3, z_iv3, z_ip3, z_is4, z_iv4, z_ip4, z_is5, z_iv5, z_ip5, z_is6, z_iv6, z_ip6, z_is7, z_iv7, z_ip7, z_m991, z_m992, z_m993, z_m994, z_m995, z_m996, z_m998, acal_0, acal_1, acal_2, acal_3, acal_4, aK_v, aK_n, sF_c, sF_n, b_nr, b_nn, r_I, r_Z, r_L, r_A, r_V, sw_F, sw_n, gd_tt, is01_bzT, is01_0, is01_1, qrv_s, qrv_n, bi_eq_t, bi_eq_f, bi_ne_t, bi_ne_f, bi_lt_t, bi_lt_f, bi_ge_t, bi_ge_f, bi_gt_t, bi_gt_f, bi_le_t, bi_le_f, bc_eq_t, bc_eq_f, bc_ne_t, bc_ne_f, bc_lt_t, bc_lt_f, bc_ge_t, bc_ge_f, bc_gt_t, bc_gt_f, bc_le_t, bc_le_f, bb_eq_t, bb_eq_f, bb_ne_t, bb_ne_f, sc_t, sc_f, b_nr, b_nn, mI_J, mI_R, mJ_I, mJ_R, mR_I, mR_J, mK_I, mK_J, mK_R, mN_I, mN_J, mN_R, inM_I, inM_J, inM_R, mZ_nc, mZ_nk, mZ_sm, mZ_J, mZ_R, mJ_nc, mJ_ni, mJ_sm, mI_Z, iz_add, iz_sub, iz_mul, iz_neg, iz_lt, iz_le, iz_eq, iz_clamp, iz_inB, iz_div, iz_rem, shK h, shR h, inM_lit, and_self, true_and, and_true, true_or, or_true, not_true_eq_false, not_false_eq_true, Nat.reduceEqDiff, reduceCtorEq, Int.reduceNeg, Int.reduceSub, Int.reduceAdd, Int.reduceMul, Int.reduceToNat, Int.reduceEq, Int.neg_neg, Int.cast_ofNat_Int, Nat.reduceAdd, Nat.reduceMul, Nat.reduceSub, gd_t, emod_r, iz_0, Int.zero_add, Int.add_zero, wp_some, shK h1, shR h1, so, a2]
        exact fin

/-! a WHEEL is sent: x's side -/
/-- one more, as ints count -/
def inc (v : Int) : Int := (iz (v + 1)).toInt
theorem inc_b {v : Int} : -2147483648 ≤ inc v ∧ inc v < 2147483648 := ⟨Int32.le_toInt _, Int32.toInt_lt _⟩
theorem iz_inc {v : Int} : iz (inc v) = iz (v + 1) := iz_self _
theorem Rid_z {M M1 : qMe} (hI : Rid M) (e : ∀ i k, (k = 11 ∧ (i = 78 ∨ i = 104 ∨ i = 107 ∨ i = 110)) ∨ (i = 479 ∧ k = 38) ∨ i = 493 → mZ M1 i k = mZ M i k) : Rid M1 := by
  obtain ⟨⟨a1, a2, a3, a4⟩, a5, a6⟩ := hI
  exact ⟨⟨(e _ _ (by omega)).trans a1, (e _ _ (by omega)).trans a2, (e _ _ (by omega)).trans a3, (e _ _ (by omega)).trans a4⟩, (e _ _ (by omega)).trans a5, fun c c1 c2 => (e _ _ (by omega)).trans (a6 c c1 c2)⟩
theorem mem_take_s {l : List Int} {i : Nat} {x y : Int} (h : l[i]? = some x) : y ∈ l.take (i + 1) ↔ y ∈ l.take i ∨ y = x := by
  rw [List.take_succ, h, List.mem_append]
  simp
def cut0 (l : List Int) (f : Nat → Int) (j : Nat) : Int := if (j : Int) ∈ l then 0 else f j
theorem cut0_s {l : List Int} {i : Nat} {x : Int} {f : Nat → Int} {j : Nat} (h : l[i]? = some x) : cut0 (l.take (i + 1)) f j = if (j : Int) = x then 0 else cut0 (l.take i) f j := by
  unfold cut0
  have e := mem_take_s (y := (j : Int)) h
  by_cases q : (j : Int) = x
  · rw [if_pos q, if_pos (e.mpr (Or.inr q))]
  · rw [if_neg q]
    by_cases r : (j : Int) ∈ l.take i
    · rw [if_pos r, if_pos (e.mpr (Or.inl r))]
    · rw [if_neg r, if_neg (fun z => (e.mp z).elim r q)]
theorem x_launch126 {d : Nat} {M : qMe} {c v2 v3 : Int} {Q : RQ} {P : Option Value → qMe → Prop} (h : shp M) (c1 : 0 ≤ c ∧ c ≤ 1279) (hb : mZ M 78 7 = ((ql Q).length : Int)) (hl : (ql Q).length ≤ 60) (hL : ∀ (j : Nat) (x : Int), (ql Q)[j]? = some x → mZ M 80 j = x) (hq : QL Q) (hv : v3 = 0 ∨ v3 = 1) (hP : ∀ M1, Fr M M1 (fun i _ => i = 12 ∨ i = 22) → (∀ j : Nat, j < 80 → mZ M1 12 j = cut0 (ql Q) (mZ M 12) j) → (∀ j : Nat, j < 8 → mZ M1 22 j = if (j : Int) = c / 160 then 1 else mZ M 22 j) → P (some (.int (iz v3))) M1) : wp (n_303_126 (cal (d + 1)) [some (.ref 113), some (.int (iz c)), some (.int (iz v2)), some (.int (iz v3)), none] [] M) P := by
  have hN := h.1
  have h0 := h
  simp (disch := first | assumption | decide | omega) only [n_303_0, n_303_47, n_303_48, n_303_126, n_303_129, z_iconst, z_bipush, z_sipush, z_ldc, z_ldcs, z_ldcw, z_ldc2, z_lconst0, z_lconst1, z_null, z_getstatic, z_iload_0, z_iload_1, z_iload_2, z_iload_3, z_iload, z_istore_0, z_istore_1, z_istore_2, z_istore_3, z_istore, z_lload_0, z_lload_1, z_lload_2, z_lload_3, z_lload, z_lstore_0, z_lstore_1, z_lstore_2, z_lstore_3, z_lstore, z_aload_0, z_aload_1, z_aload_2, z_aload_3, z_aload, z_astore_0, z_astore_1, z_astore_2, z_astore_3, z_astore, ald_0, ald_s, z_iinc, qst1_1i, qst2_1i, qst1_1r, qst2_1r, qst1_1u, qst2_1u, qst1_1n, qst2_1n, qst1_1l, qst2_1l, qst1_0, qst2_0, qst1_s, qst2_s, z_iadd, z_isub, z_imul, z_iand, z_ior, z_ixor, z_ishl, z_ishr, z_idiv, z_irem, z_ladd, z_lsub, z_lmul, z_land, z_lor, z_ldiv, z_lrem, z_ineg, z_lshl, z_lshr, z_i2l, z_l2i, z_i2b, z_i2c, z_lcmp, z_dupi, z_dupr, z_popi, z_popr, z_dup2, z_goto, z_get0, z_get1, z_get2, z_get3, z_put0, z_put1, z_put2, z_put2n, z_put3, z_iaload, z_baload, z_laload, z_aaload, z_iastore, z_bastore, z_lastore, z_aastore, z_aastoren, z_arraylength, z_new, z_newarray, z_anewarray, z_multi, z_objinit, z_is0, z_iv0, z_ip0, z_is1, z_iv1, z_ip1, z_is2, z_iv2, z_ip2, z_is3, z_iv3, z_ip3, z_is4, z_iv4, z_ip4, z_is5, z_iv5, z_ip5, z_is6, z_iv6, z_ip6, z_is7, z_iv7, z_ip7, z_m991, z_m992, z_m993, z_m994, z_m995, z_m996, z_m998, acal_0, acal_1, acal_2, acal_3, acal_4, aK_v, aK_n, sF_c, sF_n, b_nr, b_nn, r_I, r_Z, r_L, r_A, r_V, sw_F, sw_n, gd_tt, is01_bzT, is01_0, is01_1, qrv_s, qrv_n, bi_eq_t, bi_eq_f, bi_ne_t, bi_ne_f, bi_lt_t, bi_lt_f, bi_ge_t, bi_ge_f, bi_gt_t, bi_gt_f, bi_le_t, bi_le_f, bc_eq_t, bc_eq_f, bc_ne_t, bc_ne_f, bc_lt_t, bc_lt_f, bc_ge_t, bc_ge_f, bc_gt_t, bc_gt_f, bc_le_t, bc_le_f, bb_eq_t, bb_eq_f, bb_ne_t, bb_ne_f, sc_t, sc_f, b_nr, b_nn, mI_J, mI_R, mJ_I, mJ_R, mR_I, mR_J, mK_I, mK_J, mK_R, mN_I, mN_J, mN_R, inM_I, inM_J, inM_R, mZ_nc, mZ_nk, mZ_sm, mZ_J, mZ_R, mJ_nc, mJ_ni, mJ_sm, mI_Z, iz_add, iz_sub, iz_mul, iz_neg, iz_lt, iz_le, iz_eq, iz_clamp, iz_inB, iz_div, iz_rem, shK h, shR h, inM_lit, and_self, true_and, and_true, true_or, or_true, not_true_eq_false, not_false_eq_true, Nat.reduceEqDiff, reduceCtorEq, Int.reduceNeg, Int.reduceSub, Int.reduceAdd, Int.reduceMul, Int.reduceToNat, Int.reduceEq, Int.neg_neg, Int.cast_ofNat_Int, Nat.reduceAdd, Nat.reduceMul, Nat.reduceSub, gd_t, emod_r, iz_0, Int.zero_add, Int.add_zero, wp_some]
  refine wp_lpq (fun kk L M' => ∃ i : Nat, L = [some (.ref 113), some (.int (iz c)), some (.int (iz v2)), some (.int (iz v3)), some (.int (iz (i : Int)))] ∧ i + kk = (ql Q).length ∧ Dif M M' (fun i _ => i = 12) ∧ ∀ j : Nat, j < 80 → mZ M' 12 j = cut0 ((ql Q).take i) (mZ M 12) j) (k := (ql Q).length) ⟨0, rfl, by omega, Dif.rfl', fun j q => by rw [List.take_zero]; exact (if_neg (fun z => by cases z)).symm⟩ (by omega) ?_
  rintro kk L M1 g ⟨i, rfl, hik, hD, hdo⟩ hg2
  have h := hD.shp h0 (fun i k hi => by omega)
  have hN := h.1
  have b1 : mZ M1 78 7 = ((ql Q).length : Int) := by rw [hD.z (by omega)]; exact hb
  by_cases e : i = (ql Q).length
  · have w1 := c_wheelOf (d := d) (v := c) (M := M1) c1.1 (by omega)
    have wb : 0 ≤ c / 160 ∧ c / 160 < 8 := by omega
    have fin := hP (qsI M1 22 (c / 160).toNat (iz 1)) ((Fr.of hD).mono (fun i k q => Or.inl q) |>.I (Or.inr rfl)) (fun j q => by
      rw [mZ_nc (by decide), hdo j q, e, List.take_length]) (fun j q => by
      by_cases ej : (j : Int) = c / 160
      · rw [if_pos ej, mZ_sm (by omega) (by decide) (by decide)]
      · rw [if_neg ej, mZ_nk (by omega), hD.z (by omega)])
    rcases hv with rfl | rfl
    · simp (disch := first | assumption | decide | omega) only [n_303_0, n_303_47, n_303_48, n_303_126, n_303_169, f_303_129, z_iconst, z_bipush, z_sipush, z_ldc, z_ldcs, z_ldcw, z_ldc2, z_lconst0, z_lconst1, z_null, z_getstatic, z_iload_0, z_iload_1, z_iload_2, z_iload_3, z_iload, z_istore_0, z_istore_1, z_istore_2, z_istore_3, z_istore, z_lload_0, z_lload_1, z_lload_2, z_lload_3, z_lload, z_lstore_0, z_lstore_1, z_lstore_2, z_lstore_3, z_lstore, z_aload_0, z_aload_1, z_aload_2, z_aload_3, z_aload, z_astore_0, z_astore_1, z_astore_2, z_astore_3, z_astore, ald_0, ald_s, z_iinc, qst1_1i, qst2_1i, qst1_1r, qst2_1r, qst1_1u, qst2_1u, qst1_1n, qst2_1n, qst1_1l, qst2_1l, qst1_0, qst2_0, qst1_s, qst2_s, z_iadd, z_isub, z_imul, z_iand, z_ior, z_ixor, z_ishl, z_ishr, z_idiv, z_irem, z_ladd, z_lsub, z_lmul, z_land, z_lor, z_ldiv, z_lrem, z_ineg, z_lshl, z_lshr, z_i2l, z_l2i, z_i2b, z_i2c, z_lcmp, z_dupi, z_dupr, z_popi, z_popr, z_dup2, z_goto, z_get0, z_get1, z_get2, z_get3, z_put0, z_put1, z_put2, z_put2n, z_put3, z_iaload, z_baload, z_laload, z_aaload, z_iastore, z_bastore, z_lastore, z_aastore, z_aastoren, z_arraylength, z_new, z_newarray, z_anewarray, z_multi, z_objinit, z_is0, z_iv0, z_ip0, z_is1, z_iv1, z_ip1, z_is2, z_iv2, z_ip2, z_is3, z_iv3, z_ip3, z_is4, z_iv4, z_ip4, z_is5, z_iv5, z_ip5, z_is6, z_iv6, z_ip6, z_is7, z_iv7, z_ip7, z_m991, z_m992, z_m993, z_m994, z_m995, z_m996, z_m998, acal_0, acal_1, acal_2, acal_3, acal_4, aK_v, aK_n, sF_c, sF_n, b_nr, b_nn, r_I, r_Z, r_L, r_A, r_V, sw_F, sw_n, gd_tt, is01_bzT, is01_0, is01_1, qrv_s, qrv_n, bi_eq_t, bi_eq_f, bi_ne_t, bi_ne_f, bi_lt_t, bi_lt_f, bi_ge_t, bi_ge_f, bi_gt_t, bi_gt_f, bi_le_t, bi_le_f, bc_eq_t, bc_eq_f, bc_ne_t, bc_ne_f, bc_lt_t, bc_lt_f, bc_ge_t, bc_ge_f, bc_gt_t, bc_gt_f, bc_le_t, bc_le_f, bb_eq_t, bb_eq_f, bb_ne_t, bb_ne_f, sc_t, sc_f, b_nr, b_nn, mI_J, mI_R, mJ_I, mJ_R, mR_I, mR_J, mK_I, mK_J, mK_R, mN_I, mN_J, mN_R, inM_I, inM_J, inM_R, mZ_nc, mZ_nk, mZ_sm, mZ_J, mZ_R, mJ_nc, mJ_ni, mJ_sm, mI_Z, iz_add, iz_sub, iz_mul, iz_neg, iz_lt, iz_le, iz_eq, iz_clamp, iz_inB, iz_div, iz_rem, shK h, shR h, inM_lit, and_self, true_and, and_true, true_or, or_true, not_true_eq_false, not_false_eq_true, Nat.reduceEqDiff, reduceCtorEq, Int.reduceNeg, Int.reduceSub, Int.reduceAdd, Int.reduceMul, Int.reduceToNat, Int.reduceEq, Int.neg_neg, Int.cast_ofNat_Int, Nat.reduceAdd, Nat.reduceMul, Nat.reduceSub, gd_t, emod_r, iz_0, Int.zero_add, Int.add_zero, wp_some, b1, w1, e]
      exact fin
    · simp (disch := first | assumption | decide | omega) only [n_303_0, n_303_47, n_303_48, n_303_126, n_303_169, f_303_129, z_iconst, z_bipush, z_sipush, z_ldc, z_ldcs, z_ldcw, z_ldc2, z_lconst0, z_lconst1, z_null, z_getstatic, z_iload_0, z_iload_1, z_iload_2, z_iload_3, z_iload, z_istore_0, z_istore_1, z_istore_2, z_istore_3, z_istore, z_lload_0, z_lload_1, z_lload_2, z_lload_3, z_lload, z_lstore_0, z_lstore_1, z_lstore_2, z_lstore_3, z_lstore, z_aload_0, z_aload_1, z_aload_2, z_aload_3, z_aload, z_astore_0, z_astore_1, z_astore_2, z_astore_3, z_astore, ald_0, ald_s, z_iinc, qst1_1i, qst2_1i, qst1_1r, qst2_1r, qst1_1u, qst2_1u, qst1_1n, qst2_1n, qst1_1l, qst2_1l, qst1_0, qst2_0, qst1_s, qst2_s, z_iadd, z_isub, z_imul, z_iand, z_ior, z_ixor, z_ishl, z_ishr, z_idiv, z_irem, z_ladd, z_lsub, z_lmul, z_land, z_lor, z_ldiv, z_lrem, z_ineg, z_lshl, z_lshr, z_i2l, z_l2i, z_i2b, z_i2c, z_lcmp, z_dupi, z_dupr, z_popi, z_popr, z_dup2, z_goto, z_get0, z_get1, z_get2, z_get3, z_put0, z_put1, z_put2, z_put2n, z_put3, z_iaload, z_baload, z_laload, z_aaload, z_iastore, z_bastore, z_lastore, z_aastore, z_aastoren, z_arraylength, z_new, z_newarray, z_anewarray, z_multi, z_objinit, z_is0, z_iv0, z_ip0, z_is1, z_iv1, z_ip1, z_is2, z_iv2, z_ip2, z_is3, z_iv3, z_ip3, z_is4, z_iv4, z_ip4, z_is5, z_iv5, z_ip5, z_is6, z_iv6, z_ip6, z_is7, z_iv7, z_ip7, z_m991, z_m992, z_m993, z_m994, z_m995, z_m996, z_m998, acal_0, acal_1, acal_2, acal_3, acal_4, aK_v, aK_n, sF_c, sF_n, b_nr, b_nn, r_I, r_Z, r_L, r_A, r_V, sw_F, sw_n, gd_tt, is01_bzT, is01_0, is01_1, qrv_s, qrv_n, bi_eq_t, bi_eq_f, bi_ne_t, bi_ne_f, bi_lt_t, bi_lt_f, bi_ge_t, bi_ge_f, bi_gt_t, bi_gt_f, bi_le_t, bi_le_f, bc_eq_t, bc_eq_f, bc_ne_t, bc_ne_f, bc_lt_t, bc_lt_f, bc_ge_t, bc_ge_f, bc_gt_t, bc_gt_f, bc_le_t, bc_le_f, bb_eq_t, bb_eq_f, bb_ne_t, bb_ne_f, sc_t, sc_f, b_nr, b_nn, mI_J, mI_R, mJ_I, mJ_R, mR_I, mR_J, mK_I, mK_J, mK_R, mN_I, mN_J, mN_R, inM_I, inM_J, inM_R, mZ_nc, mZ_nk, mZ_sm, mZ_J, mZ_R, mJ_nc, mJ_ni, mJ_sm, mI_Z, iz_add, iz_sub, iz_mul, iz_neg, iz_lt, iz_le, iz_eq, iz_clamp, iz_inB, iz_div, iz_rem, shK h, shR h, inM_lit, and_self, true_and, and_true, true_or, or_true, not_true_eq_false, not_false_eq_true, Nat.reduceEqDiff, reduceCtorEq, Int.reduceNeg, Int.reduceSub, Int.reduceAdd, Int.reduceMul, Int.reduceToNat, Int.reduceEq, Int.neg_neg, Int.cast_ofNat_Int, Nat.reduceAdd, Nat.reduceMul, Nat.reduceSub, gd_t, emod_r, iz_0, Int.zero_add, Int.add_zero, wp_some, b1, w1, e]
      exact fin
  · obtain ⟨x, hx⟩ : ∃ x, (ql Q)[i]? = some x := ⟨_, List.getElem?_eq_getElem (by omega : i < (ql Q).length)⟩
    have xb := hq x (List.mem_of_getElem? hx)
    have r1 : mZ M1 80 i = x := by rw [hD.z (by omega)]; exact hL i x hx
    have z := hg2 (kk - 1) [some (.ref 113), some (.int (iz c)), some (.int (iz v2)), some (.int (iz v3)), some (.int (iz ((i + 1 : Nat) : Int)))] (qsI M1 12 x.toNat (iz 0)) (by omega) ⟨i + 1, rfl, by omega, hD.I rfl, fun j q => by
      rw [cut0_s hx]
      by_cases ej : (j : Int) = x
      · rw [if_pos ej, mZ_sm (by omega) (by decide) (by decide)]
      · rw [if_neg ej, mZ_nk (by omega)]; exact hdo j q⟩
    simp (disch := first | assumption | decide | omega) only [n_303_0, n_303_47, n_303_48, n_303_126, f_303_129, z_iconst, z_bipush, z_sipush, z_ldc, z_ldcs, z_ldcw, z_ldc2, z_lconst0, z_lconst1, z_null, z_getstatic, z_iload_0, z_iload_1, z_iload_2, z_iload_3, z_iload, z_istore_0, z_istore_1, z_istore_2, z_istore_3, z_istore, z_lload_0, z_lload_1, z_lload_2, z_lload_3, z_lload, z_lstore_0, z_lstore_1, z_lstore_2, z_lstore_3, z_lstore, z_aload_0, z_aload_1, z_aload_2, z_aload_3, z_aload, z_astore_0, z_astore_1, z_astore_2, z_astore_3, z_astore, ald_0, ald_s, z_iinc, qst1_1i, qst2_1i, qst1_1r, qst2_1r, qst1_1u, qst2_1u, qst1_1n, qst2_1n, qst1_1l, qst2_1l, qst1_0, qst2_0, qst1_s, qst2_s, z_iadd, z_isub, z_imul, z_iand, z_ior, z_ixor, z_ishl, z_ishr, z_idiv, z_irem, z_ladd, z_lsub, z_lmul, z_land, z_lor, z_ldiv, z_lrem, z_ineg, z_lshl, z_lshr, z_i2l, z_l2i, z_i2b, z_i2c, z_lcmp, z_dupi, z_dupr, z_popi, z_popr, z_dup2, z_goto, z_get0, z_get1, z_get2, z_get3, z_put0, z_put1, z_put2, z_put2n, z_put3, z_iaload, z_baload, z_laload, z_aaload, z_iastore, z_bastore, z_lastore, z_aastore, z_aastoren, z_arraylength, z_new, z_newarray, z_anewarray, z_multi, z_objinit, z_is0, z_iv0, z_ip0, z_is1, z_iv1, z_ip1, z_is2, z_iv2, z_ip2, z_is3, z_iv3, z_ip3, z_is4, z_iv4, z_ip4, z_is5, z_iv5, z_ip5, z_is6, z_iv6, z_ip6, z_is7, z_iv7, z_ip7, z_m991, z_m992, z_m993, z_m994, z_m995, z_m996, z_m998, acal_0, acal_1, acal_2, acal_3, acal_4, aK_v, aK_n, sF_c, sF_n, b_nr, b_nn, r_I, r_Z, r_L, r_A, r_V, sw_F, sw_n, gd_tt, is01_bzT, is01_0, is01_1, qrv_s, qrv_n, bi_eq_t, bi_eq_f, bi_ne_t, bi_ne_f, bi_lt_t, bi_lt_f, bi_ge_t, bi_ge_f, bi_gt_t, bi_gt_f, bi_le_t, bi_le_f, bc_eq_t, bc_eq_f, bc_ne_t, bc_ne_f, bc_lt_t, bc_lt_f, bc_ge_t, bc_ge_f, bc_gt_t, bc_gt_f, bc_le_t, bc_le_f, bb_eq_t, bb_eq_f, bb_ne_t, bb_ne_f, sc_t, sc_f, b_nr, b_nn, mI_J, mI_R, mJ_I, mJ_R, mR_I, mR_J, mK_I, mK_J, mK_R, mN_I, mN_J, mN_R, inM_I, inM_J, inM_R, mZ_nc, mZ_nk, mZ_sm, mZ_J, mZ_R, mJ_nc, mJ_ni, mJ_sm, mI_Z, iz_add, iz_sub, iz_mul, iz_neg, iz_lt, iz_le, iz_eq, iz_clamp, iz_inB, iz_div, iz_rem, shK h, shR h, inM_lit, and_self, true_and, and_true, true_or, or_true, not_true_eq_false, not_false_eq_true, Nat.reduceEqDiff, reduceCtorEq, Int.reduceNeg, Int.reduceSub, Int.reduceAdd, Int.reduceMul, Int.reduceToNat, Int.reduceEq, Int.neg_neg, Int.cast_ofNat_Int, Nat.reduceAdd, Nat.reduceMul, Nat.reduceSub, gd_t, emod_r, iz_0, Int.zero_add, Int.add_zero, wp_some, b1, r1, Int.toNat_natCast]
    exact z
/-- the HOUSE where it came -/
noncomputable def comeV (M : qMe) (c : Int) : Int := hAt M 481 0 (qp (castQ M (-1) c))
noncomputable def upn (p : Prop) (h : Int) (f : Nat → Int) (j : Nat) : Int := @ite _ (p ∧ (j : Int) = h) (Classical.propDecidable _) (inc (f j)) (f j)
theorem upn_f {p : Prop} {h : Int} {f : Nat → Int} {j : Nat} (n : ¬ p) : upn p h f j = f j := if_neg (fun z => n z.1)
theorem upn_n {p : Prop} {h : Int} {f : Nat → Int} {j : Nat} (n : ¬ (j : Int) = h) : upn p h f j = f j := if_neg (fun z => n z.2)
theorem upn_t {p : Prop} {h : Int} {f : Nat → Int} {j : Nat} (n : p) (e : (j : Int) = h) : upn p h f j = inc (f j) := if_pos ⟨n, e⟩
/-- a WHEEL at a HOUSE is at a HOUSE -/
def HM (M : qMe) (Q : RQ) : Prop := qy Q = 2 → ¬ hAt M 481 0 (qp Q) = -1
theorem whyOf_2 {M : qMe} {e n : Int} (h : whyOf M e n = 2) : ¬ hAt M 481 0 e = -1 := by
  intro q
  unfold whyOf at h
  by_cases a : 100 ≤ e
  · rw [if_pos a] at h; omega
  · rw [if_neg a, if_neg (fun z => z q)] at h
    by_cases b : 60 ≤ n
    · rw [if_pos b] at h; omega
    · rw [if_neg b] at h; omega
theorem stepP_HM {M : qMe} {w wall : Int} {slip : Prop} {Q : RQ} (hw : WFk M 481 0) (hQ : QI Q) (hy : qy Q = -1) : HM M (stepP M w wall slip Q) := by
  have q6 := hQ.2.2.2.2.2.1 hy
  have gb := goP_b (M := M) (w := w) (wall := wall) (bk := qb Q) (way := wayP M w slip Q) hw ⟨hQ.1.1, q6.1⟩ hQ.2.1 hQ.2.2.1 ⟨hQ.2.2.2.1.1, q6.2⟩ wayP_b _ rfl
  unfold stepP
  generalize goP M w wall (qb Q) (wayP M w slip Q) (qp Q) (qd Q) (qs Q) (qn Q) = R at *
  intro h
  have h : R.2.2.2.2.1 = 2 := h
  show ¬ hAt M 481 0 R.1 = -1
  rcases gb.2.2.2 with ⟨-, -, z, -⟩ | ⟨-, z, -⟩
  · omega
  · exact whyOf_2 (z.symm.trans h)
theorem rollP_HM {M : qMe} {w wall : Int} (hw : WFk M 481 0) : ∀ (k : Nat) (Q : RQ), QI Q → HM M Q → HM M (rollP M w wall k Q)
  | 0, Q, _, h => h
  | k + 1, Q, hQ, h => by
    rw [rollP]
    by_cases y : qy Q = -1
    · rw [if_pos y]
      exact rollP_HM hw k _ (stepP_I hw hQ y).1 (stepP_HM hw hQ y)
    · rw [if_neg y]
      exact h
theorem castQ_home {M : qMe} {wall c : Int} (hW : Wo M) (ht : isT M c) (h : qy (castQ M wall c) = 2) : ¬ hAt M 481 0 (qp (castQ M wall c)) = -1 := rollP_HM hW.2.1 60 _ (castS_I hW.2.1 ht) (fun z => by cases z) h
def eatP (M : qMe) (c : Int) : Prop := qy (castQ M (-1) c) = 2 ∧ ¬ comeP M c
/-- x's Alps behind a send -/
def LaX (M M1 : qMe) (c : Int) : Prop := (∀ j : Nat, j < 80 → mZ M1 12 j = cut0 (ql (castQ M (-1) c)) (mZ M 12) j) ∧ (∀ j : Nat, j < 8 → mZ M1 22 j = if (j : Int) = c / 160 then 1 else mZ M 22 j) ∧ (∀ j : Nat, j < 8 → mZ M1 16 j = upn (comeP M c) (comeV M c) (mZ M 16) j) ∧ (∀ j : Nat, j < 8 → mZ M1 17 j = upn (eatP M c) (comeV M c) (mZ M 17) j)
/-- x's ring behind a send -/
def RgX (M M1 : qMe) (s t : Nat) (c : Int) : Prop := (∀ j : Nat, j < 80 → mZ M1 (115 + t) j = mZ M 12 j) ∧ (∀ j : Nat, j < 8 → mZ M1 (132 + t) j = mZ M 22 j) ∧ (∀ j : Nat, j < 8 → mZ M1 (149 + t) j = mZ M 16 j) ∧ (∀ j : Nat, j < 8 → mZ M1 (166 + t) j = mZ M 17 j) ∧ mZ M1 182 t = c ∧ mZ M1 113 7 = (if s = 8 then 8 else s + 1 : Nat) ∧ mZ M1 113 8 = ((t + 1) % 16 : Nat)
def DLa (t i k : Nat) : Prop := DRe t i k ∨ (i = 78 ∧ ¬ k = 11) ∨ i = 79 ∨ i = 80 ∨ (74 ≤ i ∧ i ≤ 77) ∨ i = 12 ∨ i = 22 ∨ i = 16 ∨ i = 17
set_option maxHeartbeats 1000000 in
theorem x_launch {d s t : Nat} {M : qMe} {c : Int} (hW : Wo M) (hG : JG M) (hI : Rid M) (ht : isT M c) (hs : mZ M 113 7 = s) (hto : mZ M 113 8 = t) (s1 : s ≤ 8) (t1 : t < 16) : wI (cal (d + 6) 303 [.ref 113, .int (iz c)] M) (fun z M1 => Fr M M1 (DLa t) ∧ JG M1 ∧ ((z = 1 ∧ comeP M c) ∨ (z = 0 ∧ ¬ comeP M c)) ∧ mZ M1 78 4 = qp (castQ M (-1) c) ∧ LaX M M1 c ∧ RgX M M1 s t c) := by
  refine wI_q (fun P hP => ?_)
  have h := hW.1
  have hN := h.1
  have c1 := ht.1
  rw [cal_303, gd_t (Nat.le_of_ble_eq_true rfl)]
  change wp (n_303_0 (cal _) [some (.ref 113), some (.int (iz c)), none, none, none] [] _) _
  simp (disch := first | assumption | decide | omega) only [n_303_0, n_303_47, n_303_48, n_303_169, f_303_129, z_iconst, z_bipush, z_sipush, z_ldc, z_ldcs, z_ldcw, z_ldc2, z_lconst0, z_lconst1, z_null, z_getstatic, z_iload_0, z_iload_1, z_iload_2, z_iload_3, z_iload, z_istore_0, z_istore_1, z_istore_2, z_istore_3, z_istore, z_lload_0, z_lload_1, z_lload_2, z_lload_3, z_lload, z_lstore_0, z_lstore_1, z_lstore_2, z_lstore_3, z_lstore, z_aload_0, z_aload_1, z_aload_2, z_aload_3, z_aload, z_astore_0, z_astore_1, z_astore_2, z_astore_3, z_astore, ald_0, ald_s, z_iinc, qst1_1i, qst2_1i, qst1_1r, qst2_1r, qst1_1u, qst2_1u, qst1_1n, qst2_1n, qst1_1l, qst2_1l, qst1_0, qst2_0, qst1_s, qst2_s, z_iadd, z_isub, z_imul, z_iand, z_ior, z_ixor, z_ishl, z_ishr, z_idiv, z_irem, z_ladd, z_lsub, z_lmul, z_land, z_lor, z_ldiv, z_lrem, z_ineg, z_lshl, z_lshr, z_i2l, z_l2i, z_i2b, z_i2c, z_lcmp, z_dupi, z_dupr, z_popi, z_popr, z_dup2, z_goto, z_get0, z_get1, z_get2, z_get3, z_put0, z_put1, z_put2, z_put2n, z_put3, z_iaload, z_baload, z_laload, z_aaload, z_iastore, z_bastore, z_lastore, z_aastore, z_aastoren, z_arraylength, z_new, z_newarray, z_anewarray, z_multi, z_objinit, z_is0, z_iv0, z_ip0, z_is1, z_iv1, z_ip1, z_is2, z_iv2, z_ip2, z_is3, z_iv3, z_ip3, z_is4, z_iv4, z_ip4, z_is5, z_iv5, z_ip5, z_is6, z_iv6, z_ip6, z_is7, z_iv7, z_ip7, z_m991, z_m992, z_m993, z_m994, z_m995, z_m996, z_m998, acal_0, acal_1, acal_2, acal_3, acal_4, aK_v, aK_n, sF_c, sF_n, b_nr, b_nn, r_I, r_Z, r_L, r_A, r_V, sw_F, sw_n, gd_tt, is01_bzT, is01_0, is01_1, qrv_s, qrv_n, bi_eq_t, bi_eq_f, bi_ne_t, bi_ne_f, bi_lt_t, bi_lt_f, bi_ge_t, bi_ge_f, bi_gt_t, bi_gt_f, bi_le_t, bi_le_f, bc_eq_t, bc_eq_f, bc_ne_t, bc_ne_f, bc_lt_t, bc_lt_f, bc_ge_t, bc_ge_f, bc_gt_t, bc_gt_f, bc_le_t, bc_le_f, bb_eq_t, bb_eq_f, bb_ne_t, bb_ne_f, sc_t, sc_f, b_nr, b_nn, mI_J, mI_R, mJ_I, mJ_R, mR_I, mR_J, mK_I, mK_J, mK_R, mN_I, mN_J, mN_R, inM_I, inM_J, inM_R, mZ_nc, mZ_nk, mZ_sm, mZ_J, mZ_R, mJ_nc, mJ_ni, mJ_sm, mI_Z, iz_add, iz_sub, iz_mul, iz_neg, iz_lt, iz_le, iz_eq, iz_clamp, iz_inB, iz_div, iz_rem, shK h, shR h, inM_lit, and_self, true_and, and_true, true_or, or_true, not_true_eq_false, not_false_eq_true, Nat.reduceEqDiff, reduceCtorEq, Int.reduceNeg, Int.reduceSub, Int.reduceAdd, Int.reduceMul, Int.reduceToNat, Int.reduceEq, Int.neg_neg, Int.cast_ofNat_Int, Nat.reduceAdd, Nat.reduceMul, Nat.reduceSub, gd_t, emod_r, iz_0, Int.zero_add, Int.add_zero, wp_some]
  refine wp_cV (x_remember (d := d + 4) h hs hto s1 t1 c1) (fun M1 q1 => ?_)
  obtain ⟨hD1, p1, p2, p3, p4, p5, p6, p7⟩ := q1
  have F1 : Fr M M1 (DLa t) := (Fr.of hD1).mono (fun i k q => Or.inl q)
  have hW1 := Wo_k hW (Frm.of hD1) (fun i k q => by unfold DRe at q; unfold aside; omega)
  have h1 := hW1.1
  have hN1 := h1.1
  have hG1 : JG M1 := JG_k hG (Fr.of hD1) (fun i k q => by unfold DRe at q; omega)
  have hI1 : Rid M1 := Rid_z hI (fun i k q => hD1.z (by unfold DRe; omega))
  have k481 : ∀ k, mZ M1 481 k = mZ M 481 k := fun k => hD1.z (by unfold DRe; omega)
  have k493 : ∀ k, mZ M1 493 k = mZ M 493 k := fun k => hD1.z (by unfold DRe; omega)
  simp (disch := first | assumption | decide | omega) only [n_303_0, n_303_47, n_303_48, n_303_169, f_303_129, z_iconst, z_bipush, z_sipush, z_ldc, z_ldcs, z_ldcw, z_ldc2, z_lconst0, z_lconst1, z_null, z_getstatic, z_iload_0, z_iload_1, z_iload_2, z_iload_3, z_iload, z_istore_0, z_istore_1, z_istore_2, z_istore_3, z_istore, z_lload_0, z_lload_1, z_lload_2, z_lload_3, z_lload, z_lstore_0, z_lstore_1, z_lstore_2, z_lstore_3, z_lstore, z_aload_0, z_aload_1, z_aload_2, z_aload_3, z_aload, z_astore_0, z_astore_1, z_astore_2, z_astore_3, z_astore, ald_0, ald_s, z_iinc, qst1_1i, qst2_1i, qst1_1r, qst2_1r, qst1_1u, qst2_1u, qst1_1n, qst2_1n, qst1_1l, qst2_1l, qst1_0, qst2_0, qst1_s, qst2_s, z_iadd, z_isub, z_imul, z_iand, z_ior, z_ixor, z_ishl, z_ishr, z_idiv, z_irem, z_ladd, z_lsub, z_lmul, z_land, z_lor, z_ldiv, z_lrem, z_ineg, z_lshl, z_lshr, z_i2l, z_l2i, z_i2b, z_i2c, z_lcmp, z_dupi, z_dupr, z_popi, z_popr, z_dup2, z_goto, z_get0, z_get1, z_get2, z_get3, z_put0, z_put1, z_put2, z_put2n, z_put3, z_iaload, z_baload, z_laload, z_aaload, z_iastore, z_bastore, z_lastore, z_aastore, z_aastoren, z_arraylength, z_new, z_newarray, z_anewarray, z_multi, z_objinit, z_is0, z_iv0, z_ip0, z_is1, z_iv1, z_ip1, z_is2, z_iv2, z_ip2, z_is3, z_iv3, z_ip3, z_is4, z_iv4, z_ip4, z_is5, z_iv5, z_ip5, z_is6, z_iv6, z_ip6, z_is7, z_iv7, z_ip7, z_m991, z_m992, z_m993, z_m994, z_m995, z_m996, z_m998, acal_0, acal_1, acal_2, acal_3, acal_4, aK_v, aK_n, sF_c, sF_n, b_nr, b_nn, r_I, r_Z, r_L, r_A, r_V, sw_F, sw_n, gd_tt, is01_bzT, is01_0, is01_1, qrv_s, qrv_n, bi_eq_t, bi_eq_f, bi_ne_t, bi_ne_f, bi_lt_t, bi_lt_f, bi_ge_t, bi_ge_f, bi_gt_t, bi_gt_f, bi_le_t, bi_le_f, bc_eq_t, bc_eq_f, bc_ne_t, bc_ne_f, bc_lt_t, bc_lt_f, bc_ge_t, bc_ge_f, bc_gt_t, bc_gt_f, bc_le_t, bc_le_f, bb_eq_t, bb_eq_f, bb_ne_t, bb_ne_f, sc_t, sc_f, b_nr, b_nn, mI_J, mI_R, mJ_I, mJ_R, mR_I, mR_J, mK_I, mK_J, mK_R, mN_I, mN_J, mN_R, inM_I, inM_J, inM_R, mZ_nc, mZ_nk, mZ_sm, mZ_J, mZ_R, mJ_nc, mJ_ni, mJ_sm, mI_Z, iz_add, iz_sub, iz_mul, iz_neg, iz_lt, iz_le, iz_eq, iz_clamp, iz_inB, iz_div, iz_rem, shK h, shR h, inM_lit, and_self, true_and, and_true, true_or, or_true, not_true_eq_false, not_false_eq_true, Nat.reduceEqDiff, reduceCtorEq, Int.reduceNeg, Int.reduceSub, Int.reduceAdd, Int.reduceMul, Int.reduceToNat, Int.reduceEq, Int.neg_neg, Int.cast_ofNat_Int, Nat.reduceAdd, Nat.reduceMul, Nat.reduceSub, gd_t, emod_r, iz_0, Int.zero_add, Int.add_zero, wp_some, shK h1, shR h1]
  refine wp_cV (x_startCast (d := d + 3) hW1 hI1 (Or.inl rfl) (by rw [isT_k k481]; exact ht)) (fun M2 q2 => ?_)
  obtain ⟨hF2, hX2⟩ := q2
  rw [castS_k k481 k493] at hX2
  have F2 : Fr M M2 (DLa t) := F1.tr (hF2.mono (fun i k q => by unfold DSa at q; unfold DLa; omega))
  have hW2 := Wo_k hW1 hF2.frm (fun i k q => by unfold DSa at q; unfold aside; omega)
  have h2 := hW2.1
  have hN2 := h2.1
  have hG2 : JG M2 := JG_k hG1 hF2 (fun i k q => by unfold DSa at q; omega)
  have l481 : ∀ k, mZ M2 481 k = mZ M 481 k := fun k => F2.z (by unfold DLa DRe; omega)
  have l493 : ∀ k, mZ M2 493 k = mZ M 493 k := fun k => F2.z (by unfold DLa DRe; omega)
  have t3 := ht.2.2.1
  simp (disch := first | assumption | decide | omega) only [n_303_0, n_303_47, n_303_48, n_303_169, f_303_129, z_iconst, z_bipush, z_sipush, z_ldc, z_ldcs, z_ldcw, z_ldc2, z_lconst0, z_lconst1, z_null, z_getstatic, z_iload_0, z_iload_1, z_iload_2, z_iload_3, z_iload, z_istore_0, z_istore_1, z_istore_2, z_istore_3, z_istore, z_lload_0, z_lload_1, z_lload_2, z_lload_3, z_lload, z_lstore_0, z_lstore_1, z_lstore_2, z_lstore_3, z_lstore, z_aload_0, z_aload_1, z_aload_2, z_aload_3, z_aload, z_astore_0, z_astore_1, z_astore_2, z_astore_3, z_astore, ald_0, ald_s, z_iinc, qst1_1i, qst2_1i, qst1_1r, qst2_1r, qst1_1u, qst2_1u, qst1_1n, qst2_1n, qst1_1l, qst2_1l, qst1_0, qst2_0, qst1_s, qst2_s, z_iadd, z_isub, z_imul, z_iand, z_ior, z_ixor, z_ishl, z_ishr, z_idiv, z_irem, z_ladd, z_lsub, z_lmul, z_land, z_lor, z_ldiv, z_lrem, z_ineg, z_lshl, z_lshr, z_i2l, z_l2i, z_i2b, z_i2c, z_lcmp, z_dupi, z_dupr, z_popi, z_popr, z_dup2, z_goto, z_get0, z_get1, z_get2, z_get3, z_put0, z_put1, z_put2, z_put2n, z_put3, z_iaload, z_baload, z_laload, z_aaload, z_iastore, z_bastore, z_lastore, z_aastore, z_aastoren, z_arraylength, z_new, z_newarray, z_anewarray, z_multi, z_objinit, z_is0, z_iv0, z_ip0, z_is1, z_iv1, z_ip1, z_is2, z_iv2, z_ip2, z_is3, z_iv3, z_ip3, z_is4, z_iv4, z_ip4, z_is5, z_iv5, z_ip5, z_is6, z_iv6, z_ip6, z_is7, z_iv7, z_ip7, z_m991, z_m992, z_m993, z_m994, z_m995, z_m996, z_m998, acal_0, acal_1, acal_2, acal_3, acal_4, aK_v, aK_n, sF_c, sF_n, b_nr, b_nn, r_I, r_Z, r_L, r_A, r_V, sw_F, sw_n, gd_tt, is01_bzT, is01_0, is01_1, qrv_s, qrv_n, bi_eq_t, bi_eq_f, bi_ne_t, bi_ne_f, bi_lt_t, bi_lt_f, bi_ge_t, bi_ge_f, bi_gt_t, bi_gt_f, bi_le_t, bi_le_f, bc_eq_t, bc_eq_f, bc_ne_t, bc_ne_f, bc_lt_t, bc_lt_f, bc_ge_t, bc_ge_f, bc_gt_t, bc_gt_f, bc_le_t, bc_le_f, bb_eq_t, bb_eq_f, bb_ne_t, bb_ne_f, sc_t, sc_f, b_nr, b_nn, mI_J, mI_R, mJ_I, mJ_R, mR_I, mR_J, mK_I, mK_J, mK_R, mN_I, mN_J, mN_R, inM_I, inM_J, inM_R, mZ_nc, mZ_nk, mZ_sm, mZ_J, mZ_R, mJ_nc, mJ_ni, mJ_sm, mI_Z, iz_add, iz_sub, iz_mul, iz_neg, iz_lt, iz_le, iz_eq, iz_clamp, iz_inB, iz_div, iz_rem, shK h, shR h, inM_lit, and_self, true_and, and_true, true_or, or_true, not_true_eq_false, not_false_eq_true, Nat.reduceEqDiff, reduceCtorEq, Int.reduceNeg, Int.reduceSub, Int.reduceAdd, Int.reduceMul, Int.reduceToNat, Int.reduceEq, Int.neg_neg, Int.cast_ofNat_Int, Nat.reduceAdd, Nat.reduceMul, Nat.reduceSub, gd_t, emod_r, iz_0, Int.zero_add, Int.add_zero, wp_some, shK h2, shR h2]
  refine wp_cV (x_rollOut (d := d) (wall := -1) hW2 hG2 (Or.inl rfl) hX2 (castS_I hW.2.1 ht) (by rw [F2.z (by unfold DLa DRe; omega)]; exact hI.1.1) (by rw [l481]; omega)) (fun M3 q3 => ?_)
  obtain ⟨hF3, hG3, hW3, hX3, hQ⟩ := q3
  have eQ : rollP M2 (c / 160) (-1) 60 (castS M c) = castQ M (-1) c := rollP_k l481 60 _
  rw [eQ] at hX3 hQ
  have F3 : Fr M M3 (DLa t) := F2.tr (hF3.mono (fun i k q => by unfold DRo at q; unfold DLa; omega))
  have m481 : ∀ k, mZ M3 481 k = mZ M 481 k := fun k => F3.z (by unfold DLa DRe; omega)
  have h3 := hW3.1
  have hN3 := h3.1
  simp (disch := first | assumption | decide | omega) only [n_303_0, n_303_47, n_303_48, n_303_169, f_303_129, z_iconst, z_bipush, z_sipush, z_ldc, z_ldcs, z_ldcw, z_ldc2, z_lconst0, z_lconst1, z_null, z_getstatic, z_iload_0, z_iload_1, z_iload_2, z_iload_3, z_iload, z_istore_0, z_istore_1, z_istore_2, z_istore_3, z_istore, z_lload_0, z_lload_1, z_lload_2, z_lload_3, z_lload, z_lstore_0, z_lstore_1, z_lstore_2, z_lstore_3, z_lstore, z_aload_0, z_aload_1, z_aload_2, z_aload_3, z_aload, z_astore_0, z_astore_1, z_astore_2, z_astore_3, z_astore, ald_0, ald_s, z_iinc, qst1_1i, qst2_1i, qst1_1r, qst2_1r, qst1_1u, qst2_1u, qst1_1n, qst2_1n, qst1_1l, qst2_1l, qst1_0, qst2_0, qst1_s, qst2_s, z_iadd, z_isub, z_imul, z_iand, z_ior, z_ixor, z_ishl, z_ishr, z_idiv, z_irem, z_ladd, z_lsub, z_lmul, z_land, z_lor, z_ldiv, z_lrem, z_ineg, z_lshl, z_lshr, z_i2l, z_l2i, z_i2b, z_i2c, z_lcmp, z_dupi, z_dupr, z_popi, z_popr, z_dup2, z_goto, z_get0, z_get1, z_get2, z_get3, z_put0, z_put1, z_put2, z_put2n, z_put3, z_iaload, z_baload, z_laload, z_aaload, z_iastore, z_bastore, z_lastore, z_aastore, z_aastoren, z_arraylength, z_new, z_newarray, z_anewarray, z_multi, z_objinit, z_is0, z_iv0, z_ip0, z_is1, z_iv1, z_ip1, z_is2, z_iv2, z_ip2, z_is3, z_iv3, z_ip3, z_is4, z_iv4, z_ip4, z_is5, z_iv5, z_ip5, z_is6, z_iv6, z_ip6, z_is7, z_iv7, z_ip7, z_m991, z_m992, z_m993, z_m994, z_m995, z_m996, z_m998, acal_0, acal_1, acal_2, acal_3, acal_4, aK_v, aK_n, sF_c, sF_n, b_nr, b_nn, r_I, r_Z, r_L, r_A, r_V, sw_F, sw_n, gd_tt, is01_bzT, is01_0, is01_1, qrv_s, qrv_n, bi_eq_t, bi_eq_f, bi_ne_t, bi_ne_f, bi_lt_t, bi_lt_f, bi_ge_t, bi_ge_f, bi_gt_t, bi_gt_f, bi_le_t, bi_le_f, bc_eq_t, bc_eq_f, bc_ne_t, bc_ne_f, bc_lt_t, bc_lt_f, bc_ge_t, bc_ge_f, bc_gt_t, bc_gt_f, bc_le_t, bc_le_f, bb_eq_t, bb_eq_f, bb_ne_t, bb_ne_f, sc_t, sc_f, b_nr, b_nn, mI_J, mI_R, mJ_I, mJ_R, mR_I, mR_J, mK_I, mK_J, mK_R, mN_I, mN_J, mN_R, inM_I, inM_J, inM_R, mZ_nc, mZ_nk, mZ_sm, mZ_J, mZ_R, mJ_nc, mJ_ni, mJ_sm, mI_Z, iz_add, iz_sub, iz_mul, iz_neg, iz_lt, iz_le, iz_eq, iz_clamp, iz_inB, iz_div, iz_rem, shK h, shR h, inM_lit, and_self, true_and, and_true, true_or, or_true, not_true_eq_false, not_false_eq_true, Nat.reduceEqDiff, reduceCtorEq, Int.reduceNeg, Int.reduceSub, Int.reduceAdd, Int.reduceMul, Int.reduceToNat, Int.reduceEq, Int.neg_neg, Int.cast_ofNat_Int, Nat.reduceAdd, Nat.reduceMul, Nat.reduceSub, gd_t, emod_r, iz_0, Int.zero_add, Int.add_zero, wp_some, shK h3, shR h3]
  refine wp_cI (x_isEaten (d := d + 2) hW3 hG3 (Or.inl rfl) hX3 hQ (by rw [m481]; omega)) (fun z M4 q4 => ?_)
  obtain ⟨hz, hD4⟩ := q4
  rw [tau_k m481] at hz
  have F4 : Fr M M4 (DLa t) := F3.tr ((Fr.of hD4).mono (fun i k q => by unfold DLa; omega))
  have hW4 := Wo_k hW3 (Frm.of hD4) (fun i k q => by unfold aside; omega)
  have h4 := hW4.1
  have hN4 := h4.1
  have hG4 : JG M4 := JG_k hG3 (Fr.of hD4) (fun i k q => by omega)
  have hql := castQ_QL (wall := -1) hW ht
  have n481 : ∀ k, mZ M4 481 k = mZ M 481 k := fun k => F4.z (by unfold DLa DRe; omega)
  -- what stays from M to M4
  have b12 : ∀ j, mZ M4 12 j = mZ M 12 j := fun j => by rw [hD4.z (by omega), hF3.z (by unfold DRo; omega), hF2.z (by unfold DSa; omega), hD1.z (by unfold DRe; omega)]
  have b22 : ∀ j, mZ M4 22 j = mZ M 22 j := fun j => by rw [hD4.z (by omega), hF3.z (by unfold DRo; omega), hF2.z (by unfold DSa; omega), hD1.z (by unfold DRe; omega)]
  have b16 : ∀ j, mZ M4 16 j = mZ M 16 j := fun j => by rw [hD4.z (by omega), hF3.z (by unfold DRo; omega), hF2.z (by unfold DSa; omega), hD1.z (by unfold DRe; omega)]
  have b17 : ∀ j, mZ M4 17 j = mZ M 17 j := fun j => by rw [hD4.z (by omega), hF3.z (by unfold DRo; omega), hF2.z (by unfold DSa; omega), hD1.z (by unfold DRe; omega)]
  have br : ∀ i k, 113 ≤ i → i ≤ 182 → mZ M4 i k = mZ M1 i k := fun i k g1 g2 => by rw [hD4.z (by omega), hF3.z (by unfold DRo; omega), hF2.z (by unfold DSa; omega)]
  have hX4 : RAt M4 78 (qp (castQ M (-1) c)) (qd (castQ M (-1) c)) (qs (castQ M (-1) c)) (c / 160) (qn (castQ M (-1) c)) ((ql (castQ M (-1) c)).length : Int) (qy (castQ M (-1) c)) := by
    obtain ⟨a1, a2, a3, a4, a5, a6, a7⟩ := hX3.1
    exact ⟨(hD4.z (by omega)).trans a1, (hD4.z (by omega)).trans a2, (hD4.z (by omega)).trans a3, (hD4.z (by omega)).trans a4, (hD4.z (by omega)).trans a5, (hD4.z (by omega)).trans a6, (hD4.z (by omega)).trans a7⟩
  have hL4 : ∀ (j : Nat) (x : Int), (ql (castQ M (-1) c))[j]? = some x → mZ M4 80 j = x := fun j x q => (hD4.z (by omega)).trans (hX3.2.1 j x q)
  have len : (ql (castQ M (-1) c)).length ≤ 60 := by
    have := hQ.2.2.2.2.2.2.1
    have := hQ.2.2.2.1
    omega
  -- the last stretch, the same on all ways
  have last : ∀ (v2 v3 : Int) (M5 : qMe), (v3 = 0 ∨ v3 = 1) → ((v3 = 1 ∧ comeP M c) ∨ (v3 = 0 ∧ ¬ comeP M c)) → Dif M4 M5 (fun i _ => i = 16 ∨ i = 17) → (∀ j : Nat, j < 8 → mZ M5 16 j = upn (comeP M c) (comeV M c) (mZ M 16) j) → (∀ j : Nat, j < 8 → mZ M5 17 j = upn (eatP M c) (comeV M c) (mZ M 17) j) → wp (n_303_126 (cal (d + 5)) [some (.ref 113), some (.int (iz c)), some (.int (iz v2)), some (.int (iz v3)), none] [] M5) P := by
    intro v2 v3 M5 hv hc hD5 u1 u2
    refine x_launch126 (d := d + 4) (Q := castQ M (-1) c) (hD5.shp h4 (fun i k hi => by omega)) c1 ((hD5.z (by omega)).trans hX4.2.2.2.2.2.1) len (fun j x q => (hD5.z (by omega)).trans (hL4 j x q)) hql hv (fun M6 F6 g1 g2 => ?_)
    have F5 : Fr M4 M6 (fun i _ => i = 12 ∨ i = 22 ∨ i = 16 ∨ i = 17) := ((Fr.of hD5).mono (fun i k q => by omega)).tr (F6.mono (fun i k q => by omega))
    refine hP v3 M6 ⟨F4.tr (F5.mono (fun i k q => by unfold DLa; omega)), JG_k hG4 F5 (fun i k q => by omega), hc, (F5.z (by omega)).trans hX4.1, ⟨fun j q => ?_, fun j q => ?_, fun j q => ?_, fun j q => ?_⟩, fun j q => ?_, fun j q => ?_, fun j q => ?_, fun j q => ?_, ?_, ?_, ?_⟩
    · rw [g1 j q]
      unfold cut0
      rw [hD5.z (by omega), b12]
    · rw [g2 j q, hD5.z (by omega), b22]
    · rw [F6.z (by omega)]; exact u1 j q
    · rw [F6.z (by omega)]; exact u2 j q
    · rw [F5.z (by omega), br _ _ (by omega) (by omega)]; exact p1 j q
    · rw [F5.z (by omega), br _ _ (by omega) (by omega)]; exact p2 j q
    · rw [F5.z (by omega), br _ _ (by omega) (by omega)]; exact p3 j q
    · rw [F5.z (by omega), br _ _ (by omega) (by omega)]; exact p4 j q
    · rw [F5.z (by omega), br _ _ (by omega) (by omega)]; exact p5
    · rw [F5.z (by omega), br _ _ (by omega) (by omega)]; exact p6
    · rw [F5.z (by omega), br _ _ (by omega) (by omega)]; exact p7
  have yb := hQ.2.2.2.2.1
  have w7 := hX4.2.2.2.2.2.2
  have w1 := hX4.1
  by_cases y2 : qy (castQ M (-1) c) = 2
  · have p8 := hQ.2.2.2.2.2.2.2.2.2 y2
    have p0 := hQ.1.1
    have x4 := (Ra_iff.mp hW4.2.2.1).2.2.2.2.2.2.2.2.2.2.2.2.2.2.2.1.1 (qp (castQ M (-1) c)) p0 p8.1
    have x4 : mZ M4 13 (qp (castQ M (-1) c)).toNat = hAt M4 481 0 (qp (castQ M (-1) c)) := x4
    rw [hAt_eq n481] at x4
    have x4 : mZ M4 13 (qp (castQ M (-1) c)).toNat = comeV M c := x4
    have vb := hAt_lt (M := M) (c := qp (castQ M (-1) c)) (WFk_s hW.2.1).1
    have vb : -1 ≤ comeV M c ∧ comeV M c < 8 := vb
    have vn : ¬ comeV M c = -1 := castQ_home hW ht y2
    rw [if_pos y2] at hz
    rcases tau_01 (M := M) (kk := 3) (cell := qp (castQ M (-1) c)) (w := c / 160) (sp := qs (castQ M (-1) c)) (by decide) with t | t
    · have co : comeP M c := ⟨y2, by omega⟩
      have ne : ¬ eatP M c := fun z => z.2 co
      have fin := last 0 1 (qsI M4 16 (comeV M c).toNat (iz (mZ M 16 (comeV M c).toNat + 1))) (Or.inr rfl) (Or.inl ⟨rfl, co⟩) (Dif.rfl'.I (Or.inl rfl)) (fun j q => by
        by_cases ej : (j : Int) = comeV M c
        · rw [upn_t co ej, show j = (comeV M c).toNat by omega, mZ_I, if_pos rfl, if_pos rfl]; rfl
        · rw [upn_n ej, mZ_nk (by omega), b16]) (fun j q => by rw [mZ_nc (by decide), b17, upn_f ne])
      rw [t] at hz
      subst hz
      generalize comeV M c = hv at *
      generalize castQ M (-1) c = Q at *
      simp (disch := first | assumption | decide | omega) only [n_303_0, n_303_47, n_303_48, n_303_169, f_303_129, z_iconst, z_bipush, z_sipush, z_ldc, z_ldcs, z_ldcw, z_ldc2, z_lconst0, z_lconst1, z_null, z_getstatic, z_iload_0, z_iload_1, z_iload_2, z_iload_3, z_iload, z_istore_0, z_istore_1, z_istore_2, z_istore_3, z_istore, z_lload_0, z_lload_1, z_lload_2, z_lload_3, z_lload, z_lstore_0, z_lstore_1, z_lstore_2, z_lstore_3, z_lstore, z_aload_0, z_aload_1, z_aload_2, z_aload_3, z_aload, z_astore_0, z_astore_1, z_astore_2, z_astore_3, z_astore, ald_0, ald_s, z_iinc, qst1_1i, qst2_1i, qst1_1r, qst2_1r, qst1_1u, qst2_1u, qst1_1n, qst2_1n, qst1_1l, qst2_1l, qst1_0, qst2_0, qst1_s, qst2_s, z_iadd, z_isub, z_imul, z_iand, z_ior, z_ixor, z_ishl, z_ishr, z_idiv, z_irem, z_ladd, z_lsub, z_lmul, z_land, z_lor, z_ldiv, z_lrem, z_ineg, z_lshl, z_lshr, z_i2l, z_l2i, z_i2b, z_i2c, z_lcmp, z_dupi, z_dupr, z_popi, z_popr, z_dup2, z_goto, z_get0, z_get1, z_get2, z_get3, z_put0, z_put1, z_put2, z_put2n, z_put3, z_iaload, z_baload, z_laload, z_aaload, z_iastore, z_bastore, z_lastore, z_aastore, z_aastoren, z_arraylength, z_new, z_newarray, z_anewarray, z_multi, z_objinit, z_is0, z_iv0, z_ip0, z_is1, z_iv1, z_ip1, z_is2, z_iv2, z_ip2, z_is3, z_iv3, z_ip3, z_is4, z_iv4, z_ip4, z_is5, z_iv5, z_ip5, z_is6, z_iv6, z_ip6, z_is7, z_iv7, z_ip7, z_m991, z_m992, z_m993, z_m994, z_m995, z_m996, z_m998, acal_0, acal_1, acal_2, acal_3, acal_4, aK_v, aK_n, sF_c, sF_n, b_nr, b_nn, r_I, r_Z, r_L, r_A, r_V, sw_F, sw_n, gd_tt, is01_bzT, is01_0, is01_1, qrv_s, qrv_n, bi_eq_t, bi_eq_f, bi_ne_t, bi_ne_f, bi_lt_t, bi_lt_f, bi_ge_t, bi_ge_f, bi_gt_t, bi_gt_f, bi_le_t, bi_le_f, bc_eq_t, bc_eq_f, bc_ne_t, bc_ne_f, bc_lt_t, bc_lt_f, bc_ge_t, bc_ge_f, bc_gt_t, bc_gt_f, bc_le_t, bc_le_f, bb_eq_t, bb_eq_f, bb_ne_t, bb_ne_f, sc_t, sc_f, b_nr, b_nn, mI_J, mI_R, mJ_I, mJ_R, mR_I, mR_J, mK_I, mK_J, mK_R, mN_I, mN_J, mN_R, inM_I, inM_J, inM_R, mZ_nc, mZ_nk, mZ_sm, mZ_J, mZ_R, mJ_nc, mJ_ni, mJ_sm, mI_Z, iz_add, iz_sub, iz_mul, iz_neg, iz_lt, iz_le, iz_eq, iz_clamp, iz_inB, iz_div, iz_rem, shK h, shR h, inM_lit, and_self, true_and, and_true, true_or, or_true, not_true_eq_false, not_false_eq_true, Nat.reduceEqDiff, reduceCtorEq, Int.reduceNeg, Int.reduceSub, Int.reduceAdd, Int.reduceMul, Int.reduceToNat, Int.reduceEq, Int.neg_neg, Int.cast_ofNat_Int, Nat.reduceAdd, Nat.reduceMul, Nat.reduceSub, gd_t, emod_r, iz_0, Int.zero_add, Int.add_zero, wp_some, shK h4, shR h4, w7, w1, x4, b16]
      exact fin
    · have nc : ¬ comeP M c := fun z => z.2 t
      have ne : eatP M c := ⟨y2, nc⟩
      have fin := last 1 0 (qsI M4 17 (comeV M c).toNat (iz (mZ M 17 (comeV M c).toNat + 1))) (Or.inl rfl) (Or.inr ⟨rfl, nc⟩) (Dif.rfl'.I (Or.inr rfl)) (fun j q => by rw [mZ_nc (by decide), b16, upn_f nc]) (fun j q => by
        by_cases ej : (j : Int) = comeV M c
        · rw [upn_t ne ej, show j = (comeV M c).toNat by omega, mZ_I, if_pos rfl, if_pos rfl]; rfl
        · rw [upn_n ej, mZ_nk (by omega), b17])
      rw [t] at hz
      subst hz
      generalize comeV M c = hv at *
      generalize castQ M (-1) c = Q at *
      simp (disch := first | assumption | decide | omega) only [n_303_0, n_303_47, n_303_48, n_303_169, f_303_129, z_iconst, z_bipush, z_sipush, z_ldc, z_ldcs, z_ldcw, z_ldc2, z_lconst0, z_lconst1, z_null, z_getstatic, z_iload_0, z_iload_1, z_iload_2, z_iload_3, z_iload, z_istore_0, z_istore_1, z_istore_2, z_istore_3, z_istore, z_lload_0, z_lload_1, z_lload_2, z_lload_3, z_lload, z_lstore_0, z_lstore_1, z_lstore_2, z_lstore_3, z_lstore, z_aload_0, z_aload_1, z_aload_2, z_aload_3, z_aload, z_astore_0, z_astore_1, z_astore_2, z_astore_3, z_astore, ald_0, ald_s, z_iinc, qst1_1i, qst2_1i, qst1_1r, qst2_1r, qst1_1u, qst2_1u, qst1_1n, qst2_1n, qst1_1l, qst2_1l, qst1_0, qst2_0, qst1_s, qst2_s, z_iadd, z_isub, z_imul, z_iand, z_ior, z_ixor, z_ishl, z_ishr, z_idiv, z_irem, z_ladd, z_lsub, z_lmul, z_land, z_lor, z_ldiv, z_lrem, z_ineg, z_lshl, z_lshr, z_i2l, z_l2i, z_i2b, z_i2c, z_lcmp, z_dupi, z_dupr, z_popi, z_popr, z_dup2, z_goto, z_get0, z_get1, z_get2, z_get3, z_put0, z_put1, z_put2, z_put2n, z_put3, z_iaload, z_baload, z_laload, z_aaload, z_iastore, z_bastore, z_lastore, z_aastore, z_aastoren, z_arraylength, z_new, z_newarray, z_anewarray, z_multi, z_objinit, z_is0, z_iv0, z_ip0, z_is1, z_iv1, z_ip1, z_is2, z_iv2, z_ip2, z_is3, z_iv3, z_ip3, z_is4, z_iv4, z_ip4, z_is5, z_iv5, z_ip5, z_is6, z_iv6, z_ip6, z_is7, z_iv7, z_ip7, z_m991, z_m992, z_m993, z_m994, z_m995, z_m996, z_m998, acal_0, acal_1, acal_2, acal_3, acal_4, aK_v, aK_n, sF_c, sF_n, b_nr, b_nn, r_I, r_Z, r_L, r_A, r_V, sw_F, sw_n, gd_tt, is01_bzT, is01_0, is01_1, qrv_s, qrv_n, bi_eq_t, bi_eq_f, bi_ne_t, bi_ne_f, bi_lt_t, bi_lt_f, bi_ge_t, bi_ge_f, bi_gt_t, bi_gt_f, bi_le_t, bi_le_f, bc_eq_t, bc_eq_f, bc_ne_t, bc_ne_f, bc_lt_t, bc_lt_f, bc_ge_t, bc_ge_f, bc_gt_t, bc_gt_f, bc_le_t, bc_le_f, bb_eq_t, bb_eq_f, bb_ne_t, bb_ne_f, sc_t, sc_f, b_nr, b_nn, mI_J, mI_R, mJ_I, mJ_R, mR_I, mR_J, mK_I, mK_J, mK_R, mN_I, mN_J, mN_R, inM_I, inM_J, inM_R, mZ_nc, mZ_nk, mZ_sm, mZ_J, mZ_R, mJ_nc, mJ_ni, mJ_sm, mI_Z, iz_add, iz_sub, iz_mul, iz_neg, iz_lt, iz_le, iz_eq, iz_clamp, iz_inB, iz_div, iz_rem, shK h, shR h, inM_lit, and_self, true_and, and_true, true_or, or_true, not_true_eq_false, not_false_eq_true, Nat.reduceEqDiff, reduceCtorEq, Int.reduceNeg, Int.reduceSub, Int.reduceAdd, Int.reduceMul, Int.reduceToNat, Int.reduceEq, Int.neg_neg, Int.cast_ofNat_Int, Nat.reduceAdd, Nat.reduceMul, Nat.reduceSub, gd_t, emod_r, iz_0, Int.zero_add, Int.add_zero, wp_some, shK h4, shR h4, w7, w1, x4, b17]
      exact fin
  · have nc : ¬ comeP M c := fun z => y2 z.1
    have ne : ¬ eatP M c := fun z => y2 z.1
    have fin := last 0 0 M4 (Or.inl rfl) (Or.inr ⟨rfl, nc⟩) Dif.rfl' (fun j q => by rw [b16, upn_f nc]) (fun j q => by rw [b17, upn_f ne])
    rw [if_neg y2] at hz
    subst hz
    generalize castQ M (-1) c = Q at *
    simp (disch := first | assumption | decide | omega) only [n_303_0, n_303_47, n_303_48, n_303_169, f_303_129, z_iconst, z_bipush, z_sipush, z_ldc, z_ldcs, z_ldcw, z_ldc2, z_lconst0, z_lconst1, z_null, z_getstatic, z_iload_0, z_iload_1, z_iload_2, z_iload_3, z_iload, z_istore_0, z_istore_1, z_istore_2, z_istore_3, z_istore, z_lload_0, z_lload_1, z_lload_2, z_lload_3, z_lload, z_lstore_0, z_lstore_1, z_lstore_2, z_lstore_3, z_lstore, z_aload_0, z_aload_1, z_aload_2, z_aload_3, z_aload, z_astore_0, z_astore_1, z_astore_2, z_astore_3, z_astore, ald_0, ald_s, z_iinc, qst1_1i, qst2_1i, qst1_1r, qst2_1r, qst1_1u, qst2_1u, qst1_1n, qst2_1n, qst1_1l, qst2_1l, qst1_0, qst2_0, qst1_s, qst2_s, z_iadd, z_isub, z_imul, z_iand, z_ior, z_ixor, z_ishl, z_ishr, z_idiv, z_irem, z_ladd, z_lsub, z_lmul, z_land, z_lor, z_ldiv, z_lrem, z_ineg, z_lshl, z_lshr, z_i2l, z_l2i, z_i2b, z_i2c, z_lcmp, z_dupi, z_dupr, z_popi, z_popr, z_dup2, z_goto, z_get0, z_get1, z_get2, z_get3, z_put0, z_put1, z_put2, z_put2n, z_put3, z_iaload, z_baload, z_laload, z_aaload, z_iastore, z_bastore, z_lastore, z_aastore, z_aastoren, z_arraylength, z_new, z_newarray, z_anewarray, z_multi, z_objinit, z_is0, z_iv0, z_ip0, z_is1, z_iv1, z_ip1, z_is2, z_iv2, z_ip2, z_is3, z_iv3, z_ip3, z_is4, z_iv4, z_ip4, z_is5, z_iv5, z_ip5, z_is6, z_iv6, z_ip6, z_is7, z_iv7, z_ip7, z_m991, z_m992, z_m993, z_m994, z_m995, z_m996, z_m998, acal_0, acal_1, acal_2, acal_3, acal_4, aK_v, aK_n, sF_c, sF_n, b_nr, b_nn, r_I, r_Z, r_L, r_A, r_V, sw_F, sw_n, gd_tt, is01_bzT, is01_0, is01_1, qrv_s, qrv_n, bi_eq_t, bi_eq_f, bi_ne_t, bi_ne_f, bi_lt_t, bi_lt_f, bi_ge_t, bi_ge_f, bi_gt_t, bi_gt_f, bi_le_t, bi_le_f, bc_eq_t, bc_eq_f, bc_ne_t, bc_ne_f, bc_lt_t, bc_lt_f, bc_ge_t, bc_ge_f, bc_gt_t, bc_gt_f, bc_le_t, bc_le_f, bb_eq_t, bb_eq_f, bb_ne_t, bb_ne_f, sc_t, sc_f, b_nr, b_nn, mI_J, mI_R, mJ_I, mJ_R, mR_I, mR_J, mK_I, mK_J, mK_R, mN_I, mN_J, mN_R, inM_I, inM_J, inM_R, mZ_nc, mZ_nk, mZ_sm, mZ_J, mZ_R, mJ_nc, mJ_ni, mJ_sm, mI_Z, iz_add, iz_sub, iz_mul, iz_neg, iz_lt, iz_le, iz_eq, iz_clamp, iz_inB, iz_div, iz_rem, shK h, shR h, inM_lit, and_self, true_and, and_true, true_or, or_true, not_true_eq_false, not_false_eq_true, Nat.reduceEqDiff, reduceCtorEq, Int.reduceNeg, Int.reduceSub, Int.reduceAdd, Int.reduceMul, Int.reduceToNat, Int.reduceEq, Int.neg_neg, Int.cast_ofNat_Int, Nat.reduceAdd, Nat.reduceMul, Nat.reduceSub, gd_t, emod_r, iz_0, Int.zero_add, Int.add_zero, wp_some, shK h4, shR h4, w7]
    exact fin

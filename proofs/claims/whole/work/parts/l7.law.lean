/-! law, on both sides -/
def DLf (i k : Nat) : Prop := DPx i k ∨ (i = 8 ∧ (k = 4 ∨ k = 6))
def DLx (i k : Nat) : Prop := DLf i k ∨ (i = 9 ∧ k = 12)
def is4 (is : List Itm) : Prop := is.length ≤ 12 ∧ ∀ it, it ∈ is → it.2.1.length ≤ 4
/-- what is known of a text well read -/
theorem rTK_ok {b : Nat → Int} {n : Nat} {law : Bool} (hn : n ≤ 400) (h : (rTK b n law).1 = true) : (rTK b n law).2.2.2.1.length ≤ 400 ∧ is4 (rTK b n law).2.2.2.2 := by
  have nl := nTK_n (b := b) (n := n)
  cases hR : rTK b n law with
  | mk rb R =>
  obtain ⟨p1, q1, cs, is⟩ := R
  rw [hR] at h
  have h : rb = true := h
  subst h
  have hR : pTxt (cTK b n) (vTK b n) law (nTK b n) 12 0 0 0 = (true, p1, q1, cs, is) := hR
  have a := pTxt_all cTK_0 (fun p => (vTK_b p).1) 12 0 0 0 p1 q1 cs is (Nat.zero_le _) (by omega) hR
  refine ⟨by have := a.1; show cs.length ≤ 400; omega, a.1.2.2.2.1, fun it hit => ?_⟩
  have l4 := (a.2.1 it hit).2.2.2.2
  cases hs : seps law it.1 with
  | none =>
    rw [hs] at l4
    have l4 : it.2.1 = [] := l4
    rw [l4, List.length_nil]
    omega
  | some ss =>
    rw [hs] at l4
    have l4 : it.2.1.length = ss.length + 1 := l4
    have := (seps_l hs).1
    omega
set_option maxHeartbeats 2000000 in
theorem c_law {d n cnt : Nat} {M : qMe} (h : shp M) (ht : mZ M 8 4 = (n : Int)) (hn : n ≤ 400) (hb : ∀ j : Nat, j < n → 0 ≤ mZ M 71 j ∧ mZ M 71 j ≤ 255) (hc : mZ M 9 12 = (cnt : Int)) (c6 : cnt ≤ 6) : wI (cal (d + 97) 16 [.ref 8] M) (fun z M1 => (cnt = 6 ∧ z = -5 ∧ M1 = xrf (qsI M 8 4 (iz 0)) (-5)) ∨ (cnt < 6 ∧ (rTK (mZ M 71) n true).1 = false ∧ z = -6 ∧ ∃ Mp, Dif M Mp DLf ∧ mZ Mp 8 4 = 0 ∧ mZ Mp 8 6 = ((sTK (mZ M 71) n (rTK (mZ M 71) n true).2.1 : Nat) : Int) ∧ M1 = xrf Mp (-6)) ∨ (cnt < 6 ∧ (rTK (mZ M 71) n true).1 = true ∧ z = (cnt : Int) ∧ ∃ Mp, mN Mp = mN M + 6 ∧ Frg M Mp DLx (fun i k => i = 26 ∧ k = cnt) ∧ mZ Mp 8 4 = 0 ∧ mZ Mp 8 6 = -1 ∧ mZ Mp 9 12 = (cnt : Int) + 1 ∧ mR Mp 26 cnt = some (mN M) ∧ TextR Mp (mN M) (mN M + 1) (mN M + 2) (mN M + 3) (mN M + 4) (mN M + 5) (rTK (mZ M 71) n true).2.2.2.1 (rTK (mZ M 71) n true).2.2.2.2 ∧ (∀ i, mN M ≤ i → i < mN M + 6 → (mK Mp i).2 ≤ 600) ∧ M1 = qsI Mp 8 8 (iz 0))) := by
  refine wI_q (fun P hP => ?_)
  have hN := h.1
  show wp (cal ((d + 96) + 1) 16 [.ref 8] M) P
  rw [cal_16, gd_t (Nat.le_of_ble_eq_true rfl)]
  change wp (n_16_0 (cal _) [some (.ref 8), none] [] _) _
  have D1 : Dif M (qsI M 8 4 (iz 0)) DLf := Dif.rfl'.I (Or.inr ⟨rfl, Or.inl rfl⟩)
  have D8 : ∀ i k, i < 8 → ¬ DLf i k := fun i k hi => by unfold DLf DPx DCu DPa DRy; omega
  have h1 := D1.shp h D8
  have hN1 := h1.1
  by_cases c : cnt = 6
  · have cI : (cnt : Int) = 6 := by omega
    have re := c_refused (d := d + 95) (b := -5) h1 (by unfold isrf; omega)
    rw [show d + 95 + 1 = d + 96 by omega] at re
    have fin := hP (-5) _ (Or.inl ⟨c, rfl, rfl⟩)
    simp (disch := first | assumption | decide | omega) only [n_16_0, z_iconst, z_bipush, z_sipush, z_ldc, z_ldcs, z_ldcw, z_ldc2, z_lconst0, z_lconst1, z_null, z_getstatic, z_iload_0, z_iload_1, z_iload_2, z_iload_3, z_iload, z_istore_0, z_istore_1, z_istore_2, z_istore_3, z_istore, z_lload_0, z_lload_1, z_lload_2, z_lload_3, z_lload, z_lstore_0, z_lstore_1, z_lstore_2, z_lstore_3, z_lstore, z_aload_0, z_aload_1, z_aload_2, z_aload_3, z_aload, z_astore_0, z_astore_1, z_astore_2, z_astore_3, z_astore, ald_0, ald_s, z_iinc, qst1_1i, qst2_1i, qst1_1r, qst2_1r, qst1_1u, qst2_1u, qst1_1n, qst2_1n, qst1_1l, qst2_1l, qst1_0, qst2_0, qst1_s, qst2_s, z_iadd, z_isub, z_imul, z_iand, z_ior, z_ixor, z_ishl, z_ishr, z_idiv, z_irem, z_ladd, z_lsub, z_lmul, z_land, z_lor, z_ldiv, z_lrem, z_ineg, z_lshl, z_lshr, z_i2l, z_l2i, z_i2b, z_i2c, z_lcmp, z_dupi, z_dupr, z_popi, z_popr, z_dup2, z_goto, z_get0, z_get1, z_get2, z_get3, z_put0, z_put1, z_put2, z_put2n, z_put3, z_iaload, z_baload, z_laload, z_aaload, z_iastore, z_bastore, z_lastore, z_aastore, z_aastoren, z_arraylength, z_new, z_newarray, z_anewarray, z_multi, z_objinit, z_is0, z_iv0, z_ip0, z_is1, z_iv1, z_ip1, z_is2, z_iv2, z_ip2, z_is3, z_iv3, z_ip3, z_is4, z_iv4, z_ip4, z_is5, z_iv5, z_ip5, z_is6, z_iv6, z_ip6, z_is7, z_iv7, z_ip7, z_m991, z_m992, z_m993, z_m994, z_m995, z_m996, z_m998, acal_0, acal_1, acal_2, acal_3, acal_4, aK_v, aK_n, sF_c, sF_n, b_nr, b_nn, r_I, r_Z, r_L, r_A, r_V, sw_F, sw_n, gd_tt, is01_bzT, is01_0, is01_1, qrv_s, qrv_n, bi_eq_t, bi_eq_f, bi_ne_t, bi_ne_f, bi_lt_t, bi_lt_f, bi_ge_t, bi_ge_f, bi_gt_t, bi_gt_f, bi_le_t, bi_le_f, bc_eq_t, bc_eq_f, bc_ne_t, bc_ne_f, bc_lt_t, bc_lt_f, bc_ge_t, bc_ge_f, bc_gt_t, bc_gt_f, bc_le_t, bc_le_f, bb_eq_t, bb_eq_f, bb_ne_t, bb_ne_f, sc_t, sc_f, b_nr, b_nn, mI_J, mI_R, mJ_I, mJ_R, mR_I, mR_J, mK_I, mK_J, mK_R, mN_I, mN_J, mN_R, inM_I, inM_J, inM_R, mZ_nc, mZ_nk, mZ_sm, mZ_J, mZ_R, mJ_nc, mJ_ni, mJ_sm, mI_Z, iz_add, iz_sub, iz_mul, iz_neg, iz_lt, iz_le, iz_eq, iz_clamp, iz_inB, iz_div, iz_rem, shK h, shR h, inM_lit, and_self, true_and, and_true, true_or, or_true, not_true_eq_false, not_false_eq_true, Nat.reduceEqDiff, reduceCtorEq, Int.reduceNeg, Int.reduceSub, Int.reduceAdd, Int.reduceMul, Int.reduceToNat, Int.reduceEq, Int.neg_neg, Int.cast_ofNat_Int, Nat.reduceAdd, Nat.reduceMul, Nat.reduceSub, gd_t, emod_r, iz_0, Int.zero_add, Int.add_zero, wp_some, ht, hc, cI, re]
    exact fin
  have cI : (cnt : Int) < 6 := by omega
  have e71 : mZ (qsI M 8 4 (iz 0)) 71 = mZ M 71 := funext (fun k => mZ_nc (by decide))
  have pa := x_parse (d := d) (n := n) (law := true) h1 hn (fun j q => by rw [e71]; exact hb j q)
  rw [e71] at pa
  have pa : wI (cal (d + 96) 267 [.ref 183, .ref 71, .int (iz (n : Int)), .int (iz 1)] (qsI M 8 4 (iz 0))) _ := pa
  have t1 : mZ (qsI M 8 4 (iz 0)) 8 4 = 0 := mZ_sm rfl (by decide) (by decide)
  have c1 : mZ (qsI M 8 4 (iz 0)) 9 12 = (cnt : Int) := by rw [mZ_nc (by decide)]; exact hc
  have nN1 : mN (qsI M 8 4 (iz 0)) = mN M := rfl
  simp (disch := first | assumption | decide | omega) only [n_16_0, z_iconst, z_bipush, z_sipush, z_ldc, z_ldcs, z_ldcw, z_ldc2, z_lconst0, z_lconst1, z_null, z_getstatic, z_iload_0, z_iload_1, z_iload_2, z_iload_3, z_iload, z_istore_0, z_istore_1, z_istore_2, z_istore_3, z_istore, z_lload_0, z_lload_1, z_lload_2, z_lload_3, z_lload, z_lstore_0, z_lstore_1, z_lstore_2, z_lstore_3, z_lstore, z_aload_0, z_aload_1, z_aload_2, z_aload_3, z_aload, z_astore_0, z_astore_1, z_astore_2, z_astore_3, z_astore, ald_0, ald_s, z_iinc, qst1_1i, qst2_1i, qst1_1r, qst2_1r, qst1_1u, qst2_1u, qst1_1n, qst2_1n, qst1_1l, qst2_1l, qst1_0, qst2_0, qst1_s, qst2_s, z_iadd, z_isub, z_imul, z_iand, z_ior, z_ixor, z_ishl, z_ishr, z_idiv, z_irem, z_ladd, z_lsub, z_lmul, z_land, z_lor, z_ldiv, z_lrem, z_ineg, z_lshl, z_lshr, z_i2l, z_l2i, z_i2b, z_i2c, z_lcmp, z_dupi, z_dupr, z_popi, z_popr, z_dup2, z_goto, z_get0, z_get1, z_get2, z_get3, z_put0, z_put1, z_put2, z_put2n, z_put3, z_iaload, z_baload, z_laload, z_aaload, z_iastore, z_bastore, z_lastore, z_aastore, z_aastoren, z_arraylength, z_new, z_newarray, z_anewarray, z_multi, z_objinit, z_is0, z_iv0, z_ip0, z_is1, z_iv1, z_ip1, z_is2, z_iv2, z_ip2, z_is3, z_iv3, z_ip3, z_is4, z_iv4, z_ip4, z_is5, z_iv5, z_ip5, z_is6, z_iv6, z_ip6, z_is7, z_iv7, z_ip7, z_m991, z_m992, z_m993, z_m994, z_m995, z_m996, z_m998, acal_0, acal_1, acal_2, acal_3, acal_4, aK_v, aK_n, sF_c, sF_n, b_nr, b_nn, r_I, r_Z, r_L, r_A, r_V, sw_F, sw_n, gd_tt, is01_bzT, is01_0, is01_1, qrv_s, qrv_n, bi_eq_t, bi_eq_f, bi_ne_t, bi_ne_f, bi_lt_t, bi_lt_f, bi_ge_t, bi_ge_f, bi_gt_t, bi_gt_f, bi_le_t, bi_le_f, bc_eq_t, bc_eq_f, bc_ne_t, bc_ne_f, bc_lt_t, bc_lt_f, bc_ge_t, bc_ge_f, bc_gt_t, bc_gt_f, bc_le_t, bc_le_f, bb_eq_t, bb_eq_f, bb_ne_t, bb_ne_f, sc_t, sc_f, b_nr, b_nn, mI_J, mI_R, mJ_I, mJ_R, mR_I, mR_J, mK_I, mK_J, mK_R, mN_I, mN_J, mN_R, inM_I, inM_J, inM_R, mZ_nc, mZ_nk, mZ_sm, mZ_J, mZ_R, mJ_nc, mJ_ni, mJ_sm, mI_Z, iz_add, iz_sub, iz_mul, iz_neg, iz_lt, iz_le, iz_eq, iz_clamp, iz_inB, iz_div, iz_rem, shK h, shR h, inM_lit, and_self, true_and, and_true, true_or, or_true, not_true_eq_false, not_false_eq_true, Nat.reduceEqDiff, reduceCtorEq, Int.reduceNeg, Int.reduceSub, Int.reduceAdd, Int.reduceMul, Int.reduceToNat, Int.reduceEq, Int.neg_neg, Int.cast_ofNat_Int, Nat.reduceAdd, Nat.reduceMul, Nat.reduceSub, gd_t, emod_r, iz_0, Int.zero_add, Int.add_zero, wp_some, ht, hc]
  generalize qsI M 8 4 (iz 0) = Ma at *
  refine wp_cI pa (fun z M2 r => ?_)
  clear pa
  obtain ⟨D2, r⟩ := r
  have D02 : Dif M M2 DLf := D1.tr (D2.mono (fun i k q => Or.inl q))
  have h2 := D02.shp h D8
  have hN2 := h2.1
  have t2 : mZ M2 8 4 = 0 := (D2.z (by unfold DPx DCu DPa DRy; omega)).trans t1
  have c2 : mZ M2 9 12 = (cnt : Int) := (D2.z (by unfold DPx DCu DPa DRy; omega)).trans c1
  have sb := sTK_b (b := mZ M 71) (n := n) (rTK (mZ M 71) n true).2.1
  rcases r with ⟨rt, rfl, X2⟩ | ⟨rt, rz⟩
  · obtain ⟨l4, i12, i4⟩ := rTK_ok hn rt
    have D3 : Dif M (qsI M2 8 6 (iz (-1))) DLf := D02.I (Or.inr ⟨rfl, Or.inr rfl⟩)
    have h3 := D3.shp h D8
    have hN3 := h3.1
    have t3 : mZ (qsI M2 8 6 (iz (-1))) 8 4 = 0 := by rw [mZ_nk (by decide)]; exact t2
    have f3 : mZ (qsI M2 8 6 (iz (-1))) 8 6 = -1 := mZ_sm rfl (by decide) (by decide)
    have c3 : mZ (qsI M2 8 6 (iz (-1))) 9 12 = (cnt : Int) := by rw [mZ_nc (by decide)]; exact c2
    have X3 : XDr (qsI M2 8 6 (iz (-1))) (rTK (mZ M 71) n true).2.2.2.1 (rTK (mZ M 71) n true).2.2.2.2 := by
      obtain ⟨a1, a2, a3, a4⟩ := X2
      refine ⟨by rw [mZ_nc (by decide)]; exact a1, by rw [mZ_nc (by decide)]; exact a2, fun j x q => by rw [mZ_nc (by decide)]; exact a3 j x q, fun j it q => ?_⟩
      obtain ⟨b1, b2, b3, b4⟩ := a4 j it q
      exact ⟨by rw [mZ_nc (by decide)]; exact b1, by rw [mZ_nc (by decide)]; exact b2, by rw [mZ_nc (by decide)]; exact b3, fun j s q => by rw [mZ_nc (by decide)]; exact b4 j s q⟩
    have n3 : mN (qsI M2 8 6 (iz (-1))) = mN M := D3.1
    have tr := x_trimmed (d := d + 94) h3 X3 (by omega) i12 i4
    rw [show d + 94 + 2 = d + 96 by omega, n3] at tr
    generalize (rTK (mZ M 71) n true).2.2.2.1 = cs at *
    generalize (rTK (mZ M 71) n true).2.2.2.2 = is at *
    simp (disch := first | assumption | decide | omega) only [n_16_0, z_iconst, z_bipush, z_sipush, z_ldc, z_ldcs, z_ldcw, z_ldc2, z_lconst0, z_lconst1, z_null, z_getstatic, z_iload_0, z_iload_1, z_iload_2, z_iload_3, z_iload, z_istore_0, z_istore_1, z_istore_2, z_istore_3, z_istore, z_lload_0, z_lload_1, z_lload_2, z_lload_3, z_lload, z_lstore_0, z_lstore_1, z_lstore_2, z_lstore_3, z_lstore, z_aload_0, z_aload_1, z_aload_2, z_aload_3, z_aload, z_astore_0, z_astore_1, z_astore_2, z_astore_3, z_astore, ald_0, ald_s, z_iinc, qst1_1i, qst2_1i, qst1_1r, qst2_1r, qst1_1u, qst2_1u, qst1_1n, qst2_1n, qst1_1l, qst2_1l, qst1_0, qst2_0, qst1_s, qst2_s, z_iadd, z_isub, z_imul, z_iand, z_ior, z_ixor, z_ishl, z_ishr, z_idiv, z_irem, z_ladd, z_lsub, z_lmul, z_land, z_lor, z_ldiv, z_lrem, z_ineg, z_lshl, z_lshr, z_i2l, z_l2i, z_i2b, z_i2c, z_lcmp, z_dupi, z_dupr, z_popi, z_popr, z_dup2, z_goto, z_get0, z_get1, z_get2, z_get3, z_put0, z_put1, z_put2, z_put2n, z_put3, z_iaload, z_baload, z_laload, z_aaload, z_iastore, z_bastore, z_lastore, z_aastore, z_aastoren, z_arraylength, z_new, z_newarray, z_anewarray, z_multi, z_objinit, z_is0, z_iv0, z_ip0, z_is1, z_iv1, z_ip1, z_is2, z_iv2, z_ip2, z_is3, z_iv3, z_ip3, z_is4, z_iv4, z_ip4, z_is5, z_iv5, z_ip5, z_is6, z_iv6, z_ip6, z_is7, z_iv7, z_ip7, z_m991, z_m992, z_m993, z_m994, z_m995, z_m996, z_m998, acal_0, acal_1, acal_2, acal_3, acal_4, aK_v, aK_n, sF_c, sF_n, b_nr, b_nn, r_I, r_Z, r_L, r_A, r_V, sw_F, sw_n, gd_tt, is01_bzT, is01_0, is01_1, qrv_s, qrv_n, bi_eq_t, bi_eq_f, bi_ne_t, bi_ne_f, bi_lt_t, bi_lt_f, bi_ge_t, bi_ge_f, bi_gt_t, bi_gt_f, bi_le_t, bi_le_f, bc_eq_t, bc_eq_f, bc_ne_t, bc_ne_f, bc_lt_t, bc_lt_f, bc_ge_t, bc_ge_f, bc_gt_t, bc_gt_f, bc_le_t, bc_le_f, bb_eq_t, bb_eq_f, bb_ne_t, bb_ne_f, sc_t, sc_f, b_nr, b_nn, mI_J, mI_R, mJ_I, mJ_R, mR_I, mR_J, mK_I, mK_J, mK_R, mN_I, mN_J, mN_R, inM_I, inM_J, inM_R, mZ_nc, mZ_nk, mZ_sm, mZ_J, mZ_R, mJ_nc, mJ_ni, mJ_sm, mI_Z, iz_add, iz_sub, iz_mul, iz_neg, iz_lt, iz_le, iz_eq, iz_clamp, iz_inB, iz_div, iz_rem, shK h, shR h, inM_lit, and_self, true_and, and_true, true_or, or_true, not_true_eq_false, not_false_eq_true, Nat.reduceEqDiff, reduceCtorEq, Int.reduceNeg, Int.reduceSub, Int.reduceAdd, Int.reduceMul, Int.reduceToNat, Int.reduceEq, Int.neg_neg, Int.cast_ofNat_Int, Nat.reduceAdd, Nat.reduceMul, Nat.reduceSub, gd_t, emod_r, iz_0, Int.zero_add, Int.add_zero, wp_some, shK h2, shR h2, c3, shK h3, shR h3]
    generalize qsI M2 8 6 (iz (-1)) = M3 at *
    refine wp_cA tr (fun i M4 r => ?_)
    clear tr
    obtain ⟨rfl, n4, F4, T4, K4⟩ := r
    have h4 := F4.shp h3 (fun i k q => by cases q) (fun i k _ q => q)
    have hN4 := h4.1
    have k4 : mK M4 (mN M) = (10, 7) := T4.1.2.1
    have c4 : mZ M4 9 12 = (cnt : Int) := (F4.z (by omega) (fun z => z)).trans c3
    have F5 : Frg M (qsI (qsR M4 26 cnt (some (mN M))) 9 12 (iz ((cnt : Int) + 1))) DLx (fun i k => i = 26 ∧ k = cnt) := by
      have F34 : Frg M M4 DLx (fun i k => i = 26 ∧ k = cnt) := ((Frg.of D3).mono (fun i k q => Or.inl q) (fun i k q => q)).tr (F4.mono (fun i k q => by cases q) (fun i k q => by cases q))
      refine ⟨F34.1, F34.2.1, fun i k q r => ?_, fun i k q r => ?_, fun i k q => ?_⟩
      · rw [mR_I]
        by_cases e : i = 26
        · subst e
          rw [mR_nk (fun z => r ⟨rfl, z⟩)]
          exact F34.2.2.1 _ _ q r
        · rw [mR_nc e]
          exact F34.2.2.1 _ _ q r
      · by_cases e : i = 9 ∧ k = 12
        · exact absurd (Or.inr e) r
        · have : mZ (qsI (qsR M4 26 cnt (some (mN M))) 9 12 (iz ((cnt : Int) + 1))) i k = mZ M4 i k := by
            by_cases e9 : i = 9
            · subst e9
              rw [mZ_nk (fun z => e ⟨rfl, z⟩), mZ_R]
            · rw [mZ_nc e9, mZ_R]
          rw [this]
          exact F34.z q r
      · have q : mN M4 ≤ i := q
        rw [mR_I, mR_nc (by omega)]
        exact F34.2.2.2.2 _ _ q
    have g26 : mR (qsI (qsR M4 26 cnt (some (mN M))) 9 12 (iz ((cnt : Int) + 1))) 26 cnt = some (mN M) := by rw [mR_I]; exact mR_sm
    have e8 : ∀ k, mZ (qsI (qsR M4 26 cnt (some (mN M))) 9 12 (iz ((cnt : Int) + 1))) 8 k = mZ M3 8 k := fun k => by
      rw [mZ_nc (by decide), mZ_R]
      exact F4.z (by omega) (fun z => z)
    have T5 : TextR (qsI (qsR M4 26 cnt (some (mN M))) 9 12 (iz ((cnt : Int) + 1))) (mN M) (mN M + 1) (mN M + 2) (mN M + 3) (mN M + 4) (mN M + 5) cs is := TextR_k T4 (by omega) (Nat.le_refl _) (fun i q => rfl) (fun i k g1 _ => by rw [mR_I, mR_nc (by omega)]) (fun i k g1 _ => by rw [mZ_nc (by omega), mZ_R])
    have n5 : mN (qsI (qsR M4 26 cnt (some (mN M))) 9 12 (iz ((cnt : Int) + 1))) = mN M + 6 := by
      show mN M4 = _
      omega
    have c5 : mZ (qsI (qsR M4 26 cnt (some (mN M))) 9 12 (iz ((cnt : Int) + 1))) 9 12 = (cnt : Int) + 1 := mZ_sm rfl (by omega) (by omega)
    have h5 := F5.shp h (fun i k q => by unfold isL; omega) (fun i k hi => by unfold DLx DLf DPx DCu DPa DRy; omega)
    have hN5 := h5.1
    have an := c_answered (d := d + 95) (v := iz (cnt : Int)) h5
    rw [show d + 95 + 1 = d + 96 by omega] at an
    have fin := hP (cnt : Int) _ (Or.inr (Or.inr ⟨by omega, rt, rfl, _, n5, F5, by rw [e8]; exact t3, by rw [e8]; exact f3, c5, g26, T5, fun i a b => K4 i a b, rfl⟩))
    have ec : (cnt : Int) + 1 - 1 = (cnt : Int) := by omega
    have in4 : inM M4 (mN M) := T4.1.1
    simp (disch := first | assumption | decide | omega) only [n_16_0, z_iconst, z_bipush, z_sipush, z_ldc, z_ldcs, z_ldcw, z_ldc2, z_lconst0, z_lconst1, z_null, z_getstatic, z_iload_0, z_iload_1, z_iload_2, z_iload_3, z_iload, z_istore_0, z_istore_1, z_istore_2, z_istore_3, z_istore, z_lload_0, z_lload_1, z_lload_2, z_lload_3, z_lload, z_lstore_0, z_lstore_1, z_lstore_2, z_lstore_3, z_lstore, z_aload_0, z_aload_1, z_aload_2, z_aload_3, z_aload, z_astore_0, z_astore_1, z_astore_2, z_astore_3, z_astore, ald_0, ald_s, z_iinc, qst1_1i, qst2_1i, qst1_1r, qst2_1r, qst1_1u, qst2_1u, qst1_1n, qst2_1n, qst1_1l, qst2_1l, qst1_0, qst2_0, qst1_s, qst2_s, z_iadd, z_isub, z_imul, z_iand, z_ior, z_ixor, z_ishl, z_ishr, z_idiv, z_irem, z_ladd, z_lsub, z_lmul, z_land, z_lor, z_ldiv, z_lrem, z_ineg, z_lshl, z_lshr, z_i2l, z_l2i, z_i2b, z_i2c, z_lcmp, z_dupi, z_dupr, z_popi, z_popr, z_dup2, z_goto, z_get0, z_get1, z_get2, z_get3, z_put0, z_put1, z_put2, z_put2n, z_put3, z_iaload, z_baload, z_laload, z_aaload, z_iastore, z_bastore, z_lastore, z_aastore, z_aastoren, z_arraylength, z_new, z_newarray, z_anewarray, z_multi, z_objinit, z_is0, z_iv0, z_ip0, z_is1, z_iv1, z_ip1, z_is2, z_iv2, z_ip2, z_is3, z_iv3, z_ip3, z_is4, z_iv4, z_ip4, z_is5, z_iv5, z_ip5, z_is6, z_iv6, z_ip6, z_is7, z_iv7, z_ip7, z_m991, z_m992, z_m993, z_m994, z_m995, z_m996, z_m998, acal_0, acal_1, acal_2, acal_3, acal_4, aK_v, aK_n, sF_c, sF_n, b_nr, b_nn, r_I, r_Z, r_L, r_A, r_V, sw_F, sw_n, gd_tt, is01_bzT, is01_0, is01_1, qrv_s, qrv_n, bi_eq_t, bi_eq_f, bi_ne_t, bi_ne_f, bi_lt_t, bi_lt_f, bi_ge_t, bi_ge_f, bi_gt_t, bi_gt_f, bi_le_t, bi_le_f, bc_eq_t, bc_eq_f, bc_ne_t, bc_ne_f, bc_lt_t, bc_lt_f, bc_ge_t, bc_ge_f, bc_gt_t, bc_gt_f, bc_le_t, bc_le_f, bb_eq_t, bb_eq_f, bb_ne_t, bb_ne_f, sc_t, sc_f, b_nr, b_nn, mI_J, mI_R, mJ_I, mJ_R, mR_I, mR_J, mK_I, mK_J, mK_R, mN_I, mN_J, mN_R, inM_I, inM_J, inM_R, mZ_nc, mZ_nk, mZ_sm, mZ_J, mZ_R, mJ_nc, mJ_ni, mJ_sm, mI_Z, iz_add, iz_sub, iz_mul, iz_neg, iz_lt, iz_le, iz_eq, iz_clamp, iz_inB, iz_div, iz_rem, inM_lit, and_self, true_and, and_true, true_or, or_true, not_true_eq_false, not_false_eq_true, Nat.reduceEqDiff, reduceCtorEq, Int.reduceNeg, Int.reduceSub, Int.reduceAdd, Int.reduceMul, Int.reduceToNat, Int.reduceEq, Int.neg_neg, Int.cast_ofNat_Int, Nat.reduceAdd, Nat.reduceMul, Nat.reduceSub, gd_t, emod_r, iz_0, Int.zero_add, Int.add_zero, wp_some, shK h4, shR h4, mR_nc, c4, k4, in4, ec, an, Int.toNat_natCast]
    exact fin
  · have D3 : Dif M (qsI M2 8 6 (iz z)) DLf := D02.I (Or.inr ⟨rfl, Or.inr rfl⟩)
    have h3 := D3.shp h D8
    have hN3 := h3.1
    have re := c_refused (d := d + 95) (b := -6) h3 (by unfold isrf; omega)
    rw [show d + 95 + 1 = d + 96 by omega] at re
    have zb : 0 ≤ z ∧ z ≤ 400 := by omega
    have f3 : mZ (qsI M2 8 6 (iz z)) 8 6 = ((sTK (mZ M 71) n (rTK (mZ M 71) n true).2.1 : Nat) : Int) := by rw [mZ_sm rfl (by omega) (by omega)]; exact rz
    have fin := hP (-6) _ (Or.inr (Or.inl ⟨by omega, rt, rfl, _, D3, by rw [mZ_nk (by decide)]; exact t2, f3, rfl⟩))
    clear rz hP
    simp (disch := first | assumption | decide | omega) only [n_16_0, z_iconst, z_bipush, z_sipush, z_ldc, z_ldcs, z_ldcw, z_ldc2, z_lconst0, z_lconst1, z_null, z_getstatic, z_iload_0, z_iload_1, z_iload_2, z_iload_3, z_iload, z_istore_0, z_istore_1, z_istore_2, z_istore_3, z_istore, z_lload_0, z_lload_1, z_lload_2, z_lload_3, z_lload, z_lstore_0, z_lstore_1, z_lstore_2, z_lstore_3, z_lstore, z_aload_0, z_aload_1, z_aload_2, z_aload_3, z_aload, z_astore_0, z_astore_1, z_astore_2, z_astore_3, z_astore, ald_0, ald_s, z_iinc, qst1_1i, qst2_1i, qst1_1r, qst2_1r, qst1_1u, qst2_1u, qst1_1n, qst2_1n, qst1_1l, qst2_1l, qst1_0, qst2_0, qst1_s, qst2_s, z_iadd, z_isub, z_imul, z_iand, z_ior, z_ixor, z_ishl, z_ishr, z_idiv, z_irem, z_ladd, z_lsub, z_lmul, z_land, z_lor, z_ldiv, z_lrem, z_ineg, z_lshl, z_lshr, z_i2l, z_l2i, z_i2b, z_i2c, z_lcmp, z_dupi, z_dupr, z_popi, z_popr, z_dup2, z_goto, z_get0, z_get1, z_get2, z_get3, z_put0, z_put1, z_put2, z_put2n, z_put3, z_iaload, z_baload, z_laload, z_aaload, z_iastore, z_bastore, z_lastore, z_aastore, z_aastoren, z_arraylength, z_new, z_newarray, z_anewarray, z_multi, z_objinit, z_is0, z_iv0, z_ip0, z_is1, z_iv1, z_ip1, z_is2, z_iv2, z_ip2, z_is3, z_iv3, z_ip3, z_is4, z_iv4, z_ip4, z_is5, z_iv5, z_ip5, z_is6, z_iv6, z_ip6, z_is7, z_iv7, z_ip7, z_m991, z_m992, z_m993, z_m994, z_m995, z_m996, z_m998, acal_0, acal_1, acal_2, acal_3, acal_4, aK_v, aK_n, sF_c, sF_n, b_nr, b_nn, r_I, r_Z, r_L, r_A, r_V, sw_F, sw_n, gd_tt, is01_bzT, is01_0, is01_1, qrv_s, qrv_n, bi_eq_t, bi_eq_f, bi_ne_t, bi_ne_f, bi_lt_t, bi_lt_f, bi_ge_t, bi_ge_f, bi_gt_t, bi_gt_f, bi_le_t, bi_le_f, bc_eq_t, bc_eq_f, bc_ne_t, bc_ne_f, bc_lt_t, bc_lt_f, bc_ge_t, bc_ge_f, bc_gt_t, bc_gt_f, bc_le_t, bc_le_f, bb_eq_t, bb_eq_f, bb_ne_t, bb_ne_f, sc_t, sc_f, b_nr, b_nn, mI_J, mI_R, mJ_I, mJ_R, mR_I, mR_J, mK_I, mK_J, mK_R, mN_I, mN_J, mN_R, inM_I, inM_J, inM_R, mZ_nc, mZ_nk, mZ_sm, mZ_J, mZ_R, mJ_nc, mJ_ni, mJ_sm, mI_Z, iz_add, iz_sub, iz_mul, iz_neg, iz_lt, iz_le, iz_eq, iz_clamp, iz_inB, iz_div, iz_rem, shK h, shR h, inM_lit, and_self, true_and, and_true, true_or, or_true, not_true_eq_false, not_false_eq_true, Nat.reduceEqDiff, reduceCtorEq, Int.reduceNeg, Int.reduceSub, Int.reduceAdd, Int.reduceMul, Int.reduceToNat, Int.reduceEq, Int.neg_neg, Int.cast_ofNat_Int, Nat.reduceAdd, Nat.reduceMul, Nat.reduceSub, gd_t, emod_r, iz_0, Int.zero_add, Int.add_zero, wp_some, shK h2, shR h2, re]
    exact fin

theorem tourP_k {M M1 : qMe} {f : Int} (h : ∀ k, mZ M1 481 k = mZ M 481 k) {S o : Nat} : tourP M1 f S o = tourP M f S o := by
  have e : ∀ n S o, tourQ M1 f n S o = tourQ M f n S o := by
    intro n
    induction n with
    | zero => intro S o; rfl
    | succ n ih => intro S o; rw [tourQ, tourQ]; unfold hcl; simp only [h, ih]
  exact e _ _ _
theorem hcl_k {M M1 : qMe} (h : ∀ k, mZ M1 481 k = mZ M 481 k) {o : Nat} : hcl M1 o = hcl M o := h _
theorem hwt_k {M M1 : qMe} (h : ∀ k, mZ M1 481 k = mZ M 481 k) {o : Nat} : hwt M1 o = hwt M o := h _
theorem inH_k {M M1 : qMe} (h : ∀ k, mZ M1 481 k = mZ M 481 k) {S : Nat} (q : inH M S) : inH M1 S := fun o ho hb => by rw [h]; exact q o ho hb
theorem tourV_k {M M1 : qMe} {f : Int} (h : ∀ k, mZ M1 481 k = mZ M 481 k) {B l : Nat} : tourV M1 f B l = tourV M f B l := by
  unfold tourV
  simp only [tourP_k h, hcl_k h]
def DFw (S i k : Nat) : Prop := (i = 218 ∧ k = S) ∨ (i = 219 ∧ k = S) ∨ i = 222 + S
theorem x_findWay {d S : Nat} {M : qMe} {f : Int} (hW : Wo M) (hS : S < 256) (hi : inH M S) (hf : 0 ≤ f ∧ f < 80) (hT : ∀ h : Nat, h < 8 → bt S h → ∀ o : Nat, o < 8 → bt (andn S (2 ^ h)) o → mZ M (222 + andn S (2 ^ h)) o = tourP M f (andn S (2 ^ h)) o) : wV (cal (d + 3) 222 [.ref 217, .int (iz (S : Int)), .int (iz f)] M) (fun M1 => Dif M M1 (DFw S) ∧ mZ M1 218 S = loadN M S 8 ∧ mZ M1 219 S = wayS M f S ∧ ∀ h : Nat, h < 8 → bt S h → mZ M1 (222 + S) h = tourP M f S h) := by
  refine wV_q (fun P hP => ?_)
  have h := hW.1
  have hN := h.1
  have hw := hW.2.1
  rw [cal_222, gd_t (Nat.le_of_ble_eq_true rfl)]
  change wp (n_222_0 (cal _) [some (.ref 217), some (.int (iz (S : Int))), some (.int (iz f)), none] [] _) _
  simp (disch := first | assumption | decide | omega) only [n_222_0, n_222_114, n_222_120, n_222_17, z_iconst, z_bipush, z_sipush, z_ldc, z_ldcs, z_ldcw, z_ldc2, z_lconst0, z_lconst1, z_null, z_getstatic, z_iload_0, z_iload_1, z_iload_2, z_iload_3, z_iload, z_istore_0, z_istore_1, z_istore_2, z_istore_3, z_istore, z_lload_0, z_lload_1, z_lload_2, z_lload_3, z_lload, z_lstore_0, z_lstore_1, z_lstore_2, z_lstore_3, z_lstore, z_aload_0, z_aload_1, z_aload_2, z_aload_3, z_aload, z_astore_0, z_astore_1, z_astore_2, z_astore_3, z_astore, ald_0, ald_s, z_iinc, qst1_1i, qst2_1i, qst1_1r, qst2_1r, qst1_1u, qst2_1u, qst1_1n, qst2_1n, qst1_1l, qst2_1l, qst1_0, qst2_0, qst1_s, qst2_s, z_iadd, z_isub, z_imul, z_iand, z_ior, z_ixor, z_ishl, z_ishr, z_idiv, z_irem, z_ladd, z_lsub, z_lmul, z_land, z_lor, z_ldiv, z_lrem, z_ineg, z_lshl, z_lshr, z_i2l, z_l2i, z_i2b, z_i2c, z_lcmp, z_dupi, z_dupr, z_popi, z_popr, z_dup2, z_goto, z_get0, z_get1, z_get2, z_get3, z_put0, z_put1, z_put2, z_put2n, z_put3, z_iaload, z_baload, z_laload, z_aaload, z_iastore, z_bastore, z_lastore, z_aastore, z_aastoren, z_arraylength, z_new, z_newarray, z_anewarray, z_multi, z_objinit, z_is0, z_iv0, z_ip0, z_is1, z_iv1, z_ip1, z_is2, z_iv2, z_ip2, z_is3, z_iv3, z_ip3, z_is4, z_iv4, z_ip4, z_is5, z_iv5, z_ip5, z_is6, z_iv6, z_ip6, z_is7, z_iv7, z_ip7, z_m991, z_m992, z_m993, z_m994, z_m995, z_m996, z_m998, acal_0, acal_1, acal_2, acal_3, acal_4, aK_v, aK_n, sF_c, sF_n, b_nr, b_nn, r_I, r_Z, r_L, r_A, r_V, sw_F, sw_n, gd_tt, is01_bzT, is01_0, is01_1, qrv_s, qrv_n, bi_eq_t, bi_eq_f, bi_ne_t, bi_ne_f, bi_lt_t, bi_lt_f, bi_ge_t, bi_ge_f, bi_gt_t, bi_gt_f, bi_le_t, bi_le_f, bc_eq_t, bc_eq_f, bc_ne_t, bc_ne_f, bc_lt_t, bc_lt_f, bc_ge_t, bc_ge_f, bc_gt_t, bc_gt_f, bc_le_t, bc_le_f, bb_eq_t, bb_eq_f, bb_ne_t, bb_ne_f, sc_t, sc_f, b_nr, b_nn, mI_J, mI_R, mJ_I, mJ_R, mR_I, mR_J, mK_I, mK_J, mK_R, mN_I, mN_J, mN_R, inM_I, inM_J, inM_R, mZ_nc, mZ_nk, mZ_sm, mZ_J, mZ_R, mJ_nc, mJ_ni, mJ_sm, mI_Z, iz_add, iz_sub, iz_mul, iz_neg, iz_lt, iz_le, iz_eq, iz_clamp, iz_inB, iz_div, iz_rem, shK h, shR h, inM_lit, and_self, true_and, and_true, true_or, or_true, not_true_eq_false, not_false_eq_true, Nat.reduceEqDiff, reduceCtorEq, Int.reduceNeg, Int.reduceSub, Int.reduceAdd, Int.reduceMul, Int.reduceToNat, Int.reduceEq, Int.neg_neg, Int.cast_ofNat_Int, Nat.reduceAdd, Nat.reduceMul, Nat.reduceSub, gd_t, emod_r, iz_0, Int.zero_add, Int.add_zero, wp_some, Int.toNat_natCast]
  refine wp_lpq (fun k L M' => ∃ l : Nat, L = [some (.ref 217), some (.int (iz (S : Int))), some (.int (iz f)), some (.int (iz (l : Int)))] ∧ l + k = 8 ∧ Dif M M' (DFw S) ∧ mZ M' 218 S = loadN M S l ∧ mZ M' 219 S = fmin (bt S) (fun h => tourP M f S h + ds (hcl M h) f) 1000000 l ∧ ∀ h : Nat, h < l → bt S h → mZ M' (222 + S) h = tourP M f S h) (k := 8) ⟨0, rfl, rfl, (Dif.rfl'.I (Or.inl ⟨rfl, rfl⟩)).I (Or.inr (Or.inl ⟨rfl, rfl⟩)), ?_, ?_, fun h q => by omega⟩ (by decide) ?_
  · rw [mZ_nc (by decide), mZ_sm rfl (by decide) (by decide), loadN]
  · rw [mZ_sm rfl (by decide) (by decide), fmin]
  rintro k L M' g ⟨l, rfl, hlk, hD, e1, e2, e3⟩ hg2
  have hW' := Wo_k hW (Frm.of hD) (fun i k q => by unfold DFw at q; unfold aside; omega)
  have h := hW'.1
  have hN := h.1
  have q481 : ∀ k, mZ M' 481 k = mZ M 481 k := fun k => hD.z (by unfold DFw; omega)
  have lb := loadN_b (S := S) hw l (by omega)
  have gb : ∀ o, o < 8 → bt S o → 0 ≤ tourP M f S o + ds (hcl M o) f ∧ tourP M f S o + ds (hcl M o) f ≤ 200 := fun o ho hb => by
    have a := tourP_b hw hf (pc S) S o rfl hS ho hb hi
    have b := ds_b (hcl_b hw (hi o ho hb)) hf
    have := pc_le (s := S)
    omega
  have fb := fmin_b (p := bt S) (f := fun h => tourP M f S h + ds (hcl M h) f) (i := 1000000) (lo := 0) (hi := 1000000) (by decide) l (fun t t1 t2 => (gb t (by omega) t2).1)
  by_cases el : l = 8
  · subst el
    have fin := hP M' ⟨hD, e1, e2, e3⟩
    simp (disch := first | assumption | decide | omega) only [n_222_0, n_222_114, n_222_120, f_222_17, z_iconst, z_bipush, z_sipush, z_ldc, z_ldcs, z_ldcw, z_ldc2, z_lconst0, z_lconst1, z_null, z_getstatic, z_iload_0, z_iload_1, z_iload_2, z_iload_3, z_iload, z_istore_0, z_istore_1, z_istore_2, z_istore_3, z_istore, z_lload_0, z_lload_1, z_lload_2, z_lload_3, z_lload, z_lstore_0, z_lstore_1, z_lstore_2, z_lstore_3, z_lstore, z_aload_0, z_aload_1, z_aload_2, z_aload_3, z_aload, z_astore_0, z_astore_1, z_astore_2, z_astore_3, z_astore, ald_0, ald_s, z_iinc, qst1_1i, qst2_1i, qst1_1r, qst2_1r, qst1_1u, qst2_1u, qst1_1n, qst2_1n, qst1_1l, qst2_1l, qst1_0, qst2_0, qst1_s, qst2_s, z_iadd, z_isub, z_imul, z_iand, z_ior, z_ixor, z_ishl, z_ishr, z_idiv, z_irem, z_ladd, z_lsub, z_lmul, z_land, z_lor, z_ldiv, z_lrem, z_ineg, z_lshl, z_lshr, z_i2l, z_l2i, z_i2b, z_i2c, z_lcmp, z_dupi, z_dupr, z_popi, z_popr, z_dup2, z_goto, z_get0, z_get1, z_get2, z_get3, z_put0, z_put1, z_put2, z_put2n, z_put3, z_iaload, z_baload, z_laload, z_aaload, z_iastore, z_bastore, z_lastore, z_aastore, z_aastoren, z_arraylength, z_new, z_newarray, z_anewarray, z_multi, z_objinit, z_is0, z_iv0, z_ip0, z_is1, z_iv1, z_ip1, z_is2, z_iv2, z_ip2, z_is3, z_iv3, z_ip3, z_is4, z_iv4, z_ip4, z_is5, z_iv5, z_ip5, z_is6, z_iv6, z_ip6, z_is7, z_iv7, z_ip7, z_m991, z_m992, z_m993, z_m994, z_m995, z_m996, z_m998, acal_0, acal_1, acal_2, acal_3, acal_4, aK_v, aK_n, sF_c, sF_n, b_nr, b_nn, r_I, r_Z, r_L, r_A, r_V, sw_F, sw_n, gd_tt, is01_bzT, is01_0, is01_1, qrv_s, qrv_n, bi_eq_t, bi_eq_f, bi_ne_t, bi_ne_f, bi_lt_t, bi_lt_f, bi_ge_t, bi_ge_f, bi_gt_t, bi_gt_f, bi_le_t, bi_le_f, bc_eq_t, bc_eq_f, bc_ne_t, bc_ne_f, bc_lt_t, bc_lt_f, bc_ge_t, bc_ge_f, bc_gt_t, bc_gt_f, bc_le_t, bc_le_f, bb_eq_t, bb_eq_f, bb_ne_t, bb_ne_f, sc_t, sc_f, b_nr, b_nn, mI_J, mI_R, mJ_I, mJ_R, mR_I, mR_J, mK_I, mK_J, mK_R, mN_I, mN_J, mN_R, inM_I, inM_J, inM_R, mZ_nc, mZ_nk, mZ_sm, mZ_J, mZ_R, mJ_nc, mJ_ni, mJ_sm, mI_Z, iz_add, iz_sub, iz_mul, iz_neg, iz_lt, iz_le, iz_eq, iz_clamp, iz_inB, iz_div, iz_rem, shK h, shR h, inM_lit, and_self, true_and, and_true, true_or, or_true, not_true_eq_false, not_false_eq_true, Nat.reduceEqDiff, reduceCtorEq, Int.reduceNeg, Int.reduceSub, Int.reduceAdd, Int.reduceMul, Int.reduceToNat, Int.reduceEq, Int.neg_neg, Int.cast_ofNat_Int, Nat.reduceAdd, Nat.reduceMul, Nat.reduceSub, gd_t, emod_r, iz_0, Int.zero_add, Int.add_zero, wp_some]
    exact fin
  · have bit := nz_bit (s := S) (h := l) hS (by omega)
    have nx : ∀ M2, Dif M M2 (DFw S) → mZ M2 218 S = loadN M S (l + 1) → mZ M2 219 S = fmin (bt S) (fun h => tourP M f S h + ds (hcl M h) f) 1000000 (l + 1) → (∀ h : Nat, h < l + 1 → bt S h → mZ M2 (222 + S) h = tourP M f S h) → wp (g [some (.ref 217), some (.int (iz (S : Int))), some (.int (iz f)), some (.int (iz ((l : Int) + 1)))] [] M2) P := fun M2 a1 a2 a3 a4 => hg2 (k - 1) _ M2 (by omega) ⟨l + 1, rfl, by omega, a1, a2, a3, a4⟩
    by_cases b : bt S l
    · have b1 : ((S / 2 ^ l % 2 : Nat) : Int) = 1 := by unfold bt at b; omega
      have p1 := pc_1 S hS l (by omega) b
      have sh := nz_shl (h := l) (by omega)
      have pl : 2 ^ l < 256 := by omega
      have an := nz_andn (s := S) (t := 2 ^ l) hS pl
      have e18 := x18 hW'.2.2.1 (show l < 8 by omega)
      rw [hwt_k q481] at e18
      obtain ⟨f1, f2⟩ := shR_221 h hS
      have i1 : inM M' (222 + S) := of_eq_true (inM_lit hN (by omega) (by omega))
      have wb := hwt_b hw (show l < 8 by omega)
      have D2 : Dif M (qsI M' 218 S (iz (loadN M S l + hwt M l))) (DFw S) := hD.I (Or.inl ⟨rfl, rfl⟩)
      have hx : shp (qsI M' 218 S (iz (loadN M S l + hwt M l))) := shp_I h (by decide)
      have W2 := Wo_k hW (Frm.of D2) (fun i k q => by unfold DFw at q; unfold aside; omega)
      have r481 : ∀ k, mZ (qsI M' 218 S (iz (loadN M S l + hwt M l))) 481 k = mZ M 481 k := fun k => D2.z (by unfold DFw; omega)
      have ct := x_tourTo (d := d) (B := andn S (2 ^ l)) (l := l) (M := qsI M' 218 S (iz (loadN M S l + hwt M l))) (f := f) W2 (by omega) (by omega) (by rw [r481]; exact hi l (by omega) b) (inH_k r481 (inH_n hS (by omega) hi)) hf (fun o ho hb => by
        rw [mZ_nc (by omega), hD.z (by unfold DFw; omega), tourP_k r481]
        exact hT l (by omega) b o ho hb)
      have l1 : mZ (qsI M' 218 S (iz (loadN M S l + hwt M l))) 218 S = loadN M S (l + 1) := by rw [mZ_sm rfl (by omega) (by omega), loadN_t b]
      have e2' : mZ (qsI M' 218 S (iz (loadN M S l + hwt M l))) 219 S = fmin (bt S) (fun h => tourP M f S h + ds (hcl M h) f) 1000000 l := by rw [mZ_nc (by decide)]; exact e2
      have e3' : ∀ h : Nat, h < l → bt S h → mZ (qsI M' 218 S (iz (loadN M S l + hwt M l))) (222 + S) h = tourP M f S h := fun h q1 q2 => by rw [mZ_nc (by omega)]; exact e3 h q1 q2
      simp (disch := first | assumption | decide | omega) only [n_222_0, n_222_114, n_222_120, f_222_17, z_iconst, z_bipush, z_sipush, z_ldc, z_ldcs, z_ldcw, z_ldc2, z_lconst0, z_lconst1, z_null, z_getstatic, z_iload_0, z_iload_1, z_iload_2, z_iload_3, z_iload, z_istore_0, z_istore_1, z_istore_2, z_istore_3, z_istore, z_lload_0, z_lload_1, z_lload_2, z_lload_3, z_lload, z_lstore_0, z_lstore_1, z_lstore_2, z_lstore_3, z_lstore, z_aload_0, z_aload_1, z_aload_2, z_aload_3, z_aload, z_astore_0, z_astore_1, z_astore_2, z_astore_3, z_astore, ald_0, ald_s, z_iinc, qst1_1i, qst2_1i, qst1_1r, qst2_1r, qst1_1u, qst2_1u, qst1_1n, qst2_1n, qst1_1l, qst2_1l, qst1_0, qst2_0, qst1_s, qst2_s, z_iadd, z_isub, z_imul, z_iand, z_ior, z_ixor, z_ishl, z_ishr, z_idiv, z_irem, z_ladd, z_lsub, z_lmul, z_land, z_lor, z_ldiv, z_lrem, z_ineg, z_lshl, z_lshr, z_i2l, z_l2i, z_i2b, z_i2c, z_lcmp, z_dupi, z_dupr, z_popi, z_popr, z_dup2, z_goto, z_get0, z_get1, z_get2, z_get3, z_put0, z_put1, z_put2, z_put2n, z_put3, z_iaload, z_baload, z_laload, z_aaload, z_iastore, z_bastore, z_lastore, z_aastore, z_aastoren, z_arraylength, z_new, z_newarray, z_anewarray, z_multi, z_objinit, z_is0, z_iv0, z_ip0, z_is1, z_iv1, z_ip1, z_is2, z_iv2, z_ip2, z_is3, z_iv3, z_ip3, z_is4, z_iv4, z_ip4, z_is5, z_iv5, z_ip5, z_is6, z_iv6, z_ip6, z_is7, z_iv7, z_ip7, z_m991, z_m992, z_m993, z_m994, z_m995, z_m996, z_m998, acal_0, acal_1, acal_2, acal_3, acal_4, aK_v, aK_n, sF_c, sF_n, b_nr, b_nn, r_I, r_Z, r_L, r_A, r_V, sw_F, sw_n, gd_tt, is01_bzT, is01_0, is01_1, qrv_s, qrv_n, bi_eq_t, bi_eq_f, bi_ne_t, bi_ne_f, bi_lt_t, bi_lt_f, bi_ge_t, bi_ge_f, bi_gt_t, bi_gt_f, bi_le_t, bi_le_f, bc_eq_t, bc_eq_f, bc_ne_t, bc_ne_f, bc_lt_t, bc_lt_f, bc_ge_t, bc_ge_f, bc_gt_t, bc_gt_f, bc_le_t, bc_le_f, bb_eq_t, bb_eq_f, bb_ne_t, bb_ne_f, sc_t, sc_f, b_nr, b_nn, mI_J, mI_R, mJ_I, mJ_R, mR_I, mR_J, mK_I, mK_J, mK_R, mN_I, mN_J, mN_R, inM_I, inM_J, inM_R, mZ_nc, mZ_nk, mZ_sm, mZ_J, mZ_R, mJ_nc, mJ_ni, mJ_sm, mI_Z, iz_add, iz_sub, iz_mul, iz_neg, iz_lt, iz_le, iz_eq, iz_clamp, iz_inB, iz_div, iz_rem, shK h, shR h, inM_lit, and_self, true_and, and_true, true_or, or_true, not_true_eq_false, not_false_eq_true, Nat.reduceEqDiff, reduceCtorEq, Int.reduceNeg, Int.reduceSub, Int.reduceAdd, Int.reduceMul, Int.reduceToNat, Int.reduceEq, Int.neg_neg, Int.cast_ofNat_Int, Nat.reduceAdd, Nat.reduceMul, Nat.reduceSub, gd_t, emod_r, iz_0, Int.zero_add, Int.add_zero, wp_some, bit, b1, e1, e18, f1, f2, i1, sh, an, Int.toNat_natCast]
      have iN : 513 ≤ mN (qsI M' 218 S (iz (loadN M S l + hwt M l))) := hN
      generalize qsI M' 218 S (iz (loadN M S l + hwt M l)) = M2 at *
      refine wp_cI ct (fun z M3 q => ?_)
      obtain ⟨rfl, hz⟩ := q
      rw [tourV_k r481, tourV_e hS (by omega) b] at hz
      have e14 := x14 W2.2.2.1 (show l < 8 by omega)
      rw [hcl_k r481] at e14
      have cbo := fun M => c_between (d := d + 1) (M := M) (hcl_b hw (hi l (by omega) b)) hf
      obtain ⟨f1', f2'⟩ := shR_221 W2.1 hS
      have i1' : inM M3 (222 + S) := of_eq_true (inM_lit iN (by omega) (by omega))
      have gg := gb l (by omega) b
      have tb := tourP_b hw hf (pc S) S l rfl hS (by omega) b hi
      have pb := pc_le (s := S)
      have db := ds_b (hcl_b hw (hi l (by omega) b)) hf
      have fin := nx (qsI (qsI M3 (222 + S) l (iz z)) 219 S (iz (mn (fmin (bt S) (fun h => tourP M f S h + ds (hcl M h) f) 1000000 l) (z + ds (hcl M l) f)))) ((D2.I (Or.inr (Or.inr rfl))).I (Or.inr (Or.inl ⟨rfl, rfl⟩))) (by rw [mZ_nc (by decide), mZ_nc (by omega)]; exact l1) (by
        rw [fmin_t b, hz]
        refine mZ_sm rfl ?_ ?_ <;> (unfold mn; split <;> omega)) (fun o q1 q2 => by
        rw [mZ_nc (by omega)]
        by_cases eo : o = l
        · rw [eo, mZ_sm rfl (by omega) (by omega)]; exact hz
        · rw [mZ_nk eo]; exact e3' o (by omega) q2)
      rw [← hz] at tb gg
      generalize fmin (bt S) (fun h => tourP M f S h + ds (hcl M h) f) 1000000 l = v at *
      generalize ds (hcl M l) f = dd at *
      generalize hcl M l = co at *
      clear nx ct
      simp (disch := first | assumption | decide | omega) only [n_222_0, n_222_114, n_222_120, f_222_17, z_iconst, z_bipush, z_sipush, z_ldc, z_ldcs, z_ldcw, z_ldc2, z_lconst0, z_lconst1, z_null, z_getstatic, z_iload_0, z_iload_1, z_iload_2, z_iload_3, z_iload, z_istore_0, z_istore_1, z_istore_2, z_istore_3, z_istore, z_lload_0, z_lload_1, z_lload_2, z_lload_3, z_lload, z_lstore_0, z_lstore_1, z_lstore_2, z_lstore_3, z_lstore, z_aload_0, z_aload_1, z_aload_2, z_aload_3, z_aload, z_astore_0, z_astore_1, z_astore_2, z_astore_3, z_astore, ald_0, ald_s, z_iinc, qst1_1i, qst2_1i, qst1_1r, qst2_1r, qst1_1u, qst2_1u, qst1_1n, qst2_1n, qst1_1l, qst2_1l, qst1_0, qst2_0, qst1_s, qst2_s, z_iadd, z_isub, z_imul, z_iand, z_ior, z_ixor, z_ishl, z_ishr, z_idiv, z_irem, z_ladd, z_lsub, z_lmul, z_land, z_lor, z_ldiv, z_lrem, z_ineg, z_lshl, z_lshr, z_i2l, z_l2i, z_i2b, z_i2c, z_lcmp, z_dupi, z_dupr, z_popi, z_popr, z_dup2, z_goto, z_get0, z_get1, z_get2, z_get3, z_put0, z_put1, z_put2, z_put2n, z_put3, z_iaload, z_baload, z_laload, z_aaload, z_iastore, z_bastore, z_lastore, z_aastore, z_aastoren, z_arraylength, z_new, z_newarray, z_anewarray, z_multi, z_objinit, z_is0, z_iv0, z_ip0, z_is1, z_iv1, z_ip1, z_is2, z_iv2, z_ip2, z_is3, z_iv3, z_ip3, z_is4, z_iv4, z_ip4, z_is5, z_iv5, z_ip5, z_is6, z_iv6, z_ip6, z_is7, z_iv7, z_ip7, z_m991, z_m992, z_m993, z_m994, z_m995, z_m996, z_m998, acal_0, acal_1, acal_2, acal_3, acal_4, aK_v, aK_n, sF_c, sF_n, b_nr, b_nn, r_I, r_Z, r_L, r_A, r_V, sw_F, sw_n, gd_tt, is01_bzT, is01_0, is01_1, qrv_s, qrv_n, bi_eq_t, bi_eq_f, bi_ne_t, bi_ne_f, bi_lt_t, bi_lt_f, bi_ge_t, bi_ge_f, bi_gt_t, bi_gt_f, bi_le_t, bi_le_f, bc_eq_t, bc_eq_f, bc_ne_t, bc_ne_f, bc_lt_t, bc_lt_f, bc_ge_t, bc_ge_f, bc_gt_t, bc_gt_f, bc_le_t, bc_le_f, bb_eq_t, bb_eq_f, bb_ne_t, bb_ne_f, sc_t, sc_f, b_nr, b_nn, mI_J, mI_R, mJ_I, mJ_R, mR_I, mR_J, mK_I, mK_J, mK_R, mN_I, mN_J, mN_R, inM_I, inM_J, inM_R, mZ_nc, mZ_nk, mZ_sm, mZ_J, mZ_R, mJ_nc, mJ_ni, mJ_sm, mI_Z, iz_add, iz_sub, iz_mul, iz_neg, iz_lt, iz_le, iz_eq, iz_clamp, iz_inB, iz_div, iz_rem, shK h, shR h, inM_lit, and_self, true_and, and_true, true_or, or_true, not_true_eq_false, not_false_eq_true, Nat.reduceEqDiff, reduceCtorEq, Int.reduceNeg, Int.reduceSub, Int.reduceAdd, Int.reduceMul, Int.reduceToNat, Int.reduceEq, Int.neg_neg, Int.cast_ofNat_Int, Nat.reduceAdd, Nat.reduceMul, Nat.reduceSub, gd_t, emod_r, iz_0, Int.zero_add, Int.add_zero, wp_some, shK W2.1, shR W2.1, f1', f2', i1', e14, cbo, e2', nz_min2, Int.toNat_natCast, List.length_nil, List.length_cons, Nat.zero_le, Nat.reduceLeDiff]
      exact fin
    · have b1 : ((S / 2 ^ l % 2 : Nat) : Int) = 0 := by
        rcases bt_d (s := S) (h := l) with q | q
        · exact absurd q b
        · omega
      have fin := nx M' hD (by rw [loadN_f b]; exact e1) (by rw [fmin_f b]; exact e2) (fun o q1 q2 => by
        by_cases eo : o = l
        · rw [eo] at q2; exact absurd q2 b
        · exact e3 o (by omega) q2)
      simp (disch := first | assumption | decide | omega) only [n_222_0, n_222_114, n_222_120, f_222_17, z_iconst, z_bipush, z_sipush, z_ldc, z_ldcs, z_ldcw, z_ldc2, z_lconst0, z_lconst1, z_null, z_getstatic, z_iload_0, z_iload_1, z_iload_2, z_iload_3, z_iload, z_istore_0, z_istore_1, z_istore_2, z_istore_3, z_istore, z_lload_0, z_lload_1, z_lload_2, z_lload_3, z_lload, z_lstore_0, z_lstore_1, z_lstore_2, z_lstore_3, z_lstore, z_aload_0, z_aload_1, z_aload_2, z_aload_3, z_aload, z_astore_0, z_astore_1, z_astore_2, z_astore_3, z_astore, ald_0, ald_s, z_iinc, qst1_1i, qst2_1i, qst1_1r, qst2_1r, qst1_1u, qst2_1u, qst1_1n, qst2_1n, qst1_1l, qst2_1l, qst1_0, qst2_0, qst1_s, qst2_s, z_iadd, z_isub, z_imul, z_iand, z_ior, z_ixor, z_ishl, z_ishr, z_idiv, z_irem, z_ladd, z_lsub, z_lmul, z_land, z_lor, z_ldiv, z_lrem, z_ineg, z_lshl, z_lshr, z_i2l, z_l2i, z_i2b, z_i2c, z_lcmp, z_dupi, z_dupr, z_popi, z_popr, z_dup2, z_goto, z_get0, z_get1, z_get2, z_get3, z_put0, z_put1, z_put2, z_put2n, z_put3, z_iaload, z_baload, z_laload, z_aaload, z_iastore, z_bastore, z_lastore, z_aastore, z_aastoren, z_arraylength, z_new, z_newarray, z_anewarray, z_multi, z_objinit, z_is0, z_iv0, z_ip0, z_is1, z_iv1, z_ip1, z_is2, z_iv2, z_ip2, z_is3, z_iv3, z_ip3, z_is4, z_iv4, z_ip4, z_is5, z_iv5, z_ip5, z_is6, z_iv6, z_ip6, z_is7, z_iv7, z_ip7, z_m991, z_m992, z_m993, z_m994, z_m995, z_m996, z_m998, acal_0, acal_1, acal_2, acal_3, acal_4, aK_v, aK_n, sF_c, sF_n, b_nr, b_nn, r_I, r_Z, r_L, r_A, r_V, sw_F, sw_n, gd_tt, is01_bzT, is01_0, is01_1, qrv_s, qrv_n, bi_eq_t, bi_eq_f, bi_ne_t, bi_ne_f, bi_lt_t, bi_lt_f, bi_ge_t, bi_ge_f, bi_gt_t, bi_gt_f, bi_le_t, bi_le_f, bc_eq_t, bc_eq_f, bc_ne_t, bc_ne_f, bc_lt_t, bc_lt_f, bc_ge_t, bc_ge_f, bc_gt_t, bc_gt_f, bc_le_t, bc_le_f, bb_eq_t, bb_eq_f, bb_ne_t, bb_ne_f, sc_t, sc_f, b_nr, b_nn, mI_J, mI_R, mJ_I, mJ_R, mR_I, mR_J, mK_I, mK_J, mK_R, mN_I, mN_J, mN_R, inM_I, inM_J, inM_R, mZ_nc, mZ_nk, mZ_sm, mZ_J, mZ_R, mJ_nc, mJ_ni, mJ_sm, mI_Z, iz_add, iz_sub, iz_mul, iz_neg, iz_lt, iz_le, iz_eq, iz_clamp, iz_inB, iz_div, iz_rem, shK h, shR h, inM_lit, and_self, true_and, and_true, true_or, or_true, not_true_eq_false, not_false_eq_true, Nat.reduceEqDiff, reduceCtorEq, Int.reduceNeg, Int.reduceSub, Int.reduceAdd, Int.reduceMul, Int.reduceToNat, Int.reduceEq, Int.neg_neg, Int.cast_ofNat_Int, Nat.reduceAdd, Nat.reduceMul, Nat.reduceSub, gd_t, emod_r, iz_0, Int.zero_add, Int.add_zero, wp_some, bit, b1]
      exact fin

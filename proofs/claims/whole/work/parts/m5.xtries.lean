/-! x runs an ORDER once -/
def oS (M : qMe) (dn cm ls : Int) : OS := (mI M 481, mI M 501, mI M 479 47, dn, cm, ls)
theorem gO_own {M : qMe} {dn cm ls : Int} : gO M (oS M dn cm ls) = M := gm_own
theorem eO_own {M : qMe} {dn cm ls : Int} : eO M (oS M dn cm ls) = envM M dn cm ls := by
  unfold eO
  rw [gO_own]
  rfl
/-- a step of the pure run, read off the memory -/
theorem tryO_own {M : qMe} {it : Itm} {dn cm ls : Int} : tryO M it (oS M dn cm ls) = if itest it.2.2.1 (envM M dn cm ls) = some true then andO (sumsV it.2.1 (envM M dn cm ls)) (fun zs => ifC (canO M it.1 (fun j => zs.getD j 0)) (some (doO M it.1 (fun j => zs.getD j 0) (oS M dn cm ls))) none) else some (oS M dn cm ls) := by
  unfold tryO
  rw [eO_own, gO_own]
/-- x's cells behind a step go with the state o1 -/
def XPo (M1 : qMe) (o1 : OS) : Prop := CkX M1 o1.2.2.2.1 o1.2.2.2.2.1 o1.2.2.2.2.2 ∧ ∀ M3, Lk M1 M3 o1.1 o1.2.1 o1.2.2.1 → Wo M3 ∧ Un M3
/-- what is known of an ORDER that was read -/
def itO (cs : List Int) (it : Itm) (e : Nat → Int) : Prop := it.1 ≤ 2 ∧ it.2.1.length = manyO it.1 ∧ (∀ s, s ∈ it.2.1 → s.1 ≤ 512 ∧ rkv (cdOf cs) cs.length 6 e s.1 = s.2 e) ∧ ∀ t, it.2.2.1 = some t → t.1 ≤ 512 ∧ rkv (cdOf cs) cs.length 6 e t.1 = ob01 (t.2 e)
theorem CkX_k {M M1 : qMe} {dn cm ls : Int} (h : CkX M dn cm ls) (hz : ∀ k, mZ M1 193 k = mZ M 193 k) : CkX M1 dn cm ls := by
  obtain ⟨a1, a2, a3⟩ := h
  exact ⟨by rw [hz]; exact a1, by rw [hz]; exact a2, by rw [hz]; exact a3⟩
theorem Wo_w {M M1 : qMe} (hW : Wo M) (hD : Dif M M1 (fun i _ => 214 ≤ i ∧ i ≤ 216)) : Wo M1 := Wo_k hW (Frm.of hD) (fun i k q => by unfold aside; omega)
theorem Un_D {M M1 : qMe} (hU : Un M) (hD : Dif M M1 (fun i _ => 214 ≤ i ∧ i ≤ 216)) : Un M1 := Un_k hU (fun i k q => hD.z (by omega)) (hD.z (by omega))
/-- nothing but words, stack, sums has changed -/
theorem join_same {M M1 M3 : qMe} (hW : Wo M) (hU : Un M) (hD : Dif M M1 (fun i _ => 214 ≤ i ∧ i ≤ 216)) (hk : Lk M1 M3 (mI M 481) (mI M 501) (mI M 479 47)) : Wo M3 ∧ Un M3 := by
  obtain ⟨a1, a2, a3, a4, a5, a6, a7⟩ := hk
  have F : Frm M M3 (fun i _ => (214 ≤ i ∧ i ≤ 216) ∨ (¬ Ax i ∧ ¬ i = 481)) := by
    refine ⟨a1.trans hD.1, fun i => (a2 i).trans (hD.2.1 i), fun i k _ => (a3 i k).trans (hD.2.2.1 i k), fun i k q => ?_⟩
    by_cases e : i = 481
    · rw [e]; exact congrArg Int32.toInt (a5 k)
    · have ax : Ax i := Classical.byContradiction (fun z => q (Or.inr ⟨z, e⟩))
      exact (a4 i k ax).trans (hD.z (fun z => q (Or.inl z)))
  refine ⟨Wo_k hW F (fun i k q => by unfold Ax at q; unfold aside; omega), Un_k hU (fun i k q => ?_) (congrArg Int32.toInt a7)⟩
  by_cases e : i = 501
  · rw [e]; exact congrArg Int32.toInt (a6 k)
  · exact (a4 i k (by unfold Ax; omega)).trans (hD.z (by omega))
theorem x_castToSend {d : Nat} {M : qMe} {z : Nat → Int} (h : shp M) (hz : ∀ j, j < 4 → mZ M 216 j = z j) (h0 : 0 ≤ z 0 ∧ z 0 ≤ 7) (h1 : 0 ≤ z 1 ∧ z 1 ≤ 3) (h2 : 0 ≤ z 2 ∧ z 2 ≤ 3) (h3 : 1 ≤ z 3 ∧ z 3 ≤ 9) : cal (d + 1) 253 [.ref 193] M = some (some (.int (iz (castZ z))), M) := by
  have hN := h.1
  have z0 := hz 0 (by decide)
  have z1 := hz 1 (by decide)
  have z2 := hz 2 (by decide)
  have z3 := hz 3 (by decide)
  have e : z 0 * 160 + z 1 * 40 + z 2 * 10 + z 3 = castZ z := by unfold castZ; omega
  refine (cal_253 _ _ _).trans ((gd_t (Nat.le_of_ble_eq_true rfl)).trans ?_)
  change n_253_0 (cal _) [some (.ref 193)] [] _ = _
  simp (disch := first | assumption | decide | omega) only [n_253_0, z_iconst, z_bipush, z_sipush, z_ldc, z_ldcs, z_ldcw, z_ldc2, z_lconst0, z_lconst1, z_null, z_getstatic, z_iload_0, z_iload_1, z_iload_2, z_iload_3, z_iload, z_istore_0, z_istore_1, z_istore_2, z_istore_3, z_istore, z_lload_0, z_lload_1, z_lload_2, z_lload_3, z_lload, z_lstore_0, z_lstore_1, z_lstore_2, z_lstore_3, z_lstore, z_aload_0, z_aload_1, z_aload_2, z_aload_3, z_aload, z_astore_0, z_astore_1, z_astore_2, z_astore_3, z_astore, ald_0, ald_s, z_iinc, qst1_1i, qst2_1i, qst1_1r, qst2_1r, qst1_1u, qst2_1u, qst1_1n, qst2_1n, qst1_1l, qst2_1l, qst1_0, qst2_0, qst1_s, qst2_s, z_iadd, z_isub, z_imul, z_iand, z_ior, z_ixor, z_ishl, z_ishr, z_idiv, z_irem, z_ladd, z_lsub, z_lmul, z_land, z_lor, z_ldiv, z_lrem, z_ineg, z_lshl, z_lshr, z_i2l, z_l2i, z_i2b, z_i2c, z_lcmp, z_dupi, z_dupr, z_popi, z_popr, z_dup2, z_goto, z_get0, z_get1, z_get2, z_get3, z_put0, z_put1, z_put2, z_put2n, z_put3, z_iaload, z_baload, z_laload, z_aaload, z_iastore, z_bastore, z_lastore, z_aastore, z_aastoren, z_arraylength, z_new, z_newarray, z_anewarray, z_multi, z_objinit, z_is0, z_iv0, z_ip0, z_is1, z_iv1, z_ip1, z_is2, z_iv2, z_ip2, z_is3, z_iv3, z_ip3, z_is4, z_iv4, z_ip4, z_is5, z_iv5, z_ip5, z_is6, z_iv6, z_ip6, z_is7, z_iv7, z_ip7, z_m991, z_m992, z_m993, z_m994, z_m995, z_m996, z_m998, acal_0, acal_1, acal_2, acal_3, acal_4, aK_v, aK_n, sF_c, sF_n, b_nr, b_nn, r_I, r_Z, r_L, r_A, r_V, sw_F, sw_n, gd_tt, is01_bzT, is01_0, is01_1, qrv_s, qrv_n, bi_eq_t, bi_eq_f, bi_ne_t, bi_ne_f, bi_lt_t, bi_lt_f, bi_ge_t, bi_ge_f, bi_gt_t, bi_gt_f, bi_le_t, bi_le_f, bc_eq_t, bc_eq_f, bc_ne_t, bc_ne_f, bc_lt_t, bc_lt_f, bc_ge_t, bc_ge_f, bc_gt_t, bc_gt_f, bc_le_t, bc_le_f, bb_eq_t, bb_eq_f, bb_ne_t, bb_ne_f, sc_t, sc_f, b_nr, b_nn, mI_J, mI_R, mJ_I, mJ_R, mR_I, mR_J, mK_I, mK_J, mK_R, mN_I, mN_J, mN_R, inM_I, inM_J, inM_R, mZ_nc, mZ_nk, mZ_sm, mZ_J, mZ_R, mJ_nc, mJ_ni, mJ_sm, mI_Z, iz_add, iz_sub, iz_mul, iz_neg, iz_lt, iz_le, iz_eq, iz_clamp, iz_inB, iz_div, iz_rem, shK h, shR h, inM_lit, and_self, true_and, and_true, true_or, or_true, not_true_eq_false, not_false_eq_true, Nat.reduceEqDiff, reduceCtorEq, Int.reduceNeg, Int.reduceSub, Int.reduceAdd, Int.reduceMul, Int.reduceToNat, Int.reduceEq, Int.neg_neg, Int.cast_ofNat_Int, Nat.reduceAdd, Nat.reduceMul, Nat.reduceSub, gd_t, emod_r, iz_0, Int.zero_add, Int.add_zero, wp_some, z0, z1, z2, z3, e]
theorem x_endOfLatest {d : Nat} {M : qMe} {e : Int} (h : shp M) (he : mZ M 78 4 = e) : cal (d + 1) 304 [.ref 113] M = some (some (.int (iz e)), M) := by
  have hN := h.1
  refine (cal_304 _ _ _).trans ((gd_t (Nat.le_of_ble_eq_true rfl)).trans ?_)
  change n_304_0 (cal _) [some (.ref 113)] [] _ = _
  simp (disch := first | assumption | decide | omega) only [n_304_0, z_iconst, z_bipush, z_sipush, z_ldc, z_ldcs, z_ldcw, z_ldc2, z_lconst0, z_lconst1, z_null, z_getstatic, z_iload_0, z_iload_1, z_iload_2, z_iload_3, z_iload, z_istore_0, z_istore_1, z_istore_2, z_istore_3, z_istore, z_lload_0, z_lload_1, z_lload_2, z_lload_3, z_lload, z_lstore_0, z_lstore_1, z_lstore_2, z_lstore_3, z_lstore, z_aload_0, z_aload_1, z_aload_2, z_aload_3, z_aload, z_astore_0, z_astore_1, z_astore_2, z_astore_3, z_astore, ald_0, ald_s, z_iinc, qst1_1i, qst2_1i, qst1_1r, qst2_1r, qst1_1u, qst2_1u, qst1_1n, qst2_1n, qst1_1l, qst2_1l, qst1_0, qst2_0, qst1_s, qst2_s, z_iadd, z_isub, z_imul, z_iand, z_ior, z_ixor, z_ishl, z_ishr, z_idiv, z_irem, z_ladd, z_lsub, z_lmul, z_land, z_lor, z_ldiv, z_lrem, z_ineg, z_lshl, z_lshr, z_i2l, z_l2i, z_i2b, z_i2c, z_lcmp, z_dupi, z_dupr, z_popi, z_popr, z_dup2, z_goto, z_get0, z_get1, z_get2, z_get3, z_put0, z_put1, z_put2, z_put2n, z_put3, z_iaload, z_baload, z_laload, z_aaload, z_iastore, z_bastore, z_lastore, z_aastore, z_aastoren, z_arraylength, z_new, z_newarray, z_anewarray, z_multi, z_objinit, z_is0, z_iv0, z_ip0, z_is1, z_iv1, z_ip1, z_is2, z_iv2, z_ip2, z_is3, z_iv3, z_ip3, z_is4, z_iv4, z_ip4, z_is5, z_iv5, z_ip5, z_is6, z_iv6, z_ip6, z_is7, z_iv7, z_ip7, z_m991, z_m992, z_m993, z_m994, z_m995, z_m996, z_m998, acal_0, acal_1, acal_2, acal_3, acal_4, aK_v, aK_n, sF_c, sF_n, b_nr, b_nn, r_I, r_Z, r_L, r_A, r_V, sw_F, sw_n, gd_tt, is01_bzT, is01_0, is01_1, qrv_s, qrv_n, bi_eq_t, bi_eq_f, bi_ne_t, bi_ne_f, bi_lt_t, bi_lt_f, bi_ge_t, bi_ge_f, bi_gt_t, bi_gt_f, bi_le_t, bi_le_f, bc_eq_t, bc_eq_f, bc_ne_t, bc_ne_f, bc_lt_t, bc_lt_f, bc_ge_t, bc_ge_f, bc_gt_t, bc_gt_f, bc_le_t, bc_le_f, bb_eq_t, bb_eq_f, bb_ne_t, bb_ne_f, sc_t, sc_f, b_nr, b_nn, mI_J, mI_R, mJ_I, mJ_R, mR_I, mR_J, mK_I, mK_J, mK_R, mN_I, mN_J, mN_R, inM_I, inM_J, inM_R, mZ_nc, mZ_nk, mZ_sm, mZ_J, mZ_R, mJ_nc, mJ_ni, mJ_sm, mI_Z, iz_add, iz_sub, iz_mul, iz_neg, iz_lt, iz_le, iz_eq, iz_clamp, iz_inB, iz_div, iz_rem, shK h, shR h, inM_lit, and_self, true_and, and_true, true_or, or_true, not_true_eq_false, not_false_eq_true, Nat.reduceEqDiff, reduceCtorEq, Int.reduceNeg, Int.reduceSub, Int.reduceAdd, Int.reduceMul, Int.reduceToNat, Int.reduceEq, Int.neg_neg, Int.cast_ofNat_Int, Nat.reduceAdd, Nat.reduceMul, Nat.reduceSub, gd_t, emod_r, iz_0, Int.zero_add, Int.add_zero, wp_some, he]
/-- x's ring behind a try: as it was, or one more, with a WHEEL gone that was not -/
def TRg (M M1 : qMe) (t : Nat) : Prop := (mZ M1 113 8 = mZ M 113 8 ∧ (∀ i k, 114 ≤ i → i ≤ 182 → mZ M1 i k = mZ M i k) ∧ ∀ j : Nat, j < 8 → mZ M1 22 j = mZ M 22 j) ∨ (mZ M1 113 8 = ((t + 1) % 16 : Nat) ∧ (∀ i k, 114 ≤ i → i ≤ 182 → ¬ DRe t i k → mZ M1 i k = mZ M i k) ∧ ∃ w : Nat, w < 8 ∧ mZ M 22 w = 0 ∧ mZ M1 22 w = 1 ∧ ∀ j : Nat, j < 8 → ¬ j = w → mZ M1 22 j = mZ M 22 j)
theorem TRg_0 {M M1 : qMe} {t : Nat} {D : Nat → Nat → Prop} (h : Frm M M1 D) (hD : ∀ i k, D i k → ¬ i = 22 ∧ ¬ (113 ≤ i ∧ i ≤ 182)) : TRg M M1 t := Or.inl ⟨h.z (fun z => by have := hD _ _ z; omega), fun i k a b => h.z (fun z => by have := hD _ _ z; omega), fun j _ => h.z (fun z => by have := hD _ _ z; omega)⟩
set_option maxHeartbeats 4000000 in
theorem x_tries {d i s t : Nat} {M : qMe} {cs : List Int} {is : List Itm} {it : Itm} {dn cm ls : Int} (hW : Wo M) (hG : JG M) (hI : Rid M) (hs : mZ M 113 7 = s) (ht : mZ M 113 8 = t) (hu : mZ M 479 47 = s) (s8 : s ≤ 8) (t6 : t < 16) (hEn : ∀ j : Nat, j < s → En M ((t + 16 - s + j) % 16) (105 * j)) (hD : XDr M cs is) (h5 : cs.length ≤ 512) (hi : i < 12) (hit : is[i]? = some it) (hO : itO cs it (envM M dn cm ls)) (hC : CkX M dn cm ls) (h1 : 0 ≤ dn ∧ dn ≤ 999) (h2 : 0 ≤ cm ∧ cm ≤ 999) (h3 : -1 ≤ ls ∧ ls ≤ 1000) : wI (cal (d + 7) 249 [.ref 193, .ref 184, .int (iz (i : Int))] M) (fun z M1 => ((z = 1 ∧ ∃ o1, tryO M it (oS M dn cm ls) = some o1 ∧ XPo M1 o1) ∨ (z = 0 ∧ tryO M it (oS M dn cm ls) = none)) ∧ Frm M M1 DXt ∧ JK M1 ∧ mZ M1 73 6 = mZ M 73 6 ∧ TRg M M1 t) := by
  refine wI_q (fun P hP => ?_)
  have h := hW.1
  have hN := h.1
  rw [tryO_own] at hP
  obtain ⟨k2, hl, hS, hT⟩ := hO
  have hUn : Un M := ⟨s, t, s8, t6, hs, ht, hu, hEn⟩
  obtain ⟨q1, q2, q3, q4⟩ := hD.2.2.2 i it hit
  have eb := envM_b (dn := dn) (cm := cm) (ls := ls) hW.2.1 ⟨h1.1, by omega⟩ ⟨h2.1, by omega⟩ h3
  have iI : (i : Int) < 12 := by omega
  have i0 : 0 ≤ (i : Int) := by omega
  have see := x_sees (d := d + 4) hW hC ⟨h1.1, by omega⟩ ⟨h2.1, by omega⟩ h3
  rw [show d + 4 + 2 = d + 6 by omega] at see
  have tx := XDr_C h hD h5
  generalize hen : envM M dn cm ls = en at *
  have hK := hG.2.2.1
  -- what only writes words, stack, sums
  have fr : ∀ M1, Dif M M1 (fun i _ => 214 ≤ i ∧ i ≤ 216) → Frm M M1 DXt ∧ JK M1 ∧ mZ M1 73 6 = mZ M 73 6 ∧ TRg M M1 t := fun M1 D => ⟨(Frm.of D).mono (fun i k q => by unfold DXt; omega), JK_k hK (Frm.of D) (fun i k q => by omega), D.z (by omega), TRg_0 (Frm.of D) (fun i k q => by omega)⟩
  show wp (cal ((d + 6) + 1) 249 [.ref 193, .ref 184, .int (iz (i : Int))] M) P
  rw [cal_249, gd_t (Nat.le_of_ble_eq_true rfl)]
  change wp (n_249_0 (cal _) [some (.ref 193), some (.ref 184), some (.int (iz (i : Int))), none] [] _) _
  simp (disch := first | assumption | decide | omega) only [n_249_0, n_249_63, n_249_93, n_249_155, z_iconst, z_bipush, z_sipush, z_ldc, z_ldcs, z_ldcw, z_ldc2, z_lconst0, z_lconst1, z_null, z_getstatic, z_iload_0, z_iload_1, z_iload_2, z_iload_3, z_iload, z_istore_0, z_istore_1, z_istore_2, z_istore_3, z_istore, z_lload_0, z_lload_1, z_lload_2, z_lload_3, z_lload, z_lstore_0, z_lstore_1, z_lstore_2, z_lstore_3, z_lstore, z_aload_0, z_aload_1, z_aload_2, z_aload_3, z_aload, z_astore_0, z_astore_1, z_astore_2, z_astore_3, z_astore, ald_0, ald_s, z_iinc, qst1_1i, qst2_1i, qst1_1r, qst2_1r, qst1_1u, qst2_1u, qst1_1n, qst2_1n, qst1_1l, qst2_1l, qst1_0, qst2_0, qst1_s, qst2_s, z_iadd, z_isub, z_imul, z_iand, z_ior, z_ixor, z_ishl, z_ishr, z_idiv, z_irem, z_ladd, z_lsub, z_lmul, z_land, z_lor, z_ldiv, z_lrem, z_ineg, z_lshl, z_lshr, z_i2l, z_l2i, z_i2b, z_i2c, z_lcmp, z_dupi, z_dupr, z_popi, z_popr, z_dup2, z_goto, z_get0, z_get1, z_get2, z_get3, z_put0, z_put1, z_put2, z_put2n, z_put3, z_iaload, z_baload, z_laload, z_aaload, z_iastore, z_bastore, z_lastore, z_aastore, z_aastoren, z_arraylength, z_new, z_newarray, z_anewarray, z_multi, z_objinit, z_is0, z_iv0, z_ip0, z_is1, z_iv1, z_ip1, z_is2, z_iv2, z_ip2, z_is3, z_iv3, z_ip3, z_is4, z_iv4, z_ip4, z_is5, z_iv5, z_ip5, z_is6, z_iv6, z_ip6, z_is7, z_iv7, z_ip7, z_m991, z_m992, z_m993, z_m994, z_m995, z_m996, z_m998, acal_0, acal_1, acal_2, acal_3, acal_4, aK_v, aK_n, sF_c, sF_n, b_nr, b_nn, r_I, r_Z, r_L, r_A, r_V, sw_F, sw_n, gd_tt, is01_bzT, is01_0, is01_1, qrv_s, qrv_n, bi_eq_t, bi_eq_f, bi_ne_t, bi_ne_f, bi_lt_t, bi_lt_f, bi_ge_t, bi_ge_f, bi_gt_t, bi_gt_f, bi_le_t, bi_le_f, bc_eq_t, bc_eq_f, bc_ne_t, bc_ne_f, bc_lt_t, bc_lt_f, bc_ge_t, bc_ge_f, bc_gt_t, bc_gt_f, bc_le_t, bc_le_f, bb_eq_t, bb_eq_f, bb_ne_t, bb_ne_f, sc_t, sc_f, b_nr, b_nn, mI_J, mI_R, mJ_I, mJ_R, mR_I, mR_J, mK_I, mK_J, mK_R, mN_I, mN_J, mN_R, inM_I, inM_J, inM_R, mZ_nc, mZ_nk, mZ_sm, mZ_J, mZ_R, mJ_nc, mJ_ni, mJ_sm, mI_Z, iz_add, iz_sub, iz_mul, iz_neg, iz_lt, iz_le, iz_eq, iz_clamp, iz_inB, iz_div, iz_rem, shK h, shR h, inM_lit, and_self, true_and, and_true, true_or, or_true, not_true_eq_false, not_false_eq_true, Nat.reduceEqDiff, reduceCtorEq, Int.reduceNeg, Int.reduceSub, Int.reduceAdd, Int.reduceMul, Int.reduceToNat, Int.reduceEq, Int.neg_neg, Int.cast_ofNat_Int, Nat.reduceAdd, Nat.reduceMul, Nat.reduceSub, gd_t, emod_r, iz_0, Int.zero_add, Int.add_zero, wp_some]
  refine wp_cV see (fun M1 r => ?_)
  clear see
  obtain ⟨D1, w1⟩ := r
  have D1 : Dif M M1 (fun i _ => 214 ≤ i ∧ i ≤ 216) := D1.mono (fun i k q => by omega)
  have g1 := D1.shp h (fun i k hi => by omega)
  have hN1 := g1.1
  have he1 : ∀ k, k < 6 → mZ M1 214 k = en k ∧ -1000000000 ≤ en k ∧ en k ≤ 1000000000 := fun k q => by
    have := eb k
    exact ⟨w1 k (by omega), by omega, by omega⟩
  have t1 : mZ M1 187 i = tAt it.2.2.1 := (D1.z (by omega)).trans q2
  have c1 : mZ M1 185 i = (it.1 : Int) := (D1.z (by omega)).trans q1
  have tx1 : TxC M1 184 189 cs.length (cdOf cs) := TxC_d tx D1 (fun k => by omega) (fun k => by omega)
  -- behind the TEST
  have sums : itest it.2.2.1 en = some true → ∀ M2, Dif M M2 (fun i _ => 214 ≤ i ∧ i ≤ 216) → (∀ k, mZ M2 214 k = mZ M1 214 k) → wp (n_249_39 (cal (d + 6)) [some (.ref 193), some (.ref 184), some (.int (iz (i : Int))), none] [] M2) P := by
    intro hte M2 D2 w2
    have g2 := D2.shp h (fun i k hi => by omega)
    have hN2 := g2.1
    have hD2 : XDr M2 cs is := by
      obtain ⟨a1, a2, a3, a4⟩ := hD
      refine ⟨by rw [D2.z (by omega)]; exact a1, by rw [D2.z (by omega)]; exact a2, fun j x q => by rw [D2.z (by omega)]; exact a3 j x q, fun j it q => ?_⟩
      obtain ⟨b1, b2, b3, b4⟩ := a4 j it q
      exact ⟨by rw [D2.z (by omega)]; exact b1, by rw [D2.z (by omega)]; exact b2, by rw [D2.z (by omega)]; exact b3, fun j s q => by rw [D2.z (by omega)]; exact b4 j s q⟩
    have rs := x_reckonSums (d := d + 4) (e := en) g2 hD2 h5 hi hit k2 hl hS (fun k q => by rw [w2]; exact he1 k q)
    rw [show d + 4 + 2 = d + 6 by omega] at rs
    have c2 : mZ M2 185 i = (it.1 : Int) := (D2.z (by omega)).trans q1
    have kI : 0 ≤ (it.1 : Int) ∧ (it.1 : Int) ≤ 2 := by omega
    rw [if_pos hte] at hP
    simp (disch := first | assumption | decide | omega) only [n_249_0, n_249_39, z_iconst, z_bipush, z_sipush, z_ldc, z_ldcs, z_ldcw, z_ldc2, z_lconst0, z_lconst1, z_null, z_getstatic, z_iload_0, z_iload_1, z_iload_2, z_iload_3, z_iload, z_istore_0, z_istore_1, z_istore_2, z_istore_3, z_istore, z_lload_0, z_lload_1, z_lload_2, z_lload_3, z_lload, z_lstore_0, z_lstore_1, z_lstore_2, z_lstore_3, z_lstore, z_aload_0, z_aload_1, z_aload_2, z_aload_3, z_aload, z_astore_0, z_astore_1, z_astore_2, z_astore_3, z_astore, ald_0, ald_s, z_iinc, qst1_1i, qst2_1i, qst1_1r, qst2_1r, qst1_1u, qst2_1u, qst1_1n, qst2_1n, qst1_1l, qst2_1l, qst1_0, qst2_0, qst1_s, qst2_s, z_iadd, z_isub, z_imul, z_iand, z_ior, z_ixor, z_ishl, z_ishr, z_idiv, z_irem, z_ladd, z_lsub, z_lmul, z_land, z_lor, z_ldiv, z_lrem, z_ineg, z_lshl, z_lshr, z_i2l, z_l2i, z_i2b, z_i2c, z_lcmp, z_dupi, z_dupr, z_popi, z_popr, z_dup2, z_goto, z_get0, z_get1, z_get2, z_get3, z_put0, z_put1, z_put2, z_put2n, z_put3, z_iaload, z_baload, z_laload, z_aaload, z_iastore, z_bastore, z_lastore, z_aastore, z_aastoren, z_arraylength, z_new, z_newarray, z_anewarray, z_multi, z_objinit, z_is0, z_iv0, z_ip0, z_is1, z_iv1, z_ip1, z_is2, z_iv2, z_ip2, z_is3, z_iv3, z_ip3, z_is4, z_iv4, z_ip4, z_is5, z_iv5, z_ip5, z_is6, z_iv6, z_ip6, z_is7, z_iv7, z_ip7, z_m991, z_m992, z_m993, z_m994, z_m995, z_m996, z_m998, acal_0, acal_1, acal_2, acal_3, acal_4, aK_v, aK_n, sF_c, sF_n, b_nr, b_nn, r_I, r_Z, r_L, r_A, r_V, sw_F, sw_n, gd_tt, is01_bzT, is01_0, is01_1, qrv_s, qrv_n, bi_eq_t, bi_eq_f, bi_ne_t, bi_ne_f, bi_lt_t, bi_lt_f, bi_ge_t, bi_ge_f, bi_gt_t, bi_gt_f, bi_le_t, bi_le_f, bc_eq_t, bc_eq_f, bc_ne_t, bc_ne_f, bc_lt_t, bc_lt_f, bc_ge_t, bc_ge_f, bc_gt_t, bc_gt_f, bc_le_t, bc_le_f, bb_eq_t, bb_eq_f, bb_ne_t, bb_ne_f, sc_t, sc_f, b_nr, b_nn, mI_J, mI_R, mJ_I, mJ_R, mR_I, mR_J, mK_I, mK_J, mK_R, mN_I, mN_J, mN_R, inM_I, inM_J, inM_R, mZ_nc, mZ_nk, mZ_sm, mZ_J, mZ_R, mJ_nc, mJ_ni, mJ_sm, mI_Z, iz_add, iz_sub, iz_mul, iz_neg, iz_lt, iz_le, iz_eq, iz_clamp, iz_inB, iz_div, iz_rem, inM_lit, and_self, true_and, and_true, true_or, or_true, not_true_eq_false, not_false_eq_true, Nat.reduceEqDiff, reduceCtorEq, Int.reduceNeg, Int.reduceSub, Int.reduceAdd, Int.reduceMul, Int.reduceToNat, Int.reduceEq, Int.neg_neg, Int.cast_ofNat_Int, Nat.reduceAdd, Nat.reduceMul, Nat.reduceSub, gd_t, emod_r, iz_0, Int.zero_add, Int.add_zero, wp_some, shK g2, shR g2, c2, Int.toNat_natCast]
    refine wp_cI rs (fun z M3 r => ?_)
    clear rs
    obtain ⟨D3, r⟩ := r
    have D03 : Dif M M3 (fun i _ => 214 ≤ i ∧ i ≤ 216) := D2.tr (D3.mono (fun i k q => by omega))
    have g3 := D03.shp h (fun i k hi => by omega)
    have hN3 := g3.1
    rcases r with ⟨rfl, rn⟩ | ⟨rfl, zs, rn, hzs⟩
    · rw [rn] at hP
      have fin := hP 0 M3 ⟨Or.inr ⟨rfl, rfl⟩, fr M3 D03⟩
      simp (disch := first | assumption | decide | omega) only [n_249_0, n_249_39, n_249_63, z_iconst, z_bipush, z_sipush, z_ldc, z_ldcs, z_ldcw, z_ldc2, z_lconst0, z_lconst1, z_null, z_getstatic, z_iload_0, z_iload_1, z_iload_2, z_iload_3, z_iload, z_istore_0, z_istore_1, z_istore_2, z_istore_3, z_istore, z_lload_0, z_lload_1, z_lload_2, z_lload_3, z_lload, z_lstore_0, z_lstore_1, z_lstore_2, z_lstore_3, z_lstore, z_aload_0, z_aload_1, z_aload_2, z_aload_3, z_aload, z_astore_0, z_astore_1, z_astore_2, z_astore_3, z_astore, ald_0, ald_s, z_iinc, qst1_1i, qst2_1i, qst1_1r, qst2_1r, qst1_1u, qst2_1u, qst1_1n, qst2_1n, qst1_1l, qst2_1l, qst1_0, qst2_0, qst1_s, qst2_s, z_iadd, z_isub, z_imul, z_iand, z_ior, z_ixor, z_ishl, z_ishr, z_idiv, z_irem, z_ladd, z_lsub, z_lmul, z_land, z_lor, z_ldiv, z_lrem, z_ineg, z_lshl, z_lshr, z_i2l, z_l2i, z_i2b, z_i2c, z_lcmp, z_dupi, z_dupr, z_popi, z_popr, z_dup2, z_goto, z_get0, z_get1, z_get2, z_get3, z_put0, z_put1, z_put2, z_put2n, z_put3, z_iaload, z_baload, z_laload, z_aaload, z_iastore, z_bastore, z_lastore, z_aastore, z_aastoren, z_arraylength, z_new, z_newarray, z_anewarray, z_multi, z_objinit, z_is0, z_iv0, z_ip0, z_is1, z_iv1, z_ip1, z_is2, z_iv2, z_ip2, z_is3, z_iv3, z_ip3, z_is4, z_iv4, z_ip4, z_is5, z_iv5, z_ip5, z_is6, z_iv6, z_ip6, z_is7, z_iv7, z_ip7, z_m991, z_m992, z_m993, z_m994, z_m995, z_m996, z_m998, acal_0, acal_1, acal_2, acal_3, acal_4, aK_v, aK_n, sF_c, sF_n, b_nr, b_nn, r_I, r_Z, r_L, r_A, r_V, sw_F, sw_n, gd_tt, is01_bzT, is01_0, is01_1, qrv_s, qrv_n, bi_eq_t, bi_eq_f, bi_ne_t, bi_ne_f, bi_lt_t, bi_lt_f, bi_ge_t, bi_ge_f, bi_gt_t, bi_gt_f, bi_le_t, bi_le_f, bc_eq_t, bc_eq_f, bc_ne_t, bc_ne_f, bc_lt_t, bc_lt_f, bc_ge_t, bc_ge_f, bc_gt_t, bc_gt_f, bc_le_t, bc_le_f, bb_eq_t, bb_eq_f, bb_ne_t, bb_ne_f, sc_t, sc_f, b_nr, b_nn, mI_J, mI_R, mJ_I, mJ_R, mR_I, mR_J, mK_I, mK_J, mK_R, mN_I, mN_J, mN_R, inM_I, inM_J, inM_R, mZ_nc, mZ_nk, mZ_sm, mZ_J, mZ_R, mJ_nc, mJ_ni, mJ_sm, mI_Z, iz_add, iz_sub, iz_mul, iz_neg, iz_lt, iz_le, iz_eq, iz_clamp, iz_inB, iz_div, iz_rem, inM_lit, and_self, true_and, and_true, true_or, or_true, not_true_eq_false, not_false_eq_true, Nat.reduceEqDiff, reduceCtorEq, Int.reduceNeg, Int.reduceSub, Int.reduceAdd, Int.reduceMul, Int.reduceToNat, Int.reduceEq, Int.neg_neg, Int.cast_ofNat_Int, Nat.reduceAdd, Nat.reduceMul, Nat.reduceSub, gd_t, emod_r, iz_0, Int.zero_add, Int.add_zero, wp_some]
      exact fin
    · rw [rn] at hP
      have hP : ∀ z M1, ((z = 1 ∧ ∃ o1, ifC (canO M it.1 (fun j => zs.getD j 0)) (some (doO M it.1 (fun j => zs.getD j 0) (oS M dn cm ls))) none = some o1 ∧ XPo M1 o1) ∨ (z = 0 ∧ ifC (canO M it.1 (fun j => zs.getD j 0)) (some (doO M it.1 (fun j => zs.getD j 0) (oS M dn cm ls))) none = none)) ∧ Frm M M1 DXt ∧ JK M1 ∧ mZ M1 73 6 = mZ M 73 6 ∧ TRg M M1 t → P (some (.int (iz z))) M1 := hP
      obtain ⟨zl, zb⟩ := sumsV_b it.2.1 zs hS rn
      have zget : ∀ j, j < manyO it.1 → mZ M3 216 j = zs.getD j 0 := fun j q => by
        have jl : j < zs.length := by omega
        have e : zs[j]? = some zs[j] := List.getElem?_eq_getElem jl
        rw [hzs j _ e, List.getD_eq_getElem?_getD, e]
        rfl
      have zbd : ∀ j, -1000000000 ≤ zs.getD j 0 ∧ zs.getD j 0 ≤ 1000000000 := fun j => by
        rw [List.getD_eq_getElem?_getD]
        cases e : zs[j]? with
        | none => exact ⟨by decide, by decide⟩
        | some x => exact zb x (List.mem_of_getElem? e)
      generalize hz : (fun j => zs.getD j 0) = z at *
      have zget : ∀ j, j < manyO it.1 → mZ M3 216 j = z j := fun j q => by rw [← hz]; exact zget j q
      have zbd : ∀ j, -1000000000 ≤ z j ∧ z j ≤ 1000000000 := fun j => by rw [← hz]; exact zbd j
      have W3 := Wo_w hW D03
      have cr := x_canRun (d := d + 3) W3 k2 zget zbd
      rw [show d + 3 + 3 = d + 6 by omega, bz_iff (canO_k (fun k => D03.z (by omega)))] at cr
      clear hzs zl zb zbd rn
      by_cases hc : canO M it.1 z
      · rw [bz_t hc] at cr
        rw [ifC_t hc] at hP
        have hP : ∀ M1, XPo M1 (doO M it.1 z (oS M dn cm ls)) → Frm M M1 DXt → JK M1 → (mZ M1 73 6 = mZ M 73 6 ∧ TRg M M1 t) → P (some (.int (iz 1))) M1 := fun M1 a b c e => hP 1 M1 ⟨Or.inl ⟨rfl, _, rfl, a⟩, b, c, e⟩
        have C3 : CkX M3 dn cm ls := CkX_k hC (fun k => D03.z (by omega))
        -- one more done
        have don : ∀ (M4 : qMe) (cm1 ls1 : Int) (v3 : Option Value), shp M4 → CkX M4 dn cm1 ls1 → (CkX (qsI M4 193 10 (iz (dn + 1))) (dn + 1) cm1 ls1 → P (some (.int (iz 1))) (qsI M4 193 10 (iz (dn + 1)))) → wp (n_249_155 (cal (d + 6)) [some (.ref 193), some (.ref 184), some (.int (iz (i : Int))), v3] [] M4) P := fun M4 cm1 ls1 v3 g4 C4 hQ => by
          have hN4 := g4.1
          obtain ⟨a1, a2, a3⟩ := C4
          have fin := hQ ⟨mZ_sm rfl (by omega) (by omega), by rw [mZ_nk (by decide)]; exact a2, by rw [mZ_nk (by decide)]; exact a3⟩
          simp (disch := first | assumption | decide | omega) only [n_249_0, n_249_39, n_249_63, n_249_93, n_249_155, z_iconst, z_bipush, z_sipush, z_ldc, z_ldcs, z_ldcw, z_ldc2, z_lconst0, z_lconst1, z_null, z_getstatic, z_iload_0, z_iload_1, z_iload_2, z_iload_3, z_iload, z_istore_0, z_istore_1, z_istore_2, z_istore_3, z_istore, z_lload_0, z_lload_1, z_lload_2, z_lload_3, z_lload, z_lstore_0, z_lstore_1, z_lstore_2, z_lstore_3, z_lstore, z_aload_0, z_aload_1, z_aload_2, z_aload_3, z_aload, z_astore_0, z_astore_1, z_astore_2, z_astore_3, z_astore, ald_0, ald_s, z_iinc, qst1_1i, qst2_1i, qst1_1r, qst2_1r, qst1_1u, qst2_1u, qst1_1n, qst2_1n, qst1_1l, qst2_1l, qst1_0, qst2_0, qst1_s, qst2_s, z_iadd, z_isub, z_imul, z_iand, z_ior, z_ixor, z_ishl, z_ishr, z_idiv, z_irem, z_ladd, z_lsub, z_lmul, z_land, z_lor, z_ldiv, z_lrem, z_ineg, z_lshl, z_lshr, z_i2l, z_l2i, z_i2b, z_i2c, z_lcmp, z_dupi, z_dupr, z_popi, z_popr, z_dup2, z_goto, z_get0, z_get1, z_get2, z_get3, z_put0, z_put1, z_put2, z_put2n, z_put3, z_iaload, z_baload, z_laload, z_aaload, z_iastore, z_bastore, z_lastore, z_aastore, z_aastoren, z_arraylength, z_new, z_newarray, z_anewarray, z_multi, z_objinit, z_is0, z_iv0, z_ip0, z_is1, z_iv1, z_ip1, z_is2, z_iv2, z_ip2, z_is3, z_iv3, z_ip3, z_is4, z_iv4, z_ip4, z_is5, z_iv5, z_ip5, z_is6, z_iv6, z_ip6, z_is7, z_iv7, z_ip7, z_m991, z_m992, z_m993, z_m994, z_m995, z_m996, z_m998, acal_0, acal_1, acal_2, acal_3, acal_4, aK_v, aK_n, sF_c, sF_n, b_nr, b_nn, r_I, r_Z, r_L, r_A, r_V, sw_F, sw_n, gd_tt, is01_bzT, is01_0, is01_1, qrv_s, qrv_n, bi_eq_t, bi_eq_f, bi_ne_t, bi_ne_f, bi_lt_t, bi_lt_f, bi_ge_t, bi_ge_f, bi_gt_t, bi_gt_f, bi_le_t, bi_le_f, bc_eq_t, bc_eq_f, bc_ne_t, bc_ne_f, bc_lt_t, bc_lt_f, bc_ge_t, bc_ge_f, bc_gt_t, bc_gt_f, bc_le_t, bc_le_f, bb_eq_t, bb_eq_f, bb_ne_t, bb_ne_f, sc_t, sc_f, b_nr, b_nn, mI_J, mI_R, mJ_I, mJ_R, mR_I, mR_J, mK_I, mK_J, mK_R, mN_I, mN_J, mN_R, inM_I, inM_J, inM_R, mZ_nc, mZ_nk, mZ_sm, mZ_J, mZ_R, mJ_nc, mJ_ni, mJ_sm, mI_Z, iz_add, iz_sub, iz_mul, iz_neg, iz_lt, iz_le, iz_eq, iz_clamp, iz_inB, iz_div, iz_rem, inM_lit, and_self, true_and, and_true, true_or, or_true, not_true_eq_false, not_false_eq_true, Nat.reduceEqDiff, reduceCtorEq, Int.reduceNeg, Int.reduceSub, Int.reduceAdd, Int.reduceMul, Int.reduceToNat, Int.reduceEq, Int.neg_neg, Int.cast_ofNat_Int, Nat.reduceAdd, Nat.reduceMul, Nat.reduceSub, gd_t, emod_r, iz_0, Int.zero_add, Int.add_zero, wp_some, shK g4, shR g4, a1]
          exact fin
        rcases (show it.1 = 0 ∨ it.1 = 1 ∨ it.1 = 2 by omega) with e | e | e
        · -- send
          have kI : ((it.1 : Nat) : Int) = 0 := by omega
          rw [e] at hc zget hP
          rw [kI] at cr
          have hc' : (0 ≤ z 0 ∧ z 0 ≤ 7) ∧ (0 ≤ z 1 ∧ z 1 ≤ 3) ∧ (0 ≤ z 2 ∧ z 2 ≤ 3) ∧ (1 ≤ z 3 ∧ z 3 ≤ 9) ∧ isT M (castZ z) := by
            rcases hc with ⟨q, -⟩ | ⟨q, -⟩ | ⟨-, q⟩
            · omega
            · omega
            · exact q
          obtain ⟨z0, z1, z2, z3, hisT⟩ := hc'
          have ca := x_castToSend (d := d + 5) (z := z) g3 (fun j q => zget j (by unfold manyO; rw [if_pos rfl]; exact q)) z0 z1 z2 z3
          rw [show d + 5 + 1 = d + 6 by omega] at ca
          have cb : 0 ≤ castZ z ∧ castZ z ≤ 1279 := by unfold castZ; omega
          have G3 : JG M3 := JG_k hG (Fr.of D03) (fun i k q => by omega)
          have I3 : Rid M3 := Rid_z hI (fun i k q => D03.z (by omega))
          have k481 : ∀ k, mZ M3 481 k = mZ M 481 k := fun k => D03.z (by omega)
          have k493 : ∀ k, mZ M3 493 k = mZ M 493 k := fun k => D03.z (by omega)
          have la := x_launch (d := d) (s := s) (t := t) (c := castZ z) W3 G3 I3 (by rw [isT_k k481]; exact hisT) ((D03.z (by omega)).trans hs) ((D03.z (by omega)).trans ht) s8 t6
          obtain ⟨a1, a2, a3⟩ := C3
          simp (disch := first | assumption | decide | omega) only [n_249_0, n_249_39, n_249_63, z_iconst, z_bipush, z_sipush, z_ldc, z_ldcs, z_ldcw, z_ldc2, z_lconst0, z_lconst1, z_null, z_getstatic, z_iload_0, z_iload_1, z_iload_2, z_iload_3, z_iload, z_istore_0, z_istore_1, z_istore_2, z_istore_3, z_istore, z_lload_0, z_lload_1, z_lload_2, z_lload_3, z_lload, z_lstore_0, z_lstore_1, z_lstore_2, z_lstore_3, z_lstore, z_aload_0, z_aload_1, z_aload_2, z_aload_3, z_aload, z_astore_0, z_astore_1, z_astore_2, z_astore_3, z_astore, ald_0, ald_s, z_iinc, qst1_1i, qst2_1i, qst1_1r, qst2_1r, qst1_1u, qst2_1u, qst1_1n, qst2_1n, qst1_1l, qst2_1l, qst1_0, qst2_0, qst1_s, qst2_s, z_iadd, z_isub, z_imul, z_iand, z_ior, z_ixor, z_ishl, z_ishr, z_idiv, z_irem, z_ladd, z_lsub, z_lmul, z_land, z_lor, z_ldiv, z_lrem, z_ineg, z_lshl, z_lshr, z_i2l, z_l2i, z_i2b, z_i2c, z_lcmp, z_dupi, z_dupr, z_popi, z_popr, z_dup2, z_goto, z_get0, z_get1, z_get2, z_get3, z_put0, z_put1, z_put2, z_put2n, z_put3, z_iaload, z_baload, z_laload, z_aaload, z_iastore, z_bastore, z_lastore, z_aastore, z_aastoren, z_arraylength, z_new, z_newarray, z_anewarray, z_multi, z_objinit, z_is0, z_iv0, z_ip0, z_is1, z_iv1, z_ip1, z_is2, z_iv2, z_ip2, z_is3, z_iv3, z_ip3, z_is4, z_iv4, z_ip4, z_is5, z_iv5, z_ip5, z_is6, z_iv6, z_ip6, z_is7, z_iv7, z_ip7, z_m991, z_m992, z_m993, z_m994, z_m995, z_m996, z_m998, acal_0, acal_1, acal_2, acal_3, acal_4, aK_v, aK_n, sF_c, sF_n, b_nr, b_nn, r_I, r_Z, r_L, r_A, r_V, sw_F, sw_n, gd_tt, is01_bzT, is01_0, is01_1, qrv_s, qrv_n, bi_eq_t, bi_eq_f, bi_ne_t, bi_ne_f, bi_lt_t, bi_lt_f, bi_ge_t, bi_ge_f, bi_gt_t, bi_gt_f, bi_le_t, bi_le_f, bc_eq_t, bc_eq_f, bc_ne_t, bc_ne_f, bc_lt_t, bc_lt_f, bc_ge_t, bc_ge_f, bc_gt_t, bc_gt_f, bc_le_t, bc_le_f, bb_eq_t, bb_eq_f, bb_ne_t, bb_ne_f, sc_t, sc_f, b_nr, b_nn, mI_J, mI_R, mJ_I, mJ_R, mR_I, mR_J, mK_I, mK_J, mK_R, mN_I, mN_J, mN_R, inM_I, inM_J, inM_R, mZ_nc, mZ_nk, mZ_sm, mZ_J, mZ_R, mJ_nc, mJ_ni, mJ_sm, mI_Z, iz_add, iz_sub, iz_mul, iz_neg, iz_lt, iz_le, iz_eq, iz_clamp, iz_inB, iz_div, iz_rem, inM_lit, and_self, true_and, and_true, true_or, or_true, not_true_eq_false, not_false_eq_true, Nat.reduceEqDiff, reduceCtorEq, Int.reduceNeg, Int.reduceSub, Int.reduceAdd, Int.reduceMul, Int.reduceToNat, Int.reduceEq, Int.neg_neg, Int.cast_ofNat_Int, Nat.reduceAdd, Nat.reduceMul, Nat.reduceSub, gd_t, emod_r, iz_0, Int.zero_add, Int.add_zero, wp_some, cr, kI, ca, shK g3, shR g3, a2]
          refine wp_cI la (fun y M4 r => ?_)
          clear la
          obtain ⟨F4, G4, hy, e78, L4, R4⟩ := r
          rw [comeP_k k481 k493] at hy
          rw [castQ_k k481 k493] at e78
          have L4 : LaX M M4 (castZ z) := by
            obtain ⟨l1, l2, l3, l4⟩ := L4
            rw [castQ_k k481 k493] at l1
            rw [comeP_k k481 k493, comeV_k k481 k493] at l3
            rw [eatP_k k481 k493, comeV_k k481 k493] at l4
            rw [show mZ M3 12 = mZ M 12 from funext (fun k => D03.z (by omega))] at l1
            rw [show mZ M3 16 = mZ M 16 from funext (fun k => D03.z (by omega))] at l3
            rw [show mZ M3 17 = mZ M 17 from funext (fun k => D03.z (by omega))] at l4
            exact ⟨l1, fun j q => by rw [l2 j q, D03.z (by omega)], l3, l4⟩
          have R4 : RgX M M4 s t (castZ z) := by
            obtain ⟨y1, y2, y3, y4, y5, y6, y7⟩ := R4
            exact ⟨fun j q => by rw [y1 j q, D03.z (by omega)], fun j q => by rw [y2 j q, D03.z (by omega)], fun j q => by rw [y3 j q, D03.z (by omega)], fun j q => by rw [y4 j q, D03.z (by omega)], y5, y6, y7⟩
          have g4 := F4.shp g3 (fun i k hi => by unfold DLa DRe; omega)
          have hN4 := g4.1
          have F04 : Frm M M4 DXt := ((Frm.of D03).mono (fun i k q => by unfold DXt; omega)).tr (F4.frm.mono (fun i k q => by unfold DLa DRe at q; unfold DXt; omega))
          have f4 : ∀ k, mZ M4 193 k = mZ M3 193 k := fun k => F4.z (by unfold DLa DRe; omega)
          have K4 : JK M4 := G4.2.2.1
          have ep4 : mZ M4 73 6 = mZ M 73 6 := (F4.z (by unfold DLa DRe; omega)).trans (D03.z (by omega))
          have eo : doO M 0 z (oS M dn cm ls) = (sendR M (castZ z), leftR M s (castZ z), iz ((s1R s : Nat) : Int), dn + 1, cm + ifC (comeP M (castZ z)) 1 0, qp (castQ M (-1) (castZ z))) := by
            have hu' : (mI M 479 47).toInt = s := hu
            unfold doO
            rw [if_neg (by decide), if_neg (by decide), gO_own]
            show (sendR M (castZ z), leftR M (mI M 479 47).toInt.toNat (castZ z), iz ((s1R (mI M 479 47).toInt.toNat : Nat) : Int), dn + 1, cm + ifC (comeP M (castZ z)) 1 0, qp (castQ M (-1) (castZ z))) = _
            rw [hu', Int.toNat_natCast]
          rw [eo] at hP
          have qpb : -1 ≤ qp (castQ M (-1) (castZ z)) ∧ qp (castQ M (-1) (castZ z)) ≤ 1000 := by
            have qi := castQ_I (c := castZ z) (wall := -1) hW hisT
            have qe := qi.1
            omega
          have trg : ∀ M5, Dif M4 M5 (fun i k => i = 193 ∧ (k = 10 ∨ k = 8 ∨ k = 9)) → TRg M M5 t := fun M5 D7 => by
            obtain ⟨l1, l2, l3, l4⟩ := L4
            obtain ⟨y1, y2, y3, y4, y5, y6, y7⟩ := R4
            have w0 := hisT.2.2.2.2
            rw [show (204 + 3 * (castZ z / 160) + 2).toNat = 206 + 3 * (castZ z / 160).toNat by omega, ← Ra22 hW.2.2.1 _ (by omega)] at w0
            refine Or.inr ⟨by rw [D7.z (by omega)]; exact y7, fun i k b1 b2 b3 => by
              rw [D7.z (by omega), F4.z (fun q => by
                rcases q with q | q
                · exact b3 q
                · omega), D03.z (by omega)], (castZ z / 160).toNat, by omega, w0, ?_, fun j q1 q2 => ?_⟩
            · rw [D7.z (by omega), l2 _ (by omega), if_pos (by omega)]
            · rw [D7.z (by omega), l2 _ (by omega), if_neg (by omega)]
          -- the end
          have endd : ∀ (yy : Int) (v3 : Option Value), ifC (comeP M (castZ z)) 1 0 = yy → (yy = 0 ∨ yy = 1) → wp (n_249_93 (cal (d + 6)) [some (.ref 193), some (.ref 184), some (.int (iz (i : Int))), v3] [.int (iz yy), .int (iz cm), .ref 193] M4) P := fun yy v3 hyy y01 => by
            rw [hyy] at hP
            have D5 : Dif M4 (qsI M4 193 8 (iz (cm + yy))) (fun i k => i = 193 ∧ (k = 10 ∨ k = 8 ∨ k = 9)) := Dif.rfl'.I ⟨rfl, Or.inr (Or.inl rfl)⟩
            have g5 := D5.shp g4 (fun i k hi => by omega)
            have hN5 := g5.1
            have en5 := x_endOfLatest (d := d + 5) g5 ((D5.z (by omega)).trans e78)
            rw [show d + 5 + 1 = d + 6 by omega] at en5
            have D6 : Dif M4 (qsI (qsI M4 193 8 (iz (cm + yy))) 193 9 (iz (qp (castQ M (-1) (castZ z))))) (fun i k => i = 193 ∧ (k = 10 ∨ k = 8 ∨ k = 9)) := D5.I ⟨rfl, Or.inr (Or.inr rfl)⟩
            have g6 := D6.shp g4 (fun i k hi => by omega)
            have C6 : CkX (qsI (qsI M4 193 8 (iz (cm + yy))) 193 9 (iz (qp (castQ M (-1) (castZ z))))) dn (cm + yy) (qp (castQ M (-1) (castZ z))) := ⟨by rw [mZ_nk (by decide), mZ_nk (by decide), f4]; exact a1, by rw [mZ_nk (by decide)]; exact mZ_sm rfl (by omega) (by omega), mZ_sm rfl (by omega) (by omega)⟩
            have D7 : Dif M4 (qsI (qsI (qsI M4 193 8 (iz (cm + yy))) 193 9 (iz (qp (castQ M (-1) (castZ z))))) 193 10 (iz (dn + 1))) (fun i k => i = 193 ∧ (k = 10 ∨ k = 8 ∨ k = 9)) := D6.I ⟨rfl, Or.inl rfl⟩
            have F07 := F04.tr ((Frm.of D7).mono (D2 := DXt) (fun i k q => by unfold DXt; omega))
            have fin := don _ (cm + yy) (qp (castQ M (-1) (castZ z))) v3 g6 C6 (fun C7 => hP _ ⟨C7, fun M8 hk => join_send hW cb hEn s8 t6 F07 (fun i k b1 b2 b3 => by
                rw [D7.z (by omega), F4.z (fun q => by
                  rcases q with q | q
                  · exact b3 q
                  · omega), D03.z (by omega)]) (by rw [D7.z (by omega), F4.z (by unfold DLa DRe; omega), D03.z (by omega)]) (by
                obtain ⟨l1, l2, l3, l4⟩ := L4
                exact ⟨fun j q => by rw [D7.z (by omega)]; exact l1 j q, fun j q => by rw [D7.z (by omega)]; exact l2 j q, fun j q => by rw [D7.z (by omega)]; exact l3 j q, fun j q => by rw [D7.z (by omega)]; exact l4 j q⟩) (by
                obtain ⟨y1, y2, y3, y4, y5, y6, y7⟩ := R4
                exact ⟨fun j q => by rw [D7.z (by omega)]; exact y1 j q, fun j q => by rw [D7.z (by omega)]; exact y2 j q, fun j q => by rw [D7.z (by omega)]; exact y3 j q, fun j q => by rw [D7.z (by omega)]; exact y4 j q, by rw [D7.z (by omega)]; exact y5, by rw [D7.z (by omega)]; exact y6, by rw [D7.z (by omega)]; exact y7⟩) hk⟩ F07 (JK_k K4 (Frm.of D7) (fun i k q => by omega)) ⟨(D7.z (by omega)).trans ep4, trg _ D7⟩)
            clear don hP
            generalize qp (castQ M (-1) (castZ z)) = qe at *
            simp (disch := first | assumption | decide | omega) only [n_249_0, n_249_39, n_249_63, n_249_93, z_iconst, z_bipush, z_sipush, z_ldc, z_ldcs, z_ldcw, z_ldc2, z_lconst0, z_lconst1, z_null, z_getstatic, z_iload_0, z_iload_1, z_iload_2, z_iload_3, z_iload, z_istore_0, z_istore_1, z_istore_2, z_istore_3, z_istore, z_lload_0, z_lload_1, z_lload_2, z_lload_3, z_lload, z_lstore_0, z_lstore_1, z_lstore_2, z_lstore_3, z_lstore, z_aload_0, z_aload_1, z_aload_2, z_aload_3, z_aload, z_astore_0, z_astore_1, z_astore_2, z_astore_3, z_astore, ald_0, ald_s, z_iinc, qst1_1i, qst2_1i, qst1_1r, qst2_1r, qst1_1u, qst2_1u, qst1_1n, qst2_1n, qst1_1l, qst2_1l, qst1_0, qst2_0, qst1_s, qst2_s, z_iadd, z_isub, z_imul, z_iand, z_ior, z_ixor, z_ishl, z_ishr, z_idiv, z_irem, z_ladd, z_lsub, z_lmul, z_land, z_lor, z_ldiv, z_lrem, z_ineg, z_lshl, z_lshr, z_i2l, z_l2i, z_i2b, z_i2c, z_lcmp, z_dupi, z_dupr, z_popi, z_popr, z_dup2, z_goto, z_get0, z_get1, z_get2, z_get3, z_put0, z_put1, z_put2, z_put2n, z_put3, z_iaload, z_baload, z_laload, z_aaload, z_iastore, z_bastore, z_lastore, z_aastore, z_aastoren, z_arraylength, z_new, z_newarray, z_anewarray, z_multi, z_objinit, z_is0, z_iv0, z_ip0, z_is1, z_iv1, z_ip1, z_is2, z_iv2, z_ip2, z_is3, z_iv3, z_ip3, z_is4, z_iv4, z_ip4, z_is5, z_iv5, z_ip5, z_is6, z_iv6, z_ip6, z_is7, z_iv7, z_ip7, z_m991, z_m992, z_m993, z_m994, z_m995, z_m996, z_m998, acal_0, acal_1, acal_2, acal_3, acal_4, aK_v, aK_n, sF_c, sF_n, b_nr, b_nn, r_I, r_Z, r_L, r_A, r_V, sw_F, sw_n, gd_tt, is01_bzT, is01_0, is01_1, qrv_s, qrv_n, bi_eq_t, bi_eq_f, bi_ne_t, bi_ne_f, bi_lt_t, bi_lt_f, bi_ge_t, bi_ge_f, bi_gt_t, bi_gt_f, bi_le_t, bi_le_f, bc_eq_t, bc_eq_f, bc_ne_t, bc_ne_f, bc_lt_t, bc_lt_f, bc_ge_t, bc_ge_f, bc_gt_t, bc_gt_f, bc_le_t, bc_le_f, bb_eq_t, bb_eq_f, bb_ne_t, bb_ne_f, sc_t, sc_f, b_nr, b_nn, mI_J, mI_R, mJ_I, mJ_R, mR_I, mR_J, mK_I, mK_J, mK_R, mN_I, mN_J, mN_R, inM_I, inM_J, inM_R, mZ_nc, mZ_nk, mZ_sm, mZ_J, mZ_R, mJ_nc, mJ_ni, mJ_sm, mI_Z, iz_add, iz_sub, iz_mul, iz_neg, iz_lt, iz_le, iz_eq, iz_clamp, iz_inB, iz_div, iz_rem, inM_lit, and_self, true_and, and_true, true_or, or_true, not_true_eq_false, not_false_eq_true, Nat.reduceEqDiff, reduceCtorEq, Int.reduceNeg, Int.reduceSub, Int.reduceAdd, Int.reduceMul, Int.reduceToNat, Int.reduceEq, Int.neg_neg, Int.cast_ofNat_Int, Nat.reduceAdd, Nat.reduceMul, Nat.reduceSub, gd_t, emod_r, iz_0, Int.zero_add, Int.add_zero, wp_some, shK g4, shR g4, en5, shK g5, shR g5]
            exact fin
          rcases hy with ⟨rfl, hy⟩ | ⟨rfl, hy⟩
          · have fin := fun v3 => endd 1 v3 (ifC_t hy) (Or.inr rfl)
            simp (disch := first | assumption | decide | omega) only [n_249_0, n_249_39, n_249_63, n_249_155, z_iconst, z_bipush, z_sipush, z_ldc, z_ldcs, z_ldcw, z_ldc2, z_lconst0, z_lconst1, z_null, z_getstatic, z_iload_0, z_iload_1, z_iload_2, z_iload_3, z_iload, z_istore_0, z_istore_1, z_istore_2, z_istore_3, z_istore, z_lload_0, z_lload_1, z_lload_2, z_lload_3, z_lload, z_lstore_0, z_lstore_1, z_lstore_2, z_lstore_3, z_lstore, z_aload_0, z_aload_1, z_aload_2, z_aload_3, z_aload, z_astore_0, z_astore_1, z_astore_2, z_astore_3, z_astore, ald_0, ald_s, z_iinc, qst1_1i, qst2_1i, qst1_1r, qst2_1r, qst1_1u, qst2_1u, qst1_1n, qst2_1n, qst1_1l, qst2_1l, qst1_0, qst2_0, qst1_s, qst2_s, z_iadd, z_isub, z_imul, z_iand, z_ior, z_ixor, z_ishl, z_ishr, z_idiv, z_irem, z_ladd, z_lsub, z_lmul, z_land, z_lor, z_ldiv, z_lrem, z_ineg, z_lshl, z_lshr, z_i2l, z_l2i, z_i2b, z_i2c, z_lcmp, z_dupi, z_dupr, z_popi, z_popr, z_dup2, z_goto, z_get0, z_get1, z_get2, z_get3, z_put0, z_put1, z_put2, z_put2n, z_put3, z_iaload, z_baload, z_laload, z_aaload, z_iastore, z_bastore, z_lastore, z_aastore, z_aastoren, z_arraylength, z_new, z_newarray, z_anewarray, z_multi, z_objinit, z_is0, z_iv0, z_ip0, z_is1, z_iv1, z_ip1, z_is2, z_iv2, z_ip2, z_is3, z_iv3, z_ip3, z_is4, z_iv4, z_ip4, z_is5, z_iv5, z_ip5, z_is6, z_iv6, z_ip6, z_is7, z_iv7, z_ip7, z_m991, z_m992, z_m993, z_m994, z_m995, z_m996, z_m998, acal_0, acal_1, acal_2, acal_3, acal_4, aK_v, aK_n, sF_c, sF_n, b_nr, b_nn, r_I, r_Z, r_L, r_A, r_V, sw_F, sw_n, gd_tt, is01_bzT, is01_0, is01_1, qrv_s, qrv_n, bi_eq_t, bi_eq_f, bi_ne_t, bi_ne_f, bi_lt_t, bi_lt_f, bi_ge_t, bi_ge_f, bi_gt_t, bi_gt_f, bi_le_t, bi_le_f, bc_eq_t, bc_eq_f, bc_ne_t, bc_ne_f, bc_lt_t, bc_lt_f, bc_ge_t, bc_ge_f, bc_gt_t, bc_gt_f, bc_le_t, bc_le_f, bb_eq_t, bb_eq_f, bb_ne_t, bb_ne_f, sc_t, sc_f, b_nr, b_nn, mI_J, mI_R, mJ_I, mJ_R, mR_I, mR_J, mK_I, mK_J, mK_R, mN_I, mN_J, mN_R, inM_I, inM_J, inM_R, mZ_nc, mZ_nk, mZ_sm, mZ_J, mZ_R, mJ_nc, mJ_ni, mJ_sm, mI_Z, iz_add, iz_sub, iz_mul, iz_neg, iz_lt, iz_le, iz_eq, iz_clamp, iz_inB, iz_div, iz_rem, inM_lit, and_self, true_and, and_true, true_or, or_true, not_true_eq_false, not_false_eq_true, Nat.reduceEqDiff, reduceCtorEq, Int.reduceNeg, Int.reduceSub, Int.reduceAdd, Int.reduceMul, Int.reduceToNat, Int.reduceEq, Int.neg_neg, Int.cast_ofNat_Int, Nat.reduceAdd, Nat.reduceMul, Nat.reduceSub, gd_t, emod_r, iz_0, Int.zero_add, Int.add_zero, wp_some]
            exact fin _
          · have fin := fun v3 => endd 0 v3 (ifC_f hy) (Or.inl rfl)
            simp (disch := first | assumption | decide | omega) only [n_249_0, n_249_39, n_249_63, n_249_155, z_iconst, z_bipush, z_sipush, z_ldc, z_ldcs, z_ldcw, z_ldc2, z_lconst0, z_lconst1, z_null, z_getstatic, z_iload_0, z_iload_1, z_iload_2, z_iload_3, z_iload, z_istore_0, z_istore_1, z_istore_2, z_istore_3, z_istore, z_lload_0, z_lload_1, z_lload_2, z_lload_3, z_lload, z_lstore_0, z_lstore_1, z_lstore_2, z_lstore_3, z_lstore, z_aload_0, z_aload_1, z_aload_2, z_aload_3, z_aload, z_astore_0, z_astore_1, z_astore_2, z_astore_3, z_astore, ald_0, ald_s, z_iinc, qst1_1i, qst2_1i, qst1_1r, qst2_1r, qst1_1u, qst2_1u, qst1_1n, qst2_1n, qst1_1l, qst2_1l, qst1_0, qst2_0, qst1_s, qst2_s, z_iadd, z_isub, z_imul, z_iand, z_ior, z_ixor, z_ishl, z_ishr, z_idiv, z_irem, z_ladd, z_lsub, z_lmul, z_land, z_lor, z_ldiv, z_lrem, z_ineg, z_lshl, z_lshr, z_i2l, z_l2i, z_i2b, z_i2c, z_lcmp, z_dupi, z_dupr, z_popi, z_popr, z_dup2, z_goto, z_get0, z_get1, z_get2, z_get3, z_put0, z_put1, z_put2, z_put2n, z_put3, z_iaload, z_baload, z_laload, z_aaload, z_iastore, z_bastore, z_lastore, z_aastore, z_aastoren, z_arraylength, z_new, z_newarray, z_anewarray, z_multi, z_objinit, z_is0, z_iv0, z_ip0, z_is1, z_iv1, z_ip1, z_is2, z_iv2, z_ip2, z_is3, z_iv3, z_ip3, z_is4, z_iv4, z_ip4, z_is5, z_iv5, z_ip5, z_is6, z_iv6, z_ip6, z_is7, z_iv7, z_ip7, z_m991, z_m992, z_m993, z_m994, z_m995, z_m996, z_m998, acal_0, acal_1, acal_2, acal_3, acal_4, aK_v, aK_n, sF_c, sF_n, b_nr, b_nn, r_I, r_Z, r_L, r_A, r_V, sw_F, sw_n, gd_tt, is01_bzT, is01_0, is01_1, qrv_s, qrv_n, bi_eq_t, bi_eq_f, bi_ne_t, bi_ne_f, bi_lt_t, bi_lt_f, bi_ge_t, bi_ge_f, bi_gt_t, bi_gt_f, bi_le_t, bi_le_f, bc_eq_t, bc_eq_f, bc_ne_t, bc_ne_f, bc_lt_t, bc_lt_f, bc_ge_t, bc_ge_f, bc_gt_t, bc_gt_f, bc_le_t, bc_le_f, bb_eq_t, bb_eq_f, bb_ne_t, bb_ne_f, sc_t, sc_f, b_nr, b_nn, mI_J, mI_R, mJ_I, mJ_R, mR_I, mR_J, mK_I, mK_J, mK_R, mN_I, mN_J, mN_R, inM_I, inM_J, inM_R, mZ_nc, mZ_nk, mZ_sm, mZ_J, mZ_R, mJ_nc, mJ_ni, mJ_sm, mI_Z, iz_add, iz_sub, iz_mul, iz_neg, iz_lt, iz_le, iz_eq, iz_clamp, iz_inB, iz_div, iz_rem, inM_lit, and_self, true_and, and_true, true_or, or_true, not_true_eq_false, not_false_eq_true, Nat.reduceEqDiff, reduceCtorEq, Int.reduceNeg, Int.reduceSub, Int.reduceAdd, Int.reduceMul, Int.reduceToNat, Int.reduceEq, Int.neg_neg, Int.cast_ofNat_Int, Nat.reduceAdd, Nat.reduceMul, Nat.reduceSub, gd_t, emod_r, iz_0, Int.zero_add, Int.add_zero, wp_some]
            exact fin _
        · -- mend
          have kI : ((it.1 : Nat) : Int) = 1 := by omega
          rw [e] at hc zget hP
          rw [kI] at cr
          have hc' : (0 ≤ z 0 ∧ z 0 ≤ 79) ∧ 0 ≤ z 1 ∧ z 1 ≤ 9 := by
            rcases hc with ⟨q, -⟩ | ⟨-, q⟩ | ⟨q, -⟩
            · omega
            · exact q
            · omega
          obtain ⟨z0, z1⟩ := hc'
          have zz0 : mZ M3 216 0 = z 0 := zget 0 (by decide)
          have zz1 : mZ M3 216 1 = z 1 := zget 1 (by decide)
          obtain ⟨p, hp⟩ : ∃ p : Nat, z 0 = (p : Int) := ⟨(z 0).toNat, by omega⟩
          have eo : doO M 1 z (oS M dn cm ls) = (updR (mI M 481) (80 + p) (iz (z 1)), mI M 501, mI M 479 47, dn + 1, cm, ls) := by
            unfold doO
            rw [if_neg (by decide), if_pos rfl, hp, Int.toNat_natCast]
            rfl
          rw [eo] at hP
          have D4 : Dif M3 (qsI M3 12 p (iz (z 1))) (fun i k => i = 12 ∧ k = p) := Dif.rfl'.I ⟨rfl, rfl⟩
          have g4 := D4.shp g3 (fun i k hi => by omega)
          have C4 : CkX (qsI M3 12 p (iz (z 1))) dn cm ls := CkX_k C3 (fun k => mZ_nc (by decide))
          have F5t : Frm M (qsI (qsI M3 12 p (iz (z 1))) 193 10 (iz (dn + 1))) (fun i k => (214 ≤ i ∧ i ≤ 216) ∨ i = 12 ∨ (i = 193 ∧ k = 10)) := ((Frm.of D03).mono (fun i k q => Or.inl q)).tr (((Frm.of D4).mono (fun i k q => Or.inr (Or.inl q.1))).tr (Frm.of (Dif.rfl'.I (Or.inr (Or.inr ⟨rfl, rfl⟩)))))
          have F5 : Frm M (qsI (qsI M3 12 p (iz (z 1))) 193 10 (iz (dn + 1))) DXt := F5t.mono (fun i k q => by unfold DXt; omega)
          have fin := fun v3 => don _ cm ls v3 g4 C4 (fun C5 => hP _ ⟨C5, fun M8 hk => join_row (x := z 1) hW hUn F5 (Or.inl ⟨by omega, by omega, by omega, by omega, fun k => by
              rw [mZ_nc (by decide)]
              by_cases ek : k = 80 + p - 80
              · rw [if_pos ek, show k = p by omega, mZ_sm rfl (by omega) (by omega)]
              · rw [if_neg ek, mZ_nk (by omega), D03.z (by omega)], by rw [mZ_nc (by decide), mZ_nc (by decide), D03.z (by omega)]⟩) (fun i k q => by rw [mZ_nc (by omega), mZ_nc (by omega), D03.z (by omega)]) hk⟩ F5 (JK_k hK F5t (fun i k q => by omega)) ⟨by rw [mZ_nc (by decide), mZ_nc (by decide), D03.z (by omega)], TRg_0 F5t (fun i k q => by omega)⟩)
          rw [hp] at zz0 z0
          clear don hP
          generalize z 1 = x1 at *
          simp (disch := first | assumption | decide | omega) only [n_249_0, n_249_39, n_249_63, z_iconst, z_bipush, z_sipush, z_ldc, z_ldcs, z_ldcw, z_ldc2, z_lconst0, z_lconst1, z_null, z_getstatic, z_iload_0, z_iload_1, z_iload_2, z_iload_3, z_iload, z_istore_0, z_istore_1, z_istore_2, z_istore_3, z_istore, z_lload_0, z_lload_1, z_lload_2, z_lload_3, z_lload, z_lstore_0, z_lstore_1, z_lstore_2, z_lstore_3, z_lstore, z_aload_0, z_aload_1, z_aload_2, z_aload_3, z_aload, z_astore_0, z_astore_1, z_astore_2, z_astore_3, z_astore, ald_0, ald_s, z_iinc, qst1_1i, qst2_1i, qst1_1r, qst2_1r, qst1_1u, qst2_1u, qst1_1n, qst2_1n, qst1_1l, qst2_1l, qst1_0, qst2_0, qst1_s, qst2_s, z_iadd, z_isub, z_imul, z_iand, z_ior, z_ixor, z_ishl, z_ishr, z_idiv, z_irem, z_ladd, z_lsub, z_lmul, z_land, z_lor, z_ldiv, z_lrem, z_ineg, z_lshl, z_lshr, z_i2l, z_l2i, z_i2b, z_i2c, z_lcmp, z_dupi, z_dupr, z_popi, z_popr, z_dup2, z_goto, z_get0, z_get1, z_get2, z_get3, z_put0, z_put1, z_put2, z_put2n, z_put3, z_iaload, z_baload, z_laload, z_aaload, z_iastore, z_bastore, z_lastore, z_aastore, z_aastoren, z_arraylength, z_new, z_newarray, z_anewarray, z_multi, z_objinit, z_is0, z_iv0, z_ip0, z_is1, z_iv1, z_ip1, z_is2, z_iv2, z_ip2, z_is3, z_iv3, z_ip3, z_is4, z_iv4, z_ip4, z_is5, z_iv5, z_ip5, z_is6, z_iv6, z_ip6, z_is7, z_iv7, z_ip7, z_m991, z_m992, z_m993, z_m994, z_m995, z_m996, z_m998, acal_0, acal_1, acal_2, acal_3, acal_4, aK_v, aK_n, sF_c, sF_n, b_nr, b_nn, r_I, r_Z, r_L, r_A, r_V, sw_F, sw_n, gd_tt, is01_bzT, is01_0, is01_1, qrv_s, qrv_n, bi_eq_t, bi_eq_f, bi_ne_t, bi_ne_f, bi_lt_t, bi_lt_f, bi_ge_t, bi_ge_f, bi_gt_t, bi_gt_f, bi_le_t, bi_le_f, bc_eq_t, bc_eq_f, bc_ne_t, bc_ne_f, bc_lt_t, bc_lt_f, bc_ge_t, bc_ge_f, bc_gt_t, bc_gt_f, bc_le_t, bc_le_f, bb_eq_t, bb_eq_f, bb_ne_t, bb_ne_f, sc_t, sc_f, b_nr, b_nn, mI_J, mI_R, mJ_I, mJ_R, mR_I, mR_J, mK_I, mK_J, mK_R, mN_I, mN_J, mN_R, inM_I, inM_J, inM_R, mZ_nc, mZ_nk, mZ_sm, mZ_J, mZ_R, mJ_nc, mJ_ni, mJ_sm, mI_Z, iz_add, iz_sub, iz_mul, iz_neg, iz_lt, iz_le, iz_eq, iz_clamp, iz_inB, iz_div, iz_rem, inM_lit, and_self, true_and, and_true, true_or, or_true, not_true_eq_false, not_false_eq_true, Nat.reduceEqDiff, reduceCtorEq, Int.reduceNeg, Int.reduceSub, Int.reduceAdd, Int.reduceMul, Int.reduceToNat, Int.reduceEq, Int.neg_neg, Int.cast_ofNat_Int, Nat.reduceAdd, Nat.reduceMul, Nat.reduceSub, gd_t, emod_r, iz_0, Int.zero_add, Int.add_zero, wp_some, cr, kI, shK g3, shR g3, zz0, zz1, Int.toNat_natCast]
          exact fin _
        · -- wait
          have kI : ((it.1 : Nat) : Int) = 2 := by omega
          rw [e] at hc zget hP
          rw [kI] at cr
          have hc' : mZ M 481 260 < 99 := by
            rcases hc with ⟨-, q⟩ | ⟨q, -⟩ | ⟨q, -⟩
            · exact q
            · omega
            · omega
          have s260 : 0 ≤ mZ M 481 260 ∧ mZ M 481 260 ≤ 99 := (WFk_s hW.2.1).2.2.2.2.2.2.2.1
          have y25 : mZ M3 25 0 = mZ M 481 260 := (D03.z (by omega)).trans (Ra25 hW.2.2.1 0 (by decide))
          have eo : doO M 2 z (oS M dn cm ls) = (updR (mI M 481) 260 (iz (mZ M 481 260 + 1)), mI M 501, mI M 479 47, dn + 1, cm, ls) := by
            unfold doO
            rw [if_pos rfl, gO_own]
            rfl
          rw [eo] at hP
          generalize mZ M 481 260 = dy at *
          have D4 : Dif M3 (qsI M3 25 0 (iz (dy + 1))) (fun i k => i = 25 ∧ k = 0) := Dif.rfl'.I ⟨rfl, rfl⟩
          have g4 := D4.shp g3 (fun i k hi => by omega)
          have C4 : CkX (qsI M3 25 0 (iz (dy + 1))) dn cm ls := CkX_k C3 (fun k => mZ_nc (by decide))
          have F5t : Frm M (qsI (qsI M3 25 0 (iz (dy + 1))) 193 10 (iz (dn + 1))) (fun i k => (214 ≤ i ∧ i ≤ 216) ∨ (i = 25 ∧ k = 0) ∨ (i = 193 ∧ k = 10)) := ((Frm.of D03).mono (fun i k q => Or.inl q)).tr (((Frm.of D4).mono (fun i k q => Or.inr (Or.inl q))).tr (Frm.of (Dif.rfl'.I (Or.inr (Or.inr ⟨rfl, rfl⟩)))))
          have F5 : Frm M (qsI (qsI M3 25 0 (iz (dy + 1))) 193 10 (iz (dn + 1))) DXt := F5t.mono (fun i k q => by unfold DXt; omega)
          have fin := fun v3 => don _ cm ls v3 g4 C4 (fun C5 => hP _ ⟨C5, fun M8 hk => join_row (x := dy + 1) hW hUn F5 (Or.inr ⟨rfl, by omega, by omega, fun k => by rw [mZ_nc (by decide), mZ_nc (by decide), D03.z (by omega)], by rw [mZ_nc (by decide), mZ_sm rfl (by omega) (by omega)]⟩) (fun i k q => by rw [mZ_nc (by omega), mZ_nc (by omega), D03.z (by omega)]) hk⟩ F5 (JK_k hK F5t (fun i k q => by omega)) ⟨by rw [mZ_nc (by decide), mZ_nc (by decide), D03.z (by omega)], TRg_0 F5t (fun i k q => by omega)⟩)
          clear don hP
          simp (disch := first | assumption | decide | omega) only [n_249_0, n_249_39, n_249_63, z_iconst, z_bipush, z_sipush, z_ldc, z_ldcs, z_ldcw, z_ldc2, z_lconst0, z_lconst1, z_null, z_getstatic, z_iload_0, z_iload_1, z_iload_2, z_iload_3, z_iload, z_istore_0, z_istore_1, z_istore_2, z_istore_3, z_istore, z_lload_0, z_lload_1, z_lload_2, z_lload_3, z_lload, z_lstore_0, z_lstore_1, z_lstore_2, z_lstore_3, z_lstore, z_aload_0, z_aload_1, z_aload_2, z_aload_3, z_aload, z_astore_0, z_astore_1, z_astore_2, z_astore_3, z_astore, ald_0, ald_s, z_iinc, qst1_1i, qst2_1i, qst1_1r, qst2_1r, qst1_1u, qst2_1u, qst1_1n, qst2_1n, qst1_1l, qst2_1l, qst1_0, qst2_0, qst1_s, qst2_s, z_iadd, z_isub, z_imul, z_iand, z_ior, z_ixor, z_ishl, z_ishr, z_idiv, z_irem, z_ladd, z_lsub, z_lmul, z_land, z_lor, z_ldiv, z_lrem, z_ineg, z_lshl, z_lshr, z_i2l, z_l2i, z_i2b, z_i2c, z_lcmp, z_dupi, z_dupr, z_popi, z_popr, z_dup2, z_goto, z_get0, z_get1, z_get2, z_get3, z_put0, z_put1, z_put2, z_put2n, z_put3, z_iaload, z_baload, z_laload, z_aaload, z_iastore, z_bastore, z_lastore, z_aastore, z_aastoren, z_arraylength, z_new, z_newarray, z_anewarray, z_multi, z_objinit, z_is0, z_iv0, z_ip0, z_is1, z_iv1, z_ip1, z_is2, z_iv2, z_ip2, z_is3, z_iv3, z_ip3, z_is4, z_iv4, z_ip4, z_is5, z_iv5, z_ip5, z_is6, z_iv6, z_ip6, z_is7, z_iv7, z_ip7, z_m991, z_m992, z_m993, z_m994, z_m995, z_m996, z_m998, acal_0, acal_1, acal_2, acal_3, acal_4, aK_v, aK_n, sF_c, sF_n, b_nr, b_nn, r_I, r_Z, r_L, r_A, r_V, sw_F, sw_n, gd_tt, is01_bzT, is01_0, is01_1, qrv_s, qrv_n, bi_eq_t, bi_eq_f, bi_ne_t, bi_ne_f, bi_lt_t, bi_lt_f, bi_ge_t, bi_ge_f, bi_gt_t, bi_gt_f, bi_le_t, bi_le_f, bc_eq_t, bc_eq_f, bc_ne_t, bc_ne_f, bc_lt_t, bc_lt_f, bc_ge_t, bc_ge_f, bc_gt_t, bc_gt_f, bc_le_t, bc_le_f, bb_eq_t, bb_eq_f, bb_ne_t, bb_ne_f, sc_t, sc_f, b_nr, b_nn, mI_J, mI_R, mJ_I, mJ_R, mR_I, mR_J, mK_I, mK_J, mK_R, mN_I, mN_J, mN_R, inM_I, inM_J, inM_R, mZ_nc, mZ_nk, mZ_sm, mZ_J, mZ_R, mJ_nc, mJ_ni, mJ_sm, mI_Z, iz_add, iz_sub, iz_mul, iz_neg, iz_lt, iz_le, iz_eq, iz_clamp, iz_inB, iz_div, iz_rem, inM_lit, and_self, true_and, and_true, true_or, or_true, not_true_eq_false, not_false_eq_true, Nat.reduceEqDiff, reduceCtorEq, Int.reduceNeg, Int.reduceSub, Int.reduceAdd, Int.reduceMul, Int.reduceToNat, Int.reduceEq, Int.neg_neg, Int.cast_ofNat_Int, Nat.reduceAdd, Nat.reduceMul, Nat.reduceSub, gd_t, emod_r, iz_0, Int.zero_add, Int.add_zero, wp_some, cr, kI, shK g3, shR g3, y25]
          exact fin _
      · rw [bz_f hc] at cr
        rw [ifC_f hc] at hP
        have fin := hP 0 M3 ⟨Or.inr ⟨rfl, rfl⟩, fr M3 D03⟩
        simp (disch := first | assumption | decide | omega) only [n_249_0, n_249_39, n_249_63, z_iconst, z_bipush, z_sipush, z_ldc, z_ldcs, z_ldcw, z_ldc2, z_lconst0, z_lconst1, z_null, z_getstatic, z_iload_0, z_iload_1, z_iload_2, z_iload_3, z_iload, z_istore_0, z_istore_1, z_istore_2, z_istore_3, z_istore, z_lload_0, z_lload_1, z_lload_2, z_lload_3, z_lload, z_lstore_0, z_lstore_1, z_lstore_2, z_lstore_3, z_lstore, z_aload_0, z_aload_1, z_aload_2, z_aload_3, z_aload, z_astore_0, z_astore_1, z_astore_2, z_astore_3, z_astore, ald_0, ald_s, z_iinc, qst1_1i, qst2_1i, qst1_1r, qst2_1r, qst1_1u, qst2_1u, qst1_1n, qst2_1n, qst1_1l, qst2_1l, qst1_0, qst2_0, qst1_s, qst2_s, z_iadd, z_isub, z_imul, z_iand, z_ior, z_ixor, z_ishl, z_ishr, z_idiv, z_irem, z_ladd, z_lsub, z_lmul, z_land, z_lor, z_ldiv, z_lrem, z_ineg, z_lshl, z_lshr, z_i2l, z_l2i, z_i2b, z_i2c, z_lcmp, z_dupi, z_dupr, z_popi, z_popr, z_dup2, z_goto, z_get0, z_get1, z_get2, z_get3, z_put0, z_put1, z_put2, z_put2n, z_put3, z_iaload, z_baload, z_laload, z_aaload, z_iastore, z_bastore, z_lastore, z_aastore, z_aastoren, z_arraylength, z_new, z_newarray, z_anewarray, z_multi, z_objinit, z_is0, z_iv0, z_ip0, z_is1, z_iv1, z_ip1, z_is2, z_iv2, z_ip2, z_is3, z_iv3, z_ip3, z_is4, z_iv4, z_ip4, z_is5, z_iv5, z_ip5, z_is6, z_iv6, z_ip6, z_is7, z_iv7, z_ip7, z_m991, z_m992, z_m993, z_m994, z_m995, z_m996, z_m998, acal_0, acal_1, acal_2, acal_3, acal_4, aK_v, aK_n, sF_c, sF_n, b_nr, b_nn, r_I, r_Z, r_L, r_A, r_V, sw_F, sw_n, gd_tt, is01_bzT, is01_0, is01_1, qrv_s, qrv_n, bi_eq_t, bi_eq_f, bi_ne_t, bi_ne_f, bi_lt_t, bi_lt_f, bi_ge_t, bi_ge_f, bi_gt_t, bi_gt_f, bi_le_t, bi_le_f, bc_eq_t, bc_eq_f, bc_ne_t, bc_ne_f, bc_lt_t, bc_lt_f, bc_ge_t, bc_ge_f, bc_gt_t, bc_gt_f, bc_le_t, bc_le_f, bb_eq_t, bb_eq_f, bb_ne_t, bb_ne_f, sc_t, sc_f, b_nr, b_nn, mI_J, mI_R, mJ_I, mJ_R, mR_I, mR_J, mK_I, mK_J, mK_R, mN_I, mN_J, mN_R, inM_I, inM_J, inM_R, mZ_nc, mZ_nk, mZ_sm, mZ_J, mZ_R, mJ_nc, mJ_ni, mJ_sm, mI_Z, iz_add, iz_sub, iz_mul, iz_neg, iz_lt, iz_le, iz_eq, iz_clamp, iz_inB, iz_div, iz_rem, inM_lit, and_self, true_and, and_true, true_or, or_true, not_true_eq_false, not_false_eq_true, Nat.reduceEqDiff, reduceCtorEq, Int.reduceNeg, Int.reduceSub, Int.reduceAdd, Int.reduceMul, Int.reduceToNat, Int.reduceEq, Int.neg_neg, Int.cast_ofNat_Int, Nat.reduceAdd, Nat.reduceMul, Nat.reduceSub, gd_t, emod_r, iz_0, Int.zero_add, Int.add_zero, wp_some, cr, shK g3]
        exact fin
  -- the TEST
  cases eT : it.2.2.1 with
  | none =>
    rw [eT] at t1
    have t1 : mZ M1 187 i = -1 := t1
    have fin := sums (by rw [eT]; rfl) M1 D1 (fun k => rfl)
    clear sums hP
    simp (disch := first | assumption | decide | omega) only [n_249_0, n_249_63, n_249_93, n_249_155, z_iconst, z_bipush, z_sipush, z_ldc, z_ldcs, z_ldcw, z_ldc2, z_lconst0, z_lconst1, z_null, z_getstatic, z_iload_0, z_iload_1, z_iload_2, z_iload_3, z_iload, z_istore_0, z_istore_1, z_istore_2, z_istore_3, z_istore, z_lload_0, z_lload_1, z_lload_2, z_lload_3, z_lload, z_lstore_0, z_lstore_1, z_lstore_2, z_lstore_3, z_lstore, z_aload_0, z_aload_1, z_aload_2, z_aload_3, z_aload, z_astore_0, z_astore_1, z_astore_2, z_astore_3, z_astore, ald_0, ald_s, z_iinc, qst1_1i, qst2_1i, qst1_1r, qst2_1r, qst1_1u, qst2_1u, qst1_1n, qst2_1n, qst1_1l, qst2_1l, qst1_0, qst2_0, qst1_s, qst2_s, z_iadd, z_isub, z_imul, z_iand, z_ior, z_ixor, z_ishl, z_ishr, z_idiv, z_irem, z_ladd, z_lsub, z_lmul, z_land, z_lor, z_ldiv, z_lrem, z_ineg, z_lshl, z_lshr, z_i2l, z_l2i, z_i2b, z_i2c, z_lcmp, z_dupi, z_dupr, z_popi, z_popr, z_dup2, z_goto, z_get0, z_get1, z_get2, z_get3, z_put0, z_put1, z_put2, z_put2n, z_put3, z_iaload, z_baload, z_laload, z_aaload, z_iastore, z_bastore, z_lastore, z_aastore, z_aastoren, z_arraylength, z_new, z_newarray, z_anewarray, z_multi, z_objinit, z_is0, z_iv0, z_ip0, z_is1, z_iv1, z_ip1, z_is2, z_iv2, z_ip2, z_is3, z_iv3, z_ip3, z_is4, z_iv4, z_ip4, z_is5, z_iv5, z_ip5, z_is6, z_iv6, z_ip6, z_is7, z_iv7, z_ip7, z_m991, z_m992, z_m993, z_m994, z_m995, z_m996, z_m998, acal_0, acal_1, acal_2, acal_3, acal_4, aK_v, aK_n, sF_c, sF_n, b_nr, b_nn, r_I, r_Z, r_L, r_A, r_V, sw_F, sw_n, gd_tt, is01_bzT, is01_0, is01_1, qrv_s, qrv_n, bi_eq_t, bi_eq_f, bi_ne_t, bi_ne_f, bi_lt_t, bi_lt_f, bi_ge_t, bi_ge_f, bi_gt_t, bi_gt_f, bi_le_t, bi_le_f, bc_eq_t, bc_eq_f, bc_ne_t, bc_ne_f, bc_lt_t, bc_lt_f, bc_ge_t, bc_ge_f, bc_gt_t, bc_gt_f, bc_le_t, bc_le_f, bb_eq_t, bb_eq_f, bb_ne_t, bb_ne_f, sc_t, sc_f, b_nr, b_nn, mI_J, mI_R, mJ_I, mJ_R, mR_I, mR_J, mK_I, mK_J, mK_R, mN_I, mN_J, mN_R, inM_I, inM_J, inM_R, mZ_nc, mZ_nk, mZ_sm, mZ_J, mZ_R, mJ_nc, mJ_ni, mJ_sm, mI_Z, iz_add, iz_sub, iz_mul, iz_neg, iz_lt, iz_le, iz_eq, iz_clamp, iz_inB, iz_div, iz_rem, inM_lit, and_self, true_and, and_true, true_or, or_true, not_true_eq_false, not_false_eq_true, Nat.reduceEqDiff, reduceCtorEq, Int.reduceNeg, Int.reduceSub, Int.reduceAdd, Int.reduceMul, Int.reduceToNat, Int.reduceEq, Int.neg_neg, Int.cast_ofNat_Int, Nat.reduceAdd, Nat.reduceMul, Nat.reduceSub, gd_t, emod_r, iz_0, Int.zero_add, Int.add_zero, wp_some, shK g1, shR g1, t1, Int.toNat_natCast]
    exact fin
  | some tt =>
    obtain ⟨u1, u2⟩ := hT tt eT
    rw [eT] at t1
    have t1 : mZ M1 187 i = (tt.1 : Int) := t1
    have ttI : 0 ≤ (tt.1 : Int) ∧ (tt.1 : Int) ≤ 512 := by omega
    have rk := c_reckon (d := d + 5) (fr := (tt.1 : Int)) (e := en) (nw := 6) (S := 215) (Wd := 214) g1 tx1 ⟨by rw [inM_b]; omega, g1.2.1 215 (by decide) (by decide)⟩ (by decide) ⟨by rw [inM_b]; omega, g1.2.1 214 (by decide) (by decide)⟩ (by decide) (by decide) (by decide) (by decide) he1 ⟨by omega, by omega⟩
    rw [show d + 5 + 1 = d + 6 by omega, u2] at rk
    have ete : itest it.2.2.1 en = tt.2 en := by rw [eT]; rfl
    simp (disch := first | assumption | decide | omega) only [n_249_0, n_249_63, n_249_93, n_249_155, z_iconst, z_bipush, z_sipush, z_ldc, z_ldcs, z_ldcw, z_ldc2, z_lconst0, z_lconst1, z_null, z_getstatic, z_iload_0, z_iload_1, z_iload_2, z_iload_3, z_iload, z_istore_0, z_istore_1, z_istore_2, z_istore_3, z_istore, z_lload_0, z_lload_1, z_lload_2, z_lload_3, z_lload, z_lstore_0, z_lstore_1, z_lstore_2, z_lstore_3, z_lstore, z_aload_0, z_aload_1, z_aload_2, z_aload_3, z_aload, z_astore_0, z_astore_1, z_astore_2, z_astore_3, z_astore, ald_0, ald_s, z_iinc, qst1_1i, qst2_1i, qst1_1r, qst2_1r, qst1_1u, qst2_1u, qst1_1n, qst2_1n, qst1_1l, qst2_1l, qst1_0, qst2_0, qst1_s, qst2_s, z_iadd, z_isub, z_imul, z_iand, z_ior, z_ixor, z_ishl, z_ishr, z_idiv, z_irem, z_ladd, z_lsub, z_lmul, z_land, z_lor, z_ldiv, z_lrem, z_ineg, z_lshl, z_lshr, z_i2l, z_l2i, z_i2b, z_i2c, z_lcmp, z_dupi, z_dupr, z_popi, z_popr, z_dup2, z_goto, z_get0, z_get1, z_get2, z_get3, z_put0, z_put1, z_put2, z_put2n, z_put3, z_iaload, z_baload, z_laload, z_aaload, z_iastore, z_bastore, z_lastore, z_aastore, z_aastoren, z_arraylength, z_new, z_newarray, z_anewarray, z_multi, z_objinit, z_is0, z_iv0, z_ip0, z_is1, z_iv1, z_ip1, z_is2, z_iv2, z_ip2, z_is3, z_iv3, z_ip3, z_is4, z_iv4, z_ip4, z_is5, z_iv5, z_ip5, z_is6, z_iv6, z_ip6, z_is7, z_iv7, z_ip7, z_m991, z_m992, z_m993, z_m994, z_m995, z_m996, z_m998, acal_0, acal_1, acal_2, acal_3, acal_4, aK_v, aK_n, sF_c, sF_n, b_nr, b_nn, r_I, r_Z, r_L, r_A, r_V, sw_F, sw_n, gd_tt, is01_bzT, is01_0, is01_1, qrv_s, qrv_n, bi_eq_t, bi_eq_f, bi_ne_t, bi_ne_f, bi_lt_t, bi_lt_f, bi_ge_t, bi_ge_f, bi_gt_t, bi_gt_f, bi_le_t, bi_le_f, bc_eq_t, bc_eq_f, bc_ne_t, bc_ne_f, bc_lt_t, bc_lt_f, bc_ge_t, bc_ge_f, bc_gt_t, bc_gt_f, bc_le_t, bc_le_f, bb_eq_t, bb_eq_f, bb_ne_t, bb_ne_f, sc_t, sc_f, b_nr, b_nn, mI_J, mI_R, mJ_I, mJ_R, mR_I, mR_J, mK_I, mK_J, mK_R, mN_I, mN_J, mN_R, inM_I, inM_J, inM_R, mZ_nc, mZ_nk, mZ_sm, mZ_J, mZ_R, mJ_nc, mJ_ni, mJ_sm, mI_Z, iz_add, iz_sub, iz_mul, iz_neg, iz_lt, iz_le, iz_eq, iz_clamp, iz_inB, iz_div, iz_rem, inM_lit, and_self, true_and, and_true, true_or, or_true, not_true_eq_false, not_false_eq_true, Nat.reduceEqDiff, reduceCtorEq, Int.reduceNeg, Int.reduceSub, Int.reduceAdd, Int.reduceMul, Int.reduceToNat, Int.reduceEq, Int.neg_neg, Int.cast_ofNat_Int, Nat.reduceAdd, Nat.reduceMul, Nat.reduceSub, gd_t, emod_r, iz_0, Int.zero_add, Int.add_zero, wp_some, lz_add, lz_sub, lz_mul, lz_0, lz_1, lz_of, lz_nz, lz_i2l, lz_l2i, lz_rem, lz_div, is01_i, lcmp_lt, lcmp_eq, lcmp_gt, shK g1, shR g1, t1, Int.toNat_natCast]
    refine wp_cL rk (fun y M2 r => ?_)
    obtain ⟨ry, D2⟩ := r
    have D02 : Dif M M2 (fun i _ => 214 ≤ i ∧ i ≤ 216) := D1.tr (D2.mono (fun i k q => by omega))
    have w2 : ∀ k, mZ M2 214 k = mZ M1 214 k := fun k => D2.z (by omega)
    cases ev : tt.2 en with
    | none =>
      rw [ev] at ry ete
      have ry : y = -2000000000 := ry
      subst ry
      rw [ete, if_neg (by decide)] at hP
      have fin := hP 1 M2 ⟨Or.inl ⟨rfl, _, rfl, CkX_k hC (fun k => D02.z (by omega)), fun M3 hk => join_same hW hUn D02 hk⟩, fr M2 D02⟩
      simp (disch := first | assumption | decide | omega) only [n_249_0, n_249_63, n_249_93, n_249_155, z_iconst, z_bipush, z_sipush, z_ldc, z_ldcs, z_ldcw, z_ldc2, z_lconst0, z_lconst1, z_null, z_getstatic, z_iload_0, z_iload_1, z_iload_2, z_iload_3, z_iload, z_istore_0, z_istore_1, z_istore_2, z_istore_3, z_istore, z_lload_0, z_lload_1, z_lload_2, z_lload_3, z_lload, z_lstore_0, z_lstore_1, z_lstore_2, z_lstore_3, z_lstore, z_aload_0, z_aload_1, z_aload_2, z_aload_3, z_aload, z_astore_0, z_astore_1, z_astore_2, z_astore_3, z_astore, ald_0, ald_s, z_iinc, qst1_1i, qst2_1i, qst1_1r, qst2_1r, qst1_1u, qst2_1u, qst1_1n, qst2_1n, qst1_1l, qst2_1l, qst1_0, qst2_0, qst1_s, qst2_s, z_iadd, z_isub, z_imul, z_iand, z_ior, z_ixor, z_ishl, z_ishr, z_idiv, z_irem, z_ladd, z_lsub, z_lmul, z_land, z_lor, z_ldiv, z_lrem, z_ineg, z_lshl, z_lshr, z_i2l, z_l2i, z_i2b, z_i2c, z_lcmp, z_dupi, z_dupr, z_popi, z_popr, z_dup2, z_goto, z_get0, z_get1, z_get2, z_get3, z_put0, z_put1, z_put2, z_put2n, z_put3, z_iaload, z_baload, z_laload, z_aaload, z_iastore, z_bastore, z_lastore, z_aastore, z_aastoren, z_arraylength, z_new, z_newarray, z_anewarray, z_multi, z_objinit, z_is0, z_iv0, z_ip0, z_is1, z_iv1, z_ip1, z_is2, z_iv2, z_ip2, z_is3, z_iv3, z_ip3, z_is4, z_iv4, z_ip4, z_is5, z_iv5, z_ip5, z_is6, z_iv6, z_ip6, z_is7, z_iv7, z_ip7, z_m991, z_m992, z_m993, z_m994, z_m995, z_m996, z_m998, acal_0, acal_1, acal_2, acal_3, acal_4, aK_v, aK_n, sF_c, sF_n, b_nr, b_nn, r_I, r_Z, r_L, r_A, r_V, sw_F, sw_n, gd_tt, is01_bzT, is01_0, is01_1, qrv_s, qrv_n, bi_eq_t, bi_eq_f, bi_ne_t, bi_ne_f, bi_lt_t, bi_lt_f, bi_ge_t, bi_ge_f, bi_gt_t, bi_gt_f, bi_le_t, bi_le_f, bc_eq_t, bc_eq_f, bc_ne_t, bc_ne_f, bc_lt_t, bc_lt_f, bc_ge_t, bc_ge_f, bc_gt_t, bc_gt_f, bc_le_t, bc_le_f, bb_eq_t, bb_eq_f, bb_ne_t, bb_ne_f, sc_t, sc_f, b_nr, b_nn, mI_J, mI_R, mJ_I, mJ_R, mR_I, mR_J, mK_I, mK_J, mK_R, mN_I, mN_J, mN_R, inM_I, inM_J, inM_R, mZ_nc, mZ_nk, mZ_sm, mZ_J, mZ_R, mJ_nc, mJ_ni, mJ_sm, mI_Z, iz_add, iz_sub, iz_mul, iz_neg, iz_lt, iz_le, iz_eq, iz_clamp, iz_inB, iz_div, iz_rem, inM_lit, and_self, true_and, and_true, true_or, or_true, not_true_eq_false, not_false_eq_true, Nat.reduceEqDiff, reduceCtorEq, Int.reduceNeg, Int.reduceSub, Int.reduceAdd, Int.reduceMul, Int.reduceToNat, Int.reduceEq, Int.neg_neg, Int.cast_ofNat_Int, Nat.reduceAdd, Nat.reduceMul, Nat.reduceSub, gd_t, emod_r, iz_0, Int.zero_add, Int.add_zero, wp_some, lz_add, lz_sub, lz_mul, lz_0, lz_1, lz_of, lz_nz, lz_i2l, lz_l2i, lz_rem, lz_div, is01_i, lcmp_lt, lcmp_eq, lcmp_gt]
      exact fin
    | some bv =>
      rw [ev] at ry ete
      cases bv
      · have ry : y = 0 := ry
        subst ry
        rw [ete, if_neg (by decide)] at hP
        have fin := hP 1 M2 ⟨Or.inl ⟨rfl, _, rfl, CkX_k hC (fun k => D02.z (by omega)), fun M3 hk => join_same hW hUn D02 hk⟩, fr M2 D02⟩
        simp (disch := first | assumption | decide | omega) only [n_249_0, n_249_63, n_249_93, n_249_155, z_iconst, z_bipush, z_sipush, z_ldc, z_ldcs, z_ldcw, z_ldc2, z_lconst0, z_lconst1, z_null, z_getstatic, z_iload_0, z_iload_1, z_iload_2, z_iload_3, z_iload, z_istore_0, z_istore_1, z_istore_2, z_istore_3, z_istore, z_lload_0, z_lload_1, z_lload_2, z_lload_3, z_lload, z_lstore_0, z_lstore_1, z_lstore_2, z_lstore_3, z_lstore, z_aload_0, z_aload_1, z_aload_2, z_aload_3, z_aload, z_astore_0, z_astore_1, z_astore_2, z_astore_3, z_astore, ald_0, ald_s, z_iinc, qst1_1i, qst2_1i, qst1_1r, qst2_1r, qst1_1u, qst2_1u, qst1_1n, qst2_1n, qst1_1l, qst2_1l, qst1_0, qst2_0, qst1_s, qst2_s, z_iadd, z_isub, z_imul, z_iand, z_ior, z_ixor, z_ishl, z_ishr, z_idiv, z_irem, z_ladd, z_lsub, z_lmul, z_land, z_lor, z_ldiv, z_lrem, z_ineg, z_lshl, z_lshr, z_i2l, z_l2i, z_i2b, z_i2c, z_lcmp, z_dupi, z_dupr, z_popi, z_popr, z_dup2, z_goto, z_get0, z_get1, z_get2, z_get3, z_put0, z_put1, z_put2, z_put2n, z_put3, z_iaload, z_baload, z_laload, z_aaload, z_iastore, z_bastore, z_lastore, z_aastore, z_aastoren, z_arraylength, z_new, z_newarray, z_anewarray, z_multi, z_objinit, z_is0, z_iv0, z_ip0, z_is1, z_iv1, z_ip1, z_is2, z_iv2, z_ip2, z_is3, z_iv3, z_ip3, z_is4, z_iv4, z_ip4, z_is5, z_iv5, z_ip5, z_is6, z_iv6, z_ip6, z_is7, z_iv7, z_ip7, z_m991, z_m992, z_m993, z_m994, z_m995, z_m996, z_m998, acal_0, acal_1, acal_2, acal_3, acal_4, aK_v, aK_n, sF_c, sF_n, b_nr, b_nn, r_I, r_Z, r_L, r_A, r_V, sw_F, sw_n, gd_tt, is01_bzT, is01_0, is01_1, qrv_s, qrv_n, bi_eq_t, bi_eq_f, bi_ne_t, bi_ne_f, bi_lt_t, bi_lt_f, bi_ge_t, bi_ge_f, bi_gt_t, bi_gt_f, bi_le_t, bi_le_f, bc_eq_t, bc_eq_f, bc_ne_t, bc_ne_f, bc_lt_t, bc_lt_f, bc_ge_t, bc_ge_f, bc_gt_t, bc_gt_f, bc_le_t, bc_le_f, bb_eq_t, bb_eq_f, bb_ne_t, bb_ne_f, sc_t, sc_f, b_nr, b_nn, mI_J, mI_R, mJ_I, mJ_R, mR_I, mR_J, mK_I, mK_J, mK_R, mN_I, mN_J, mN_R, inM_I, inM_J, inM_R, mZ_nc, mZ_nk, mZ_sm, mZ_J, mZ_R, mJ_nc, mJ_ni, mJ_sm, mI_Z, iz_add, iz_sub, iz_mul, iz_neg, iz_lt, iz_le, iz_eq, iz_clamp, iz_inB, iz_div, iz_rem, inM_lit, and_self, true_and, and_true, true_or, or_true, not_true_eq_false, not_false_eq_true, Nat.reduceEqDiff, reduceCtorEq, Int.reduceNeg, Int.reduceSub, Int.reduceAdd, Int.reduceMul, Int.reduceToNat, Int.reduceEq, Int.neg_neg, Int.cast_ofNat_Int, Nat.reduceAdd, Nat.reduceMul, Nat.reduceSub, gd_t, emod_r, iz_0, Int.zero_add, Int.add_zero, wp_some, lz_add, lz_sub, lz_mul, lz_0, lz_1, lz_of, lz_nz, lz_i2l, lz_l2i, lz_rem, lz_div, is01_i, lcmp_lt, lcmp_eq, lcmp_gt]
        exact fin
      · have ry : y = 1 := ry
        subst ry
        have fin := sums ete M2 D02 w2
        clear sums hP
        simp (disch := first | assumption | decide | omega) only [n_249_0, n_249_63, n_249_93, n_249_155, z_iconst, z_bipush, z_sipush, z_ldc, z_ldcs, z_ldcw, z_ldc2, z_lconst0, z_lconst1, z_null, z_getstatic, z_iload_0, z_iload_1, z_iload_2, z_iload_3, z_iload, z_istore_0, z_istore_1, z_istore_2, z_istore_3, z_istore, z_lload_0, z_lload_1, z_lload_2, z_lload_3, z_lload, z_lstore_0, z_lstore_1, z_lstore_2, z_lstore_3, z_lstore, z_aload_0, z_aload_1, z_aload_2, z_aload_3, z_aload, z_astore_0, z_astore_1, z_astore_2, z_astore_3, z_astore, ald_0, ald_s, z_iinc, qst1_1i, qst2_1i, qst1_1r, qst2_1r, qst1_1u, qst2_1u, qst1_1n, qst2_1n, qst1_1l, qst2_1l, qst1_0, qst2_0, qst1_s, qst2_s, z_iadd, z_isub, z_imul, z_iand, z_ior, z_ixor, z_ishl, z_ishr, z_idiv, z_irem, z_ladd, z_lsub, z_lmul, z_land, z_lor, z_ldiv, z_lrem, z_ineg, z_lshl, z_lshr, z_i2l, z_l2i, z_i2b, z_i2c, z_lcmp, z_dupi, z_dupr, z_popi, z_popr, z_dup2, z_goto, z_get0, z_get1, z_get2, z_get3, z_put0, z_put1, z_put2, z_put2n, z_put3, z_iaload, z_baload, z_laload, z_aaload, z_iastore, z_bastore, z_lastore, z_aastore, z_aastoren, z_arraylength, z_new, z_newarray, z_anewarray, z_multi, z_objinit, z_is0, z_iv0, z_ip0, z_is1, z_iv1, z_ip1, z_is2, z_iv2, z_ip2, z_is3, z_iv3, z_ip3, z_is4, z_iv4, z_ip4, z_is5, z_iv5, z_ip5, z_is6, z_iv6, z_ip6, z_is7, z_iv7, z_ip7, z_m991, z_m992, z_m993, z_m994, z_m995, z_m996, z_m998, acal_0, acal_1, acal_2, acal_3, acal_4, aK_v, aK_n, sF_c, sF_n, b_nr, b_nn, r_I, r_Z, r_L, r_A, r_V, sw_F, sw_n, gd_tt, is01_bzT, is01_0, is01_1, qrv_s, qrv_n, bi_eq_t, bi_eq_f, bi_ne_t, bi_ne_f, bi_lt_t, bi_lt_f, bi_ge_t, bi_ge_f, bi_gt_t, bi_gt_f, bi_le_t, bi_le_f, bc_eq_t, bc_eq_f, bc_ne_t, bc_ne_f, bc_lt_t, bc_lt_f, bc_ge_t, bc_ge_f, bc_gt_t, bc_gt_f, bc_le_t, bc_le_f, bb_eq_t, bb_eq_f, bb_ne_t, bb_ne_f, sc_t, sc_f, b_nr, b_nn, mI_J, mI_R, mJ_I, mJ_R, mR_I, mR_J, mK_I, mK_J, mK_R, mN_I, mN_J, mN_R, inM_I, inM_J, inM_R, mZ_nc, mZ_nk, mZ_sm, mZ_J, mZ_R, mJ_nc, mJ_ni, mJ_sm, mI_Z, iz_add, iz_sub, iz_mul, iz_neg, iz_lt, iz_le, iz_eq, iz_clamp, iz_inB, iz_div, iz_rem, inM_lit, and_self, true_and, and_true, true_or, or_true, not_true_eq_false, not_false_eq_true, Nat.reduceEqDiff, reduceCtorEq, Int.reduceNeg, Int.reduceSub, Int.reduceAdd, Int.reduceMul, Int.reduceToNat, Int.reduceEq, Int.neg_neg, Int.cast_ofNat_Int, Nat.reduceAdd, Nat.reduceMul, Nat.reduceSub, gd_t, emod_r, iz_0, Int.zero_add, Int.add_zero, wp_some, lz_add, lz_sub, lz_mul, lz_0, lz_1, lz_of, lz_nz, lz_i2l, lz_l2i, lz_rem, lz_div, is01_i, lcmp_lt, lcmp_eq, lcmp_gt]
        exact fin

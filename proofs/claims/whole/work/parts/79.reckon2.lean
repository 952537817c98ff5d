/-- a Text of x: its code -/
def TxC (M : qMe) (T Tc len : Nat) (cd : Nat → Int) : Prop := inM M T ∧ (mK M T).1 = 10 ∧ mR M T 4 = some Tc ∧ inM M Tc ∧ (mK M Tc).1 = 100 ∧ len ≤ (mK M Tc).2 ∧ mZ M T 6 = len ∧ len ≤ 512 ∧ (∀ j, j < len → mZ M Tc j = cd j ∧ 0 ≤ cd j ∧ cd j ≤ 20000)
theorem TxC_k {M M1 : qMe} {T Tc len S : Nat} {cd : Nat → Int} (h : TxC M T Tc len cd) (hD : Dif M M1 (fun i _ => i = S)) (h1 : ¬ T = S) (h2 : ¬ Tc = S) : TxC M1 T Tc len cd := by
  obtain ⟨a1, a2, a3, a4, a5, a6, a7, a8, a9⟩ := h
  refine ⟨?_, ?_, ?_, ?_, ?_, ?_, ?_, a8, fun j hj => ?_⟩
  · rw [hD.eqs.inm]; exact a1
  · rw [hD.2.1]; exact a2
  · rw [hD.2.2.1]; exact a3
  · rw [hD.eqs.inm]; exact a4
  · rw [hD.2.1]; exact a5
  · rw [hD.2.1]; exact a6
  · rw [hD.z h1]; exact a7
  · rw [hD.z h2]; exact a9 j hj
theorem c_rk_pre {cc : qV} {g : qF} {P : Option Value → qMe → Prop} {M : qMe} {T Tc S Wd len i op : Nat} {cd : Nat → Int} {fr top w l r : Int} {x6 x7 x8 x9 x10 x11 x12 x13 : Option Value} (h : shp M) (hT : TxC M T Tc len cd) (hS : inM M S ∧ mK M S = (100, 64)) (hi : i < len) (ho : (op : Int) = cd i % 16) (hw : w = cd i / 16) (ht : 0 ≤ top ∧ top < 64) (hn : (needs op : Int) ≤ top) (hr0 : top = 0 → r = 0) (hr : 0 < top → mZ M S (top - 1).toNat = r) (hl0 : top ≤ 1 → l = 0) (hl : 1 < top → mZ M S (top - 2).toNat = l)
    (hP : wp (n_314_106 cc g [some (.ref T), some (.int (iz fr)), some (.ref Wd), some (.ref S), some (.int (iz top)), some (.int (iz (i : Int))), some (.int (iz (op : Int))), some (.int (iz w)), some (.long (lz l)), none, x10, x11, x12, x13] [.long (lz r)] M) P) : wp (f_314_17 cc g [some (.ref T), some (.int (iz fr)), some (.ref Wd), some (.ref S), some (.int (iz top)), some (.int (iz (i : Int))), x6, x7, x8, x9, x10, x11, x12, x13] [] M) P := by
  obtain ⟨a1, a2, a3, a4, a5, a6, a7, a8, a9⟩ := hT
  obtain ⟨c1, c2, c3⟩ := a9 i hi
  have hN := h.1
  have hk3 := h.2.2.2.1.2.2
  have nn := sh_n h (op := op) (by omega)
  have hS1 := hS.1
  have hS2 := hS.2
  have e15 := and15 (x := cd i) c2 (by omega)
  have e4 := shr4 (x := cd i) c2 (by omega)
  rw [← ho] at e15
  rw [← hw] at e4
  by_cases t0 : top = 0
  · have r0 := hr0 t0
    have l0 := hl0 (by omega)
    subst r0 l0
    unfold f_314_17
    simp (disch := first | assumption | decide | omega) only [n_314_0, n_314_15, n_314_67, n_314_88, n_314_179, n_314_192, n_314_245, n_314_307, n_314_330, n_314_348, n_314_366, n_314_384, n_314_386, n_314_404, n_314_430, n_314_436, z_iconst, z_bipush, z_sipush, z_ldc, z_ldcs, z_ldcw, z_ldc2, z_lconst0, z_lconst1, z_null, z_getstatic, z_iload_0, z_iload_1, z_iload_2, z_iload_3, z_iload, z_istore_0, z_istore_1, z_istore_2, z_istore_3, z_istore, z_lload_0, z_lload_1, z_lload_2, z_lload_3, z_lload, z_lstore_0, z_lstore_1, z_lstore_2, z_lstore_3, z_lstore, z_aload_0, z_aload_1, z_aload_2, z_aload_3, z_aload, z_astore_0, z_astore_1, z_astore_2, z_astore_3, z_astore, ald_0, ald_s, z_iinc, qst1_1i, qst2_1i, qst1_1r, qst2_1r, qst1_1u, qst2_1u, qst1_1n, qst2_1n, qst1_1l, qst2_1l, qst1_0, qst2_0, qst1_s, qst2_s, z_iadd, z_isub, z_imul, z_iand, z_ior, z_ixor, z_ishl, z_ishr, z_idiv, z_irem, z_ladd, z_lsub, z_lmul, z_land, z_lor, z_ldiv, z_lrem, z_ineg, z_lshl, z_lshr, z_i2l, z_l2i, z_i2b, z_i2c, z_lcmp, z_dupi, z_dupr, z_popi, z_popr, z_dup2, z_goto, z_get0, z_get1, z_get2, z_get3, z_put0, z_put1, z_put2, z_put2n, z_put3, z_iaload, z_baload, z_laload, z_aaload, z_iastore, z_bastore, z_lastore, z_aastore, z_aastoren, z_arraylength, z_new, z_newarray, z_anewarray, z_multi, z_objinit, z_is0, z_iv0, z_ip0, z_is1, z_iv1, z_ip1, z_is2, z_iv2, z_ip2, z_is3, z_iv3, z_ip3, z_is4, z_iv4, z_ip4, z_is5, z_iv5, z_ip5, z_is6, z_iv6, z_ip6, z_is7, z_iv7, z_ip7, z_m991, z_m992, z_m993, z_m994, z_m995, z_m996, z_m998, acal_0, acal_1, acal_2, acal_3, acal_4, aK_v, aK_n, sF_c, sF_n, b_nr, b_nn, r_I, r_Z, r_L, r_A, r_V, sw_F, sw_n, gd_tt, is01_bzT, is01_0, is01_1, qrv_s, qrv_n, bi_eq_t, bi_eq_f, bi_ne_t, bi_ne_f, bi_lt_t, bi_lt_f, bi_ge_t, bi_ge_f, bi_gt_t, bi_gt_f, bi_le_t, bi_le_f, bc_eq_t, bc_eq_f, bc_ne_t, bc_ne_f, bc_lt_t, bc_lt_f, bc_ge_t, bc_ge_f, bc_gt_t, bc_gt_f, bc_le_t, bc_le_f, bb_eq_t, bb_eq_f, bb_ne_t, bb_ne_f, sc_t, sc_f, b_nr, b_nn, mI_J, mI_R, mJ_I, mJ_R, mR_I, mR_J, mK_I, mK_J, mK_R, mN_I, mN_J, mN_R, inM_I, inM_J, inM_R, mZ_nc, mZ_nk, mZ_sm, mZ_J, mZ_R, mJ_nc, mJ_ni, mJ_sm, mI_Z, iz_add, iz_sub, iz_mul, iz_neg, iz_lt, iz_le, iz_eq, iz_clamp, iz_inB, iz_div, iz_rem, shK h, shR h, inM_lit, and_self, true_and, and_true, true_or, or_true, not_true_eq_false, not_false_eq_true, Nat.reduceEqDiff, reduceCtorEq, Int.reduceNeg, Int.reduceSub, Int.reduceAdd, Int.reduceMul, Int.reduceToNat, Int.reduceEq, Int.neg_neg, Int.cast_ofNat_Int, Nat.reduceAdd, Nat.reduceMul, Nat.reduceSub, gd_t, emod_r, iz_0, Int.zero_add, Int.add_zero, wp_some, lz_add, lz_sub, lz_mul, lz_0, lz_1, lz_of, lz_nz, lz_i2l, lz_l2i, lz_rem, lz_div, is01_i, lcmp_lt, lcmp_eq, lcmp_gt, a1, a2, a3, a4, a5, a7, c1, e15, e4, nn, hk3, hS1, hS2, Int.toNat_natCast]
    exact hP
  · by_cases t1 : top = 1
    · have l0 := hl0 (by omega)
      have hr := hr (by omega)
      have rb := mZ_ge M S (top - 1).toNat
      have rc := mZ_lt M S (top - 1).toNat
      rw [hr] at rb rc
      subst l0
      unfold f_314_17
      simp (disch := first | assumption | decide | omega) only [n_314_0, n_314_15, n_314_67, n_314_88, n_314_179, n_314_192, n_314_245, n_314_307, n_314_330, n_314_348, n_314_366, n_314_384, n_314_386, n_314_404, n_314_430, n_314_436, z_iconst, z_bipush, z_sipush, z_ldc, z_ldcs, z_ldcw, z_ldc2, z_lconst0, z_lconst1, z_null, z_getstatic, z_iload_0, z_iload_1, z_iload_2, z_iload_3, z_iload, z_istore_0, z_istore_1, z_istore_2, z_istore_3, z_istore, z_lload_0, z_lload_1, z_lload_2, z_lload_3, z_lload, z_lstore_0, z_lstore_1, z_lstore_2, z_lstore_3, z_lstore, z_aload_0, z_aload_1, z_aload_2, z_aload_3, z_aload, z_astore_0, z_astore_1, z_astore_2, z_astore_3, z_astore, ald_0, ald_s, z_iinc, qst1_1i, qst2_1i, qst1_1r, qst2_1r, qst1_1u, qst2_1u, qst1_1n, qst2_1n, qst1_1l, qst2_1l, qst1_0, qst2_0, qst1_s, qst2_s, z_iadd, z_isub, z_imul, z_iand, z_ior, z_ixor, z_ishl, z_ishr, z_idiv, z_irem, z_ladd, z_lsub, z_lmul, z_land, z_lor, z_ldiv, z_lrem, z_ineg, z_lshl, z_lshr, z_i2l, z_l2i, z_i2b, z_i2c, z_lcmp, z_dupi, z_dupr, z_popi, z_popr, z_dup2, z_goto, z_get0, z_get1, z_get2, z_get3, z_put0, z_put1, z_put2, z_put2n, z_put3, z_iaload, z_baload, z_laload, z_aaload, z_iastore, z_bastore, z_lastore, z_aastore, z_aastoren, z_arraylength, z_new, z_newarray, z_anewarray, z_multi, z_objinit, z_is0, z_iv0, z_ip0, z_is1, z_iv1, z_ip1, z_is2, z_iv2, z_ip2, z_is3, z_iv3, z_ip3, z_is4, z_iv4, z_ip4, z_is5, z_iv5, z_ip5, z_is6, z_iv6, z_ip6, z_is7, z_iv7, z_ip7, z_m991, z_m992, z_m993, z_m994, z_m995, z_m996, z_m998, acal_0, acal_1, acal_2, acal_3, acal_4, aK_v, aK_n, sF_c, sF_n, b_nr, b_nn, r_I, r_Z, r_L, r_A, r_V, sw_F, sw_n, gd_tt, is01_bzT, is01_0, is01_1, qrv_s, qrv_n, bi_eq_t, bi_eq_f, bi_ne_t, bi_ne_f, bi_lt_t, bi_lt_f, bi_ge_t, bi_ge_f, bi_gt_t, bi_gt_f, bi_le_t, bi_le_f, bc_eq_t, bc_eq_f, bc_ne_t, bc_ne_f, bc_lt_t, bc_lt_f, bc_ge_t, bc_ge_f, bc_gt_t, bc_gt_f, bc_le_t, bc_le_f, bb_eq_t, bb_eq_f, bb_ne_t, bb_ne_f, sc_t, sc_f, b_nr, b_nn, mI_J, mI_R, mJ_I, mJ_R, mR_I, mR_J, mK_I, mK_J, mK_R, mN_I, mN_J, mN_R, inM_I, inM_J, inM_R, mZ_nc, mZ_nk, mZ_sm, mZ_J, mZ_R, mJ_nc, mJ_ni, mJ_sm, mI_Z, iz_add, iz_sub, iz_mul, iz_neg, iz_lt, iz_le, iz_eq, iz_clamp, iz_inB, iz_div, iz_rem, shK h, shR h, inM_lit, and_self, true_and, and_true, true_or, or_true, not_true_eq_false, not_false_eq_true, Nat.reduceEqDiff, reduceCtorEq, Int.reduceNeg, Int.reduceSub, Int.reduceAdd, Int.reduceMul, Int.reduceToNat, Int.reduceEq, Int.neg_neg, Int.cast_ofNat_Int, Nat.reduceAdd, Nat.reduceMul, Nat.reduceSub, gd_t, emod_r, iz_0, Int.zero_add, Int.add_zero, wp_some, lz_add, lz_sub, lz_mul, lz_0, lz_1, lz_of, lz_nz, lz_i2l, lz_l2i, lz_rem, lz_div, is01_i, lcmp_lt, lcmp_eq, lcmp_gt, a1, a2, a3, a4, a5, a7, c1, e15, e4, nn, hk3, hS1, hS2, hr, Int.toNat_natCast]
      exact hP
    · have hl := hl (by omega)
      have hr := hr (by omega)
      have rb := mZ_ge M S (top - 1).toNat
      have rc := mZ_lt M S (top - 1).toNat
      rw [hr] at rb rc
      have lb := mZ_ge M S (top - 2).toNat
      have lc := mZ_lt M S (top - 2).toNat
      rw [hl] at lb lc
      unfold f_314_17
      simp (disch := first | assumption | decide | omega) only [n_314_0, n_314_15, n_314_67, n_314_88, n_314_179, n_314_192, n_314_245, n_314_307, n_314_330, n_314_348, n_314_366, n_314_384, n_314_386, n_314_404, n_314_430, n_314_436, z_iconst, z_bipush, z_sipush, z_ldc, z_ldcs, z_ldcw, z_ldc2, z_lconst0, z_lconst1, z_null, z_getstatic, z_iload_0, z_iload_1, z_iload_2, z_iload_3, z_iload, z_istore_0, z_istore_1, z_istore_2, z_istore_3, z_istore, z_lload_0, z_lload_1, z_lload_2, z_lload_3, z_lload, z_lstore_0, z_lstore_1, z_lstore_2, z_lstore_3, z_lstore, z_aload_0, z_aload_1, z_aload_2, z_aload_3, z_aload, z_astore_0, z_astore_1, z_astore_2, z_astore_3, z_astore, ald_0, ald_s, z_iinc, qst1_1i, qst2_1i, qst1_1r, qst2_1r, qst1_1u, qst2_1u, qst1_1n, qst2_1n, qst1_1l, qst2_1l, qst1_0, qst2_0, qst1_s, qst2_s, z_iadd, z_isub, z_imul, z_iand, z_ior, z_ixor, z_ishl, z_ishr, z_idiv, z_irem, z_ladd, z_lsub, z_lmul, z_land, z_lor, z_ldiv, z_lrem, z_ineg, z_lshl, z_lshr, z_i2l, z_l2i, z_i2b, z_i2c, z_lcmp, z_dupi, z_dupr, z_popi, z_popr, z_dup2, z_goto, z_get0, z_get1, z_get2, z_get3, z_put0, z_put1, z_put2, z_put2n, z_put3, z_iaload, z_baload, z_laload, z_aaload, z_iastore, z_bastore, z_lastore, z_aastore, z_aastoren, z_arraylength, z_new, z_newarray, z_anewarray, z_multi, z_objinit, z_is0, z_iv0, z_ip0, z_is1, z_iv1, z_ip1, z_is2, z_iv2, z_ip2, z_is3, z_iv3, z_ip3, z_is4, z_iv4, z_ip4, z_is5, z_iv5, z_ip5, z_is6, z_iv6, z_ip6, z_is7, z_iv7, z_ip7, z_m991, z_m992, z_m993, z_m994, z_m995, z_m996, z_m998, acal_0, acal_1, acal_2, acal_3, acal_4, aK_v, aK_n, sF_c, sF_n, b_nr, b_nn, r_I, r_Z, r_L, r_A, r_V, sw_F, sw_n, gd_tt, is01_bzT, is01_0, is01_1, qrv_s, qrv_n, bi_eq_t, bi_eq_f, bi_ne_t, bi_ne_f, bi_lt_t, bi_lt_f, bi_ge_t, bi_ge_f, bi_gt_t, bi_gt_f, bi_le_t, bi_le_f, bc_eq_t, bc_eq_f, bc_ne_t, bc_ne_f, bc_lt_t, bc_lt_f, bc_ge_t, bc_ge_f, bc_gt_t, bc_gt_f, bc_le_t, bc_le_f, bb_eq_t, bb_eq_f, bb_ne_t, bb_ne_f, sc_t, sc_f, b_nr, b_nn, mI_J, mI_R, mJ_I, mJ_R, mR_I, mR_J, mK_I, mK_J, mK_R, mN_I, mN_J, mN_R, inM_I, inM_J, inM_R, mZ_nc, mZ_nk, mZ_sm, mZ_J, mZ_R, mJ_nc, mJ_ni, mJ_sm, mI_Z, iz_add, iz_sub, iz_mul, iz_neg, iz_lt, iz_le, iz_eq, iz_clamp, iz_inB, iz_div, iz_rem, shK h, shR h, inM_lit, and_self, true_and, and_true, true_or, or_true, not_true_eq_false, not_false_eq_true, Nat.reduceEqDiff, reduceCtorEq, Int.reduceNeg, Int.reduceSub, Int.reduceAdd, Int.reduceMul, Int.reduceToNat, Int.reduceEq, Int.neg_neg, Int.cast_ofNat_Int, Nat.reduceAdd, Nat.reduceMul, Nat.reduceSub, gd_t, emod_r, iz_0, Int.zero_add, Int.add_zero, wp_some, lz_add, lz_sub, lz_mul, lz_0, lz_1, lz_of, lz_nz, lz_i2l, lz_l2i, lz_rem, lz_div, is01_i, lcmp_lt, lcmp_eq, lcmp_gt, a1, a2, a3, a4, a5, a7, c1, e15, e4, nn, hk3, hS1, hS2, hr, hl, Int.toNat_natCast]
      exact hP
/-- the stack st lies in the row S -/
def SR (M : qMe) (S : Nat) (st : List Int) : Prop := ∀ j x, st[j]? = some x → mZ M S (st.length - 1 - j) = x
theorem SR_t {M : qMe} {S : Nat} {x : Int} {st : List Int} (h : SR M S (x :: st)) : SR M S st := fun j y hj => by
  have hl : j < st.length := by
    rcases Nat.lt_or_ge j st.length with q | q
    · exact q
    · rw [List.getElem?_eq_none q] at hj; cases hj
  have := h (j + 1) y (by rw [List.getElem?_cons_succ]; exact hj)
  rw [← this]
  congr 1
  simp only [List.length_cons]
  omega
theorem SR_d {M : qMe} {S : Nat} : ∀ (n : Nat) (st : List Int), SR M S st → SR M S (st.drop n)
  | 0, st, h => h
  | n + 1, [], h => h
  | n + 1, _ :: st, h => SR_d n st (SR_t h)
theorem SR_p {M : qMe} {S : Nat} {z : Int} {st : List Int} (h : SR M S st) (z1 : -2147483648 ≤ z) (z2 : z < 2147483648) : SR (qsI M S st.length (iz z)) S (z :: st) := fun j x hj => by
  cases j with
  | zero =>
    cases hj
    exact mZ_sm (by simp only [List.length_cons]; omega) z1 z2
  | succ j =>
    rw [List.getElem?_cons_succ] at hj
    have hl : j < st.length := by
      rcases Nat.lt_or_ge j st.length with q | q
      · exact q
      · rw [List.getElem?_eq_none q] at hj; cases hj
    rw [mZ_nk (by simp only [List.length_cons]; omega), ← h j x hj]
    congr 1
    simp only [List.length_cons]
    omega
theorem SR_0 {M : qMe} {S : Nat} {st : List Int} (h : SR M S st) (hl : 0 < st.length) : mZ M S ((st.length : Int) - 1).toNat = top0 st := by
  cases st with
  | nil => cases hl
  | cons x r =>
    have := h 0 x rfl
    show _ = x
    rw [← this]
    congr 1
    simp only [List.length_cons]
    omega
theorem SR_1 {M : qMe} {S : Nat} {st : List Int} (h : SR M S st) (hl : 1 < st.length) : mZ M S ((st.length : Int) - 2).toNat = top1 st := by
  match st, hl with
  | [], hl => cases hl
  | [_], hl => simp only [List.length_cons, List.length_nil] at hl; omega
  | x :: y :: r, hl =>
    have := h 1 y rfl
    show _ = y
    rw [← this]
    congr 1
    simp only [List.length_cons]
    omega
theorem top0_n {st : List Int} (h : (st.length : Int) = 0) : top0 st = 0 := by
  cases st with
  | nil => rfl
  | cons x r => simp only [List.length_cons] at h; omega
theorem top1_n {st : List Int} (h : (st.length : Int) ≤ 1) : top1 st = 0 := by
  match st, h with
  | [], _ => rfl
  | [_], _ => rfl
  | x :: y :: r, h => simp only [List.length_cons] at h; omega

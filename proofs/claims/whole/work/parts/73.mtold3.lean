/-! what the LAW in FORCE tells -/
def nOf (M : qMe) (arr : Nat) (off t : Int) : Nat := (mZ M arr (off + 271 + t).toNat).toNat
def cOf (M : qMe) (arr : Nat) (off t : Int) (p : Nat) : Int := if p < nOf M arr off t then mZ M arr (off + 278 + 400 * t + p).toNat else 0
def vOf (M : qMe) (arr : Nat) (off t : Int) (p : Nat) : Int := if p < nOf M arr off t then mZ M arr (off + 3078 + 400 * t + p).toNat else 0
def pOf (M : qMe) (arr : Nat) (off t : Int) : pR (List Itm) := pText (cOf M arr off t) (vOf M arr off t) true (nOf M arr off t)
def lawOk (M : qMe) (arr : Nat) (off t : Int) : Prop := (0 ≤ mZ M arr (off + 271 + t).toNat ∧ mZ M arr (off + 271 + t).toNat ≤ 400) ∧ (∀ p, 0 ≤ vOf M arr off t p) ∧ (pOf M arr off t).1 = true
noncomputable def hung (M : qMe) (c : Int) : Int := if hAt M 481 0 c = -1 then -1 else mZ M 481 (160 + 5 * hAt M 481 0 c + 1).toNat
noncomputable def envL (M : qMe) (cell w sp : Int) (k : Nat) : Int := if k = 0 then cell % 8 else if k = 1 then cell / 8 else if k = 2 then mZ M 481 cell.toNat else if k = 3 then mZ M 481 (80 + cell).toNat else if k = 4 then sp else if k = 5 then mZ M 481 (204 + 3 * w).toNat else if k = 6 then mZ M 481 (204 + 3 * w + 1).toNat else if k = 7 then hung M cell else mZ M 481 260
noncomputable def tau (M : qMe) (kk : Nat) (hi wo cell w sp : Int) : Int := if mZ M 481 270 = -1 then wo else tolds kk hi (envL M cell w sp) (pOf M 481 0 (mZ M 481 270)).2.2.2.2 wo
def DTo (i k : Nat) : Prop := (i = 479 ∧ (k = 22 ∨ k = 24 ∨ k = 23 ∨ k = 8)) ∨ i = 491
theorem clamp_b {hi z : Int} (h : 0 ≤ hi) : 0 ≤ clamp hi z ∧ clamp hi z ≤ hi := by
  unfold clamp
  split
  · omega
  · split <;> omega
theorem tolds_b {kk : Nat} {hi : Int} {e : Nat → Int} (h : 0 ≤ hi) : ∀ (is : List Itm) (w : Int), 0 ≤ w → w ≤ hi → 0 ≤ tolds kk hi e is w ∧ tolds kk hi e is w ≤ hi
  | [], w, h1, h2 => ⟨h1, h2⟩
  | i :: is, w, h1, h2 => by
    unfold tolds
    have : 0 ≤ (if i.1 = kk ∧ itest i.2.2.1 e = some true then (match isum i.1 i.2.1 e with
      | some s => clamp hi s
      | none => w) else w) ∧ (if i.1 = kk ∧ itest i.2.2.1 e = some true then (match isum i.1 i.2.1 e with
      | some s => clamp hi s
      | none => w) else w) ≤ hi := by
      split
      · split
        · exact clamp_b h
        · exact ⟨h1, h2⟩
      · exact ⟨h1, h2⟩
    exact tolds_b h is _ this.1 this.2
theorem tau_b {M : qMe} {kk : Nat} {hi wo cell w sp : Int} (h : 0 ≤ wo) (h2 : wo ≤ hi) : 0 ≤ tau M kk hi wo cell w sp ∧ tau M kk hi wo cell w sp ≤ hi := by
  unfold tau
  split
  · exact ⟨h, h2⟩
  · exact tolds_b (by omega) _ _ h h2
theorem hung_b {M : qMe} {c : Int} (hw : WFk M 481 0) : -1 ≤ hung M c ∧ hung M c ≤ 9 := by
  unfold hung
  have hs := (WFk_s hw).1
  obtain ⟨g1, g2, g3⟩ := hAt_b (M := M) (arr := 481) (off := 0) (c := c)
  have g3 := g3 hs.1
  split
  · omega
  · next q =>
    have := hw.2.2.2.1 (hAt M 481 0 c) (by omega) (by omega)
    simp only [Int.zero_add] at this
    omega
theorem envL_b {M : qMe} {cell w sp : Int} (hw : WFk M 481 0) (c1 : 0 ≤ cell ∧ cell < 80) (w1 : 0 ≤ w ∧ w < mZ M 481 266) (s1 : 0 ≤ sp ∧ sp ≤ 99) (k : Nat) : -1 ≤ envL M cell w sp k ∧ envL M cell w sp k ≤ 99 := by
  have a1 := hw.2.1 cell c1.1 c1.2
  have a2 := hw.2.2.1 cell c1.1 c1.2
  have a3 := hw.2.2.2.2.2.2.2.1 w w1.1 w1.2
  have a4 := hung_b (c := cell) hw
  have a5 := (WFk_s hw).2.2.2.2.2.2.2.1
  simp only [Int.zero_add] at a1 a2 a3
  unfold envL
  repeat (first | omega | split)
theorem m_told {d : Nat} {M : qMe} {head cell w sp hi wo : Int} {kk : Nat} (h : shp M) (hw : WFk M 481 0) (hL : ∀ t, 0 ≤ t → t < mZ M 481 269 → lawOk M 481 0 t) (c1 : 0 ≤ cell ∧ cell < 80) (w1 : 0 ≤ w ∧ w < mZ M 481 266) (s1 : 0 ≤ sp ∧ sp ≤ 99) (hk : head = kk + 1) (hk3 : kk ≤ 3) (h0 : 1 ≤ hi ∧ hi ≤ 999) (hwo : 0 ≤ wo ∧ wo ≤ 1) : wI (cal (d + 161) 140 [.ref 479, .int (iz head), .int (iz cell), .int (iz w), .int (iz sp), .int (iz hi), .int (iz wo)] M) (fun z M1 => z = tau M kk hi wo cell w sp ∧ Dif M M1 DTo) := by
  refine wI_q (fun P hP => ?_)
  rw [cal_140, gd_t (Nat.le_of_ble_eq_true rfl)]
  change wp (n_140_0 (cal _) [some (.ref 479), some (.int (iz head)), some (.int (iz cell)), some (.int (iz w)), some (.int (iz sp)), some (.int (iz hi)), some (.int (iz wo)), none, none, none, none, none, none, none] [] _) _
  have hN := h.1
  obtain ⟨hs1, hs2, hs3, hs4, hs5, hs6, hs7, hs8, -⟩ := WFk_s hw
  by_cases f1 : mZ M 481 270 = -1
  · simp (disch := first | assumption | decide | omega) only [n_140_0, n_140_239, n_140_277, n_140_335, n_140_337, n_140_350, z_iconst, z_bipush, z_sipush, z_ldc, z_ldcs, z_ldcw, z_ldc2, z_lconst0, z_lconst1, z_null, z_getstatic, z_iload_0, z_iload_1, z_iload_2, z_iload_3, z_iload, z_istore_0, z_istore_1, z_istore_2, z_istore_3, z_istore, z_lload_0, z_lload_1, z_lload_2, z_lload_3, z_lload, z_lstore_0, z_lstore_1, z_lstore_2, z_lstore_3, z_lstore, z_aload_0, z_aload_1, z_aload_2, z_aload_3, z_aload, z_astore_0, z_astore_1, z_astore_2, z_astore_3, z_astore, ald_0, ald_s, z_iinc, qst1_1i, qst2_1i, qst1_1r, qst2_1r, qst1_1u, qst2_1u, qst1_1n, qst2_1n, qst1_1l, qst2_1l, qst1_0, qst2_0, qst1_s, qst2_s, z_iadd, z_isub, z_imul, z_iand, z_ior, z_ixor, z_ishl, z_ishr, z_idiv, z_irem, z_ladd, z_lsub, z_lmul, z_land, z_lor, z_ldiv, z_lrem, z_ineg, z_lshl, z_lshr, z_i2l, z_l2i, z_i2b, z_i2c, z_lcmp, z_dupi, z_dupr, z_popi, z_popr, z_dup2, z_goto, z_get0, z_get1, z_get2, z_get3, z_put0, z_put1, z_put2, z_put2n, z_put3, z_iaload, z_baload, z_laload, z_aaload, z_iastore, z_bastore, z_lastore, z_aastore, z_aastoren, z_arraylength, z_new, z_newarray, z_anewarray, z_multi, z_objinit, z_is0, z_iv0, z_ip0, z_is1, z_iv1, z_ip1, z_is2, z_iv2, z_ip2, z_is3, z_iv3, z_ip3, z_is4, z_iv4, z_ip4, z_is5, z_iv5, z_ip5, z_is6, z_iv6, z_ip6, z_is7, z_iv7, z_ip7, z_m991, z_m992, z_m993, z_m994, z_m995, z_m996, z_m998, acal_0, acal_1, acal_2, acal_3, acal_4, aK_v, aK_n, sF_c, sF_n, b_nr, b_nn, r_I, r_Z, r_L, r_A, r_V, sw_F, sw_n, gd_tt, is01_bzT, is01_0, is01_1, qrv_s, qrv_n, bi_eq_t, bi_eq_f, bi_ne_t, bi_ne_f, bi_lt_t, bi_lt_f, bi_ge_t, bi_ge_f, bi_gt_t, bi_gt_f, bi_le_t, bi_le_f, bc_eq_t, bc_eq_f, bc_ne_t, bc_ne_f, bc_lt_t, bc_lt_f, bc_ge_t, bc_ge_f, bc_gt_t, bc_gt_f, bc_le_t, bc_le_f, bb_eq_t, bb_eq_f, bb_ne_t, bb_ne_f, sc_t, sc_f, b_nr, b_nn, mI_J, mI_R, mJ_I, mJ_R, mR_I, mR_J, mK_I, mK_J, mK_R, mN_I, mN_J, mN_R, inM_I, inM_J, inM_R, mZ_nc, mZ_nk, mZ_sm, mZ_J, mZ_R, mJ_nc, mJ_ni, mJ_sm, mI_Z, iz_add, iz_sub, iz_mul, iz_neg, iz_lt, iz_le, iz_eq, iz_clamp, iz_inB, iz_div, iz_rem, shK h, shR h, inM_lit, and_self, true_and, and_true, true_or, or_true, not_true_eq_false, not_false_eq_true, Nat.reduceEqDiff, reduceCtorEq, Int.reduceNeg, Int.reduceSub, Int.reduceAdd, Int.reduceMul, Int.reduceToNat, Int.reduceEq, Int.neg_neg, Int.cast_ofNat_Int, Nat.reduceAdd, Nat.reduceMul, Nat.reduceSub, gd_t, emod_r, iz_0, Int.zero_add, Int.add_zero, wp_some, lz_add, lz_sub, lz_mul, lz_0, lz_1, lz_of, lz_nz, lz_i2l, lz_l2i, lz_rem, lz_div, is01_i, lcmp_lt, lcmp_eq, lcmp_gt, f1]
    exact hP _ _ ⟨by unfold tau; rw [if_pos f1], Dif.rfl'⟩
  · have hl := hL (mZ M 481 270) (by omega) (by omega)
    have a1 := hw.2.1 cell c1.1 c1.2
    have a2 := hw.2.2.1 cell c1.1 c1.2
    have a3 := hw.2.2.2.2.2.2.2.1 w w1.1 w1.2
    have a4 := hung_b (c := cell) hw
    simp only [Int.zero_add] at a1 a2 a3
    have hh : ∀ Mx : qMe, shp Mx → (∀ k, mZ Mx 481 k = mZ M 481 k) → cal (d + 160) 96 [.ref 479, .int (iz cell)] Mx = some (some (.int (iz (hung M cell))), Mx) := by
      intro Mx s e
      have q := m_hungerAt (d := d + 158) (c := cell) s (by rw [e]; exact hs1) (by omega) (by omega)
      rw [hAt_eq e] at q
      simp only [e] at q
      exact q
    simp (disch := first | assumption | decide | omega) only [n_140_0, n_140_239, n_140_277, n_140_335, n_140_337, n_140_350, z_iconst, z_bipush, z_sipush, z_ldc, z_ldcs, z_ldcw, z_ldc2, z_lconst0, z_lconst1, z_null, z_getstatic, z_iload_0, z_iload_1, z_iload_2, z_iload_3, z_iload, z_istore_0, z_istore_1, z_istore_2, z_istore_3, z_istore, z_lload_0, z_lload_1, z_lload_2, z_lload_3, z_lload, z_lstore_0, z_lstore_1, z_lstore_2, z_lstore_3, z_lstore, z_aload_0, z_aload_1, z_aload_2, z_aload_3, z_aload, z_astore_0, z_astore_1, z_astore_2, z_astore_3, z_astore, ald_0, ald_s, z_iinc, qst1_1i, qst2_1i, qst1_1r, qst2_1r, qst1_1u, qst2_1u, qst1_1n, qst2_1n, qst1_1l, qst2_1l, qst1_0, qst2_0, qst1_s, qst2_s, z_iadd, z_isub, z_imul, z_iand, z_ior, z_ixor, z_ishl, z_ishr, z_idiv, z_irem, z_ladd, z_lsub, z_lmul, z_land, z_lor, z_ldiv, z_lrem, z_ineg, z_lshl, z_lshr, z_i2l, z_l2i, z_i2b, z_i2c, z_lcmp, z_dupi, z_dupr, z_popi, z_popr, z_dup2, z_goto, z_get0, z_get1, z_get2, z_get3, z_put0, z_put1, z_put2, z_put2n, z_put3, z_iaload, z_baload, z_laload, z_aaload, z_iastore, z_bastore, z_lastore, z_aastore, z_aastoren, z_arraylength, z_new, z_newarray, z_anewarray, z_multi, z_objinit, z_is0, z_iv0, z_ip0, z_is1, z_iv1, z_ip1, z_is2, z_iv2, z_ip2, z_is3, z_iv3, z_ip3, z_is4, z_iv4, z_ip4, z_is5, z_iv5, z_ip5, z_is6, z_iv6, z_ip6, z_is7, z_iv7, z_ip7, z_m991, z_m992, z_m993, z_m994, z_m995, z_m996, z_m998, acal_0, acal_1, acal_2, acal_3, acal_4, aK_v, aK_n, sF_c, sF_n, b_nr, b_nn, r_I, r_Z, r_L, r_A, r_V, sw_F, sw_n, gd_tt, is01_bzT, is01_0, is01_1, qrv_s, qrv_n, bi_eq_t, bi_eq_f, bi_ne_t, bi_ne_f, bi_lt_t, bi_lt_f, bi_ge_t, bi_ge_f, bi_gt_t, bi_gt_f, bi_le_t, bi_le_f, bc_eq_t, bc_eq_f, bc_ne_t, bc_ne_f, bc_lt_t, bc_lt_f, bc_ge_t, bc_ge_f, bc_gt_t, bc_gt_f, bc_le_t, bc_le_f, bb_eq_t, bb_eq_f, bb_ne_t, bb_ne_f, sc_t, sc_f, b_nr, b_nn, mI_J, mI_R, mJ_I, mJ_R, mR_I, mR_J, mK_I, mK_J, mK_R, mN_I, mN_J, mN_R, inM_I, inM_J, inM_R, mZ_nc, mZ_nk, mZ_sm, mZ_J, mZ_R, mJ_nc, mJ_ni, mJ_sm, mI_Z, iz_add, iz_sub, iz_mul, iz_neg, iz_lt, iz_le, iz_eq, iz_clamp, iz_inB, iz_div, iz_rem, shK h, shR h, inM_lit, and_self, true_and, and_true, true_or, or_true, not_true_eq_false, not_false_eq_true, Nat.reduceEqDiff, reduceCtorEq, Int.reduceNeg, Int.reduceSub, Int.reduceAdd, Int.reduceMul, Int.reduceToNat, Int.reduceEq, Int.neg_neg, Int.cast_ofNat_Int, Nat.reduceAdd, Nat.reduceMul, Nat.reduceSub, gd_t, emod_r, iz_0, Int.zero_add, Int.add_zero, wp_some, lz_add, lz_sub, lz_mul, lz_0, lz_1, lz_of, lz_nz, lz_i2l, lz_l2i, lz_rem, lz_div, is01_i, lcmp_lt, lcmp_eq, lcmp_gt, f1]
    rw [hh _ (by repeat (first | refine shp_I ?_ (by decide) | exact h)) (fun k => by simp (disch := decide) only [mZ_nc])]
    have ei : 271 + mZ M 481 270 = 0 + 271 + mZ M 481 270 := by omega
    generalize hf : mZ M 481 270 = t at *
    have nb := hl.1
    simp (disch := first | assumption | decide | omega) only [n_140_0, n_140_239, n_140_277, n_140_335, n_140_337, n_140_350, n_140_191, z_iconst, z_bipush, z_sipush, z_ldc, z_ldcs, z_ldcw, z_ldc2, z_lconst0, z_lconst1, z_null, z_getstatic, z_iload_0, z_iload_1, z_iload_2, z_iload_3, z_iload, z_istore_0, z_istore_1, z_istore_2, z_istore_3, z_istore, z_lload_0, z_lload_1, z_lload_2, z_lload_3, z_lload, z_lstore_0, z_lstore_1, z_lstore_2, z_lstore_3, z_lstore, z_aload_0, z_aload_1, z_aload_2, z_aload_3, z_aload, z_astore_0, z_astore_1, z_astore_2, z_astore_3, z_astore, ald_0, ald_s, z_iinc, qst1_1i, qst2_1i, qst1_1r, qst2_1r, qst1_1u, qst2_1u, qst1_1n, qst2_1n, qst1_1l, qst2_1l, qst1_0, qst2_0, qst1_s, qst2_s, z_iadd, z_isub, z_imul, z_iand, z_ior, z_ixor, z_ishl, z_ishr, z_idiv, z_irem, z_ladd, z_lsub, z_lmul, z_land, z_lor, z_ldiv, z_lrem, z_ineg, z_lshl, z_lshr, z_i2l, z_l2i, z_i2b, z_i2c, z_lcmp, z_dupi, z_dupr, z_popi, z_popr, z_dup2, z_goto, z_get0, z_get1, z_get2, z_get3, z_put0, z_put1, z_put2, z_put2n, z_put3, z_iaload, z_baload, z_laload, z_aaload, z_iastore, z_bastore, z_lastore, z_aastore, z_aastoren, z_arraylength, z_new, z_newarray, z_anewarray, z_multi, z_objinit, z_is0, z_iv0, z_ip0, z_is1, z_iv1, z_ip1, z_is2, z_iv2, z_ip2, z_is3, z_iv3, z_ip3, z_is4, z_iv4, z_ip4, z_is5, z_iv5, z_ip5, z_is6, z_iv6, z_ip6, z_is7, z_iv7, z_ip7, z_m991, z_m992, z_m993, z_m994, z_m995, z_m996, z_m998, acal_0, acal_1, acal_2, acal_3, acal_4, aK_v, aK_n, sF_c, sF_n, b_nr, b_nn, r_I, r_Z, r_L, r_A, r_V, sw_F, sw_n, gd_tt, is01_bzT, is01_0, is01_1, qrv_s, qrv_n, bi_eq_t, bi_eq_f, bi_ne_t, bi_ne_f, bi_lt_t, bi_lt_f, bi_ge_t, bi_ge_f, bi_gt_t, bi_gt_f, bi_le_t, bi_le_f, bc_eq_t, bc_eq_f, bc_ne_t, bc_ne_f, bc_lt_t, bc_lt_f, bc_ge_t, bc_ge_f, bc_gt_t, bc_gt_f, bc_le_t, bc_le_f, bb_eq_t, bb_eq_f, bb_ne_t, bb_ne_f, sc_t, sc_f, b_nr, b_nn, mI_J, mI_R, mJ_I, mJ_R, mR_I, mR_J, mK_I, mK_J, mK_R, mN_I, mN_J, mN_R, inM_I, inM_J, inM_R, mZ_nc, mZ_nk, mZ_sm, mZ_J, mZ_R, mJ_nc, mJ_ni, mJ_sm, mI_Z, iz_add, iz_sub, iz_mul, iz_neg, iz_lt, iz_le, iz_eq, iz_clamp, iz_inB, iz_div, iz_rem, shK h, shR h, inM_lit, and_self, true_and, and_true, true_or, or_true, not_true_eq_false, not_false_eq_true, Nat.reduceEqDiff, reduceCtorEq, Int.reduceNeg, Int.reduceSub, Int.reduceAdd, Int.reduceMul, Int.reduceToNat, Int.reduceEq, Int.neg_neg, Int.cast_ofNat_Int, Nat.reduceAdd, Nat.reduceMul, Nat.reduceSub, gd_t, emod_r, iz_0, Int.zero_add, Int.add_zero, wp_some, lz_add, lz_sub, lz_mul, lz_0, lz_1, lz_of, lz_nz, lz_i2l, lz_l2i, lz_rem, lz_div, is01_i, lcmp_lt, lcmp_eq, lcmp_gt, hf]
    have hk491 : ∀ k, mZ (qsI (qsI (qsI (qsI (qsI (qsI (qsI (qsI (qsI (qsI (qsI (qsI M 479 8 (iz 9)) 491 0 (iz (cell % 8))) 491 1 (iz (cell / 8))) 491 2 (iz (mZ M 481 cell.toNat))) 491 3 (iz (mZ M 481 (80 + cell).toNat))) 491 4 (iz sp)) 491 5 (iz (mZ M 481 (204 + 3 * w).toNat))) 491 6 (iz (mZ M 481 (204 + 3 * w + 1).toNat))) 491 7 (iz (hung M cell))) 491 8 (iz (mZ M 481 260))) 479 22 (iz (400 * t))) 479 23 (iz (400 * t + mZ M 481 (271 + t).toNat))) 481 k = mZ M 481 k := fun k => by simp (disch := decide) only [mZ_nc]
    have eb := envL_b hw c1 w1 s1
    rcases hx : pOf M 481 0 t with ⟨bb, p0, q0, cs0, is0⟩
    have hb : bb = true := by
      have := hl.2.2
      rw [hx] at this
      exact this
    subst hb
    have e0 : (0 : Int) + 271 + t = 271 + t := by omega
    have nO : (nOf M 481 0 t : Int) = mZ M 481 (271 + t).toNat := by
      unfold nOf
      rw [e0] at nb ⊢
      omega
    rw [e0] at nb
    refine m_told_lp (b := 400 * t) (N := nOf M 481 0 t) (c := cOf M 481 0 t) (v := vOf M 481 0 t) (e := envL M cell w sp) (kk := kk) ⟨?_, ⟨by omega, by omega, by omega⟩, ?_, ?_, fun p hp => ?_, fun p hp => ?_, hl.2.1, fun k hk => ?_⟩ ?_ hk hk3 h0 ⟨hwo.1, by omega⟩ hx rfl (fun M1 hD1 => hP _ _ ⟨?_, ?_⟩)
    · repeat (first | refine shp_I ?_ (by decide) | exact h)
    · rw [mZ_sm rfl (by omega) (by omega), nO]
    · simp (disch := first | decide | omega) only [mZ_nc, mZ_nk, mZ_sm]
    · rw [hk491, hk491]
      unfold cOf vOf
      rw [if_pos hp, if_pos hp]
      exact ⟨congrArg (fun k => mZ M 481 k) (congrArg Int.toNat (by omega)), congrArg (fun k => mZ M 481 k) (congrArg Int.toNat (by omega))⟩
    · unfold cOf
      rw [if_neg (by omega)]
    · have hb := eb k
      refine ⟨?_, by omega, by omega⟩
      have a5 := hs8
      rcases (show k = 0 ∨ k = 1 ∨ k = 2 ∨ k = 3 ∨ k = 4 ∨ k = 5 ∨ k = 6 ∨ k = 7 ∨ k = 8 by omega) with rfl | rfl | rfl | rfl | rfl | rfl | rfl | rfl | rfl
      all_goals (simp (disch := first | decide | omega) only [mZ_nc, mZ_nk, mZ_sm]; rfl)
    · simp (disch := first | decide | omega) only [mZ_nc, mZ_nk, mZ_sm]
    · unfold tau
      rw [hf, if_neg f1, hx]
    · refine Dif.tr ?_ (hD1.mono (fun i k q => by unfold DEv at q; unfold DTo; omega))
      repeat (first | refine Dif.I ?_ (by unfold DTo; omega) | exact Dif.rfl')

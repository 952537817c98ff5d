/-! more cells than before: what an earlier state's frame becomes -/
def Frg (M M1 : qMe) (D R : Nat → Nat → Prop) : Prop := mN M ≤ mN M1 ∧ (∀ i, i < mN M → mK M1 i = mK M i) ∧ (∀ i k, i < mN M → ¬ R i k → mR M1 i k = mR M i k) ∧ (∀ i k, i < mN M → ¬ D i k → mZ M1 i k = mZ M i k) ∧ ∀ i k, mN M1 ≤ i → mR M1 i k = mR M i k
def noR (_ _ : Nat) : Prop := False
theorem Frg.of {M M1 : qMe} {D R : Nat → Nat → Prop} (h : Dif M M1 D) : Frg M M1 D R := ⟨Nat.le_of_eq h.1.symm, fun i _ => h.2.1 i, fun i k _ _ => h.2.2.1 i k, fun i k _ q => h.z q, fun i k _ => h.2.2.1 i k⟩
theorem Frg.tr {M M1 M2 : qMe} {D R : Nat → Nat → Prop} (h : Frg M M1 D R) (g : Frg M1 M2 D R) : Frg M M2 D R :=
  ⟨Nat.le_trans h.1 g.1, fun i q => (g.2.1 i (Nat.lt_of_lt_of_le q h.1)).trans (h.2.1 i q), fun i k q r => (g.2.2.1 i k (Nat.lt_of_lt_of_le q h.1) r).trans (h.2.2.1 i k q r), fun i k q r => (g.2.2.2.1 i k (Nat.lt_of_lt_of_le q h.1) r).trans (h.2.2.2.1 i k q r), fun i k q => (g.2.2.2.2 i k q).trans (h.2.2.2.2 i k (Nat.le_trans g.1 q))⟩
theorem Frg.mono {M M1 : qMe} {D R D2 R2 : Nat → Nat → Prop} (h : Frg M M1 D R) (hD : ∀ i k, D i k → D2 i k) (hR : ∀ i k, R i k → R2 i k) : Frg M M1 D2 R2 := ⟨h.1, h.2.1, fun i k q r => h.2.2.1 i k q (fun z => r (hR i k z)), fun i k q r => h.2.2.2.1 i k q (fun z => r (hD i k z)), h.2.2.2.2⟩
theorem Frg.z {M M1 : qMe} {D R : Nat → Nat → Prop} (h : Frg M M1 D R) {i k : Nat} (hi : i < mN M) (hn : ¬ D i k) : mZ M1 i k = mZ M i k := h.2.2.2.1 i k hi hn
theorem Frg.shp {M M1 : qMe} {D R : Nat → Nat → Prop} (h : Frg M M1 D R) (hs : shp M) (hR : ∀ i k, R i k → isL i) (hD : ∀ i k, i < 8 → ¬ D i k) : shp M1 := by
  have hN := hs.1
  refine shp_of hs h.1 (fun i q => h.2.1 i (by omega)) (fun q hq => ?_) (fun i hi k => by rw [mI_Z, mI_Z, h.z (by omega) (hD i k hi)])
  have l := rxl_L q hq
  have b : q.1 < 513 := rxl_513 q hq
  exact h.2.2.1 _ _ (by omega) (fun z => l (by have := hR _ _ z; unfold isL at this; omega))
theorem nw_K {M : qMe} {kd n i : Nat} (h : i = mN M) : mK (qnew M kd n) i = (kd, n) := by rw [h]; exact nwK
theorem nw_Kn {M : qMe} {kd n i : Nat} (h : ¬ i = mN M) : mK (qnew M kd n) i = mK M i := by show (if i = mN M then _ else _) = _; exact if_neg h
theorem nw_Rn {M : qMe} {kd n i k : Nat} (h : ¬ i = mN M) : mR (qnew M kd n) i k = mR M i k := by show (if i = mN M then _ else _) = _; exact if_neg h
theorem nw_In {M : qMe} {kd n i k : Nat} (h : ¬ i = mN M) : mI (qnew M kd n) i k = mI M i k := by show (if i = mN M then _ else _) = _; exact if_neg h
theorem nw_Zn {M : qMe} {kd n i k : Nat} (h : ¬ i = mN M) : mZ (qnew M kd n) i k = mZ M i k := congrArg Int32.toInt (nw_In h)
theorem nw_N {M : qMe} {kd n : Nat} : mN (qnew M kd n) = mN M + 1 := nr rfl
theorem inM_b {M : qMe} {i : Nat} : inM M i = (8 ≤ i ∧ i < mN M) := nr rfl
/-- a new Text's arrays -/
def NewT (M M1 : qMe) (L a b : Nat) : Prop := mN M1 = mN M + 5 ∧ (∀ i, i < mN M → mK M1 i = mK M i) ∧ (∀ i k, i < mN M → ¬ i = L → mR M1 i k = mR M i k) ∧ (∀ i k, i < mN M → ¬ i = L → mZ M1 i k = mZ M i k) ∧ (∀ i k, mN M + 5 ≤ i → mR M1 i k = mR M i k) ∧ (mR M1 L 0 = some (mN M) ∧ mR M1 L 1 = some (mN M + 1) ∧ mR M1 L 2 = some (mN M + 2) ∧ mR M1 L 3 = some (mN M + 3) ∧ mR M1 L 4 = some (mN M + 4)) ∧ (mK M1 (mN M) = (100, a) ∧ mK M1 (mN M + 1) = (100, 4 * a) ∧ mK M1 (mN M + 2) = (100, a) ∧ mK M1 (mN M + 3) = (100, a) ∧ mK M1 (mN M + 4) = (100, b))
set_option maxHeartbeats 2000000 in
theorem x_textInit {d a b L : Nat} {M : qMe} (hN : 513 ≤ mN M) (hL : mK M L = (10, 7)) (h8 : 8 ≤ L) (hl : L < mN M) (ha : a ≤ 100) (hb : b ≤ 1000) : wV (cal (d + 1) 307 [.ref L, .int (iz (a : Int)), .int (iz (b : Int))] M) (fun M1 => NewT M M1 L a b) := by
  refine wV_q (fun P hP => ?_)
  have e4 : ((a : Int) * 4).toNat = 4 * a := by omega
  rw [cal_307, gd_t (Nat.le_of_ble_eq_true rfl)]
  change wp (n_307_0 (cal _) [some (.ref L), some (.int (iz (a : Int))), some (.int (iz (b : Int)))] [] _) _
  simp (disch := first | assumption | decide | omega | (simp only [mN_I, mN_J, mN_R, nw_N]; done) | (simp only [mN_I, mN_J, mN_R, nw_N]; omega)) only [n_307_0, z_iconst, z_bipush, z_sipush, z_ldc, z_ldcs, z_ldcw, z_ldc2, z_lconst0, z_lconst1, z_null, z_getstatic, z_iload_0, z_iload_1, z_iload_2, z_iload_3, z_iload, z_istore_0, z_istore_1, z_istore_2, z_istore_3, z_istore, z_lload_0, z_lload_1, z_lload_2, z_lload_3, z_lload, z_lstore_0, z_lstore_1, z_lstore_2, z_lstore_3, z_lstore, z_aload_0, z_aload_1, z_aload_2, z_aload_3, z_aload, z_astore_0, z_astore_1, z_astore_2, z_astore_3, z_astore, ald_0, ald_s, z_iinc, qst1_1i, qst2_1i, qst1_1r, qst2_1r, qst1_1u, qst2_1u, qst1_1n, qst2_1n, qst1_1l, qst2_1l, qst1_0, qst2_0, qst1_s, qst2_s, z_iadd, z_isub, z_imul, z_iand, z_ior, z_ixor, z_ishl, z_ishr, z_idiv, z_irem, z_ladd, z_lsub, z_lmul, z_land, z_lor, z_ldiv, z_lrem, z_ineg, z_lshl, z_lshr, z_i2l, z_l2i, z_i2b, z_i2c, z_lcmp, z_dupi, z_dupr, z_popi, z_popr, z_dup2, z_goto, z_get0, z_get1, z_get2, z_get3, z_put0, z_put1, z_put2, z_put2n, z_put3, z_iaload, z_baload, z_laload, z_aaload, z_iastore, z_bastore, z_lastore, z_aastore, z_aastoren, z_arraylength, z_new, z_newarray, z_anewarray, z_multi, z_objinit, z_is0, z_iv0, z_ip0, z_is1, z_iv1, z_ip1, z_is2, z_iv2, z_ip2, z_is3, z_iv3, z_ip3, z_is4, z_iv4, z_ip4, z_is5, z_iv5, z_ip5, z_is6, z_iv6, z_ip6, z_is7, z_iv7, z_ip7, z_m991, z_m992, z_m993, z_m994, z_m995, z_m996, z_m998, acal_0, acal_1, acal_2, acal_3, acal_4, aK_v, aK_n, sF_c, sF_n, b_nr, b_nn, r_I, r_Z, r_L, r_A, r_V, sw_F, sw_n, gd_tt, is01_bzT, is01_0, is01_1, qrv_s, qrv_n, bi_eq_t, bi_eq_f, bi_ne_t, bi_ne_f, bi_lt_t, bi_lt_f, bi_ge_t, bi_ge_f, bi_gt_t, bi_gt_f, bi_le_t, bi_le_f, bc_eq_t, bc_eq_f, bc_ne_t, bc_ne_f, bc_lt_t, bc_lt_f, bc_ge_t, bc_ge_f, bc_gt_t, bc_gt_f, bc_le_t, bc_le_f, bb_eq_t, bb_eq_f, bb_ne_t, bb_ne_f, sc_t, sc_f, b_nr, b_nn, mI_J, mI_R, mJ_I, mJ_R, mR_I, mR_J, mK_I, mK_J, mK_R, mN_I, mN_J, mN_R, inM_I, inM_J, inM_R, mZ_nc, mZ_nk, mZ_sm, mZ_J, mZ_R, mJ_nc, mJ_ni, mJ_sm, mI_Z, iz_add, iz_sub, iz_mul, iz_neg, iz_lt, iz_le, iz_eq, iz_clamp, iz_inB, iz_div, iz_rem, inM_lit, and_self, true_and, and_true, true_or, or_true, not_true_eq_false, not_false_eq_true, Nat.reduceEqDiff, reduceCtorEq, Int.reduceNeg, Int.reduceSub, Int.reduceAdd, Int.reduceMul, Int.reduceToNat, Int.reduceEq, Int.neg_neg, Int.cast_ofNat_Int, Nat.reduceAdd, Nat.reduceMul, Nat.reduceSub, gd_t, emod_r, iz_0, Int.zero_add, Int.add_zero, wp_some, nw_K, nw_Kn, nw_N, inM_b, hL, e4, Int.toNat_natCast]
  refine hP _ ?_
  unfold NewT
  have nl : ∀ j, ¬ L = mN M + j := fun j => by omega
  have nl0 : ¬ L = mN M := by omega
  refine ⟨by simp only [mN_I, mN_R, nw_N], fun i q => ?_, fun i k q r => ?_, fun i k q r => ?_, fun i k q => ?_, ⟨?_, ?_, ?_, ?_, ?_⟩, ⟨?_, ?_, ?_, ?_, ?_⟩⟩
  · simp (disch := first | (simp only [mN_I, mN_R, nw_N]; done) | (simp only [mN_I, mN_R, nw_N]; omega)) only [mK_I, mK_R, nw_Kn]
  · simp (disch := first | omega | (simp only [mN_I, mN_R, nw_N]; done) | (simp only [mN_I, mN_R, nw_N]; omega)) only [mR_I, mR_nc, nw_Rn]
  · simp (disch := first | omega | (simp only [mN_I, mN_R, nw_N]; done) | (simp only [mN_I, mN_R, nw_N]; omega)) only [mZ_R, mZ_nc, nw_Zn]
  · simp (disch := first | omega | (simp only [mN_I, mN_R, nw_N]; done) | (simp only [mN_I, mN_R, nw_N]; omega)) only [mR_I, mR_nc, nw_Rn]
  · simp (disch := first | decide | omega | (simp only [mN_I, mN_R, nw_N]; done) | (simp only [mN_I, mN_R, nw_N]; omega)) only [mR_I, mR_sm, mR_nk, nw_Rn, mN_I, mN_R, nw_N]
  · simp (disch := first | decide | omega | (simp only [mN_I, mN_R, nw_N]; done) | (simp only [mN_I, mN_R, nw_N]; omega)) only [mR_I, mR_sm, mR_nk, nw_Rn, mN_I, mN_R, nw_N]
  · simp (disch := first | decide | omega | (simp only [mN_I, mN_R, nw_N]; done) | (simp only [mN_I, mN_R, nw_N]; omega)) only [mR_I, mR_sm, mR_nk, nw_Rn, mN_I, mN_R, nw_N]
  · simp (disch := first | decide | omega | (simp only [mN_I, mN_R, nw_N]; done) | (simp only [mN_I, mN_R, nw_N]; omega)) only [mR_I, mR_sm, mR_nk, nw_Rn, mN_I, mN_R, nw_N]
  · simp (disch := first | decide | omega | (simp only [mN_I, mN_R, nw_N]; done) | (simp only [mN_I, mN_R, nw_N]; omega)) only [mR_I, mR_sm, mR_nk, nw_Rn, mN_I, mN_R, nw_N]
  · simp (disch := first | omega | (simp only [mN_I, mN_R, nw_N]; done) | (simp only [mN_I, mN_R, nw_N]; omega)) only [mK_I, mK_R, nw_Kn, nw_K]
  · simp (disch := first | omega | (simp only [mN_I, mN_R, nw_N]; done) | (simp only [mN_I, mN_R, nw_N]; omega)) only [mK_I, mK_R, nw_Kn, nw_K]
  · simp (disch := first | omega | (simp only [mN_I, mN_R, nw_N]; done) | (simp only [mN_I, mN_R, nw_N]; omega)) only [mK_I, mK_R, nw_Kn, nw_K]
  · simp (disch := first | omega | (simp only [mN_I, mN_R, nw_N]; done) | (simp only [mN_I, mN_R, nw_N]; omega)) only [mK_I, mK_R, nw_Kn, nw_K]
  · simp (disch := first | omega | (simp only [mN_I, mN_R, nw_N]; done) | (simp only [mN_I, mN_R, nw_N]; omega)) only [mK_I, mK_R, nw_Kn, nw_K]

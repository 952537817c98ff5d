/-! m's trips -/
theorem low_a : ∀ S : Nat, S < 256 → ∀ l : Nat, l < 8 → (andn S (S - 1) = 2 ^ l ∨ ¬ (S / 2 ^ l % 2 = 1 ∧ ∀ o : Nat, o < l → ¬ S / 2 ^ o % 2 = 1)) := by decide +kernel
theorem low_b : ∀ S : Nat, S < 256 → ∀ t : Nat, t < 256 → t &&& S = t → andn t (S - 1) = t &&& andn S (S - 1) := by decide +kernel
theorem low_c : ∀ t : Nat, t < 256 → ∀ l : Nat, l < 8 → (t / 2 ^ l % 2 = 1 ↔ ¬ t &&& 2 ^ l = 0) := by decide +kernel
theorem low_iff {S t l : Nat} (hS : S < 256) (ht : t < 256) (hs : t &&& S = t) (hl : l < 8) (hb : bt S l) (hn : ∀ o : Nat, o < l → ¬ bt S o) : bt t l ↔ ¬ andn t (S - 1) = 0 := by
  rcases low_a S hS l hl with q | q
  · rw [low_b S hS t ht hs, q]
    exact low_c t ht l hl
  · exact absurd ⟨hb, hn⟩ q
theorem m_lowest {d S : Nat} {M : qMe} (hS : S < 256) (h0 : ¬ S = 0) : wI (cal (d + 2) 199 [.int (iz (S : Int))] M) (fun z M1 => M1 = M ∧ ∃ l : Nat, z = l ∧ l < 8 ∧ bt S l ∧ ∀ o : Nat, o < l → ¬ bt S o) := by
  refine wI_q (fun P hP => ?_)
  rw [cal_199, gd_t (Nat.le_of_ble_eq_true rfl)]
  change wp (n_199_0 (cal _) [some (.int (iz (S : Int))), none] [] _) _
  simp (disch := first | assumption | decide | omega) only [n_199_0, n_199_16, n_199_2, z_iconst, z_bipush, z_sipush, z_ldc, z_ldcs, z_ldcw, z_ldc2, z_lconst0, z_lconst1, z_null, z_getstatic, z_iload_0, z_iload_1, z_iload_2, z_iload_3, z_iload, z_istore_0, z_istore_1, z_istore_2, z_istore_3, z_istore, z_lload_0, z_lload_1, z_lload_2, z_lload_3, z_lload, z_lstore_0, z_lstore_1, z_lstore_2, z_lstore_3, z_lstore, z_aload_0, z_aload_1, z_aload_2, z_aload_3, z_aload, z_astore_0, z_astore_1, z_astore_2, z_astore_3, z_astore, ald_0, ald_s, z_iinc, qst1_1i, qst2_1i, qst1_1r, qst2_1r, qst1_1u, qst2_1u, qst1_1n, qst2_1n, qst1_1l, qst2_1l, qst1_0, qst2_0, qst1_s, qst2_s, z_iadd, z_isub, z_imul, z_iand, z_ior, z_ixor, z_ishl, z_ishr, z_idiv, z_irem, z_ladd, z_lsub, z_lmul, z_land, z_lor, z_ldiv, z_lrem, z_ineg, z_lshl, z_lshr, z_i2l, z_l2i, z_i2b, z_i2c, z_lcmp, z_dupi, z_dupr, z_popi, z_popr, z_dup2, z_goto, z_get0, z_get1, z_get2, z_get3, z_put0, z_put1, z_put2, z_put2n, z_put3, z_iaload, z_baload, z_laload, z_aaload, z_iastore, z_bastore, z_lastore, z_aastore, z_aastoren, z_arraylength, z_new, z_newarray, z_anewarray, z_multi, z_objinit, z_is0, z_iv0, z_ip0, z_is1, z_iv1, z_ip1, z_is2, z_iv2, z_ip2, z_is3, z_iv3, z_ip3, z_is4, z_iv4, z_ip4, z_is5, z_iv5, z_ip5, z_is6, z_iv6, z_ip6, z_is7, z_iv7, z_ip7, z_m991, z_m992, z_m993, z_m994, z_m995, z_m996, z_m998, acal_0, acal_1, acal_2, acal_3, acal_4, aK_v, aK_n, sF_c, sF_n, b_nr, b_nn, r_I, r_Z, r_L, r_A, r_V, sw_F, sw_n, gd_tt, is01_bzT, is01_0, is01_1, qrv_s, qrv_n, bi_eq_t, bi_eq_f, bi_ne_t, bi_ne_f, bi_lt_t, bi_lt_f, bi_ge_t, bi_ge_f, bi_gt_t, bi_gt_f, bi_le_t, bi_le_f, bc_eq_t, bc_eq_f, bc_ne_t, bc_ne_f, bc_lt_t, bc_lt_f, bc_ge_t, bc_ge_f, bc_gt_t, bc_gt_f, bc_le_t, bc_le_f, bb_eq_t, bb_eq_f, bb_ne_t, bb_ne_f, sc_t, sc_f, b_nr, b_nn, mI_J, mI_R, mJ_I, mJ_R, mR_I, mR_J, mK_I, mK_J, mK_R, mN_I, mN_J, mN_R, inM_I, inM_J, inM_R, mZ_nc, mZ_nk, mZ_sm, mZ_J, mZ_R, mJ_nc, mJ_ni, mJ_sm, mI_Z, iz_add, iz_sub, iz_mul, iz_neg, iz_lt, iz_le, iz_eq, iz_clamp, iz_inB, iz_div, iz_rem, inM_lit, and_self, true_and, and_true, true_or, or_true, not_true_eq_false, not_false_eq_true, Nat.reduceEqDiff, reduceCtorEq, Int.reduceNeg, Int.reduceSub, Int.reduceAdd, Int.reduceMul, Int.reduceToNat, Int.reduceEq, Int.neg_neg, Int.cast_ofNat_Int, Nat.reduceAdd, Nat.reduceMul, Nat.reduceSub, gd_t, emod_r, iz_0, Int.zero_add, Int.add_zero, wp_some]
  obtain ⟨x, x8, xb⟩ := ex_bt S hS h0
  refine wp_lpq (fun k L M' => ∃ l : Nat, L = [some (.int (iz (S : Int))), some (.int (iz (l : Int)))] ∧ l + k = 8 ∧ M' = M ∧ ∀ o : Nat, o < l → ¬ bt S o) (k := 8) ⟨0, rfl, rfl, rfl, fun o q => by omega⟩ (by decide) ?_
  rintro k L M' g ⟨l, rfl, hlk, rfl, hno⟩ hg2
  have l8 : l < 8 := by
    rcases Nat.lt_or_ge l 8 with q | q
    · exact q
    · exact absurd xb (hno x (by omega))
  have is1 := m_isIn (d := d) (M := M') (s := S) (h := l) hS (by omega)
  by_cases b : bt S l
  · have fin := hP (l : Int) M' ⟨rfl, l, rfl, l8, b, hno⟩
    simp (disch := first | assumption | decide | omega) only [n_199_0, n_199_16, f_199_2, z_iconst, z_bipush, z_sipush, z_ldc, z_ldcs, z_ldcw, z_ldc2, z_lconst0, z_lconst1, z_null, z_getstatic, z_iload_0, z_iload_1, z_iload_2, z_iload_3, z_iload, z_istore_0, z_istore_1, z_istore_2, z_istore_3, z_istore, z_lload_0, z_lload_1, z_lload_2, z_lload_3, z_lload, z_lstore_0, z_lstore_1, z_lstore_2, z_lstore_3, z_lstore, z_aload_0, z_aload_1, z_aload_2, z_aload_3, z_aload, z_astore_0, z_astore_1, z_astore_2, z_astore_3, z_astore, ald_0, ald_s, z_iinc, qst1_1i, qst2_1i, qst1_1r, qst2_1r, qst1_1u, qst2_1u, qst1_1n, qst2_1n, qst1_1l, qst2_1l, qst1_0, qst2_0, qst1_s, qst2_s, z_iadd, z_isub, z_imul, z_iand, z_ior, z_ixor, z_ishl, z_ishr, z_idiv, z_irem, z_ladd, z_lsub, z_lmul, z_land, z_lor, z_ldiv, z_lrem, z_ineg, z_lshl, z_lshr, z_i2l, z_l2i, z_i2b, z_i2c, z_lcmp, z_dupi, z_dupr, z_popi, z_popr, z_dup2, z_goto, z_get0, z_get1, z_get2, z_get3, z_put0, z_put1, z_put2, z_put2n, z_put3, z_iaload, z_baload, z_laload, z_aaload, z_iastore, z_bastore, z_lastore, z_aastore, z_aastoren, z_arraylength, z_new, z_newarray, z_anewarray, z_multi, z_objinit, z_is0, z_iv0, z_ip0, z_is1, z_iv1, z_ip1, z_is2, z_iv2, z_ip2, z_is3, z_iv3, z_ip3, z_is4, z_iv4, z_ip4, z_is5, z_iv5, z_ip5, z_is6, z_iv6, z_ip6, z_is7, z_iv7, z_ip7, z_m991, z_m992, z_m993, z_m994, z_m995, z_m996, z_m998, acal_0, acal_1, acal_2, acal_3, acal_4, aK_v, aK_n, sF_c, sF_n, b_nr, b_nn, r_I, r_Z, r_L, r_A, r_V, sw_F, sw_n, gd_tt, is01_bzT, is01_0, is01_1, qrv_s, qrv_n, bi_eq_t, bi_eq_f, bi_ne_t, bi_ne_f, bi_lt_t, bi_lt_f, bi_ge_t, bi_ge_f, bi_gt_t, bi_gt_f, bi_le_t, bi_le_f, bc_eq_t, bc_eq_f, bc_ne_t, bc_ne_f, bc_lt_t, bc_lt_f, bc_ge_t, bc_ge_f, bc_gt_t, bc_gt_f, bc_le_t, bc_le_f, bb_eq_t, bb_eq_f, bb_ne_t, bb_ne_f, sc_t, sc_f, b_nr, b_nn, mI_J, mI_R, mJ_I, mJ_R, mR_I, mR_J, mK_I, mK_J, mK_R, mN_I, mN_J, mN_R, inM_I, inM_J, inM_R, mZ_nc, mZ_nk, mZ_sm, mZ_J, mZ_R, mJ_nc, mJ_ni, mJ_sm, mI_Z, iz_add, iz_sub, iz_mul, iz_neg, iz_lt, iz_le, iz_eq, iz_clamp, iz_inB, iz_div, iz_rem, inM_lit, and_self, true_and, and_true, true_or, or_true, not_true_eq_false, not_false_eq_true, Nat.reduceEqDiff, reduceCtorEq, Int.reduceNeg, Int.reduceSub, Int.reduceAdd, Int.reduceMul, Int.reduceToNat, Int.reduceEq, Int.neg_neg, Int.cast_ofNat_Int, Nat.reduceAdd, Nat.reduceMul, Nat.reduceSub, gd_t, emod_r, iz_0, Int.zero_add, Int.add_zero, wp_some, is1]
    exact fin
  · have fin : wp (g [some (.int (iz (S : Int))), some (.int (iz ((l : Int) + 1)))] [] M') P := hg2 (k - 1) _ M' (by omega) ⟨l + 1, rfl, by omega, rfl, fun o q => by
      by_cases e : o = l
      · rw [e]; exact b
      · exact hno o (by omega)⟩
    simp (disch := first | assumption | decide | omega) only [n_199_0, n_199_16, f_199_2, z_iconst, z_bipush, z_sipush, z_ldc, z_ldcs, z_ldcw, z_ldc2, z_lconst0, z_lconst1, z_null, z_getstatic, z_iload_0, z_iload_1, z_iload_2, z_iload_3, z_iload, z_istore_0, z_istore_1, z_istore_2, z_istore_3, z_istore, z_lload_0, z_lload_1, z_lload_2, z_lload_3, z_lload, z_lstore_0, z_lstore_1, z_lstore_2, z_lstore_3, z_lstore, z_aload_0, z_aload_1, z_aload_2, z_aload_3, z_aload, z_astore_0, z_astore_1, z_astore_2, z_astore_3, z_astore, ald_0, ald_s, z_iinc, qst1_1i, qst2_1i, qst1_1r, qst2_1r, qst1_1u, qst2_1u, qst1_1n, qst2_1n, qst1_1l, qst2_1l, qst1_0, qst2_0, qst1_s, qst2_s, z_iadd, z_isub, z_imul, z_iand, z_ior, z_ixor, z_ishl, z_ishr, z_idiv, z_irem, z_ladd, z_lsub, z_lmul, z_land, z_lor, z_ldiv, z_lrem, z_ineg, z_lshl, z_lshr, z_i2l, z_l2i, z_i2b, z_i2c, z_lcmp, z_dupi, z_dupr, z_popi, z_popr, z_dup2, z_goto, z_get0, z_get1, z_get2, z_get3, z_put0, z_put1, z_put2, z_put2n, z_put3, z_iaload, z_baload, z_laload, z_aaload, z_iastore, z_bastore, z_lastore, z_aastore, z_aastoren, z_arraylength, z_new, z_newarray, z_anewarray, z_multi, z_objinit, z_is0, z_iv0, z_ip0, z_is1, z_iv1, z_ip1, z_is2, z_iv2, z_ip2, z_is3, z_iv3, z_ip3, z_is4, z_iv4, z_ip4, z_is5, z_iv5, z_ip5, z_is6, z_iv6, z_ip6, z_is7, z_iv7, z_ip7, z_m991, z_m992, z_m993, z_m994, z_m995, z_m996, z_m998, acal_0, acal_1, acal_2, acal_3, acal_4, aK_v, aK_n, sF_c, sF_n, b_nr, b_nn, r_I, r_Z, r_L, r_A, r_V, sw_F, sw_n, gd_tt, is01_bzT, is01_0, is01_1, qrv_s, qrv_n, bi_eq_t, bi_eq_f, bi_ne_t, bi_ne_f, bi_lt_t, bi_lt_f, bi_ge_t, bi_ge_f, bi_gt_t, bi_gt_f, bi_le_t, bi_le_f, bc_eq_t, bc_eq_f, bc_ne_t, bc_ne_f, bc_lt_t, bc_lt_f, bc_ge_t, bc_ge_f, bc_gt_t, bc_gt_f, bc_le_t, bc_le_f, bb_eq_t, bb_eq_f, bb_ne_t, bb_ne_f, sc_t, sc_f, b_nr, b_nn, mI_J, mI_R, mJ_I, mJ_R, mR_I, mR_J, mK_I, mK_J, mK_R, mN_I, mN_J, mN_R, inM_I, inM_J, inM_R, mZ_nc, mZ_nk, mZ_sm, mZ_J, mZ_R, mJ_nc, mJ_ni, mJ_sm, mI_Z, iz_add, iz_sub, iz_mul, iz_neg, iz_lt, iz_le, iz_eq, iz_clamp, iz_inB, iz_div, iz_rem, inM_lit, and_self, true_and, and_true, true_or, or_true, not_true_eq_false, not_false_eq_true, Nat.reduceEqDiff, reduceCtorEq, Int.reduceNeg, Int.reduceSub, Int.reduceAdd, Int.reduceMul, Int.reduceToNat, Int.reduceEq, Int.neg_neg, Int.cast_ofNat_Int, Nat.reduceAdd, Nat.reduceMul, Nat.reduceSub, gd_t, emod_r, iz_0, Int.zero_add, Int.add_zero, wp_some, is1]
    exact fin
/-- how many TRIPS and which WAY make v -/
def pv (v fw tg : Int) : Prop := (v = 1000000 ∧ fw = 1000000 ∧ tg = 1000000) ∨ (v = 10000 * fw + tg ∧ 0 ≤ fw ∧ fw ≤ 8 ∧ 0 ≤ tg ∧ tg ≤ 1152)
theorem pv_b {v fw tg : Int} (h : pv v fw tg) : (0 ≤ fw ∧ fw ≤ 1000000) ∧ (0 ≤ tg ∧ tg ≤ 1000000) ∧ (fw = 1000000 ↔ v = 1000000) ∧ v ≤ 1000000 := by unfold pv at h; omega
def DTq (i _k : Nat) : Prop := i = 509 ∨ i = 510
def MpK (M M1 : qMe) (f : Int) (n : Nat) : Prop := ∀ t : Nat, t < n → pv (planP M f t) (mZ M1 509 t) (mZ M1 510 t)
theorem tourW_b {M : qMe} {f : Int} {S : Nat} (hw : WFk M 481 0) (hf : 0 ≤ f ∧ f < 80) (hS : S < 256) (h0 : ¬ S = 0) (hi : inH M S) : (loadN M S 8 ≤ mZ M 481 262 → tourW M f S = wayS M f S ∧ 0 ≤ tourW M f S ∧ tourW M f S ≤ 144) ∧ (¬ loadN M S 8 ≤ mZ M 481 262 → tourW M f S = 1000000) := by
  have := wayS_b hw hf hS h0 hi
  unfold tourW
  refine ⟨fun q => ?_, fun q => if_neg q⟩
  rw [if_pos q]
  exact ⟨rfl, this⟩
/-- the least so far keeps being made of TRIPS and WAY -/
theorem pv_min {M : qMe} {f : Int} {S : Nat} (hw : WFk M 481 0) (hf : 0 ≤ f ∧ f < 80) (hS : S < 256) (hi : inH M S) : ∀ t : Nat, t ≤ S + 1 → fmin (okT M S) (gT M f S) 1000000 t = 1000000 ∨ ∃ k w : Int, fmin (okT M S) (gT M f S) 1000000 t = 10000 * k + w ∧ 0 ≤ k ∧ k ≤ 8 ∧ 0 ≤ w ∧ w ≤ 1152 := fun t ht => by
  obtain ⟨m1, m2, m3⟩ := fmin_is (p := okT M S) (f := gT M f S) (i := 1000000) t
  rcases m3 with m3 | ⟨u, u1, u2, u3⟩
  · exact Or.inl m3
  · have p := sub_pc S hS u (by omega) u2.1 (okT_0 u2)
    have gb := gT_b hw hf hS hi (show u < 256 by omega) u2
    have pS := pc_le (s := S)
    rcases planP_ok hw hf 8 (andn S u) pc_le (by omega) (inH_t hS (by omega) (andn_sub S hS u (by omega)) hi) with q | ⟨k, w, q1, q2, q3, q4, q5⟩
    · rw [u3] at m1
      unfold gT at m1
      omega
    · refine Or.inr ⟨k + 1, wayS M f u + w, ?_, by omega, by omega, by omega, by omega⟩
      rw [u3]
      unfold gT
      omega

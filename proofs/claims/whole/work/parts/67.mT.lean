theorem opC_c {c : Int} (h : ¬ opC c = 0) : (opC c = 11 ∧ c = 160) ∨ (opC c = 12 ∧ c = 162) ∨ (opC c = 13 ∧ c = 161) := by
  unfold opC at *
  by_cases h1 : c = 160
  · rw [if_pos h1]; exact Or.inl ⟨rfl, h1⟩
  · by_cases h2 : c = 162
    · rw [if_neg h1, if_pos h2]; exact Or.inr (Or.inl ⟨rfl, h2⟩)
    · by_cases h3 : c = 161
      · rw [if_neg h1, if_neg h2, if_pos h3]; exact Or.inr (Or.inr ⟨rfl, h3⟩)
      · rw [if_neg h1, if_neg h2, if_neg h3] at h; exact absurd rfl h
def cmpZ (op : Nat) (x y : Int) : Prop := (op = 11 ∧ x < y) ∨ (op = 12 ∧ y < x) ∨ (op = 13 ∧ x = y)
theorem ev_cmp {op : Nat} {D D2 : Den} {e : Nat → Int} {l bk x y b1 b2 z : Int} (ho : op = 11 ∨ op = 12 ∨ op = 13) (r1 : EvZ b1 D e l bk x) (r2 : EvZ b2 D2 e l b1 y) (hz : z = 0 ∨ z = 1) (h : l = 1 → b2 = 0 → (z = 1 ↔ cmpZ op x y)) : EvY b2 (dcmp op D D2) e l bk z := by
  obtain ⟨a1, a2, a3, a4, a5⟩ := r1
  obtain ⟨d1, d2, d3, d4, d5⟩ := r2
  refine ⟨hz, d2, fun q => ?_, fun q q2 => d4 q (a4 q q2), fun q q2 => ?_⟩
  · rw [(d3 q).2, (a3 q).2]
  · rcases a5 q q2 with ⟨k1, k2⟩ | ⟨k1, k2⟩
    · rcases d5 q k2 with ⟨k3, k4⟩ | ⟨k3, k4⟩
      · left
        refine ⟨?_, k4⟩
        have hh := h q k4
        unfold dcmp
        rw [k1]
        simp only
        rw [k3]
        simp only
        congr 1
        unfold cmpZ at hh
        rcases ho with rfl | rfl | rfl
        · rw [if_pos rfl]; exact decide_eq_decide.mpr (by omega)
        · rw [if_neg (by decide), if_pos rfl]; exact decide_eq_decide.mpr (by omega)
        · rw [if_neg (by decide), if_neg (by decide)]; exact decide_eq_decide.mpr (by omega)
      · right
        refine ⟨?_, k4⟩
        unfold dcmp
        rw [k1]
        simp only
        rw [k3]
    · right
      refine ⟨?_, d4 q k2⟩
      unfold dcmp
      rw [k1]
section
variable {M : qMe} {b fw : Int} {N : Nat} {c v e : Nat → Int}
theorem m_pos_br {d : Nat} {p p1 : Nat} {D : DenB} {r : pR DenB} {l bk : Int} (hE : Ev M b N fw c v e) (hg : mZ M 479 22 = b + p) (hb : mZ M 479 24 = bk) (k0 : bk = 0 ∨ bk = 1) (hl : l = 0 ∨ l = 1) (hp : p < N) (c1 : c p = 140) (hr : r.2.1 = p1) (hp1 : p1 < N) (hD : r.2.2.2.2 = D) (hs : EvB (d + 3) 136 b N fw c v e (p + 1) r) : wI (cal (d + 4) 139 [.ref 479, .int (iz l)] M) (fun z M1 => Dif M M1 DEv ∧ mZ M1 479 22 = b + (p1 + 1 : Nat) ∧ EvY (mZ M1 479 24) D e l bk z) := by
  have h := hE.1
  have hN := h.1
  have hbb := hE.2.1
  have qp := m_passes (d := d + 1) (x := 140) hE hg (by omega) (by decide) (by decide)
  rw [if_pos c1] at qp
  refine wI_q (fun P hP => ?_)
  rw [cal_139, gd_t (Nat.le_of_ble_eq_true rfl)]
  change wp (n_139_0 (cal _) [some (.ref 479), some (.int (iz l)), none, none, none, none, none] [] _) _
  have s0 := hs (qsI M 479 22 (iz (b + p + 1))) l bk (Ev_I hE (Or.inl rfl)) (by rw [mZ_sm rfl (by omega) (by omega)]; omega) (by rw [mZ_nk (by decide)]; exact hb) k0 hl
  simp (disch := first | assumption | decide | omega) only [n_139_0, n_139_121, n_139_125, n_139_126, z_iconst, z_bipush, z_sipush, z_ldc, z_ldcs, z_ldcw, z_ldc2, z_lconst0, z_lconst1, z_null, z_getstatic, z_iload_0, z_iload_1, z_iload_2, z_iload_3, z_iload, z_istore_0, z_istore_1, z_istore_2, z_istore_3, z_istore, z_lload_0, z_lload_1, z_lload_2, z_lload_3, z_lload, z_lstore_0, z_lstore_1, z_lstore_2, z_lstore_3, z_lstore, z_aload_0, z_aload_1, z_aload_2, z_aload_3, z_aload, z_astore_0, z_astore_1, z_astore_2, z_astore_3, z_astore, ald_0, ald_s, z_iinc, qst1_1i, qst2_1i, qst1_1r, qst2_1r, qst1_1u, qst2_1u, qst1_1n, qst2_1n, qst1_1l, qst2_1l, qst1_0, qst2_0, qst1_s, qst2_s, z_iadd, z_isub, z_imul, z_iand, z_ior, z_ixor, z_ishl, z_ishr, z_idiv, z_irem, z_ladd, z_lsub, z_lmul, z_land, z_lor, z_ldiv, z_lrem, z_ineg, z_lshl, z_lshr, z_i2l, z_l2i, z_i2b, z_i2c, z_lcmp, z_dupi, z_dupr, z_popi, z_popr, z_dup2, z_goto, z_get0, z_get1, z_get2, z_get3, z_put0, z_put1, z_put2, z_put2n, z_put3, z_iaload, z_baload, z_laload, z_aaload, z_iastore, z_bastore, z_lastore, z_aastore, z_aastoren, z_arraylength, z_new, z_newarray, z_anewarray, z_multi, z_objinit, z_is0, z_iv0, z_ip0, z_is1, z_iv1, z_ip1, z_is2, z_iv2, z_ip2, z_is3, z_iv3, z_ip3, z_is4, z_iv4, z_ip4, z_is5, z_iv5, z_ip5, z_is6, z_iv6, z_ip6, z_is7, z_iv7, z_ip7, z_m991, z_m992, z_m993, z_m994, z_m995, z_m996, z_m998, acal_0, acal_1, acal_2, acal_3, acal_4, aK_v, aK_n, sF_c, sF_n, b_nr, b_nn, r_I, r_Z, r_L, r_A, r_V, sw_F, sw_n, gd_tt, is01_bzT, is01_0, is01_1, qrv_s, qrv_n, bi_eq_t, bi_eq_f, bi_ne_t, bi_ne_f, bi_lt_t, bi_lt_f, bi_ge_t, bi_ge_f, bi_gt_t, bi_gt_f, bi_le_t, bi_le_f, bc_eq_t, bc_eq_f, bc_ne_t, bc_ne_f, bc_lt_t, bc_lt_f, bc_ge_t, bc_ge_f, bc_gt_t, bc_gt_f, bc_le_t, bc_le_f, bb_eq_t, bb_eq_f, bb_ne_t, bb_ne_f, sc_t, sc_f, b_nr, b_nn, mI_J, mI_R, mJ_I, mJ_R, mR_I, mR_J, mK_I, mK_J, mK_R, mN_I, mN_J, mN_R, inM_I, inM_J, inM_R, mZ_nc, mZ_nk, mZ_sm, mZ_J, mZ_R, mJ_nc, mJ_ni, mJ_sm, mI_Z, iz_add, iz_sub, iz_mul, iz_neg, iz_lt, iz_le, iz_eq, iz_clamp, iz_inB, iz_div, iz_rem, shK h, shR h, inM_lit, and_self, true_and, and_true, true_or, or_true, not_true_eq_false, not_false_eq_true, Nat.reduceEqDiff, reduceCtorEq, Int.reduceNeg, Int.reduceSub, Int.reduceAdd, Int.reduceMul, Int.reduceToNat, Int.reduceEq, Int.neg_neg, Int.cast_ofNat_Int, Nat.reduceAdd, Nat.reduceMul, Nat.reduceSub, gd_t, emod_r, iz_0, Int.zero_add, Int.add_zero, wp_some, lz_add, lz_sub, lz_mul, lz_0, lz_1, lz_of, lz_nz, lz_i2l, lz_l2i, lz_rem, lz_div, is01_i, lcmp_lt, lcmp_eq, lcmp_gt, m_sign, qp]
  refine wp_cI s0 (fun z M1 q1 => ?_)
  obtain ⟨hD1, hg1, hr1⟩ := q1
  have hE1 := Ev_k (Ev_I (x := iz (b + p + 1)) hE (Or.inl rfl)) hD1
  have h1 := hE1.1
  have hN1 := h1.1
  have hz := hr1.1
  rw [hr] at hg1
  simp (disch := first | assumption | decide | omega) only [n_139_0, n_139_121, n_139_125, n_139_126, z_iconst, z_bipush, z_sipush, z_ldc, z_ldcs, z_ldcw, z_ldc2, z_lconst0, z_lconst1, z_null, z_getstatic, z_iload_0, z_iload_1, z_iload_2, z_iload_3, z_iload, z_istore_0, z_istore_1, z_istore_2, z_istore_3, z_istore, z_lload_0, z_lload_1, z_lload_2, z_lload_3, z_lload, z_lstore_0, z_lstore_1, z_lstore_2, z_lstore_3, z_lstore, z_aload_0, z_aload_1, z_aload_2, z_aload_3, z_aload, z_astore_0, z_astore_1, z_astore_2, z_astore_3, z_astore, ald_0, ald_s, z_iinc, qst1_1i, qst2_1i, qst1_1r, qst2_1r, qst1_1u, qst2_1u, qst1_1n, qst2_1n, qst1_1l, qst2_1l, qst1_0, qst2_0, qst1_s, qst2_s, z_iadd, z_isub, z_imul, z_iand, z_ior, z_ixor, z_ishl, z_ishr, z_idiv, z_irem, z_ladd, z_lsub, z_lmul, z_land, z_lor, z_ldiv, z_lrem, z_ineg, z_lshl, z_lshr, z_i2l, z_l2i, z_i2b, z_i2c, z_lcmp, z_dupi, z_dupr, z_popi, z_popr, z_dup2, z_goto, z_get0, z_get1, z_get2, z_get3, z_put0, z_put1, z_put2, z_put2n, z_put3, z_iaload, z_baload, z_laload, z_aaload, z_iastore, z_bastore, z_lastore, z_aastore, z_aastoren, z_arraylength, z_new, z_newarray, z_anewarray, z_multi, z_objinit, z_is0, z_iv0, z_ip0, z_is1, z_iv1, z_ip1, z_is2, z_iv2, z_ip2, z_is3, z_iv3, z_ip3, z_is4, z_iv4, z_ip4, z_is5, z_iv5, z_ip5, z_is6, z_iv6, z_ip6, z_is7, z_iv7, z_ip7, z_m991, z_m992, z_m993, z_m994, z_m995, z_m996, z_m998, acal_0, acal_1, acal_2, acal_3, acal_4, aK_v, aK_n, sF_c, sF_n, b_nr, b_nn, r_I, r_Z, r_L, r_A, r_V, sw_F, sw_n, gd_tt, is01_bzT, is01_0, is01_1, qrv_s, qrv_n, bi_eq_t, bi_eq_f, bi_ne_t, bi_ne_f, bi_lt_t, bi_lt_f, bi_ge_t, bi_ge_f, bi_gt_t, bi_gt_f, bi_le_t, bi_le_f, bc_eq_t, bc_eq_f, bc_ne_t, bc_ne_f, bc_lt_t, bc_lt_f, bc_ge_t, bc_ge_f, bc_gt_t, bc_gt_f, bc_le_t, bc_le_f, bb_eq_t, bb_eq_f, bb_ne_t, bb_ne_f, sc_t, sc_f, b_nr, b_nn, mI_J, mI_R, mJ_I, mJ_R, mR_I, mR_J, mK_I, mK_J, mK_R, mN_I, mN_J, mN_R, inM_I, inM_J, inM_R, mZ_nc, mZ_nk, mZ_sm, mZ_J, mZ_R, mJ_nc, mJ_ni, mJ_sm, mI_Z, iz_add, iz_sub, iz_mul, iz_neg, iz_lt, iz_le, iz_eq, iz_clamp, iz_inB, iz_div, iz_rem, shK h, shR h, inM_lit, and_self, true_and, and_true, true_or, or_true, not_true_eq_false, not_false_eq_true, Nat.reduceEqDiff, reduceCtorEq, Int.reduceNeg, Int.reduceSub, Int.reduceAdd, Int.reduceMul, Int.reduceToNat, Int.reduceEq, Int.neg_neg, Int.cast_ofNat_Int, Nat.reduceAdd, Nat.reduceMul, Nat.reduceSub, gd_t, emod_r, iz_0, Int.zero_add, Int.add_zero, wp_some, lz_add, lz_sub, lz_mul, lz_0, lz_1, lz_of, lz_nz, lz_i2l, lz_l2i, lz_rem, lz_div, is01_i, lcmp_lt, lcmp_eq, lcmp_gt, shK h1, hg1]
  refine hP _ _ ⟨((Dif.rfl'.I (by unfold DEv; omega)).tr hD1).I (by unfold DEv; omega), ?_, ?_⟩
  · rw [mZ_sm rfl (by omega) (by omega)]
    omega
  · rw [mZ_nk (by decide), ← hD]; exact hr1
end

def TxR (M : qMe) (a : Nat) : Prop := ∀ t : Nat, t < 6 → mR M (a + 17) t = none ∨ ∃ L, mR M (a + 17) t = some L ∧ inM M L ∧ 513 ≤ L ∧ (mK M L).1 = 10
theorem mR_Rn {M : qMe} {i1 k1 i2 k2 : Nat} {x : Option Nat} (h : ¬ (i2 = i1 ∧ k2 = k1)) : mR (qsR M i1 k1 x) i2 k2 = mR M i2 k2 := by
  rw [mR_R]
  by_cases e : i2 = i1
  · rw [if_pos e, if_neg (fun q => h ⟨e, q⟩)]
  · rw [if_neg e]
theorem mR_Rs {M : qMe} {i k : Nat} {x : Option Nat} : mR (qsR M i k x) i k = x := by rw [mR_R, if_pos rfl, if_pos rfl]
theorem AS_k {M M1 : qMe} {a : Nat} (h : AS M a) (hN : mN M1 = mN M) (hK : ∀ i, mK M1 i = mK M i) (hR : ∀ i k, a ≤ i → i ≤ a + 1 → mR M1 i k = mR M i k) : AS M1 a := by
  have hi : ∀ i, inM M1 i = inM M i := fun i => by unfold inM; rw [hN]
  unfold AS at *
  simp (disch := omega) only [hK, hi, hR]
  exact h
theorem x_become {d a b : Nat} {M : qMe} (h : shp M) (ha : isAlps a) (hb : isAlps b) (ne : ¬ a = b) (hT : TxR M b) : wV (cal (d + 2) 216 [.ref a, .ref b] M) (fun M1 => FrA M M1 a ∧ Cp M M1 b a) := by
  refine wV_q (fun P hP => ?_)
  have hN := h.1
  have ab : a + 20 ≤ b ∨ b + 20 ≤ a := by unfold isAlps at ha hb; omega
  have ne2 : ¬ b = a := fun q => ne q.symm
  have A := alpsS h ha
  have B := alpsS h hb
  obtain ⟨⟨a0, a0i⟩, ⟨a1, a1i⟩, af0, -⟩ := id A
  obtain ⟨⟨b0, b0i⟩, ⟨b1, b1i⟩, bf0, -⟩ := id B
  rw [cal_216, gd_t (Nat.le_of_ble_eq_true rfl)]
  change wp (n_216_0 (cal _) [some (.ref a), some (.ref b), none] [] _) _
  simp (disch := first | assumption | decide | omega) only [n_216_0, n_216_160, z_iconst, z_bipush, z_sipush, z_ldc, z_ldcs, z_ldcw, z_ldc2, z_lconst0, z_lconst1, z_null, z_getstatic, z_iload_0, z_iload_1, z_iload_2, z_iload_3, z_iload, z_istore_0, z_istore_1, z_istore_2, z_istore_3, z_istore, z_lload_0, z_lload_1, z_lload_2, z_lload_3, z_lload, z_lstore_0, z_lstore_1, z_lstore_2, z_lstore_3, z_lstore, z_aload_0, z_aload_1, z_aload_2, z_aload_3, z_aload, z_astore_0, z_astore_1, z_astore_2, z_astore_3, z_astore, ald_0, ald_s, z_iinc, qst1_1i, qst2_1i, qst1_1r, qst2_1r, qst1_1u, qst2_1u, qst1_1n, qst2_1n, qst1_1l, qst2_1l, qst1_0, qst2_0, qst1_s, qst2_s, z_iadd, z_isub, z_imul, z_iand, z_ior, z_ixor, z_ishl, z_ishr, z_idiv, z_irem, z_ladd, z_lsub, z_lmul, z_land, z_lor, z_ldiv, z_lrem, z_ineg, z_lshl, z_lshr, z_i2l, z_l2i, z_i2b, z_i2c, z_lcmp, z_dupi, z_dupr, z_popi, z_popr, z_dup2, z_goto, z_get0, z_get1, z_get2, z_get3, z_put0, z_put1, z_put2, z_put2n, z_put3, z_iaload, z_baload, z_laload, z_aaload, z_iastore, z_bastore, z_lastore, z_aastore, z_aastoren, z_arraylength, z_new, z_newarray, z_anewarray, z_multi, z_objinit, z_is0, z_iv0, z_ip0, z_is1, z_iv1, z_ip1, z_is2, z_iv2, z_ip2, z_is3, z_iv3, z_ip3, z_is4, z_iv4, z_ip4, z_is5, z_iv5, z_ip5, z_is6, z_iv6, z_ip6, z_is7, z_iv7, z_ip7, z_m991, z_m992, z_m993, z_m994, z_m995, z_m996, z_m998, acal_0, acal_1, acal_2, acal_3, acal_4, aK_v, aK_n, sF_c, sF_n, b_nr, b_nn, r_I, r_Z, r_L, r_A, r_V, sw_F, sw_n, gd_tt, is01_bzT, is01_0, is01_1, qrv_s, qrv_n, bi_eq_t, bi_eq_f, bi_ne_t, bi_ne_f, bi_lt_t, bi_lt_f, bi_ge_t, bi_ge_f, bi_gt_t, bi_gt_f, bi_le_t, bi_le_f, bc_eq_t, bc_eq_f, bc_ne_t, bc_ne_f, bc_lt_t, bc_lt_f, bc_ge_t, bc_ge_f, bc_gt_t, bc_gt_f, bc_le_t, bc_le_f, bb_eq_t, bb_eq_f, bb_ne_t, bb_ne_f, sc_t, sc_f, b_nr, b_nn, mI_J, mI_R, mJ_I, mJ_R, mR_I, mR_J, mK_I, mK_J, mK_R, mN_I, mN_J, mN_R, inM_I, inM_J, inM_R, mZ_nc, mZ_nk, mZ_sm, mZ_J, mZ_R, mJ_nc, mJ_ni, mJ_sm, mI_Z, iz_add, iz_sub, iz_mul, iz_neg, iz_lt, iz_le, iz_eq, iz_clamp, iz_inB, iz_div, iz_rem, inM_lit, and_self, true_and, and_true, true_or, or_true, not_true_eq_false, not_false_eq_true, Nat.reduceEqDiff, reduceCtorEq, Int.reduceNeg, Int.reduceSub, Int.reduceAdd, Int.reduceMul, Int.reduceToNat, Int.reduceEq, Int.neg_neg, Int.cast_ofNat_Int, Nat.reduceAdd, Nat.reduceMul, Nat.reduceSub, gd_t, emod_r, iz_0, Int.zero_add, Int.add_zero, wp_some, a0, a0i, a1, a1i, af0, b0, b0i, b1, b1i, bf0]
  refine wp_cV (x_mbecome (d := d) h ha hb ne) (fun M1 q1 => ?_)
  obtain ⟨n1, k1, r1, j1, z1, c2, c3, c4, c5, c6, c7, c8, c9, c10, s9, s10⟩ := q1
  have A1 := AS_k A n1 k1 (fun i k _ _ => r1 i k)
  have B1 := AS_k B n1 k1 (fun i k _ _ => r1 i k)
  clear A B a0 a0i a1 a1i af0 b0 b0i b1 b1i bf0
  have A1' := A1
  have B1' := B1
  obtain ⟨⟨a0, a0i⟩, ⟨a1, a1i⟩, af0, af1, af2, af3, af4, af5, af6, af7, af8, af9, ⟨am0, ak2, ai2⟩, ⟨am1, ak3, ai3⟩, ⟨am2, ak4, ai4⟩, ⟨am3, ak5, ai5⟩, ⟨am4, ak6, ai6⟩, ⟨am5, ak7, ai7⟩, ⟨am6, ak8, ai8⟩, ⟨am7, ak9, ai9⟩, ⟨am8, ak10, ai10⟩, ⟨ak11, ai11⟩, ⟨ak12, ai12⟩, ⟨ak13, ai13⟩, ⟨ak14, ai14⟩, ⟨ak15, ai15⟩, ⟨ak16, ai16⟩, ⟨ak18, ai18⟩, ⟨ak19, ai19⟩, ak17, ai17⟩ := A1
  obtain ⟨⟨b0, b0i⟩, ⟨b1, b1i⟩, bf0, bf1, bf2, bf3, bf4, bf5, bf6, bf7, bf8, bf9, ⟨bm0, bk2, bi2⟩, ⟨bm1, bk3, bi3⟩, ⟨bm2, bk4, bi4⟩, ⟨bm3, bk5, bi5⟩, ⟨bm4, bk6, bi6⟩, ⟨bm5, bk7, bi7⟩, ⟨bm6, bk8, bi8⟩, ⟨bm7, bk9, bi9⟩, ⟨bm8, bk10, bi10⟩, ⟨bk11, bi11⟩, ⟨bk12, bi12⟩, ⟨bk13, bi13⟩, ⟨bk14, bi14⟩, ⟨bk15, bi15⟩, ⟨bk16, bi16⟩, ⟨bk18, bi18⟩, ⟨bk19, bi19⟩, bk17, bi17⟩ := B1
  simp (disch := first | assumption | decide | omega) only [n_216_0, n_216_160, n_216_136, z_iconst, z_bipush, z_sipush, z_ldc, z_ldcs, z_ldcw, z_ldc2, z_lconst0, z_lconst1, z_null, z_getstatic, z_iload_0, z_iload_1, z_iload_2, z_iload_3, z_iload, z_istore_0, z_istore_1, z_istore_2, z_istore_3, z_istore, z_lload_0, z_lload_1, z_lload_2, z_lload_3, z_lload, z_lstore_0, z_lstore_1, z_lstore_2, z_lstore_3, z_lstore, z_aload_0, z_aload_1, z_aload_2, z_aload_3, z_aload, z_astore_0, z_astore_1, z_astore_2, z_astore_3, z_astore, ald_0, ald_s, z_iinc, qst1_1i, qst2_1i, qst1_1r, qst2_1r, qst1_1u, qst2_1u, qst1_1n, qst2_1n, qst1_1l, qst2_1l, qst1_0, qst2_0, qst1_s, qst2_s, z_iadd, z_isub, z_imul, z_iand, z_ior, z_ixor, z_ishl, z_ishr, z_idiv, z_irem, z_ladd, z_lsub, z_lmul, z_land, z_lor, z_ldiv, z_lrem, z_ineg, z_lshl, z_lshr, z_i2l, z_l2i, z_i2b, z_i2c, z_lcmp, z_dupi, z_dupr, z_popi, z_popr, z_dup2, z_goto, z_get0, z_get1, z_get2, z_get3, z_put0, z_put1, z_put2, z_put2n, z_put3, z_iaload, z_baload, z_laload, z_aaload, z_iastore, z_bastore, z_lastore, z_aastore, z_aastoren, z_arraylength, z_new, z_newarray, z_anewarray, z_multi, z_objinit, z_is0, z_iv0, z_ip0, z_is1, z_iv1, z_ip1, z_is2, z_iv2, z_ip2, z_is3, z_iv3, z_ip3, z_is4, z_iv4, z_ip4, z_is5, z_iv5, z_ip5, z_is6, z_iv6, z_ip6, z_is7, z_iv7, z_ip7, z_m991, z_m992, z_m993, z_m994, z_m995, z_m996, z_m998, acal_0, acal_1, acal_2, acal_3, acal_4, aK_v, aK_n, sF_c, sF_n, b_nr, b_nn, r_I, r_Z, r_L, r_A, r_V, sw_F, sw_n, gd_tt, is01_bzT, is01_0, is01_1, qrv_s, qrv_n, bi_eq_t, bi_eq_f, bi_ne_t, bi_ne_f, bi_lt_t, bi_lt_f, bi_ge_t, bi_ge_f, bi_gt_t, bi_gt_f, bi_le_t, bi_le_f, bc_eq_t, bc_eq_f, bc_ne_t, bc_ne_f, bc_lt_t, bc_lt_f, bc_ge_t, bc_ge_f, bc_gt_t, bc_gt_f, bc_le_t, bc_le_f, bb_eq_t, bb_eq_f, bb_ne_t, bb_ne_f, sc_t, sc_f, b_nr, b_nn, mI_J, mI_R, mJ_I, mJ_R, mR_I, mR_J, mK_I, mK_J, mK_R, mN_I, mN_J, mN_R, inM_I, inM_J, inM_R, mZ_nc, mZ_nk, mZ_sm, mZ_J, mZ_R, mJ_nc, mJ_ni, mJ_sm, mI_Z, iz_add, iz_sub, iz_mul, iz_neg, iz_lt, iz_le, iz_eq, iz_clamp, iz_inB, iz_div, iz_rem, inM_lit, and_self, true_and, and_true, true_or, or_true, not_true_eq_false, not_false_eq_true, Nat.reduceEqDiff, reduceCtorEq, Int.reduceNeg, Int.reduceSub, Int.reduceAdd, Int.reduceMul, Int.reduceToNat, Int.reduceEq, Int.neg_neg, Int.cast_ofNat_Int, Nat.reduceAdd, Nat.reduceMul, Nat.reduceSub, gd_t, emod_r, iz_0, Int.zero_add, Int.add_zero, wp_some, mK_cp, mR_cp, inM_cp, mI_cpZ, mZ_cpn, Int.reduceLE, List.length_nil, Nat.zero_le, Nat.le_refl, ne2, Int.toNat_natCast, a0, a0i, a1, a1i, af0, af1, af2, af3, af4, af5, af6, af7, af8, af9, am0, ak2, ai2, am1, ak3, ai3, am2, ak4, ai4, am3, ak5, ai5, am4, ak6, ai6, am5, ak7, ai7, am6, ak8, ai8, am7, ak9, ai9, am8, ak10, ai10, ak11, ai11, ak12, ai12, ak13, ai13, ak14, ai14, ak15, ai15, ak16, ai16, ak18, ai18, ak19, ai19, ak17, ai17, b0, b0i, b1, b1i, bf0, bf1, bf2, bf3, bf4, bf5, bf6, bf7, bf8, bf9, bm0, bk2, bi2, bm1, bk3, bi3, bm2, bk4, bi4, bm3, bk5, bi5, bm4, bk6, bi6, bm5, bk7, bi7, bm6, bk8, bi8, bm7, bk9, bi9, bm8, bk10, bi10, bk11, bi11, bk12, bi12, bk13, bi13, bk14, bi14, bk15, bi15, bk16, bi16, bk18, bi18, bk19, bi19, bk17, bi17]
  clear a0 a0i a1 a1i af0 af1 af2 af3 af4 af5 af6 af7 af8 af9 am0 ak2 ai2 am1 ak3 ai3 am2 ak4 ai4 am3 ak5 ai5 am4 ak6 ai6 am5 ak7 ai7 am6 ak8 ai8 am7 ak9 ai9 am8 ak10 ai10 ak11 ai11 ak12 ai12 ak13 ai13 ak14 ai14 ak15 ai15 ak16 ai16 ak18 ai18 ak19 ai19 ak17 ai17 b0 b0i b1 b1i bf0 bf1 bf2 bf3 bf4 bf5 bf6 bf7 bf8 bf9 bm0 bk2 bi2 bm1 bk3 bi3 bm2 bk4 bi4 bm3 bk5 bi5 bm4 bk6 bi6 bm5 bk7 bi7 bm6 bk8 bi8 bm7 bk9 bi9 bm8 bk10 bi10 bk11 bi11 bk12 bi12 bk13 bi13 bk14 bi14 bk15 bi15 bk16 bi16 bk18 bi18 bk19 bi19 bk17 bi17
  have n2 : mN (qcpI (qcpI (qcpI (qcpI (qcpI (qcpI (qcpI (qcpI M1 (b + 11) 0 (a + 11) 0 8) (b + 12) 0 (a + 12) 0 8) (b + 13) 0 (a + 13) 0 8) (b + 14) 0 (a + 14) 0 8) (b + 15) 0 (a + 15) 0 8) (b + 16) 0 (a + 16) 0 4) (b + 18) 0 (a + 18) 0 8) (b + 19) 0 (a + 19) 0 8) = mN M := by simp only [mN_cp]; exact n1
  have k2 : ∀ i, mK (qcpI (qcpI (qcpI (qcpI (qcpI (qcpI (qcpI (qcpI M1 (b + 11) 0 (a + 11) 0 8) (b + 12) 0 (a + 12) 0 8) (b + 13) 0 (a + 13) 0 8) (b + 14) 0 (a + 14) 0 8) (b + 15) 0 (a + 15) 0 8) (b + 16) 0 (a + 16) 0 4) (b + 18) 0 (a + 18) 0 8) (b + 19) 0 (a + 19) 0 8) i = mK M i := fun i => by simp only [mK_cp]; exact k1 i
  have r2 : ∀ i k, mR (qcpI (qcpI (qcpI (qcpI (qcpI (qcpI (qcpI (qcpI M1 (b + 11) 0 (a + 11) 0 8) (b + 12) 0 (a + 12) 0 8) (b + 13) 0 (a + 13) 0 8) (b + 14) 0 (a + 14) 0 8) (b + 15) 0 (a + 15) 0 8) (b + 16) 0 (a + 16) 0 4) (b + 18) 0 (a + 18) 0 8) (b + 19) 0 (a + 19) 0 8) i k = mR M i k := fun i k => by simp only [mR_cp]; exact r1 i k
  have j2 : ∀ i k, mJ (qcpI (qcpI (qcpI (qcpI (qcpI (qcpI (qcpI (qcpI M1 (b + 11) 0 (a + 11) 0 8) (b + 12) 0 (a + 12) 0 8) (b + 13) 0 (a + 13) 0 8) (b + 14) 0 (a + 14) 0 8) (b + 15) 0 (a + 15) 0 8) (b + 16) 0 (a + 16) 0 4) (b + 18) 0 (a + 18) 0 8) (b + 19) 0 (a + 19) 0 8) i k = mJ M i k := fun i k => by simp only [mJ_cp]; exact j1 i k
  have z2 : ∀ i k, ¬ (a + 1 ≤ i ∧ i ≤ a + 19) → mZ (qcpI (qcpI (qcpI (qcpI (qcpI (qcpI (qcpI (qcpI M1 (b + 11) 0 (a + 11) 0 8) (b + 12) 0 (a + 12) 0 8) (b + 13) 0 (a + 13) 0 8) (b + 14) 0 (a + 14) 0 8) (b + 15) 0 (a + 15) 0 8) (b + 16) 0 (a + 16) 0 4) (b + 18) 0 (a + 18) 0 8) (b + 19) 0 (a + 19) 0 8) i k = mZ M i k := fun i k q => by
    simp (disch := omega) only [mZ_cpn]
    exact z1 i k (by omega)
  have y2 : ∀ i k, a + 1 ≤ i → i ≤ a + 10 → mZ (qcpI (qcpI (qcpI (qcpI (qcpI (qcpI (qcpI (qcpI M1 (b + 11) 0 (a + 11) 0 8) (b + 12) 0 (a + 12) 0 8) (b + 13) 0 (a + 13) 0 8) (b + 14) 0 (a + 14) 0 8) (b + 15) 0 (a + 15) 0 8) (b + 16) 0 (a + 16) 0 4) (b + 18) 0 (a + 18) 0 8) (b + 19) 0 (a + 19) 0 8) i k = mZ M1 i k := fun i k q1 q2 => by
    simp (disch := omega) only [mZ_cpn]
  have e11 : ∀ k : Nat, k < 8 → mZ (qcpI (qcpI (qcpI (qcpI (qcpI (qcpI (qcpI (qcpI M1 (b + 11) 0 (a + 11) 0 8) (b + 12) 0 (a + 12) 0 8) (b + 13) 0 (a + 13) 0 8) (b + 14) 0 (a + 14) 0 8) (b + 15) 0 (a + 15) 0 8) (b + 16) 0 (a + 16) 0 4) (b + 18) 0 (a + 18) 0 8) (b + 19) 0 (a + 19) 0 8) (a + 11) k = mZ M (b + 11) k := fun k q => by
    simp (disch := omega) only [mZ_cpn, mZ_cps]
    exact z1 _ k (by omega)
  have e12 : ∀ k : Nat, k < 8 → mZ (qcpI (qcpI (qcpI (qcpI (qcpI (qcpI (qcpI (qcpI M1 (b + 11) 0 (a + 11) 0 8) (b + 12) 0 (a + 12) 0 8) (b + 13) 0 (a + 13) 0 8) (b + 14) 0 (a + 14) 0 8) (b + 15) 0 (a + 15) 0 8) (b + 16) 0 (a + 16) 0 4) (b + 18) 0 (a + 18) 0 8) (b + 19) 0 (a + 19) 0 8) (a + 12) k = mZ M (b + 12) k := fun k q => by
    simp (disch := omega) only [mZ_cpn, mZ_cps]
    exact z1 _ k (by omega)
  have e13 : ∀ k : Nat, k < 8 → mZ (qcpI (qcpI (qcpI (qcpI (qcpI (qcpI (qcpI (qcpI M1 (b + 11) 0 (a + 11) 0 8) (b + 12) 0 (a + 12) 0 8) (b + 13) 0 (a + 13) 0 8) (b + 14) 0 (a + 14) 0 8) (b + 15) 0 (a + 15) 0 8) (b + 16) 0 (a + 16) 0 4) (b + 18) 0 (a + 18) 0 8) (b + 19) 0 (a + 19) 0 8) (a + 13) k = mZ M (b + 13) k := fun k q => by
    simp (disch := omega) only [mZ_cpn, mZ_cps]
    exact z1 _ k (by omega)
  have e14 : ∀ k : Nat, k < 8 → mZ (qcpI (qcpI (qcpI (qcpI (qcpI (qcpI (qcpI (qcpI M1 (b + 11) 0 (a + 11) 0 8) (b + 12) 0 (a + 12) 0 8) (b + 13) 0 (a + 13) 0 8) (b + 14) 0 (a + 14) 0 8) (b + 15) 0 (a + 15) 0 8) (b + 16) 0 (a + 16) 0 4) (b + 18) 0 (a + 18) 0 8) (b + 19) 0 (a + 19) 0 8) (a + 14) k = mZ M (b + 14) k := fun k q => by
    simp (disch := omega) only [mZ_cpn, mZ_cps]
    exact z1 _ k (by omega)
  have e15 : ∀ k : Nat, k < 8 → mZ (qcpI (qcpI (qcpI (qcpI (qcpI (qcpI (qcpI (qcpI M1 (b + 11) 0 (a + 11) 0 8) (b + 12) 0 (a + 12) 0 8) (b + 13) 0 (a + 13) 0 8) (b + 14) 0 (a + 14) 0 8) (b + 15) 0 (a + 15) 0 8) (b + 16) 0 (a + 16) 0 4) (b + 18) 0 (a + 18) 0 8) (b + 19) 0 (a + 19) 0 8) (a + 15) k = mZ M (b + 15) k := fun k q => by
    simp (disch := omega) only [mZ_cpn, mZ_cps]
    exact z1 _ k (by omega)
  have e16 : ∀ k : Nat, k < 4 → mZ (qcpI (qcpI (qcpI (qcpI (qcpI (qcpI (qcpI (qcpI M1 (b + 11) 0 (a + 11) 0 8) (b + 12) 0 (a + 12) 0 8) (b + 13) 0 (a + 13) 0 8) (b + 14) 0 (a + 14) 0 8) (b + 15) 0 (a + 15) 0 8) (b + 16) 0 (a + 16) 0 4) (b + 18) 0 (a + 18) 0 8) (b + 19) 0 (a + 19) 0 8) (a + 16) k = mZ M (b + 16) k := fun k q => by
    simp (disch := omega) only [mZ_cpn, mZ_cps]
    exact z1 _ k (by omega)
  have e18 : ∀ k : Nat, k < 8 → mZ (qcpI (qcpI (qcpI (qcpI (qcpI (qcpI (qcpI (qcpI M1 (b + 11) 0 (a + 11) 0 8) (b + 12) 0 (a + 12) 0 8) (b + 13) 0 (a + 13) 0 8) (b + 14) 0 (a + 14) 0 8) (b + 15) 0 (a + 15) 0 8) (b + 16) 0 (a + 16) 0 4) (b + 18) 0 (a + 18) 0 8) (b + 19) 0 (a + 19) 0 8) (a + 18) k = mZ M (b + 18) k := fun k q => by
    simp (disch := omega) only [mZ_cpn, mZ_cps]
    exact z1 _ k (by omega)
  have e19 : ∀ k : Nat, k < 8 → mZ (qcpI (qcpI (qcpI (qcpI (qcpI (qcpI (qcpI (qcpI M1 (b + 11) 0 (a + 11) 0 8) (b + 12) 0 (a + 12) 0 8) (b + 13) 0 (a + 13) 0 8) (b + 14) 0 (a + 14) 0 8) (b + 15) 0 (a + 15) 0 8) (b + 16) 0 (a + 16) 0 4) (b + 18) 0 (a + 18) 0 8) (b + 19) 0 (a + 19) 0 8) (a + 19) k = mZ M (b + 19) k := fun k q => by
    simp (disch := omega) only [mZ_cpn, mZ_cps]
    exact z1 _ k (by omega)
  generalize (qcpI (qcpI (qcpI (qcpI (qcpI (qcpI (qcpI (qcpI M1 (b + 11) 0 (a + 11) 0 8) (b + 12) 0 (a + 12) 0 8) (b + 13) 0 (a + 13) 0 8) (b + 14) 0 (a + 14) 0 8) (b + 15) 0 (a + 15) 0 8) (b + 16) 0 (a + 16) 0 4) (b + 18) 0 (a + 18) 0 8) (b + 19) 0 (a + 19) 0 8) = M2 at *
  have hR5 := fun t (q : t < 6) => hT t q
  refine wp_lpq (fun kk L M' => ∃ i : Nat, L = [some (.ref a), some (.ref b), some (.int (iz (i : Int)))] ∧ i + kk = 6 ∧ mN M' = mN M ∧ (∀ i, mK M' i = mK M i) ∧ (∀ i k, ¬ i = a + 17 → mR M' i k = mR M i k) ∧ (∀ i k, mJ M' i k = mJ M i k) ∧ (∀ i k, mZ M' i k = mZ M2 i k) ∧ ∀ t : Nat, t < i → mR M' (a + 17) t = mR M (b + 17) t) (k := 6) ⟨0, rfl, rfl, n2, k2, fun i k _ => r2 i k, j2, fun i k => rfl, fun t q => by omega⟩ (by decide) ?_
  rintro kk L M' g ⟨i, rfl, hik, n3, k3, r3, j3, z3, l3⟩ hg2
  have A3 := AS_k (alpsS h ha) n3 k3 (fun i k q q2 => r3 i k (by omega))
  have B3 := AS_k (alpsS h hb) n3 k3 (fun i k q q2 => r3 i k (by omega))
  by_cases i6 : i = 6
  · subst i6
    obtain ⟨⟨a0, a0i⟩, -⟩ := id A3
    obtain ⟨⟨b0, b0i⟩, -⟩ := id B3
    have vb : ∀ k, -2147483648 ≤ mZ M' b k ∧ mZ M' b k < 2147483648 := fun k => ⟨mZ_ge M' b k, mZ_lt M' b k⟩
    have v0 := vb 10
    have v1 := vb 11
    have v2 := vb 12
    have v3 := vb 13
    have v4 := vb 14
    simp (disch := first | assumption | decide | omega) only [n_216_0, n_216_160, f_216_136, z_iconst, z_bipush, z_sipush, z_ldc, z_ldcs, z_ldcw, z_ldc2, z_lconst0, z_lconst1, z_null, z_getstatic, z_iload_0, z_iload_1, z_iload_2, z_iload_3, z_iload, z_istore_0, z_istore_1, z_istore_2, z_istore_3, z_istore, z_lload_0, z_lload_1, z_lload_2, z_lload_3, z_lload, z_lstore_0, z_lstore_1, z_lstore_2, z_lstore_3, z_lstore, z_aload_0, z_aload_1, z_aload_2, z_aload_3, z_aload, z_astore_0, z_astore_1, z_astore_2, z_astore_3, z_astore, ald_0, ald_s, z_iinc, qst1_1i, qst2_1i, qst1_1r, qst2_1r, qst1_1u, qst2_1u, qst1_1n, qst2_1n, qst1_1l, qst2_1l, qst1_0, qst2_0, qst1_s, qst2_s, z_iadd, z_isub, z_imul, z_iand, z_ior, z_ixor, z_ishl, z_ishr, z_idiv, z_irem, z_ladd, z_lsub, z_lmul, z_land, z_lor, z_ldiv, z_lrem, z_ineg, z_lshl, z_lshr, z_i2l, z_l2i, z_i2b, z_i2c, z_lcmp, z_dupi, z_dupr, z_popi, z_popr, z_dup2, z_goto, z_get0, z_get1, z_get2, z_get3, z_put0, z_put1, z_put2, z_put2n, z_put3, z_iaload, z_baload, z_laload, z_aaload, z_iastore, z_bastore, z_lastore, z_aastore, z_aastoren, z_arraylength, z_new, z_newarray, z_anewarray, z_multi, z_objinit, z_is0, z_iv0, z_ip0, z_is1, z_iv1, z_ip1, z_is2, z_iv2, z_ip2, z_is3, z_iv3, z_ip3, z_is4, z_iv4, z_ip4, z_is5, z_iv5, z_ip5, z_is6, z_iv6, z_ip6, z_is7, z_iv7, z_ip7, z_m991, z_m992, z_m993, z_m994, z_m995, z_m996, z_m998, acal_0, acal_1, acal_2, acal_3, acal_4, aK_v, aK_n, sF_c, sF_n, b_nr, b_nn, r_I, r_Z, r_L, r_A, r_V, sw_F, sw_n, gd_tt, is01_bzT, is01_0, is01_1, qrv_s, qrv_n, bi_eq_t, bi_eq_f, bi_ne_t, bi_ne_f, bi_lt_t, bi_lt_f, bi_ge_t, bi_ge_f, bi_gt_t, bi_gt_f, bi_le_t, bi_le_f, bc_eq_t, bc_eq_f, bc_ne_t, bc_ne_f, bc_lt_t, bc_lt_f, bc_ge_t, bc_ge_f, bc_gt_t, bc_gt_f, bc_le_t, bc_le_f, bb_eq_t, bb_eq_f, bb_ne_t, bb_ne_f, sc_t, sc_f, b_nr, b_nn, mI_J, mI_R, mJ_I, mJ_R, mR_I, mR_J, mK_I, mK_J, mK_R, mN_I, mN_J, mN_R, inM_I, inM_J, inM_R, mZ_nc, mZ_nk, mZ_sm, mZ_J, mZ_R, mJ_nc, mJ_ni, mJ_sm, mI_Z, iz_add, iz_sub, iz_mul, iz_neg, iz_lt, iz_le, iz_eq, iz_clamp, iz_inB, iz_div, iz_rem, inM_lit, and_self, true_and, and_true, true_or, or_true, not_true_eq_false, not_false_eq_true, Nat.reduceEqDiff, reduceCtorEq, Int.reduceNeg, Int.reduceSub, Int.reduceAdd, Int.reduceMul, Int.reduceToNat, Int.reduceEq, Int.neg_neg, Int.cast_ofNat_Int, Nat.reduceAdd, Nat.reduceMul, Nat.reduceSub, gd_t, emod_r, iz_0, Int.zero_add, Int.add_zero, wp_some, a0, a0i, b0, b0i, ne2]
    have zb : ∀ k, mZ M' b k = mZ M b k := fun k => by rw [z3]; exact z2 b k (by omega)
    have zo : ∀ i k, ¬ i = a → mZ (qsI (qsI (qsI (qsI (qsI M' a 10 (iz (mZ M' b 10))) a 11 (iz (mZ M' b 11))) a 12 (iz (mZ M' b 12))) a 13 (iz (mZ M' b 13))) a 14 (iz (mZ M' b 14))) i k = mZ M2 i k := fun i k q => by
      simp (disch := omega) only [mZ_nc]
      exact z3 i k
    refine hP _ ⟨⟨?_, fun i => ?_, fun i k q => ?_, fun i k => ?_, fun i k q => ?_⟩, fun k q => ?_, fun k q => ?_, fun k q => ?_, fun k q => ?_, fun k q => ?_, fun k q => ?_, fun k q => ?_, fun k q => ?_, fun k q => ?_, fun k q => ?_, fun k q => ?_, fun k q => ?_, fun k q => ?_, fun k q => ?_, fun k q => ?_, fun k q => ?_, fun k q => ?_, ⟨?_, ?_, ?_, ?_, ?_, ?_, ?_⟩, fun k q => ?_⟩
    · simp only [mN_I]; exact n3
    · simp only [mK_I]; exact k3 i
    · simp only [mR_I]; exact r3 i k q
    · simp only [mJ_I]; exact j3 i k
    · rw [zo i k (by omega)]; exact z2 i k (by omega)
    · rw [zo _ _ (by omega), y2 _ _ (by omega) (by omega)]; exact c2 k q
    · rw [zo _ _ (by omega), y2 _ _ (by omega) (by omega)]; exact c3 k q
    · rw [zo _ _ (by omega), y2 _ _ (by omega) (by omega)]; exact c4 k q
    · rw [zo _ _ (by omega), y2 _ _ (by omega) (by omega)]; exact c5 k q
    · rw [zo _ _ (by omega), y2 _ _ (by omega) (by omega)]; exact c6 k q
    · rw [zo _ _ (by omega), y2 _ _ (by omega) (by omega)]; exact c7 k q
    · rw [zo _ _ (by omega), y2 _ _ (by omega) (by omega)]; exact c8 k q
    · rw [zo _ _ (by omega), y2 _ _ (by omega) (by omega)]; exact c9 k q
    · rw [zo _ _ (by omega), y2 _ _ (by omega) (by omega)]; exact c10 k q
    · rw [zo _ _ (by omega)]; exact e11 k q
    · rw [zo _ _ (by omega)]; exact e12 k q
    · rw [zo _ _ (by omega)]; exact e13 k q
    · rw [zo _ _ (by omega)]; exact e14 k q
    · rw [zo _ _ (by omega)]; exact e15 k q
    · rw [zo _ _ (by omega)]; exact e16 k q
    · rw [zo _ _ (by omega)]; exact e18 k q
    · rw [zo _ _ (by omega)]; exact e19 k q
    · rw [zo _ _ (by omega), y2 _ _ (by omega) (by omega)]; exact s9
    · rw [zo _ _ (by omega), y2 _ _ (by omega) (by omega)]; exact s10
    · rw [mZ_nk (by decide), mZ_nk (by decide), mZ_nk (by decide), mZ_nk (by decide), mZ_sm rfl v0.1 v0.2]; exact zb _
    · rw [mZ_nk (by decide), mZ_nk (by decide), mZ_nk (by decide), mZ_sm rfl v1.1 v1.2]; exact zb _
    · rw [mZ_nk (by decide), mZ_nk (by decide), mZ_sm rfl v2.1 v2.2]; exact zb _
    · rw [mZ_nk (by decide), mZ_sm rfl v3.1 v3.2]; exact zb _
    · rw [mZ_sm rfl v4.1 v4.2]; exact zb _
    · simp only [mR_I]; exact l3 k q
  · have rb : mR M' (b + 17) i = mR M (b + 17) i := r3 _ _ (by omega)
    have z : ∀ x : Option Nat, x = mR M (b + 17) i → wp (g [some (.ref a), some (.ref b), some (.int (iz ((i : Int) + 1)))] [] (qsR M' (a + 17) i x)) P := fun x hx => hg2 (kk - 1) [some (.ref a), some (.ref b), some (.int (iz ((i + 1 : Nat) : Int)))] (qsR M' (a + 17) i x) (by omega) ⟨i + 1, rfl, by omega, by rw [mN_R]; exact n3, fun i => by rw [mK_R]; exact k3 i, fun i k q => by rw [mR_Rn (by omega)]; exact r3 i k q, fun i k => by rw [mJ_R]; exact j3 i k, fun i k => by rw [mZ_R]; exact z3 i k, fun t q => by
      by_cases e : t = i
      · rw [e, mR_Rs]; exact hx
      · rw [mR_Rn (by omega)]; exact l3 t (by omega)⟩
    obtain ⟨⟨a0, a0i⟩, ⟨a1, a1i⟩, af0, af1, af2, af3, af4, af5, af6, af7, af8, af9, ⟨am0, ak2, ai2⟩, ⟨am1, ak3, ai3⟩, ⟨am2, ak4, ai4⟩, ⟨am3, ak5, ai5⟩, ⟨am4, ak6, ai6⟩, ⟨am5, ak7, ai7⟩, ⟨am6, ak8, ai8⟩, ⟨am7, ak9, ai9⟩, ⟨am8, ak10, ai10⟩, ⟨ak11, ai11⟩, ⟨ak12, ai12⟩, ⟨ak13, ai13⟩, ⟨ak14, ai14⟩, ⟨ak15, ai15⟩, ⟨ak16, ai16⟩, ⟨ak18, ai18⟩, ⟨ak19, ai19⟩, ak17, ai17⟩ := A3
    obtain ⟨⟨b0, b0i⟩, ⟨b1, b1i⟩, bf0, bf1, bf2, bf3, bf4, bf5, bf6, bf7, bf8, bf9, ⟨bm0, bk2, bi2⟩, ⟨bm1, bk3, bi3⟩, ⟨bm2, bk4, bi4⟩, ⟨bm3, bk5, bi5⟩, ⟨bm4, bk6, bi6⟩, ⟨bm5, bk7, bi7⟩, ⟨bm6, bk8, bi8⟩, ⟨bm7, bk9, bi9⟩, ⟨bm8, bk10, bi10⟩, ⟨bk11, bi11⟩, ⟨bk12, bi12⟩, ⟨bk13, bi13⟩, ⟨bk14, bi14⟩, ⟨bk15, bi15⟩, ⟨bk16, bi16⟩, ⟨bk18, bi18⟩, ⟨bk19, bi19⟩, bk17, bi17⟩ := B3
    rcases hR5 i (by omega) with e | ⟨L, e, Li, L5, Lk⟩
    · have z := z none e.symm
      rw [e] at rb
      simp (disch := first | assumption | decide | omega) only [n_216_0, f_216_136, z_iconst, z_bipush, z_sipush, z_ldc, z_ldcs, z_ldcw, z_ldc2, z_lconst0, z_lconst1, z_null, z_getstatic, z_iload_0, z_iload_1, z_iload_2, z_iload_3, z_iload, z_istore_0, z_istore_1, z_istore_2, z_istore_3, z_istore, z_lload_0, z_lload_1, z_lload_2, z_lload_3, z_lload, z_lstore_0, z_lstore_1, z_lstore_2, z_lstore_3, z_lstore, z_aload_0, z_aload_1, z_aload_2, z_aload_3, z_aload, z_astore_0, z_astore_1, z_astore_2, z_astore_3, z_astore, ald_0, ald_s, z_iinc, qst1_1i, qst2_1i, qst1_1r, qst2_1r, qst1_1u, qst2_1u, qst1_1n, qst2_1n, qst1_1l, qst2_1l, qst1_0, qst2_0, qst1_s, qst2_s, z_iadd, z_isub, z_imul, z_iand, z_ior, z_ixor, z_ishl, z_ishr, z_idiv, z_irem, z_ladd, z_lsub, z_lmul, z_land, z_lor, z_ldiv, z_lrem, z_ineg, z_lshl, z_lshr, z_i2l, z_l2i, z_i2b, z_i2c, z_lcmp, z_dupi, z_dupr, z_popi, z_popr, z_dup2, z_goto, z_get0, z_get1, z_get2, z_get3, z_put0, z_put1, z_put2, z_put2n, z_put3, z_iaload, z_baload, z_laload, z_aaload, z_iastore, z_bastore, z_lastore, z_aastore, z_aastoren, z_arraylength, z_new, z_newarray, z_anewarray, z_multi, z_objinit, z_is0, z_iv0, z_ip0, z_is1, z_iv1, z_ip1, z_is2, z_iv2, z_ip2, z_is3, z_iv3, z_ip3, z_is4, z_iv4, z_ip4, z_is5, z_iv5, z_ip5, z_is6, z_iv6, z_ip6, z_is7, z_iv7, z_ip7, z_m991, z_m992, z_m993, z_m994, z_m995, z_m996, z_m998, acal_0, acal_1, acal_2, acal_3, acal_4, aK_v, aK_n, sF_c, sF_n, b_nr, b_nn, r_I, r_Z, r_L, r_A, r_V, sw_F, sw_n, gd_tt, is01_bzT, is01_0, is01_1, qrv_s, qrv_n, bi_eq_t, bi_eq_f, bi_ne_t, bi_ne_f, bi_lt_t, bi_lt_f, bi_ge_t, bi_ge_f, bi_gt_t, bi_gt_f, bi_le_t, bi_le_f, bc_eq_t, bc_eq_f, bc_ne_t, bc_ne_f, bc_lt_t, bc_lt_f, bc_ge_t, bc_ge_f, bc_gt_t, bc_gt_f, bc_le_t, bc_le_f, bb_eq_t, bb_eq_f, bb_ne_t, bb_ne_f, sc_t, sc_f, b_nr, b_nn, mI_J, mI_R, mJ_I, mJ_R, mR_I, mR_J, mK_I, mK_J, mK_R, mN_I, mN_J, mN_R, inM_I, inM_J, inM_R, mZ_nc, mZ_nk, mZ_sm, mZ_J, mZ_R, mJ_nc, mJ_ni, mJ_sm, mI_Z, iz_add, iz_sub, iz_mul, iz_neg, iz_lt, iz_le, iz_eq, iz_clamp, iz_inB, iz_div, iz_rem, inM_lit, and_self, true_and, and_true, true_or, or_true, not_true_eq_false, not_false_eq_true, Nat.reduceEqDiff, reduceCtorEq, Int.reduceNeg, Int.reduceSub, Int.reduceAdd, Int.reduceMul, Int.reduceToNat, Int.reduceEq, Int.neg_neg, Int.cast_ofNat_Int, Nat.reduceAdd, Nat.reduceMul, Nat.reduceSub, gd_t, emod_r, iz_0, Int.zero_add, Int.add_zero, wp_some, rb, Int.toNat_natCast, a0, a0i, af7, ak17, ai17, b0, b0i, bf7, bk17, bi17]
      exact z
    · have z := z (some L) e.symm
      rw [e] at rb
      have Li' : inM M' L := by unfold inM at *; rw [n3]; exact Li
      have Lk' : (mK M' L).1 = 10 := by rw [k3]; exact Lk
      simp (disch := first | assumption | decide | omega) only [n_216_0, f_216_136, z_iconst, z_bipush, z_sipush, z_ldc, z_ldcs, z_ldcw, z_ldc2, z_lconst0, z_lconst1, z_null, z_getstatic, z_iload_0, z_iload_1, z_iload_2, z_iload_3, z_iload, z_istore_0, z_istore_1, z_istore_2, z_istore_3, z_istore, z_lload_0, z_lload_1, z_lload_2, z_lload_3, z_lload, z_lstore_0, z_lstore_1, z_lstore_2, z_lstore_3, z_lstore, z_aload_0, z_aload_1, z_aload_2, z_aload_3, z_aload, z_astore_0, z_astore_1, z_astore_2, z_astore_3, z_astore, ald_0, ald_s, z_iinc, qst1_1i, qst2_1i, qst1_1r, qst2_1r, qst1_1u, qst2_1u, qst1_1n, qst2_1n, qst1_1l, qst2_1l, qst1_0, qst2_0, qst1_s, qst2_s, z_iadd, z_isub, z_imul, z_iand, z_ior, z_ixor, z_ishl, z_ishr, z_idiv, z_irem, z_ladd, z_lsub, z_lmul, z_land, z_lor, z_ldiv, z_lrem, z_ineg, z_lshl, z_lshr, z_i2l, z_l2i, z_i2b, z_i2c, z_lcmp, z_dupi, z_dupr, z_popi, z_popr, z_dup2, z_goto, z_get0, z_get1, z_get2, z_get3, z_put0, z_put1, z_put2, z_put2n, z_put3, z_iaload, z_baload, z_laload, z_aaload, z_iastore, z_bastore, z_lastore, z_aastore, z_aastoren, z_arraylength, z_new, z_newarray, z_anewarray, z_multi, z_objinit, z_is0, z_iv0, z_ip0, z_is1, z_iv1, z_ip1, z_is2, z_iv2, z_ip2, z_is3, z_iv3, z_ip3, z_is4, z_iv4, z_ip4, z_is5, z_iv5, z_ip5, z_is6, z_iv6, z_ip6, z_is7, z_iv7, z_ip7, z_m991, z_m992, z_m993, z_m994, z_m995, z_m996, z_m998, acal_0, acal_1, acal_2, acal_3, acal_4, aK_v, aK_n, sF_c, sF_n, b_nr, b_nn, r_I, r_Z, r_L, r_A, r_V, sw_F, sw_n, gd_tt, is01_bzT, is01_0, is01_1, qrv_s, qrv_n, bi_eq_t, bi_eq_f, bi_ne_t, bi_ne_f, bi_lt_t, bi_lt_f, bi_ge_t, bi_ge_f, bi_gt_t, bi_gt_f, bi_le_t, bi_le_f, bc_eq_t, bc_eq_f, bc_ne_t, bc_ne_f, bc_lt_t, bc_lt_f, bc_ge_t, bc_ge_f, bc_gt_t, bc_gt_f, bc_le_t, bc_le_f, bb_eq_t, bb_eq_f, bb_ne_t, bb_ne_f, sc_t, sc_f, b_nr, b_nn, mI_J, mI_R, mJ_I, mJ_R, mR_I, mR_J, mK_I, mK_J, mK_R, mN_I, mN_J, mN_R, inM_I, inM_J, inM_R, mZ_nc, mZ_nk, mZ_sm, mZ_J, mZ_R, mJ_nc, mJ_ni, mJ_sm, mI_Z, iz_add, iz_sub, iz_mul, iz_neg, iz_lt, iz_le, iz_eq, iz_clamp, iz_inB, iz_div, iz_rem, inM_lit, and_self, true_and, and_true, true_or, or_true, not_true_eq_false, not_false_eq_true, Nat.reduceEqDiff, reduceCtorEq, Int.reduceNeg, Int.reduceSub, Int.reduceAdd, Int.reduceMul, Int.reduceToNat, Int.reduceEq, Int.neg_neg, Int.cast_ofNat_Int, Nat.reduceAdd, Nat.reduceMul, Nat.reduceSub, gd_t, emod_r, iz_0, Int.zero_add, Int.add_zero, wp_some, rb, Int.toNat_natCast, a0, a0i, af7, ak17, ai17, b0, b0i, bf7, bk17, bi17, Li', Lk']
      exact z


/-- it answers a reference -/
def wA (o : Option qR) (Q : Nat → qMe → Prop) : Prop := ∃ i M, o = some (some (.ref i), M) ∧ Q i M
theorem wA_q {o : Option qR} {Q : Nat → qMe → Prop} (h : ∀ P : Option Value → qMe → Prop, (∀ i M, Q i M → P (some (.ref i)) M) → wp o P) : wA o Q := by
  obtain ⟨v, M, e, i, r, q⟩ := h (fun v M => ∃ i, v = some (.ref i) ∧ Q i M) (fun i M q => ⟨i, rfl, q⟩)
  exact ⟨i, M, by rw [e, r], q⟩
theorem wp_cA {o : Option qR} {s : List Value} {f : List Value → qMe → Option qR} {P : Option Value → qMe → Prop} {Q : Nat → qMe → Prop} (h : wA o Q) (k : ∀ i M, Q i M → wp (f (.ref i :: s) M) P) : wp (aK o s f) P := by
  obtain ⟨i, M, e, q⟩ := h
  rw [e]
  exact k i M q
set_option maxHeartbeats 4000000 in
theorem x_trimmed {d : Nat} {M : qMe} {cs : List Int} {is : List Itm} (h : shp M) (hD : XDr M cs is) (h5 : cs.length ≤ 512) (h12 : is.length ≤ 12) (hl : ∀ it, it ∈ is → it.2.1.length ≤ 4) : wA (cal (d + 2) 312 [.ref 184] M) (fun i M1 => i = mN M ∧ mN M1 = mN M + 6 ∧ Frg M M1 (fun _ _ => False) noR ∧ TextR M1 (mN M) (mN M + 1) (mN M + 2) (mN M + 3) (mN M + 4) (mN M + 5) cs is ∧ ∀ i, mN M ≤ i → i < mN M + 6 → (mK M1 i).2 ≤ 600) := by
  refine wA_q (fun P hP => ?_)
  have hN := h.1
  obtain ⟨x1, x2, x3, x4⟩ := hD
  have ti := x_textInit (d := d) (a := is.length) (b := cs.length) (L := mN M) (M := qnew M 10 7) (by rw [nw_N]; omega) nwK (by omega) (by rw [nw_N]; omega) (by omega) (by omega)
  have sI : ((is.length : Nat) : Int) ≤ 12 := by omega
  have lI : ((cs.length : Nat) : Int) ≤ 512 := by omega
  generalize hs : is.length = s at *
  generalize hc : cs.length = l at *
  have e4 : ((s : Int) * 4).toNat = 4 * s := by omega
  rw [cal_312, gd_t (Nat.le_of_ble_eq_true rfl)]
  change wp (n_312_0 (cal _) [some (.ref 184), none] [] _) _
  simp (disch := first | assumption | decide | omega | (simp only [mN_I, mN_J, mN_R, nw_N]; done) | (simp only [mN_I, mN_J, mN_R, nw_N]; omega)) only [n_312_0, z_iconst, z_bipush, z_sipush, z_ldc, z_ldcs, z_ldcw, z_ldc2, z_lconst0, z_lconst1, z_null, z_getstatic, z_iload_0, z_iload_1, z_iload_2, z_iload_3, z_iload, z_istore_0, z_istore_1, z_istore_2, z_istore_3, z_istore, z_lload_0, z_lload_1, z_lload_2, z_lload_3, z_lload, z_lstore_0, z_lstore_1, z_lstore_2, z_lstore_3, z_lstore, z_aload_0, z_aload_1, z_aload_2, z_aload_3, z_aload, z_astore_0, z_astore_1, z_astore_2, z_astore_3, z_astore, ald_0, ald_s, z_iinc, qst1_1i, qst2_1i, qst1_1r, qst2_1r, qst1_1u, qst2_1u, qst1_1n, qst2_1n, qst1_1l, qst2_1l, qst1_0, qst2_0, qst1_s, qst2_s, z_iadd, z_isub, z_imul, z_iand, z_ior, z_ixor, z_ishl, z_ishr, z_idiv, z_irem, z_ladd, z_lsub, z_lmul, z_land, z_lor, z_ldiv, z_lrem, z_ineg, z_lshl, z_lshr, z_i2l, z_l2i, z_i2b, z_i2c, z_lcmp, z_dupi, z_dupr, z_popi, z_popr, z_dup2, z_goto, z_get0, z_get1, z_get2, z_get3, z_put0, z_put1, z_put2, z_put2n, z_put3, z_iaload, z_baload, z_laload, z_aaload, z_iastore, z_bastore, z_lastore, z_aastore, z_aastoren, z_arraylength, z_new, z_newarray, z_anewarray, z_multi, z_objinit, z_is0, z_iv0, z_ip0, z_is1, z_iv1, z_ip1, z_is2, z_iv2, z_ip2, z_is3, z_iv3, z_ip3, z_is4, z_iv4, z_ip4, z_is5, z_iv5, z_ip5, z_is6, z_iv6, z_ip6, z_is7, z_iv7, z_ip7, z_m991, z_m992, z_m993, z_m994, z_m995, z_m996, z_m998, acal_0, acal_1, acal_2, acal_3, acal_4, aK_v, aK_n, sF_c, sF_n, b_nr, b_nn, r_I, r_Z, r_L, r_A, r_V, sw_F, sw_n, gd_tt, is01_bzT, is01_0, is01_1, qrv_s, qrv_n, bi_eq_t, bi_eq_f, bi_ne_t, bi_ne_f, bi_lt_t, bi_lt_f, bi_ge_t, bi_ge_f, bi_gt_t, bi_gt_f, bi_le_t, bi_le_f, bc_eq_t, bc_eq_f, bc_ne_t, bc_ne_f, bc_lt_t, bc_lt_f, bc_ge_t, bc_ge_f, bc_gt_t, bc_gt_f, bc_le_t, bc_le_f, bb_eq_t, bb_eq_f, bb_ne_t, bb_ne_f, sc_t, sc_f, b_nr, b_nn, mI_J, mI_R, mJ_I, mJ_R, mR_I, mR_J, mK_I, mK_J, mK_R, mN_I, mN_J, mN_R, inM_I, inM_J, inM_R, mZ_nc, mZ_nk, mZ_sm, mZ_J, mZ_R, mJ_nc, mJ_ni, mJ_sm, mI_Z, iz_add, iz_sub, iz_mul, iz_neg, iz_lt, iz_le, iz_eq, iz_clamp, iz_inB, iz_div, iz_rem, shK h, shR h, inM_lit, and_self, true_and, and_true, true_or, or_true, not_true_eq_false, not_false_eq_true, Nat.reduceEqDiff, reduceCtorEq, Int.reduceNeg, Int.reduceSub, Int.reduceAdd, Int.reduceMul, Int.reduceToNat, Int.reduceEq, Int.neg_neg, Int.cast_ofNat_Int, Nat.reduceAdd, Nat.reduceMul, Nat.reduceSub, gd_t, emod_r, iz_0, Int.zero_add, Int.add_zero, wp_some, nw_K, nw_Kn, nw_N, nw_Zn, inM_b, x1, x2]
  refine wp_cV ti (fun M1 r => ?_)
  clear ti
  obtain ⟨n1, k1, r1, z1, f1, ⟨ra, rb, rc, rd, re⟩, ⟨ka, kb, kc, kd, ke⟩⟩ := r
  rw [nw_N] at n1 k1 r1 z1 f1 ra rb rc rd re ka kb kc kd ke
  have F1 : Frg M M1 (fun _ _ => False) noR := ⟨by omega, fun i q => (k1 i (by omega)).trans (nw_Kn (by omega)), fun i k q _ => (r1 i k (by omega) (by omega)).trans (nw_Rn (by omega)), fun i k q _ => (z1 i k (by omega) (by omega)).trans (nw_Zn (by omega)), fun i k q => (f1 i k (by omega)).trans (nw_Rn (by omega))⟩
  have h1 : shp M1 := F1.shp h (fun i k q => by cases q) (fun i k _ q => q)
  have kL : mK M1 (mN M) = (10, 7) := (k1 _ (by omega)).trans nwK
  have y : ∀ i k, i < 513 → mZ M1 i k = mZ M i k := fun i k q => F1.z (by omega) (fun z => z)
  have y1 : mZ M1 184 5 = (s : Int) := (y _ _ (by decide)).trans x1
  have y2 : mZ M1 184 6 = (l : Int) := (y _ _ (by decide)).trans x2
  have fr := F1
  clear F1 z1 f1 r1 k1
  generalize hNN : mN M = Nn at *
  simp (disch := first | assumption | decide | omega) only [n_312_0, z_iconst, z_bipush, z_sipush, z_ldc, z_ldcs, z_ldcw, z_ldc2, z_lconst0, z_lconst1, z_null, z_getstatic, z_iload_0, z_iload_1, z_iload_2, z_iload_3, z_iload, z_istore_0, z_istore_1, z_istore_2, z_istore_3, z_istore, z_lload_0, z_lload_1, z_lload_2, z_lload_3, z_lload, z_lstore_0, z_lstore_1, z_lstore_2, z_lstore_3, z_lstore, z_aload_0, z_aload_1, z_aload_2, z_aload_3, z_aload, z_astore_0, z_astore_1, z_astore_2, z_astore_3, z_astore, ald_0, ald_s, z_iinc, qst1_1i, qst2_1i, qst1_1r, qst2_1r, qst1_1u, qst2_1u, qst1_1n, qst2_1n, qst1_1l, qst2_1l, qst1_0, qst2_0, qst1_s, qst2_s, z_iadd, z_isub, z_imul, z_iand, z_ior, z_ixor, z_ishl, z_ishr, z_idiv, z_irem, z_ladd, z_lsub, z_lmul, z_land, z_lor, z_ldiv, z_lrem, z_ineg, z_lshl, z_lshr, z_i2l, z_l2i, z_i2b, z_i2c, z_lcmp, z_dupi, z_dupr, z_popi, z_popr, z_dup2, z_goto, z_get0, z_get1, z_get2, z_get3, z_put0, z_put1, z_put2, z_put2n, z_put3, z_iaload, z_baload, z_laload, z_aaload, z_iastore, z_bastore, z_lastore, z_aastore, z_aastoren, z_arraylength, z_new, z_newarray, z_anewarray, z_multi, z_objinit, z_is0, z_iv0, z_ip0, z_is1, z_iv1, z_ip1, z_is2, z_iv2, z_ip2, z_is3, z_iv3, z_ip3, z_is4, z_iv4, z_ip4, z_is5, z_iv5, z_ip5, z_is6, z_iv6, z_ip6, z_is7, z_iv7, z_ip7, z_m991, z_m992, z_m993, z_m994, z_m995, z_m996, z_m998, acal_0, acal_1, acal_2, acal_3, acal_4, aK_v, aK_n, sF_c, sF_n, b_nr, b_nn, r_I, r_Z, r_L, r_A, r_V, sw_F, sw_n, gd_tt, is01_bzT, is01_0, is01_1, qrv_s, qrv_n, bi_eq_t, bi_eq_f, bi_ne_t, bi_ne_f, bi_lt_t, bi_lt_f, bi_ge_t, bi_ge_f, bi_gt_t, bi_gt_f, bi_le_t, bi_le_f, bc_eq_t, bc_eq_f, bc_ne_t, bc_ne_f, bc_lt_t, bc_lt_f, bc_ge_t, bc_ge_f, bc_gt_t, bc_gt_f, bc_le_t, bc_le_f, bb_eq_t, bb_eq_f, bb_ne_t, bb_ne_f, sc_t, sc_f, b_nr, b_nn, mI_J, mI_R, mJ_I, mJ_R, mR_I, mR_J, mK_I, mK_J, mK_R, mN_I, mN_J, mN_R, inM_I, inM_J, inM_R, mZ_nc, mZ_nk, mZ_sm, mZ_J, mZ_R, mJ_nc, mJ_ni, mJ_sm, mI_Z, iz_add, iz_sub, iz_mul, iz_neg, iz_lt, iz_le, iz_eq, iz_clamp, iz_inB, iz_div, iz_rem, inM_lit, and_self, true_and, and_true, true_or, or_true, not_true_eq_false, not_false_eq_true, Nat.reduceEqDiff, reduceCtorEq, Int.reduceNeg, Int.reduceSub, Int.reduceAdd, Int.reduceMul, Int.reduceToNat, Int.reduceEq, Int.neg_neg, Int.cast_ofNat_Int, Nat.reduceAdd, Nat.reduceMul, Nat.reduceSub, gd_t, emod_r, iz_0, Int.zero_add, Int.add_zero, wp_some, shK h1, shR h1, y1, y2, ra, rb, rc, rd, re, ka, kb, kc, kd, ke, kL, inM_b, n1, mK_cp, mN_cp, mR_cp, mZ_cpn, e4, List.length_nil, Int.toNat_natCast]
  refine hP _ _ ⟨rfl, ?_, ?_, ?_, ?_⟩
  · show mN M1 = Nn + 6
    omega
  · refine ⟨by show mN M ≤ mN M1; omega, fun i q => fr.2.1 i q, fun i k q r => fr.2.2.1 i k q r, fun i k q r => ?_, fun i k q => fr.2.2.2.2 i k q⟩
    rw [mZ_nc (by omega), mZ_nc (by omega), mZ_cpn (by omega), mZ_cpn (by omega), mZ_cpn (by omega), mZ_cpn (by omega), mZ_cpn (by omega)]
    exact fr.z q (fun z => z)
  · unfold TextR
    rw [hs, hc]
    refine ⟨⟨by rw [inM_b]; show 8 ≤ Nn ∧ Nn < mN M1; omega, kL, ra, rb, rc, rd, re⟩, ⟨by rw [inM_b]; show 8 ≤ Nn + 1 ∧ Nn + 1 < mN M1; omega, by show (mK M1 (Nn + 1)).1 = 100; rw [ka], by show s ≤ (mK M1 (Nn + 1)).2; rw [ka]; exact Nat.le_refl _⟩, ⟨by rw [inM_b]; show 8 ≤ Nn + 2 ∧ Nn + 2 < mN M1; omega, by show (mK M1 (Nn + 1 + 1)).1 = 100; rw [kb], by show 4 * s ≤ (mK M1 (Nn + 1 + 1)).2; rw [kb]; exact Nat.le_refl _⟩, ⟨by rw [inM_b]; show 8 ≤ Nn + 3 ∧ Nn + 3 < mN M1; omega, by show (mK M1 (Nn + 1 + 2)).1 = 100; rw [kc], by show s ≤ (mK M1 (Nn + 1 + 2)).2; rw [kc]; exact Nat.le_refl _⟩, ⟨by rw [inM_b]; show 8 ≤ Nn + 4 ∧ Nn + 4 < mN M1; omega, by show (mK M1 (Nn + 1 + 3)).1 = 100; rw [kd], by show s ≤ (mK M1 (Nn + 1 + 3)).2; rw [kd]; exact Nat.le_refl _⟩, ⟨by rw [inM_b]; show 8 ≤ Nn + 5 ∧ Nn + 5 < mN M1; omega, by show (mK M1 (Nn + 1 + 4)).1 = 100; rw [ke], by show l ≤ (mK M1 (Nn + 1 + 4)).2; rw [ke]; exact Nat.le_refl _⟩, ?_, ?_, fun i it q => ?_, fun j x q => ?_⟩
    · rw [mZ_nk (by decide), mZ_sm rfl (by omega) (by omega)]
    · rw [mZ_sm rfl (by omega) (by omega)]
    · have il : i < s := hs ▸ lt_of_get q
      have l4 := hl it (List.mem_of_getElem? q)
      obtain ⟨i1, i2, i3, i4⟩ := x4 i it q
      refine ⟨?_, ?_, ?_, fun j sx qq => ?_⟩
      · rw [mZ_nc (by omega), mZ_nc (by omega), mZ_cpn (by omega), mZ_cpn (by omega), mZ_cpn (by omega), mZ_cpn (by omega), mZ_cps il, y _ _ (by decide)]
        exact i1
      · rw [mZ_nc (by omega), mZ_nc (by omega), mZ_cpn (by omega), mZ_cpn (by omega), mZ_cps il, mZ_cpn (by omega), mZ_cpn (by omega), y _ _ (by decide)]
        exact i2
      · rw [mZ_nc (by omega), mZ_nc (by omega), mZ_cpn (by omega), mZ_cps il, mZ_cpn (by omega), mZ_cpn (by omega), mZ_cpn (by omega), y _ _ (by decide)]
        exact i3
      · have jl := lt_of_get qq
        rw [mZ_nc (by omega), mZ_nc (by omega), mZ_cpn (by omega), mZ_cpn (by omega), mZ_cpn (by omega), mZ_cps (by omega), mZ_cpn (by omega), y _ _ (by decide)]
        exact i4 j sx qq
    · have jl : j < l := hc ▸ lt_of_get q
      rw [mZ_nc (by omega), mZ_nc (by omega), mZ_cps jl, mZ_cpn (by omega), mZ_cpn (by omega), mZ_cpn (by omega), mZ_cpn (by omega), y _ _ (by decide)]
      exact x3 j x q
  · intro i g1 g2
    show (mK M1 i).2 ≤ 600
    rcases (show i = Nn ∨ i = Nn + 1 ∨ i = Nn + 1 + 1 ∨ i = Nn + 1 + 2 ∨ i = Nn + 1 + 3 ∨ i = Nn + 1 + 4 by omega) with e | e | e | e | e | e
    · rw [e, kL]; decide
    · rw [e, ka]; show s ≤ 600; omega
    · rw [e, kb]; show 4 * s ≤ 600; omega
    · rw [e, kc]; show s ≤ 600; omega
    · rw [e, kd]; show s ≤ 600; omega
    · rw [e, ke]; show l ≤ 600; omega

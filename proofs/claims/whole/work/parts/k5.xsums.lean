/-! x reads an ITEM: its SUMS, TIMES, TEST -/
def DSs (m lo i k : Nat) : Prop := DRy i k ∨ (i = 186 ∧ 4 * m + lo ≤ k ∧ k < 4 * m + 4)
theorem DSs_8 {m lo i k : Nat} (hi : i < 8) : ¬ DSs m lo i k := by unfold DSs DRy; omega
theorem TX_S {M M1 : qMe} {c v : Nat → Int} {N m lo : Nat} {law : Bool} (h : TX M c v N law) (hD : Dif M M1 (DSs m lo)) : TX M1 c v N law := TX_k h (fun i k q => hD.z (by unfold DSs DRy; omega))
theorem Rd_S {M M1 : qMe} {m lo : Nat} (hD : Dif M M1 DRy) : Dif M M1 (DSs m lo) := hD.mono (fun _ _ q => Or.inl q)
def XRS (M M1 : qMe) (z : Int) (m i a : Nat) (r : pR (List (Nat × Den))) : Prop := Dif M M1 (DSs m i) ∧ ((z = 1 ∧ r.1 = true ∧ XS M1 r.2.1 r.2.2.1 0 (a + r.2.2.2.1.length) ∧ CdR M M1 a r.2.2.2.1 ∧ ∀ (j : Nat) (s : Nat × Den), r.2.2.2.2[j]? = some s → mZ M1 186 (4 * m + i + j) = s.1) ∨ (z = 0 ∧ r.1 = false ∧ mZ M1 183 5 = r.2.1))
set_option maxHeartbeats 1000000 in
/-- one SUM with its STOP -/
theorem x_sum1 {c v : Nat → Int} {N m d i p q a : Nat} {many fb : Int} {law : Bool} {K : qF} {M : qMe} {P : Option Value → qMe → Prop} (hm : m < 12) (hi : i < 4) (h : shp M) (hX : TX M c v N law) (hS : XS M p q 0 a) (hp : p ≤ N) (hq : q ≤ 50) (hap : a ≤ p) (hz : mZ M 184 5 = (m : Int) + 1)
    (hF : (pE c v (fwOf law) (lwOf law) 30 0 0 p q a).1 = false → ∀ M1, Dif M M1 (DSs m i) → mZ M1 183 5 = (pE c v (fwOf law) (lwOf law) 30 0 0 p q a).2.1 → P (some (.int (iz 0))) M1)
    (hK : ∀ p1 q1 cs D, pE c v (fwOf law) (lwOf law) 30 0 0 p q a = (true, p1, q1, cs, D) → p < p1 → p1 ≤ N → q1 ≤ 50 → cs.length ≤ p1 - p → ∀ M1, Dif M M1 (DSs m i) → XS M1 p1 q1 0 (a + cs.length + 1) → CdR M M1 a (cs ++ [0]) → mZ M1 186 (4 * m + i) = (a : Int) → wp (K [some (.ref 183), some (.int (iz many)), some (.int (iz fb)), some (.int (iz ((i + 1 : Nat) : Int)))] [] M1) P) :
    wp (n_276_25 (cal (d + 93)) K [some (.ref 183), some (.int (iz many)), some (.int (iz fb)), some (.int (iz (i : Int)))] [] M) P := by
  have hN := h.1
  obtain ⟨N4, hc0, hv0, -⟩ := id hX
  obtain ⟨st, sq, sd, sa⟩ := id hS
  have fp := fwOf_p (law := law)
  have e30 : d + 93 = (d + 61) + 2 + 30 := by omega
  have e1 : d + 93 = (d + 92) + 1 := by omega
  have ez : (m : Int) + 1 - 1 = (m : Int) := by omega
  have e4 : ((m : Int) * 4 + (i : Int)).toNat = 4 * m + i := by omega
  have D1 : Dif M (qsI M 186 (4 * m + i) (iz (a : Int))) (DSs m i) := Dif.rfl'.I (Or.inr ⟨rfl, by omega, by omega⟩)
  have h1 : shp (qsI M 186 (4 * m + i) (iz (a : Int))) := shp_I h (by decide)
  have hN1 := h1.1
  have S1 : XS (qsI M 186 (4 * m + i) (iz (a : Int))) p q 0 a := XS_k hS (fun i k q => mZ_nc (by omega))
  have X1 := TX_S hX D1
  have f189 : ∀ k, mZ (qsI M 186 (4 * m + i) (iz (a : Int))) 189 k = mZ M 189 k := fun k => mZ_nc (by decide)
  have f186 : mZ (qsI M 186 (4 * m + i) (iz (a : Int))) 186 (4 * m + i) = (a : Int) := mZ_sm rfl (by omega) (by omega)
  have z := x_readE (c := c) (v := v) (N := N) (law := law) 30 0 (by omega) (d + 61) p q 0 a _ (by omega) h1 X1 S1 hp hq (by omega) hap
  rw [if_neg (by decide), ← e30] at z
  have z : wI (cal (d + 93) 281 [.ref 183, .int (iz 0)] (qsI M 186 (4 * m + i) (iz (a : Int)))) (fun z M1 => XR (qsI M 186 (4 * m + i) (iz (a : Int))) M1 z 0 a (pE c v (fwOf law) (lwOf law) 30 0 0 p q a)) := z
  have ok := pE_ok (v := v) (lw := lwOf law) hc0 fp.1 30 0 0 p q a hp hq
  simp (disch := first | assumption | decide | omega) only [n_276_0, n_276_25, n_276_78, f_276_2, z_iconst, z_bipush, z_sipush, z_ldc, z_ldcs, z_ldcw, z_ldc2, z_lconst0, z_lconst1, z_null, z_getstatic, z_iload_0, z_iload_1, z_iload_2, z_iload_3, z_iload, z_istore_0, z_istore_1, z_istore_2, z_istore_3, z_istore, z_lload_0, z_lload_1, z_lload_2, z_lload_3, z_lload, z_lstore_0, z_lstore_1, z_lstore_2, z_lstore_3, z_lstore, z_aload_0, z_aload_1, z_aload_2, z_aload_3, z_aload, z_astore_0, z_astore_1, z_astore_2, z_astore_3, z_astore, ald_0, ald_s, z_iinc, qst1_1i, qst2_1i, qst1_1r, qst2_1r, qst1_1u, qst2_1u, qst1_1n, qst2_1n, qst1_1l, qst2_1l, qst1_0, qst2_0, qst1_s, qst2_s, z_iadd, z_isub, z_imul, z_iand, z_ior, z_ixor, z_ishl, z_ishr, z_idiv, z_irem, z_ladd, z_lsub, z_lmul, z_land, z_lor, z_ldiv, z_lrem, z_ineg, z_lshl, z_lshr, z_i2l, z_l2i, z_i2b, z_i2c, z_lcmp, z_dupi, z_dupr, z_popi, z_popr, z_dup2, z_goto, z_get0, z_get1, z_get2, z_get3, z_put0, z_put1, z_put2, z_put2n, z_put3, z_iaload, z_baload, z_laload, z_aaload, z_iastore, z_bastore, z_lastore, z_aastore, z_aastoren, z_arraylength, z_new, z_newarray, z_anewarray, z_multi, z_objinit, z_is0, z_iv0, z_ip0, z_is1, z_iv1, z_ip1, z_is2, z_iv2, z_ip2, z_is3, z_iv3, z_ip3, z_is4, z_iv4, z_ip4, z_is5, z_iv5, z_ip5, z_is6, z_iv6, z_ip6, z_is7, z_iv7, z_ip7, z_m991, z_m992, z_m993, z_m994, z_m995, z_m996, z_m998, acal_0, acal_1, acal_2, acal_3, acal_4, aK_v, aK_n, sF_c, sF_n, b_nr, b_nn, r_I, r_Z, r_L, r_A, r_V, sw_F, sw_n, gd_tt, is01_bzT, is01_0, is01_1, qrv_s, qrv_n, bi_eq_t, bi_eq_f, bi_ne_t, bi_ne_f, bi_lt_t, bi_lt_f, bi_ge_t, bi_ge_f, bi_gt_t, bi_gt_f, bi_le_t, bi_le_f, bc_eq_t, bc_eq_f, bc_ne_t, bc_ne_f, bc_lt_t, bc_lt_f, bc_ge_t, bc_ge_f, bc_gt_t, bc_gt_f, bc_le_t, bc_le_f, bb_eq_t, bb_eq_f, bb_ne_t, bb_ne_f, sc_t, sc_f, b_nr, b_nn, mI_J, mI_R, mJ_I, mJ_R, mR_I, mR_J, mK_I, mK_J, mK_R, mN_I, mN_J, mN_R, inM_I, inM_J, inM_R, mZ_nc, mZ_nk, mZ_sm, mZ_J, mZ_R, mJ_nc, mJ_ni, mJ_sm, mI_Z, iz_add, iz_sub, iz_mul, iz_neg, iz_lt, iz_le, iz_eq, iz_clamp, iz_inB, iz_div, iz_rem, shK h, shR h, inM_lit, and_self, true_and, and_true, true_or, or_true, not_true_eq_false, not_false_eq_true, Nat.reduceEqDiff, reduceCtorEq, Int.reduceNeg, Int.reduceSub, Int.reduceAdd, Int.reduceMul, Int.reduceToNat, Int.reduceEq, Int.neg_neg, Int.cast_ofNat_Int, Nat.reduceAdd, Nat.reduceMul, Nat.reduceSub, gd_t, emod_r, iz_0, Int.zero_add, Int.add_zero, wp_some, hz, sa, ez, e4]
  generalize qsI M 186 (4 * m + i) (iz (a : Int)) = Ma at *
  refine wp_cI z (fun y M2 r => ?_)
  clear z
  obtain ⟨D2, r⟩ := r
  have D02 : Dif M M2 (DSs m i) := D1.tr (Rd_S D2)
  generalize pE c v (fwOf law) (lwOf law) 30 0 0 p q a = R at *
  obtain ⟨rb, p1, q1, cs, D⟩ := R
  rcases r with ⟨rfl, rt, S2, C2⟩ | ⟨rfl, rt, tk⟩
  · have rt : rb = true := rt
    subst rt
    obtain ⟨o1, o2, o3, o4, o5⟩ := ok rfl
    simp only at o1 o2 o3 o4 o5 S2 C2
    have h2 := D02.shp h (fun i k hi => DSs_8 hi)
    have hN2 := h2.1
    have em := x_emit (d := d + 92) (a := a + cs.length) (M := M2) (op := 0) (w := 0) h2 S2.2.2.2 (by omega) (by decide) (by decide)
    rw [← e1] at em
    have em : cal (d + 93) 310 [.ref 184, .int (iz 0), .int (iz 0)] M2 = some (none, emM M2 (a + cs.length) 0) := em
    have C02 : CdR M M2 a cs := ⟨C2.1, fun j y => (C2.2 j y).trans (f189 j)⟩
    have f2 : mZ M2 186 (4 * m + i) = (a : Int) := (D2.z (by unfold DRy; omega)).trans f186
    have fin := hK p1 q1 cs D rfl o1 o2 o4 o5 (emM M2 (a + cs.length) 0) (D02.tr (Rd_S emM_D)) (emM_S S2 (by omega)) (CdR_app C02 (CdR_emit (n := ((a + cs.length : Nat) : Int) + 1) ⟨by decide, by decide⟩)) (by
      unfold emM
      rw [mZ_nc (by decide), mZ_nc (by decide)]
      exact f2)
    simp (disch := first | assumption | decide | omega) only [n_276_0, n_276_25, n_276_78, f_276_2, z_iconst, z_bipush, z_sipush, z_ldc, z_ldcs, z_ldcw, z_ldc2, z_lconst0, z_lconst1, z_null, z_getstatic, z_iload_0, z_iload_1, z_iload_2, z_iload_3, z_iload, z_istore_0, z_istore_1, z_istore_2, z_istore_3, z_istore, z_lload_0, z_lload_1, z_lload_2, z_lload_3, z_lload, z_lstore_0, z_lstore_1, z_lstore_2, z_lstore_3, z_lstore, z_aload_0, z_aload_1, z_aload_2, z_aload_3, z_aload, z_astore_0, z_astore_1, z_astore_2, z_astore_3, z_astore, ald_0, ald_s, z_iinc, qst1_1i, qst2_1i, qst1_1r, qst2_1r, qst1_1u, qst2_1u, qst1_1n, qst2_1n, qst1_1l, qst2_1l, qst1_0, qst2_0, qst1_s, qst2_s, z_iadd, z_isub, z_imul, z_iand, z_ior, z_ixor, z_ishl, z_ishr, z_idiv, z_irem, z_ladd, z_lsub, z_lmul, z_land, z_lor, z_ldiv, z_lrem, z_ineg, z_lshl, z_lshr, z_i2l, z_l2i, z_i2b, z_i2c, z_lcmp, z_dupi, z_dupr, z_popi, z_popr, z_dup2, z_goto, z_get0, z_get1, z_get2, z_get3, z_put0, z_put1, z_put2, z_put2n, z_put3, z_iaload, z_baload, z_laload, z_aaload, z_iastore, z_bastore, z_lastore, z_aastore, z_aastoren, z_arraylength, z_new, z_newarray, z_anewarray, z_multi, z_objinit, z_is0, z_iv0, z_ip0, z_is1, z_iv1, z_ip1, z_is2, z_iv2, z_ip2, z_is3, z_iv3, z_ip3, z_is4, z_iv4, z_ip4, z_is5, z_iv5, z_ip5, z_is6, z_iv6, z_ip6, z_is7, z_iv7, z_ip7, z_m991, z_m992, z_m993, z_m994, z_m995, z_m996, z_m998, acal_0, acal_1, acal_2, acal_3, acal_4, aK_v, aK_n, sF_c, sF_n, b_nr, b_nn, r_I, r_Z, r_L, r_A, r_V, sw_F, sw_n, gd_tt, is01_bzT, is01_0, is01_1, qrv_s, qrv_n, bi_eq_t, bi_eq_f, bi_ne_t, bi_ne_f, bi_lt_t, bi_lt_f, bi_ge_t, bi_ge_f, bi_gt_t, bi_gt_f, bi_le_t, bi_le_f, bc_eq_t, bc_eq_f, bc_ne_t, bc_ne_f, bc_lt_t, bc_lt_f, bc_ge_t, bc_ge_f, bc_gt_t, bc_gt_f, bc_le_t, bc_le_f, bb_eq_t, bb_eq_f, bb_ne_t, bb_ne_f, sc_t, sc_f, b_nr, b_nn, mI_J, mI_R, mJ_I, mJ_R, mR_I, mR_J, mK_I, mK_J, mK_R, mN_I, mN_J, mN_R, inM_I, inM_J, inM_R, mZ_nc, mZ_nk, mZ_sm, mZ_J, mZ_R, mJ_nc, mJ_ni, mJ_sm, mI_Z, iz_add, iz_sub, iz_mul, iz_neg, iz_lt, iz_le, iz_eq, iz_clamp, iz_inB, iz_div, iz_rem, shK h, shR h, inM_lit, and_self, true_and, and_true, true_or, or_true, not_true_eq_false, not_false_eq_true, Nat.reduceEqDiff, reduceCtorEq, Int.reduceNeg, Int.reduceSub, Int.reduceAdd, Int.reduceMul, Int.reduceToNat, Int.reduceEq, Int.neg_neg, Int.cast_ofNat_Int, Nat.reduceAdd, Nat.reduceMul, Nat.reduceSub, gd_t, emod_r, iz_0, Int.zero_add, Int.add_zero, wp_some, shK h2, shR h2, em]
    exact fin
  · have rt : rb = false := rt
    subst rt
    have fin := hF rfl M2 D02 tk
    simp (disch := first | assumption | decide | omega) only [n_276_0, n_276_25, n_276_78, f_276_2, z_iconst, z_bipush, z_sipush, z_ldc, z_ldcs, z_ldcw, z_ldc2, z_lconst0, z_lconst1, z_null, z_getstatic, z_iload_0, z_iload_1, z_iload_2, z_iload_3, z_iload, z_istore_0, z_istore_1, z_istore_2, z_istore_3, z_istore, z_lload_0, z_lload_1, z_lload_2, z_lload_3, z_lload, z_lstore_0, z_lstore_1, z_lstore_2, z_lstore_3, z_lstore, z_aload_0, z_aload_1, z_aload_2, z_aload_3, z_aload, z_astore_0, z_astore_1, z_astore_2, z_astore_3, z_astore, ald_0, ald_s, z_iinc, qst1_1i, qst2_1i, qst1_1r, qst2_1r, qst1_1u, qst2_1u, qst1_1n, qst2_1n, qst1_1l, qst2_1l, qst1_0, qst2_0, qst1_s, qst2_s, z_iadd, z_isub, z_imul, z_iand, z_ior, z_ixor, z_ishl, z_ishr, z_idiv, z_irem, z_ladd, z_lsub, z_lmul, z_land, z_lor, z_ldiv, z_lrem, z_ineg, z_lshl, z_lshr, z_i2l, z_l2i, z_i2b, z_i2c, z_lcmp, z_dupi, z_dupr, z_popi, z_popr, z_dup2, z_goto, z_get0, z_get1, z_get2, z_get3, z_put0, z_put1, z_put2, z_put2n, z_put3, z_iaload, z_baload, z_laload, z_aaload, z_iastore, z_bastore, z_lastore, z_aastore, z_aastoren, z_arraylength, z_new, z_newarray, z_anewarray, z_multi, z_objinit, z_is0, z_iv0, z_ip0, z_is1, z_iv1, z_ip1, z_is2, z_iv2, z_ip2, z_is3, z_iv3, z_ip3, z_is4, z_iv4, z_ip4, z_is5, z_iv5, z_ip5, z_is6, z_iv6, z_ip6, z_is7, z_iv7, z_ip7, z_m991, z_m992, z_m993, z_m994, z_m995, z_m996, z_m998, acal_0, acal_1, acal_2, acal_3, acal_4, aK_v, aK_n, sF_c, sF_n, b_nr, b_nn, r_I, r_Z, r_L, r_A, r_V, sw_F, sw_n, gd_tt, is01_bzT, is01_0, is01_1, qrv_s, qrv_n, bi_eq_t, bi_eq_f, bi_ne_t, bi_ne_f, bi_lt_t, bi_lt_f, bi_ge_t, bi_ge_f, bi_gt_t, bi_gt_f, bi_le_t, bi_le_f, bc_eq_t, bc_eq_f, bc_ne_t, bc_ne_f, bc_lt_t, bc_lt_f, bc_ge_t, bc_ge_f, bc_gt_t, bc_gt_f, bc_le_t, bc_le_f, bb_eq_t, bb_eq_f, bb_ne_t, bb_ne_f, sc_t, sc_f, b_nr, b_nn, mI_J, mI_R, mJ_I, mJ_R, mR_I, mR_J, mK_I, mK_J, mK_R, mN_I, mN_J, mN_R, inM_I, inM_J, inM_R, mZ_nc, mZ_nk, mZ_sm, mZ_J, mZ_R, mJ_nc, mJ_ni, mJ_sm, mI_Z, iz_add, iz_sub, iz_mul, iz_neg, iz_lt, iz_le, iz_eq, iz_clamp, iz_inB, iz_div, iz_rem, shK h, shR h, inM_lit, and_self, true_and, and_true, true_or, or_true, not_true_eq_false, not_false_eq_true, Nat.reduceEqDiff, reduceCtorEq, Int.reduceNeg, Int.reduceSub, Int.reduceAdd, Int.reduceMul, Int.reduceToNat, Int.reduceEq, Int.neg_neg, Int.cast_ofNat_Int, Nat.reduceAdd, Nat.reduceMul, Nat.reduceSub, gd_t, emod_r, iz_0, Int.zero_add, Int.add_zero, wp_some]
    exact fin
theorem pSs_nil {c v : Nat → Int} {fw lw : Int} {p q a : Nat} : pSs c v fw lw [] p q a = pThen (pE c v fw lw 30 0 0 p q a) [] (fun p1 q1 cs D => (true, p1, q1, cs ++ [0], [(a, D)])) := by rw [pSs]
theorem pSs_cons {c v : Nat → Int} {fw lw s : Int} {ss : List Int} {p q a : Nat} : pSs c v fw lw (s :: ss) p q a = pThen (pE c v fw lw 30 0 0 p q a) [] (fun p1 q1 cs D => if c p1 = s then pThen (pSs c v fw lw ss (p1 + 1) q1 (a + cs.length + 1)) [] (fun p2 q2 cs2 Ds => (true, p2, q2, cs ++ 0 :: cs2, (a, D) :: Ds)) else (false, p1, q1, cs, [])) := by rw [pSs]
/-- the words that may stand between SUMS, on both sides -/
def sepX (fb : Int) (i : Nat) (ss : List Int) : Prop := ∀ (j : Nat) (s : Int), ss[j]? = some s → ∃ k : Nat, k < 30 ∧ s = (k : Int) + 1 ∧ fb + (i : Int) + (j : Int) = 300 + ((sig.getD k 0 : Nat) : Int)
set_option maxHeartbeats 1000000 in
theorem x_sums_lp {c v : Nat → Int} {N m many d : Nat} {fb : Int} {law : Bool} (hm : m < 12) (hmany : many ≤ 4) (hfb : 0 ≤ fb ∧ fb ≤ 320) : ∀ (ss : List Int) (i n p q a : Nat) (M : qMe) (P : Option Value → qMe → Prop), i + ss.length + 1 = many → ss.length + 1 < n → sepX fb i ss → shp M → TX M c v N law → XS M p q 0 a → p ≤ N → q ≤ 50 → a + 1 ≤ p → mZ M 184 5 = (m : Int) + 1 → (∀ z M1, XRS M M1 z m i a (pSs c v (fwOf law) (lwOf law) ss p q a) → P (some (.int (iz z))) M1) → wp (n_276_25 (cal (d + 93)) (lp (f_276_2 (cal (d + 93))) n) [some (.ref 183), some (.int (iz (many : Int))), some (.int (iz fb)), some (.int (iz (i : Int)))] [] M) P
  | [], i, n, p, q, a, M, P, hik, hn, hsp, h, hX, hS, hp, hq, hap, hz, hP => by
    rw [pSs_nil] at hP
    refine x_sum1 hm (by simp only [List.length_nil] at hik; omega) h hX hS hp hq (by omega) hz (fun r M1 D1 tk => ?_) (fun p1 q1 cs D r r1 r2 r3 r4 M1 D1 S1 C1 f1 => ?_)
    · refine hP 0 M1 ⟨D1, Or.inr ⟨rfl, ?_⟩⟩
      generalize pE c v (fwOf law) (lwOf law) 30 0 0 p q a = R at *
      obtain ⟨rb, p1, q1, cs, D⟩ := R
      have r : rb = false := r
      subst r
      exact ⟨rfl, tk⟩
    · rw [r, pThen_t] at hP
      have fin := hP 1 M1 ⟨D1, Or.inl ⟨rfl, rfl, by
        show XS M1 p1 q1 0 (a + (cs ++ [0]).length)
        rw [List.length_append, List.length_cons, List.length_nil, show a + (cs.length + (0 + 1)) = a + cs.length + 1 by omega]
        exact S1, C1, fun j s q => by
        cases j with
        | zero =>
          have e : ((a, D) : Nat × Den) = s := Option.some.inj q
          rw [← e]
          exact f1
        | succ j => cases q⟩⟩
      have hN1 := (D1.shp h (fun i k hi => DSs_8 hi)).1
      obtain ⟨n', rfl⟩ : ∃ n', n = n' + 1 := ⟨n - 1, by omega⟩
      have eI : ((i + 1 : Nat) : Int) = (many : Int) := by simp only [List.length_nil] at hik; omega
      rw [eI, lp_s]
      simp (disch := first | assumption | decide | omega) only [n_276_0, n_276_25, n_276_78, f_276_2, z_iconst, z_bipush, z_sipush, z_ldc, z_ldcs, z_ldcw, z_ldc2, z_lconst0, z_lconst1, z_null, z_getstatic, z_iload_0, z_iload_1, z_iload_2, z_iload_3, z_iload, z_istore_0, z_istore_1, z_istore_2, z_istore_3, z_istore, z_lload_0, z_lload_1, z_lload_2, z_lload_3, z_lload, z_lstore_0, z_lstore_1, z_lstore_2, z_lstore_3, z_lstore, z_aload_0, z_aload_1, z_aload_2, z_aload_3, z_aload, z_astore_0, z_astore_1, z_astore_2, z_astore_3, z_astore, ald_0, ald_s, z_iinc, qst1_1i, qst2_1i, qst1_1r, qst2_1r, qst1_1u, qst2_1u, qst1_1n, qst2_1n, qst1_1l, qst2_1l, qst1_0, qst2_0, qst1_s, qst2_s, z_iadd, z_isub, z_imul, z_iand, z_ior, z_ixor, z_ishl, z_ishr, z_idiv, z_irem, z_ladd, z_lsub, z_lmul, z_land, z_lor, z_ldiv, z_lrem, z_ineg, z_lshl, z_lshr, z_i2l, z_l2i, z_i2b, z_i2c, z_lcmp, z_dupi, z_dupr, z_popi, z_popr, z_dup2, z_goto, z_get0, z_get1, z_get2, z_get3, z_put0, z_put1, z_put2, z_put2n, z_put3, z_iaload, z_baload, z_laload, z_aaload, z_iastore, z_bastore, z_lastore, z_aastore, z_aastoren, z_arraylength, z_new, z_newarray, z_anewarray, z_multi, z_objinit, z_is0, z_iv0, z_ip0, z_is1, z_iv1, z_ip1, z_is2, z_iv2, z_ip2, z_is3, z_iv3, z_ip3, z_is4, z_iv4, z_ip4, z_is5, z_iv5, z_ip5, z_is6, z_iv6, z_ip6, z_is7, z_iv7, z_ip7, z_m991, z_m992, z_m993, z_m994, z_m995, z_m996, z_m998, acal_0, acal_1, acal_2, acal_3, acal_4, aK_v, aK_n, sF_c, sF_n, b_nr, b_nn, r_I, r_Z, r_L, r_A, r_V, sw_F, sw_n, gd_tt, is01_bzT, is01_0, is01_1, qrv_s, qrv_n, bi_eq_t, bi_eq_f, bi_ne_t, bi_ne_f, bi_lt_t, bi_lt_f, bi_ge_t, bi_ge_f, bi_gt_t, bi_gt_f, bi_le_t, bi_le_f, bc_eq_t, bc_eq_f, bc_ne_t, bc_ne_f, bc_lt_t, bc_lt_f, bc_ge_t, bc_ge_f, bc_gt_t, bc_gt_f, bc_le_t, bc_le_f, bb_eq_t, bb_eq_f, bb_ne_t, bb_ne_f, sc_t, sc_f, b_nr, b_nn, mI_J, mI_R, mJ_I, mJ_R, mR_I, mR_J, mK_I, mK_J, mK_R, mN_I, mN_J, mN_R, inM_I, inM_J, inM_R, mZ_nc, mZ_nk, mZ_sm, mZ_J, mZ_R, mJ_nc, mJ_ni, mJ_sm, mI_Z, iz_add, iz_sub, iz_mul, iz_neg, iz_lt, iz_le, iz_eq, iz_clamp, iz_inB, iz_div, iz_rem, shK h, shR h, inM_lit, and_self, true_and, and_true, true_or, or_true, not_true_eq_false, not_false_eq_true, Nat.reduceEqDiff, reduceCtorEq, Int.reduceNeg, Int.reduceSub, Int.reduceAdd, Int.reduceMul, Int.reduceToNat, Int.reduceEq, Int.neg_neg, Int.cast_ofNat_Int, Nat.reduceAdd, Nat.reduceMul, Nat.reduceSub, gd_t, emod_r, iz_0, Int.zero_add, Int.add_zero, wp_some]
      exact fin
  | s :: ss, i, n, p, q, a, M, P, hik, hn, hsp, h, hX, hS, hp, hq, hap, hz, hP => by
    rw [pSs_cons] at hP
    rw [List.length_cons] at hik hn
    refine x_sum1 hm (by omega) h hX hS hp hq (by omega) hz (fun r M1 D1 tk => ?_) (fun p1 q1 cs D r r1 r2 r3 r4 M1 D1 S1 C1 f1 => ?_)
    · refine hP 0 M1 ⟨D1, Or.inr ⟨rfl, ?_⟩⟩
      generalize pE c v (fwOf law) (lwOf law) 30 0 0 p q a = R at *
      obtain ⟨rb, p1, q1, cs, D⟩ := R
      have r : rb = false := r
      subst r
      exact ⟨rfl, tk⟩
    · rw [r, pThen_t] at hP
      have h1 := D1.shp h (fun i k hi => DSs_8 hi)
      have hN1 := h1.1
      have X1 := TX_S hX D1
      have N4 := hX.1
      have hc0 := hX.2.1
      obtain ⟨n', rfl⟩ : ∃ n', n = n' + 1 := ⟨n - 1, by omega⟩
      obtain ⟨k, k1, k2, k3⟩ := hsp 0 s rfl
      have sp := X1.2.2.2.1 p1 r2
      have sb := sAt_b sp
      have sw := sAt_word sp k1
      have ex : fb + ((i + 1 : Nat) : Int) - 1 = 300 + ((sig.getD k 0 : Nat) : Int) := by omega
      have xb := sig_30 k k1
      have xt := x_takes (d := d + 92) (p := p1) (x := 300 + ((sig.getD k 0 : Nat) : Int)) h1 S1.1 (by omega) rfl sb (by omega)
      rw [show d + 92 + 1 = d + 93 by omega] at xt
      have lt1 : ((i + 1 : Nat) : Int) < (many : Int) := by omega
      have gt0 : 0 < ((i + 1 : Nat) : Int) := by omega
      have ib : ((i + 1 : Nat) : Int) ≤ 4 := by omega
      have mb : (many : Int) ≤ 4 := by omega
      rw [lp_s]
      have again := fun M2 h2 X2 S2 => x_sums_lp (c := c) (v := v) (N := N) (m := m) (many := many) (d := d) (fb := fb) (law := law) hm hmany hfb ss (i + 1) n' (p1 + 1) q1 (a + cs.length + 1) M2 P (by omega) (by omega) (fun j s2 q2 => by
        obtain ⟨k', a1, a2, a3⟩ := hsp (j + 1) s2 q2
        exact ⟨k', a1, a2, by omega⟩) h2 X2 S2
      generalize ((i + 1 : Nat) : Int) = i1 at *
      simp (disch := first | assumption | decide | omega) only [n_276_0, n_276_78, f_276_2, z_iconst, z_bipush, z_sipush, z_ldc, z_ldcs, z_ldcw, z_ldc2, z_lconst0, z_lconst1, z_null, z_getstatic, z_iload_0, z_iload_1, z_iload_2, z_iload_3, z_iload, z_istore_0, z_istore_1, z_istore_2, z_istore_3, z_istore, z_lload_0, z_lload_1, z_lload_2, z_lload_3, z_lload, z_lstore_0, z_lstore_1, z_lstore_2, z_lstore_3, z_lstore, z_aload_0, z_aload_1, z_aload_2, z_aload_3, z_aload, z_astore_0, z_astore_1, z_astore_2, z_astore_3, z_astore, ald_0, ald_s, z_iinc, qst1_1i, qst2_1i, qst1_1r, qst2_1r, qst1_1u, qst2_1u, qst1_1n, qst2_1n, qst1_1l, qst2_1l, qst1_0, qst2_0, qst1_s, qst2_s, z_iadd, z_isub, z_imul, z_iand, z_ior, z_ixor, z_ishl, z_ishr, z_idiv, z_irem, z_ladd, z_lsub, z_lmul, z_land, z_lor, z_ldiv, z_lrem, z_ineg, z_lshl, z_lshr, z_i2l, z_l2i, z_i2b, z_i2c, z_lcmp, z_dupi, z_dupr, z_popi, z_popr, z_dup2, z_goto, z_get0, z_get1, z_get2, z_get3, z_put0, z_put1, z_put2, z_put2n, z_put3, z_iaload, z_baload, z_laload, z_aaload, z_iastore, z_bastore, z_lastore, z_aastore, z_aastoren, z_arraylength, z_new, z_newarray, z_anewarray, z_multi, z_objinit, z_is0, z_iv0, z_ip0, z_is1, z_iv1, z_ip1, z_is2, z_iv2, z_ip2, z_is3, z_iv3, z_ip3, z_is4, z_iv4, z_ip4, z_is5, z_iv5, z_ip5, z_is6, z_iv6, z_ip6, z_is7, z_iv7, z_ip7, z_m991, z_m992, z_m993, z_m994, z_m995, z_m996, z_m998, acal_0, acal_1, acal_2, acal_3, acal_4, aK_v, aK_n, sF_c, sF_n, b_nr, b_nn, r_I, r_Z, r_L, r_A, r_V, sw_F, sw_n, gd_tt, is01_bzT, is01_0, is01_1, qrv_s, qrv_n, bi_eq_t, bi_eq_f, bi_ne_t, bi_ne_f, bi_lt_t, bi_lt_f, bi_ge_t, bi_ge_f, bi_gt_t, bi_gt_f, bi_le_t, bi_le_f, bc_eq_t, bc_eq_f, bc_ne_t, bc_ne_f, bc_lt_t, bc_lt_f, bc_ge_t, bc_ge_f, bc_gt_t, bc_gt_f, bc_le_t, bc_le_f, bb_eq_t, bb_eq_f, bb_ne_t, bb_ne_f, sc_t, sc_f, b_nr, b_nn, mI_J, mI_R, mJ_I, mJ_R, mR_I, mR_J, mK_I, mK_J, mK_R, mN_I, mN_J, mN_R, inM_I, inM_J, inM_R, mZ_nc, mZ_nk, mZ_sm, mZ_J, mZ_R, mJ_nc, mJ_ni, mJ_sm, mI_Z, iz_add, iz_sub, iz_mul, iz_neg, iz_lt, iz_le, iz_eq, iz_clamp, iz_inB, iz_div, iz_rem, shK h, shR h, inM_lit, and_self, true_and, and_true, true_or, or_true, not_true_eq_false, not_false_eq_true, Nat.reduceEqDiff, reduceCtorEq, Int.reduceNeg, Int.reduceSub, Int.reduceAdd, Int.reduceMul, Int.reduceToNat, Int.reduceEq, Int.neg_neg, Int.cast_ofNat_Int, Nat.reduceAdd, Nat.reduceMul, Nat.reduceSub, gd_t, emod_r, iz_0, Int.zero_add, Int.add_zero, wp_some, ex, shK h1, shR h1]
      refine wp_cI xt (fun z M2 r => ?_)
      rcases r with ⟨rfl, r, rfl⟩ | ⟨rfl, r, rfl⟩
      · have cs1 : c p1 = s := by rw [k2]; exact sw.mp r
        rw [if_pos cs1] at hP
        have pN : p1 < N := by
          rcases Nat.lt_or_ge p1 N with z | z
          · exact z
          · have := hc0 p1 z; omega
        obtain ⟨b1, b2, b3, b4⟩ := S1
        have D2 : Dif M1 (qsI M1 183 5 (iz ((p1 : Int) + 1))) (DSs m (i + 1)) := Dif.rfl'.I (Or.inl (by unfold DRy; omega))
        have S2 : XS (qsI M1 183 5 (iz ((p1 : Int) + 1))) (p1 + 1) q1 0 (a + cs.length + 1) := ⟨mZ_sm rfl (by omega) (by omega), by rw [mZ_nk (by decide)]; exact b2, by rw [mZ_nk (by decide)]; exact b3, by rw [mZ_nc (by decide)]; exact b4⟩
        have z2 : mZ (qsI M1 183 5 (iz ((p1 : Int) + 1))) 184 5 = (m : Int) + 1 := by
          rw [mZ_nc (by decide), D1.z (by unfold DSs DRy; omega)]
          exact hz
        have C2 : CdR M (qsI M1 183 5 (iz ((p1 : Int) + 1))) a (cs ++ [0]) := CdR_k C1 (fun k => mZ_nc (by decide))
        have f2 : mZ (qsI M1 183 5 (iz ((p1 : Int) + 1))) 186 (4 * m + i) = (a : Int) := by rw [mZ_nc (by decide)]; exact f1
        have h2 := D2.shp h1 (fun i k hi => DSs_8 hi)
        have X2 := TX_S X1 D2
        have D12 : Dif M (qsI M1 183 5 (iz ((p1 : Int) + 1))) (DSs m i) := D1.tr (D2.mono (fun i k q => by unfold DSs DRy at q ⊢; omega))
        generalize qsI M1 183 5 (iz ((p1 : Int) + 1)) = M2 at *
        have fin := again M2 h2 X2 S2 (by omega) r3 (by omega) z2 (fun z M3 r3 => ?_)
        · simp (disch := first | assumption | decide | omega) only [n_276_0, n_276_78, f_276_2, z_iconst, z_bipush, z_sipush, z_ldc, z_ldcs, z_ldcw, z_ldc2, z_lconst0, z_lconst1, z_null, z_getstatic, z_iload_0, z_iload_1, z_iload_2, z_iload_3, z_iload, z_istore_0, z_istore_1, z_istore_2, z_istore_3, z_istore, z_lload_0, z_lload_1, z_lload_2, z_lload_3, z_lload, z_lstore_0, z_lstore_1, z_lstore_2, z_lstore_3, z_lstore, z_aload_0, z_aload_1, z_aload_2, z_aload_3, z_aload, z_astore_0, z_astore_1, z_astore_2, z_astore_3, z_astore, ald_0, ald_s, z_iinc, qst1_1i, qst2_1i, qst1_1r, qst2_1r, qst1_1u, qst2_1u, qst1_1n, qst2_1n, qst1_1l, qst2_1l, qst1_0, qst2_0, qst1_s, qst2_s, z_iadd, z_isub, z_imul, z_iand, z_ior, z_ixor, z_ishl, z_ishr, z_idiv, z_irem, z_ladd, z_lsub, z_lmul, z_land, z_lor, z_ldiv, z_lrem, z_ineg, z_lshl, z_lshr, z_i2l, z_l2i, z_i2b, z_i2c, z_lcmp, z_dupi, z_dupr, z_popi, z_popr, z_dup2, z_goto, z_get0, z_get1, z_get2, z_get3, z_put0, z_put1, z_put2, z_put2n, z_put3, z_iaload, z_baload, z_laload, z_aaload, z_iastore, z_bastore, z_lastore, z_aastore, z_aastoren, z_arraylength, z_new, z_newarray, z_anewarray, z_multi, z_objinit, z_is0, z_iv0, z_ip0, z_is1, z_iv1, z_ip1, z_is2, z_iv2, z_ip2, z_is3, z_iv3, z_ip3, z_is4, z_iv4, z_ip4, z_is5, z_iv5, z_ip5, z_is6, z_iv6, z_ip6, z_is7, z_iv7, z_ip7, z_m991, z_m992, z_m993, z_m994, z_m995, z_m996, z_m998, acal_0, acal_1, acal_2, acal_3, acal_4, aK_v, aK_n, sF_c, sF_n, b_nr, b_nn, r_I, r_Z, r_L, r_A, r_V, sw_F, sw_n, gd_tt, is01_bzT, is01_0, is01_1, qrv_s, qrv_n, bi_eq_t, bi_eq_f, bi_ne_t, bi_ne_f, bi_lt_t, bi_lt_f, bi_ge_t, bi_ge_f, bi_gt_t, bi_gt_f, bi_le_t, bi_le_f, bc_eq_t, bc_eq_f, bc_ne_t, bc_ne_f, bc_lt_t, bc_lt_f, bc_ge_t, bc_ge_f, bc_gt_t, bc_gt_f, bc_le_t, bc_le_f, bb_eq_t, bb_eq_f, bb_ne_t, bb_ne_f, sc_t, sc_f, b_nr, b_nn, mI_J, mI_R, mJ_I, mJ_R, mR_I, mR_J, mK_I, mK_J, mK_R, mN_I, mN_J, mN_R, inM_I, inM_J, inM_R, mZ_nc, mZ_nk, mZ_sm, mZ_J, mZ_R, mJ_nc, mJ_ni, mJ_sm, mI_Z, iz_add, iz_sub, iz_mul, iz_neg, iz_lt, iz_le, iz_eq, iz_clamp, iz_inB, iz_div, iz_rem, shK h, shR h, inM_lit, and_self, true_and, and_true, true_or, or_true, not_true_eq_false, not_false_eq_true, Nat.reduceEqDiff, reduceCtorEq, Int.reduceNeg, Int.reduceSub, Int.reduceAdd, Int.reduceMul, Int.reduceToNat, Int.reduceEq, Int.neg_neg, Int.cast_ofNat_Int, Nat.reduceAdd, Nat.reduceMul, Nat.reduceSub, gd_t, emod_r, iz_0, Int.zero_add, Int.add_zero, wp_some]
          exact fin
        · obtain ⟨D3, r3⟩ := r3
          refine hP z M3 ⟨D12.tr (D3.mono (fun i k q => by unfold DSs DRy at q ⊢; omega)), ?_⟩
          generalize pSs c v (fwOf law) (lwOf law) ss (p1 + 1) q1 (a + cs.length + 1) = R at *
          obtain ⟨rb, p2, q2, cs2, Ds⟩ := R
          rcases r3 with ⟨rz, rt, S3, C3, f3⟩ | ⟨rz, rt, tk⟩
          · have rt : rb = true := rt
            subst rt
            refine Or.inl ⟨rz, rfl, ?_, ?_, fun j s2 q2 => ?_⟩
            · show XS M3 p2 q2 0 (a + (cs ++ 0 :: cs2).length)
              rw [List.length_append, List.length_cons, show a + (cs.length + (cs2.length + 1)) = a + cs.length + 1 + cs2.length by omega]
              exact S3
            · show CdR M M3 a (cs ++ 0 :: cs2)
              have := CdR_app C2 (by
                rw [List.length_append, List.length_cons, List.length_nil, show a + (cs.length + (0 + 1)) = a + cs.length + 1 by omega]
                exact C3)
              rw [List.append_assoc, List.singleton_append] at this
              exact this
            · cases j with
              | zero =>
                have e : ((a, D) : Nat × Den) = s2 := Option.some.inj q2
                rw [← e, Nat.add_zero, D3.z (by unfold DSs DRy; omega)]
                exact f2
              | succ j =>
                have := f3 j s2 q2
                rw [show 4 * m + i + (j + 1) = 4 * m + (i + 1) + j by omega]
                exact this
          · have rt : rb = false := rt
            subst rt
            exact Or.inr ⟨rz, rfl, tk⟩
      · have cs1 : ¬ c p1 = s := fun y => r (sw.mpr (by rw [y, k2]))
        rw [if_neg cs1] at hP
        have fin := hP 0 M2 ⟨D1, Or.inr ⟨rfl, rfl, S1.1⟩⟩
        simp (disch := first | assumption | decide | omega) only [n_276_0, n_276_78, f_276_2, z_iconst, z_bipush, z_sipush, z_ldc, z_ldcs, z_ldcw, z_ldc2, z_lconst0, z_lconst1, z_null, z_getstatic, z_iload_0, z_iload_1, z_iload_2, z_iload_3, z_iload, z_istore_0, z_istore_1, z_istore_2, z_istore_3, z_istore, z_lload_0, z_lload_1, z_lload_2, z_lload_3, z_lload, z_lstore_0, z_lstore_1, z_lstore_2, z_lstore_3, z_lstore, z_aload_0, z_aload_1, z_aload_2, z_aload_3, z_aload, z_astore_0, z_astore_1, z_astore_2, z_astore_3, z_astore, ald_0, ald_s, z_iinc, qst1_1i, qst2_1i, qst1_1r, qst2_1r, qst1_1u, qst2_1u, qst1_1n, qst2_1n, qst1_1l, qst2_1l, qst1_0, qst2_0, qst1_s, qst2_s, z_iadd, z_isub, z_imul, z_iand, z_ior, z_ixor, z_ishl, z_ishr, z_idiv, z_irem, z_ladd, z_lsub, z_lmul, z_land, z_lor, z_ldiv, z_lrem, z_ineg, z_lshl, z_lshr, z_i2l, z_l2i, z_i2b, z_i2c, z_lcmp, z_dupi, z_dupr, z_popi, z_popr, z_dup2, z_goto, z_get0, z_get1, z_get2, z_get3, z_put0, z_put1, z_put2, z_put2n, z_put3, z_iaload, z_baload, z_laload, z_aaload, z_iastore, z_bastore, z_lastore, z_aastore, z_aastoren, z_arraylength, z_new, z_newarray, z_anewarray, z_multi, z_objinit, z_is0, z_iv0, z_ip0, z_is1, z_iv1, z_ip1, z_is2, z_iv2, z_ip2, z_is3, z_iv3, z_ip3, z_is4, z_iv4, z_ip4, z_is5, z_iv5, z_ip5, z_is6, z_iv6, z_ip6, z_is7, z_iv7, z_ip7, z_m991, z_m992, z_m993, z_m994, z_m995, z_m996, z_m998, acal_0, acal_1, acal_2, acal_3, acal_4, aK_v, aK_n, sF_c, sF_n, b_nr, b_nn, r_I, r_Z, r_L, r_A, r_V, sw_F, sw_n, gd_tt, is01_bzT, is01_0, is01_1, qrv_s, qrv_n, bi_eq_t, bi_eq_f, bi_ne_t, bi_ne_f, bi_lt_t, bi_lt_f, bi_ge_t, bi_ge_f, bi_gt_t, bi_gt_f, bi_le_t, bi_le_f, bc_eq_t, bc_eq_f, bc_ne_t, bc_ne_f, bc_lt_t, bc_lt_f, bc_ge_t, bc_ge_f, bc_gt_t, bc_gt_f, bc_le_t, bc_le_f, bb_eq_t, bb_eq_f, bb_ne_t, bb_ne_f, sc_t, sc_f, b_nr, b_nn, mI_J, mI_R, mJ_I, mJ_R, mR_I, mR_J, mK_I, mK_J, mK_R, mN_I, mN_J, mN_R, inM_I, inM_J, inM_R, mZ_nc, mZ_nk, mZ_sm, mZ_J, mZ_R, mJ_nc, mJ_ni, mJ_sm, mI_Z, iz_add, iz_sub, iz_mul, iz_neg, iz_lt, iz_le, iz_eq, iz_clamp, iz_inB, iz_div, iz_rem, shK h, shR h, inM_lit, and_self, true_and, and_true, true_or, or_true, not_true_eq_false, not_false_eq_true, Nat.reduceEqDiff, reduceCtorEq, Int.reduceNeg, Int.reduceSub, Int.reduceAdd, Int.reduceMul, Int.reduceToNat, Int.reduceEq, Int.neg_neg, Int.cast_ofNat_Int, Nat.reduceAdd, Nat.reduceMul, Nat.reduceSub, gd_t, emod_r, iz_0, Int.zero_add, Int.add_zero, wp_some]
        exact fin
theorem x_readSums {c v : Nat → Int} {N m many d p q a : Nat} {fb : Int} {law : Bool} {ss : List Int} {M : qMe} (hm : m < 12) (hmany : ss.length + 1 = many) (h4 : many ≤ 4) (hfb : 0 ≤ fb ∧ fb ≤ 320) (hsp : sepX fb 0 ss) (h : shp M) (hX : TX M c v N law) (hS : XS M p q 0 a) (hp : p ≤ N) (hq : q ≤ 50) (hap : a + 1 ≤ p) (hz : mZ M 184 5 = (m : Int) + 1) : wI (cal (d + 94) 276 [.ref 183, .int (iz (many : Int)), .int (iz fb)] M) (fun z M1 => XRS M M1 z m 0 a (pSs c v (fwOf law) (lwOf law) ss p q a)) := by
  refine wI_q (fun P hP => ?_)
  have hN := h.1
  obtain ⟨n, hn⟩ : ∃ n, qLF = n + 1 := ⟨qLF - 1, by have := qLF_ge; omega⟩
  have hn2 := qLF_ge
  have z := x_sums_lp (c := c) (v := v) (N := N) (m := m) (many := many) (d := d) (fb := fb) (law := law) hm h4 hfb ss 0 n p q a M P (by omega) (by omega) hsp h hX hS hp hq hap hz hP
  have z : wp (n_276_25 (cal (d + 93)) (lp (f_276_2 (cal (d + 93))) n) [some (.ref 183), some (.int (iz (many : Int))), some (.int (iz fb)), some (.int (iz 0))] [] M) P := z
  have m0 : ¬ (many : Int) ≤ 0 := by omega
  have mb : (many : Int) ≤ 4 := by omega
  show wp (cal ((d + 93) + 1) 276 [.ref 183, .int (iz (many : Int)), .int (iz fb)] M) P
  rw [cal_276, gd_t (Nat.le_of_ble_eq_true rfl)]
  change wp (n_276_0 (cal _) [some (.ref 183), some (.int (iz (many : Int))), some (.int (iz fb)), none] [] _) _
  simp (disch := first | assumption | decide | omega) only [n_276_0, n_276_78, n_276_2, z_iconst, z_bipush, z_sipush, z_ldc, z_ldcs, z_ldcw, z_ldc2, z_lconst0, z_lconst1, z_null, z_getstatic, z_iload_0, z_iload_1, z_iload_2, z_iload_3, z_iload, z_istore_0, z_istore_1, z_istore_2, z_istore_3, z_istore, z_lload_0, z_lload_1, z_lload_2, z_lload_3, z_lload, z_lstore_0, z_lstore_1, z_lstore_2, z_lstore_3, z_lstore, z_aload_0, z_aload_1, z_aload_2, z_aload_3, z_aload, z_astore_0, z_astore_1, z_astore_2, z_astore_3, z_astore, ald_0, ald_s, z_iinc, qst1_1i, qst2_1i, qst1_1r, qst2_1r, qst1_1u, qst2_1u, qst1_1n, qst2_1n, qst1_1l, qst2_1l, qst1_0, qst2_0, qst1_s, qst2_s, z_iadd, z_isub, z_imul, z_iand, z_ior, z_ixor, z_ishl, z_ishr, z_idiv, z_irem, z_ladd, z_lsub, z_lmul, z_land, z_lor, z_ldiv, z_lrem, z_ineg, z_lshl, z_lshr, z_i2l, z_l2i, z_i2b, z_i2c, z_lcmp, z_dupi, z_dupr, z_popi, z_popr, z_dup2, z_goto, z_get0, z_get1, z_get2, z_get3, z_put0, z_put1, z_put2, z_put2n, z_put3, z_iaload, z_baload, z_laload, z_aaload, z_iastore, z_bastore, z_lastore, z_aastore, z_aastoren, z_arraylength, z_new, z_newarray, z_anewarray, z_multi, z_objinit, z_is0, z_iv0, z_ip0, z_is1, z_iv1, z_ip1, z_is2, z_iv2, z_ip2, z_is3, z_iv3, z_ip3, z_is4, z_iv4, z_ip4, z_is5, z_iv5, z_ip5, z_is6, z_iv6, z_ip6, z_is7, z_iv7, z_ip7, z_m991, z_m992, z_m993, z_m994, z_m995, z_m996, z_m998, acal_0, acal_1, acal_2, acal_3, acal_4, aK_v, aK_n, sF_c, sF_n, b_nr, b_nn, r_I, r_Z, r_L, r_A, r_V, sw_F, sw_n, gd_tt, is01_bzT, is01_0, is01_1, qrv_s, qrv_n, bi_eq_t, bi_eq_f, bi_ne_t, bi_ne_f, bi_lt_t, bi_lt_f, bi_ge_t, bi_ge_f, bi_gt_t, bi_gt_f, bi_le_t, bi_le_f, bc_eq_t, bc_eq_f, bc_ne_t, bc_ne_f, bc_lt_t, bc_lt_f, bc_ge_t, bc_ge_f, bc_gt_t, bc_gt_f, bc_le_t, bc_le_f, bb_eq_t, bb_eq_f, bb_ne_t, bb_ne_f, sc_t, sc_f, b_nr, b_nn, mI_J, mI_R, mJ_I, mJ_R, mR_I, mR_J, mK_I, mK_J, mK_R, mN_I, mN_J, mN_R, inM_I, inM_J, inM_R, mZ_nc, mZ_nk, mZ_sm, mZ_J, mZ_R, mJ_nc, mJ_ni, mJ_sm, mI_Z, iz_add, iz_sub, iz_mul, iz_neg, iz_lt, iz_le, iz_eq, iz_clamp, iz_inB, iz_div, iz_rem, shK h, shR h, inM_lit, and_self, true_and, and_true, true_or, or_true, not_true_eq_false, not_false_eq_true, Nat.reduceEqDiff, reduceCtorEq, Int.reduceNeg, Int.reduceSub, Int.reduceAdd, Int.reduceMul, Int.reduceToNat, Int.reduceEq, Int.neg_neg, Int.cast_ofNat_Int, Nat.reduceAdd, Nat.reduceMul, Nat.reduceSub, gd_t, emod_r, iz_0, Int.zero_add, Int.add_zero, wp_some, hn]
  rw [lp_s]
  simp (disch := first | assumption | decide | omega) only [n_276_0, n_276_78, f_276_2, z_iconst, z_bipush, z_sipush, z_ldc, z_ldcs, z_ldcw, z_ldc2, z_lconst0, z_lconst1, z_null, z_getstatic, z_iload_0, z_iload_1, z_iload_2, z_iload_3, z_iload, z_istore_0, z_istore_1, z_istore_2, z_istore_3, z_istore, z_lload_0, z_lload_1, z_lload_2, z_lload_3, z_lload, z_lstore_0, z_lstore_1, z_lstore_2, z_lstore_3, z_lstore, z_aload_0, z_aload_1, z_aload_2, z_aload_3, z_aload, z_astore_0, z_astore_1, z_astore_2, z_astore_3, z_astore, ald_0, ald_s, z_iinc, qst1_1i, qst2_1i, qst1_1r, qst2_1r, qst1_1u, qst2_1u, qst1_1n, qst2_1n, qst1_1l, qst2_1l, qst1_0, qst2_0, qst1_s, qst2_s, z_iadd, z_isub, z_imul, z_iand, z_ior, z_ixor, z_ishl, z_ishr, z_idiv, z_irem, z_ladd, z_lsub, z_lmul, z_land, z_lor, z_ldiv, z_lrem, z_ineg, z_lshl, z_lshr, z_i2l, z_l2i, z_i2b, z_i2c, z_lcmp, z_dupi, z_dupr, z_popi, z_popr, z_dup2, z_goto, z_get0, z_get1, z_get2, z_get3, z_put0, z_put1, z_put2, z_put2n, z_put3, z_iaload, z_baload, z_laload, z_aaload, z_iastore, z_bastore, z_lastore, z_aastore, z_aastoren, z_arraylength, z_new, z_newarray, z_anewarray, z_multi, z_objinit, z_is0, z_iv0, z_ip0, z_is1, z_iv1, z_ip1, z_is2, z_iv2, z_ip2, z_is3, z_iv3, z_ip3, z_is4, z_iv4, z_ip4, z_is5, z_iv5, z_ip5, z_is6, z_iv6, z_ip6, z_is7, z_iv7, z_ip7, z_m991, z_m992, z_m993, z_m994, z_m995, z_m996, z_m998, acal_0, acal_1, acal_2, acal_3, acal_4, aK_v, aK_n, sF_c, sF_n, b_nr, b_nn, r_I, r_Z, r_L, r_A, r_V, sw_F, sw_n, gd_tt, is01_bzT, is01_0, is01_1, qrv_s, qrv_n, bi_eq_t, bi_eq_f, bi_ne_t, bi_ne_f, bi_lt_t, bi_lt_f, bi_ge_t, bi_ge_f, bi_gt_t, bi_gt_f, bi_le_t, bi_le_f, bc_eq_t, bc_eq_f, bc_ne_t, bc_ne_f, bc_lt_t, bc_lt_f, bc_ge_t, bc_ge_f, bc_gt_t, bc_gt_f, bc_le_t, bc_le_f, bb_eq_t, bb_eq_f, bb_ne_t, bb_ne_f, sc_t, sc_f, b_nr, b_nn, mI_J, mI_R, mJ_I, mJ_R, mR_I, mR_J, mK_I, mK_J, mK_R, mN_I, mN_J, mN_R, inM_I, inM_J, inM_R, mZ_nc, mZ_nk, mZ_sm, mZ_J, mZ_R, mJ_nc, mJ_ni, mJ_sm, mI_Z, iz_add, iz_sub, iz_mul, iz_neg, iz_lt, iz_le, iz_eq, iz_clamp, iz_inB, iz_div, iz_rem, shK h, shR h, inM_lit, and_self, true_and, and_true, true_or, or_true, not_true_eq_false, not_false_eq_true, Nat.reduceEqDiff, reduceCtorEq, Int.reduceNeg, Int.reduceSub, Int.reduceAdd, Int.reduceMul, Int.reduceToNat, Int.reduceEq, Int.neg_neg, Int.cast_ofNat_Int, Nat.reduceAdd, Nat.reduceMul, Nat.reduceSub, gd_t, emod_r, iz_0, Int.zero_add, Int.add_zero, wp_some]
  exact z

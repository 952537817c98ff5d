/-! m runs all ORDERS of a TEXT -/
def itM (it : Itm) : Prop := (1 ≤ it.2.2.2 ∧ it.2.2.2 ≤ 20) ∧ ∀ (e : Nat → Int) (zs : List Int), (∀ k, -1000000000 ≤ e k ∧ e k ≤ 1000000000) → sumsV it.2.1 e = some zs → zs.length = manyO it.1 ∧ ∀ x, x ∈ zs → -1000000000 ≤ x ∧ x ≤ 1000000000
theorem kOrd_h {c : Int} (h : ¬ kOrd c = 9) : (kOrd c = 0 ∧ c = 23) ∨ (kOrd c = 1 ∧ c = 27) ∨ (kOrd c = 2 ∧ c = 29) := by
  unfold kOrd at h ⊢
  by_cases c1 : c = 23
  · rw [if_pos c1]; exact Or.inl ⟨rfl, c1⟩
  · rw [if_neg c1] at h ⊢
    by_cases c2 : c = 27
    · rw [if_pos c2]; exact Or.inr (Or.inl ⟨rfl, c2⟩)
    · rw [if_neg c2] at h ⊢
      by_cases c3 : c = 29
      · rw [if_pos c3]; exact Or.inr (Or.inr ⟨rfl, c3⟩)
      · rw [if_neg c3] at h; exact absurd rfl h
theorem runO_s {B : qMe} {it : Itm} {is : List Itm} {i : Nat} {o o1 : OS} (h : repO B it it.2.2.2.toNat o = some o1) : runO B (it :: is) i o = runO B is (i + 1) o1 := by
  rw [runO, h]
theorem runO_n {B : qMe} {it : Itm} {is : List Itm} {i : Nat} {o : OS} (h : repO B it it.2.2.2.toNat o = none) : runO B (it :: is) i o = (false, i, o) := by
  rw [runO, h]
set_option maxHeartbeats 2000000 in
theorem m_runAll {d N : Nat} {B M0 : qMe} {x um : Int} {c v : Nat → Int} {P : Option Value → qMe → Prop} (hx : x = 2400 + (N : Int)) : ∀ (m p q a p1 q1 i fuel : Nat) (cs : List Int) (is : List Itm) (o : OS) (M : qMe) (D : Int), pTxt c v false N m p q a = (true, p1, q1, cs, is) → is.length + 1 ≤ fuel → p ≤ N → q ≤ 50 → (∀ it, it ∈ is → itM it) → MI B M o → boO o D → D + 20 * (is.length : Int) ≤ 900 → Frm M0 M DMr → Tk6 M c v N → mZ M 479 61 = 2400 + (p : Int) → (∀ M' i' o', runO B is i o = (true, i', o') → MI B M' o' → boO o' 930 → Frm M0 M' DMr → P (some (.int (iz o'.2.2.2.1))) (qsI M' 479 0 (iz 0))) → (∀ M' i' o' v4, runO B is i o = (false, i', o') → Frm M0 M' DMr → shp M' → wp (n_203_142 (cal (d + 169)) [some (.ref 479), some (.int (iz um)), some (.int (iz x)), some (.int (iz ((i' : Nat) : Int))), v4] [] M') P) → wp (lp (f_203_123 (cal (d + 169))) fuel [some (.ref 479), some (.int (iz um)), some (.int (iz x)), some (.int (iz (i : Int))), none] [] M) P
  | 0, p, q, a, p1, q1, i, fuel, cs, is, o, M, D, hT, _, _, _, _, _, _, _, _, _, _, _, _ => by cases hT
  | m + 1, p, q, a, p1, q1, i, fuel, cs, is, o, M, D, hT, hf, hp, hq, hit, hM, hb, hD, hF, hTk, hoa, hP1, hP0 => by
    obtain ⟨N4, tk, tk0, tv⟩ := id hTk
    unfold pTxt at hT
    obtain ⟨p2, q2, cs2, it, eI, e2⟩ := pThen_ok (by rw [hT])
    rw [e2] at hT
    clear e2
    have ok := pItm_ok tk0 tv hp hq eI
    obtain ⟨fu, rfl⟩ : ∃ fu, fuel = fu + 1 := ⟨fuel - 1, by omega⟩
    have h := hM.1.1
    have hN := h.1
    obtain ⟨ps, qs, css, Ss, pt, qt, t, cs3, T, k9, -, -, -, rfl⟩ := pItm_ord eI
    have kh := kOrd_h k9
    have pN : (p : Int) < (N : Int) := by omega
    -- one ORDER
    have one : ∀ is2, is = (kOrd (c p), Ss, T, t) :: is2 → (∀ (o1 : OS) (M1 : qMe), runO B is i o = runO B is2 (i + 1) o1 → MI B M1 o1 → boO o1 (D + 20) → Frm M0 M1 DMr → Tk6 M1 c v N → mZ M1 479 61 = 2400 + (p2 : Int) + 1 → wp (lp (f_203_123 (cal (d + 169))) fu [some (.ref 479), some (.int (iz um)), some (.int (iz x)), some (.int (iz ((i + 1 : Nat) : Int))), none] [] M1) P) → wp (lp (f_203_123 (cal (d + 169))) (fu + 1) [some (.ref 479), some (.int (iz um)), some (.int (iz x)), some (.int (iz (i : Int))), none] [] M) P := fun is2 eis hn => by
      subst eis
      have im := hit _ (List.mem_cons_self ..)
      have ln : (((kOrd (c p), Ss, T, t) :: is2).length : Int) = (is2.length : Int) + 1 := by rw [List.length_cons]; rfl
      have ru := m_runs (d := d) hM hb (by omega) hTk hx hoa eI hp hq (by omega) im.1 kh im.2
      rw [lp_s]
      simp (disch := first | assumption | decide | omega) only [n_203_0, n_203_47, n_203_74, n_203_173, n_203_204, f_203_22, f_203_49, f_203_123, f_203_145, f_203_176, z_iconst, z_bipush, z_sipush, z_ldc, z_ldcs, z_ldcw, z_ldc2, z_lconst0, z_lconst1, z_null, z_getstatic, z_iload_0, z_iload_1, z_iload_2, z_iload_3, z_iload, z_istore_0, z_istore_1, z_istore_2, z_istore_3, z_istore, z_lload_0, z_lload_1, z_lload_2, z_lload_3, z_lload, z_lstore_0, z_lstore_1, z_lstore_2, z_lstore_3, z_lstore, z_aload_0, z_aload_1, z_aload_2, z_aload_3, z_aload, z_astore_0, z_astore_1, z_astore_2, z_astore_3, z_astore, ald_0, ald_s, z_iinc, qst1_1i, qst2_1i, qst1_1r, qst2_1r, qst1_1u, qst2_1u, qst1_1n, qst2_1n, qst1_1l, qst2_1l, qst1_0, qst2_0, qst1_s, qst2_s, z_iadd, z_isub, z_imul, z_iand, z_ior, z_ixor, z_ishl, z_ishr, z_idiv, z_irem, z_ladd, z_lsub, z_lmul, z_land, z_lor, z_ldiv, z_lrem, z_ineg, z_lshl, z_lshr, z_i2l, z_l2i, z_i2b, z_i2c, z_lcmp, z_dupi, z_dupr, z_popi, z_popr, z_dup2, z_goto, z_get0, z_get1, z_get2, z_get3, z_put0, z_put1, z_put2, z_put2n, z_put3, z_iaload, z_baload, z_laload, z_aaload, z_iastore, z_bastore, z_lastore, z_aastore, z_aastoren, z_arraylength, z_new, z_newarray, z_anewarray, z_multi, z_objinit, z_is0, z_iv0, z_ip0, z_is1, z_iv1, z_ip1, z_is2, z_iv2, z_ip2, z_is3, z_iv3, z_ip3, z_is4, z_iv4, z_ip4, z_is5, z_iv5, z_ip5, z_is6, z_iv6, z_ip6, z_is7, z_iv7, z_ip7, z_m991, z_m992, z_m993, z_m994, z_m995, z_m996, z_m998, acal_0, acal_1, acal_2, acal_3, acal_4, aK_v, aK_n, sF_c, sF_n, b_nr, b_nn, r_I, r_Z, r_L, r_A, r_V, sw_F, sw_n, gd_tt, is01_bzT, is01_0, is01_1, qrv_s, qrv_n, bi_eq_t, bi_eq_f, bi_ne_t, bi_ne_f, bi_lt_t, bi_lt_f, bi_ge_t, bi_ge_f, bi_gt_t, bi_gt_f, bi_le_t, bi_le_f, bc_eq_t, bc_eq_f, bc_ne_t, bc_ne_f, bc_lt_t, bc_lt_f, bc_ge_t, bc_ge_f, bc_gt_t, bc_gt_f, bc_le_t, bc_le_f, bb_eq_t, bb_eq_f, bb_ne_t, bb_ne_f, sc_t, sc_f, b_nr, b_nn, mI_J, mI_R, mJ_I, mJ_R, mR_I, mR_J, mK_I, mK_J, mK_R, mN_I, mN_J, mN_R, inM_I, inM_J, inM_R, mZ_nc, mZ_nk, mZ_sm, mZ_J, mZ_R, mJ_nc, mJ_ni, mJ_sm, mI_Z, iz_add, iz_sub, iz_mul, iz_neg, iz_lt, iz_le, iz_eq, iz_clamp, iz_inB, iz_div, iz_rem, shK h, shR h, inM_lit, and_self, true_and, and_true, true_or, or_true, not_true_eq_false, not_false_eq_true, Nat.reduceEqDiff, reduceCtorEq, Int.reduceNeg, Int.reduceSub, Int.reduceAdd, Int.reduceMul, Int.reduceToNat, Int.reduceEq, Int.neg_neg, Int.cast_ofNat_Int, Nat.reduceAdd, Nat.reduceMul, Nat.reduceSub, gd_t, emod_r, iz_0, Int.zero_add, Int.add_zero, wp_some, hoa]
      refine wp_cI ru (fun y M1 r => ?_)
      clear ru
      obtain ⟨F1, ⟨rfl, o1, e1, m1, b1, oa1⟩ | ⟨rfl, e1⟩⟩ := r
      · have t20 : t ≤ 20 := im.1.2
        have fin := hn o1 M1 (runO_s e1) m1 ⟨by have := b1.1; exact ⟨this.1, Int.le_trans this.2 (by show D + t ≤ D + 20; omega)⟩, by have := b1.2.1; exact ⟨this.1, Int.le_trans this.2 (by show D + t ≤ D + 20; omega)⟩, b1.2.2⟩ (hF.tr F1) (Tk6_F hTk F1 (fun i k q => (DMr_m q).2.2.1)) oa1
        clear hn hP1 hP0
        simp (disch := first | assumption | decide | omega) only [n_203_0, n_203_47, n_203_74, n_203_173, n_203_204, f_203_22, f_203_49, f_203_145, f_203_176, z_iconst, z_bipush, z_sipush, z_ldc, z_ldcs, z_ldcw, z_ldc2, z_lconst0, z_lconst1, z_null, z_getstatic, z_iload_0, z_iload_1, z_iload_2, z_iload_3, z_iload, z_istore_0, z_istore_1, z_istore_2, z_istore_3, z_istore, z_lload_0, z_lload_1, z_lload_2, z_lload_3, z_lload, z_lstore_0, z_lstore_1, z_lstore_2, z_lstore_3, z_lstore, z_aload_0, z_aload_1, z_aload_2, z_aload_3, z_aload, z_astore_0, z_astore_1, z_astore_2, z_astore_3, z_astore, ald_0, ald_s, z_iinc, qst1_1i, qst2_1i, qst1_1r, qst2_1r, qst1_1u, qst2_1u, qst1_1n, qst2_1n, qst1_1l, qst2_1l, qst1_0, qst2_0, qst1_s, qst2_s, z_iadd, z_isub, z_imul, z_iand, z_ior, z_ixor, z_ishl, z_ishr, z_idiv, z_irem, z_ladd, z_lsub, z_lmul, z_land, z_lor, z_ldiv, z_lrem, z_ineg, z_lshl, z_lshr, z_i2l, z_l2i, z_i2b, z_i2c, z_lcmp, z_dupi, z_dupr, z_popi, z_popr, z_dup2, z_goto, z_get0, z_get1, z_get2, z_get3, z_put0, z_put1, z_put2, z_put2n, z_put3, z_iaload, z_baload, z_laload, z_aaload, z_iastore, z_bastore, z_lastore, z_aastore, z_aastoren, z_arraylength, z_new, z_newarray, z_anewarray, z_multi, z_objinit, z_is0, z_iv0, z_ip0, z_is1, z_iv1, z_ip1, z_is2, z_iv2, z_ip2, z_is3, z_iv3, z_ip3, z_is4, z_iv4, z_ip4, z_is5, z_iv5, z_ip5, z_is6, z_iv6, z_ip6, z_is7, z_iv7, z_ip7, z_m991, z_m992, z_m993, z_m994, z_m995, z_m996, z_m998, acal_0, acal_1, acal_2, acal_3, acal_4, aK_v, aK_n, sF_c, sF_n, b_nr, b_nn, r_I, r_Z, r_L, r_A, r_V, sw_F, sw_n, gd_tt, is01_bzT, is01_0, is01_1, qrv_s, qrv_n, bi_eq_t, bi_eq_f, bi_ne_t, bi_ne_f, bi_lt_t, bi_lt_f, bi_ge_t, bi_ge_f, bi_gt_t, bi_gt_f, bi_le_t, bi_le_f, bc_eq_t, bc_eq_f, bc_ne_t, bc_ne_f, bc_lt_t, bc_lt_f, bc_ge_t, bc_ge_f, bc_gt_t, bc_gt_f, bc_le_t, bc_le_f, bb_eq_t, bb_eq_f, bb_ne_t, bb_ne_f, sc_t, sc_f, b_nr, b_nn, mI_J, mI_R, mJ_I, mJ_R, mR_I, mR_J, mK_I, mK_J, mK_R, mN_I, mN_J, mN_R, inM_I, inM_J, inM_R, mZ_nc, mZ_nk, mZ_sm, mZ_J, mZ_R, mJ_nc, mJ_ni, mJ_sm, mI_Z, iz_add, iz_sub, iz_mul, iz_neg, iz_lt, iz_le, iz_eq, iz_clamp, iz_inB, iz_div, iz_rem, inM_lit, and_self, true_and, and_true, true_or, or_true, not_true_eq_false, not_false_eq_true, Nat.reduceEqDiff, reduceCtorEq, Int.reduceNeg, Int.reduceSub, Int.reduceAdd, Int.reduceMul, Int.reduceToNat, Int.reduceEq, Int.neg_neg, Int.cast_ofNat_Int, Nat.reduceAdd, Nat.reduceMul, Nat.reduceSub, gd_t, emod_r, iz_0, Int.zero_add, Int.add_zero, wp_some]
        exact fin
      · have h1 := F1.shp h (fun i k hi z => by have := DMr_m z; omega)
        have fin := hP0 M1 i o none (runO_n e1) (hF.tr F1) h1
        clear hn hP1 hP0
        simp (disch := first | assumption | decide | omega) only [n_203_0, n_203_47, n_203_74, n_203_173, n_203_204, f_203_22, f_203_49, f_203_145, f_203_176, z_iconst, z_bipush, z_sipush, z_ldc, z_ldcs, z_ldcw, z_ldc2, z_lconst0, z_lconst1, z_null, z_getstatic, z_iload_0, z_iload_1, z_iload_2, z_iload_3, z_iload, z_istore_0, z_istore_1, z_istore_2, z_istore_3, z_istore, z_lload_0, z_lload_1, z_lload_2, z_lload_3, z_lload, z_lstore_0, z_lstore_1, z_lstore_2, z_lstore_3, z_lstore, z_aload_0, z_aload_1, z_aload_2, z_aload_3, z_aload, z_astore_0, z_astore_1, z_astore_2, z_astore_3, z_astore, ald_0, ald_s, z_iinc, qst1_1i, qst2_1i, qst1_1r, qst2_1r, qst1_1u, qst2_1u, qst1_1n, qst2_1n, qst1_1l, qst2_1l, qst1_0, qst2_0, qst1_s, qst2_s, z_iadd, z_isub, z_imul, z_iand, z_ior, z_ixor, z_ishl, z_ishr, z_idiv, z_irem, z_ladd, z_lsub, z_lmul, z_land, z_lor, z_ldiv, z_lrem, z_ineg, z_lshl, z_lshr, z_i2l, z_l2i, z_i2b, z_i2c, z_lcmp, z_dupi, z_dupr, z_popi, z_popr, z_dup2, z_goto, z_get0, z_get1, z_get2, z_get3, z_put0, z_put1, z_put2, z_put2n, z_put3, z_iaload, z_baload, z_laload, z_aaload, z_iastore, z_bastore, z_lastore, z_aastore, z_aastoren, z_arraylength, z_new, z_newarray, z_anewarray, z_multi, z_objinit, z_is0, z_iv0, z_ip0, z_is1, z_iv1, z_ip1, z_is2, z_iv2, z_ip2, z_is3, z_iv3, z_ip3, z_is4, z_iv4, z_ip4, z_is5, z_iv5, z_ip5, z_is6, z_iv6, z_ip6, z_is7, z_iv7, z_ip7, z_m991, z_m992, z_m993, z_m994, z_m995, z_m996, z_m998, acal_0, acal_1, acal_2, acal_3, acal_4, aK_v, aK_n, sF_c, sF_n, b_nr, b_nn, r_I, r_Z, r_L, r_A, r_V, sw_F, sw_n, gd_tt, is01_bzT, is01_0, is01_1, qrv_s, qrv_n, bi_eq_t, bi_eq_f, bi_ne_t, bi_ne_f, bi_lt_t, bi_lt_f, bi_ge_t, bi_ge_f, bi_gt_t, bi_gt_f, bi_le_t, bi_le_f, bc_eq_t, bc_eq_f, bc_ne_t, bc_ne_f, bc_lt_t, bc_lt_f, bc_ge_t, bc_ge_f, bc_gt_t, bc_gt_f, bc_le_t, bc_le_f, bb_eq_t, bb_eq_f, bb_ne_t, bb_ne_f, sc_t, sc_f, b_nr, b_nn, mI_J, mI_R, mJ_I, mJ_R, mR_I, mR_J, mK_I, mK_J, mK_R, mN_I, mN_J, mN_R, inM_I, inM_J, inM_R, mZ_nc, mZ_nk, mZ_sm, mZ_J, mZ_R, mJ_nc, mJ_ni, mJ_sm, mI_Z, iz_add, iz_sub, iz_mul, iz_neg, iz_lt, iz_le, iz_eq, iz_clamp, iz_inB, iz_div, iz_rem, inM_lit, and_self, true_and, and_true, true_or, or_true, not_true_eq_false, not_false_eq_true, Nat.reduceEqDiff, reduceCtorEq, Int.reduceNeg, Int.reduceSub, Int.reduceAdd, Int.reduceMul, Int.reduceToNat, Int.reduceEq, Int.neg_neg, Int.cast_ofNat_Int, Nat.reduceAdd, Nat.reduceMul, Nat.reduceSub, gd_t, emod_r, iz_0, Int.zero_add, Int.add_zero, wp_some]
        exact fin
    by_cases c159 : c p2 = 159
    · rw [if_pos c159] at hT
      obtain ⟨p3, q3, cs4, is2, e3, e4⟩ := pThen_ok (by rw [hT])
      rw [e4] at hT
      simp only [Prod.mk.injEq, true_and] at hT
      obtain ⟨rfl, rfl, -, rfl⟩ := hT
      have ln : (((kOrd (c p), Ss, T, t) :: is2).length : Int) = (is2.length : Int) + 1 := by rw [List.length_cons]; rfl
      have p2N : p2 + 1 ≤ N := lt_tok tk0 (by omega)
      refine one is2 rfl (fun o1 M1 er m1 b1 F1 T1 oa1 => ?_)
      rw [er] at hP1 hP0
      exact m_runAll hx m (p2 + 1) q2 (a + cs2.length) p3 q3 (i + 1) fu cs4 is2 o1 M1 (D + 20) e3 (by rw [List.length_cons] at hf; omega) p2N (by omega) (fun it q => hit it (List.mem_cons_of_mem _ q)) m1 b1 (by omega) F1 T1 (by rw [oa1]; omega) hP1 hP0
    · rw [if_neg c159] at hT
      by_cases eN : p2 = N
      · rw [if_pos eN] at hT
        simp only [Prod.mk.injEq, true_and] at hT
        obtain ⟨rfl, rfl, -, rfl⟩ := hT
        refine one [] rfl (fun o1 M1 er m1 b1 F1 T1 oa1 => ?_)
        obtain ⟨fv, rfl⟩ : ∃ fv, fu = fv + 1 := ⟨fu - 1, by rw [List.length_cons] at hf; omega⟩
        have ln : (([(kOrd (c p), Ss, T, t)] : List Itm).length : Int) = 1 := rfl
        have h1 := m1.1.1
        have hN1 := h1.1
        have b9 : boO o1 930 := ⟨by have := b1.1; omega, by have := b1.2.1; omega, b1.2.2⟩
        have fin := hP1 M1 (i + 1) o1 er m1 b9 F1
        have od := m1.2.2.2.2.1
        have go := m_good (d := d + 168) (v := iz o1.2.2.2.1) h1
        rw [show d + 168 + 1 = d + 169 by omega] at go
        rw [lp_s]
        clear hP1 hP0 one
        simp (disch := first | assumption | decide | omega) only [n_203_0, n_203_47, n_203_74, n_203_173, n_203_204, n_203_227, f_203_22, f_203_49, f_203_123, f_203_145, f_203_176, z_iconst, z_bipush, z_sipush, z_ldc, z_ldcs, z_ldcw, z_ldc2, z_lconst0, z_lconst1, z_null, z_getstatic, z_iload_0, z_iload_1, z_iload_2, z_iload_3, z_iload, z_istore_0, z_istore_1, z_istore_2, z_istore_3, z_istore, z_lload_0, z_lload_1, z_lload_2, z_lload_3, z_lload, z_lstore_0, z_lstore_1, z_lstore_2, z_lstore_3, z_lstore, z_aload_0, z_aload_1, z_aload_2, z_aload_3, z_aload, z_astore_0, z_astore_1, z_astore_2, z_astore_3, z_astore, ald_0, ald_s, z_iinc, qst1_1i, qst2_1i, qst1_1r, qst2_1r, qst1_1u, qst2_1u, qst1_1n, qst2_1n, qst1_1l, qst2_1l, qst1_0, qst2_0, qst1_s, qst2_s, z_iadd, z_isub, z_imul, z_iand, z_ior, z_ixor, z_ishl, z_ishr, z_idiv, z_irem, z_ladd, z_lsub, z_lmul, z_land, z_lor, z_ldiv, z_lrem, z_ineg, z_lshl, z_lshr, z_i2l, z_l2i, z_i2b, z_i2c, z_lcmp, z_dupi, z_dupr, z_popi, z_popr, z_dup2, z_goto, z_get0, z_get1, z_get2, z_get3, z_put0, z_put1, z_put2, z_put2n, z_put3, z_iaload, z_baload, z_laload, z_aaload, z_iastore, z_bastore, z_lastore, z_aastore, z_aastoren, z_arraylength, z_new, z_newarray, z_anewarray, z_multi, z_objinit, z_is0, z_iv0, z_ip0, z_is1, z_iv1, z_ip1, z_is2, z_iv2, z_ip2, z_is3, z_iv3, z_ip3, z_is4, z_iv4, z_ip4, z_is5, z_iv5, z_ip5, z_is6, z_iv6, z_ip6, z_is7, z_iv7, z_ip7, z_m991, z_m992, z_m993, z_m994, z_m995, z_m996, z_m998, acal_0, acal_1, acal_2, acal_3, acal_4, aK_v, aK_n, sF_c, sF_n, b_nr, b_nn, r_I, r_Z, r_L, r_A, r_V, sw_F, sw_n, gd_tt, is01_bzT, is01_0, is01_1, qrv_s, qrv_n, bi_eq_t, bi_eq_f, bi_ne_t, bi_ne_f, bi_lt_t, bi_lt_f, bi_ge_t, bi_ge_f, bi_gt_t, bi_gt_f, bi_le_t, bi_le_f, bc_eq_t, bc_eq_f, bc_ne_t, bc_ne_f, bc_lt_t, bc_lt_f, bc_ge_t, bc_ge_f, bc_gt_t, bc_gt_f, bc_le_t, bc_le_f, bb_eq_t, bb_eq_f, bb_ne_t, bb_ne_f, sc_t, sc_f, b_nr, b_nn, mI_J, mI_R, mJ_I, mJ_R, mR_I, mR_J, mK_I, mK_J, mK_R, mN_I, mN_J, mN_R, inM_I, inM_J, inM_R, mZ_nc, mZ_nk, mZ_sm, mZ_J, mZ_R, mJ_nc, mJ_ni, mJ_sm, mI_Z, iz_add, iz_sub, iz_mul, iz_neg, iz_lt, iz_le, iz_eq, iz_clamp, iz_inB, iz_div, iz_rem, inM_lit, and_self, true_and, and_true, true_or, or_true, not_true_eq_false, not_false_eq_true, Nat.reduceEqDiff, reduceCtorEq, Int.reduceNeg, Int.reduceSub, Int.reduceAdd, Int.reduceMul, Int.reduceToNat, Int.reduceEq, Int.neg_neg, Int.cast_ofNat_Int, Nat.reduceAdd, Nat.reduceMul, Nat.reduceSub, gd_t, emod_r, iz_0, Int.zero_add, Int.add_zero, wp_some, shK h1, shR h1, oa1, od, go]
        exact fin
      · rw [if_neg eN] at hT; cases hT

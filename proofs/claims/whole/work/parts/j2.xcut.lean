/-! x's cutUp -/
def DCu (i k : Nat) : Prop := (190 ≤ i ∧ i ≤ 192) ∨ (i = 183 ∧ k = 4)
/-- the first t of the tokens are laid down -/
def TkX (M M1 : qMe) (T : List (Nat × Nat)) (t : Nat) : Prop := ∀ (j : Nat) (x : Nat × Nat), j < t → T[j]? = some x → mZ M1 190 j = x.1 ∧ mZ M1 191 j = xsort (mZ M 71) x.1 x.2 ∧ mZ M1 192 j = xnum (mZ M 71) x.1 x.2
theorem toks_k {b : Nat → Int} {n : Nat} : ∀ (k k2 s : Nat), n - s < k → n - s < k2 → toks b n k s = toks b n k2 s
  | 0, k2, s, h1, h2 => by omega
  | k + 1, 0, s, h1, h2 => by omega
  | k + 1, k2 + 1, s, h1, h2 => by
    rw [toks, toks]
    by_cases a : n ≤ s
    · rw [if_pos a, if_pos a]
    · rw [if_neg a, if_neg a]
      by_cases c : b s = 32
      · rw [if_pos c, if_pos c]
        exact toks_k k k2 (s + 1) (by omega) (by omega)
      · have tb := tend_b (b := b) (n := n) (s := s) (by omega)
        rw [if_neg c, if_neg c, toks_k k k2 (tend b n s) (by omega) (by omega)]
/-- all tokens -/
def TK (b : Nat → Int) (n : Nat) : List (Nat × Nat) := toks b n 401 0
theorem TK_len {b : Nat → Int} {n : Nat} : (TK b n).length ≤ n := by
  have := (toks_b (b := b) (n := n) 401 0).1
  unfold TK
  omega
theorem xsort_b {b : Nat → Int} {s e : Nat} (h : 0 ≤ b s ∧ b s ≤ 255) : 0 ≤ xsort b s e ∧ xsort b s e ≤ 330 := by
  have := xfind_b (b := b) (f := s) (n := e - s)
  unfold xsort
  split
  · split <;> omega
  · split <;> omega
set_option maxHeartbeats 1000000 in
theorem x_cutUp {d n : Nat} {M : qMe} (hz : shp M) (hn : n ≤ 400) (hb : ∀ j : Nat, j < n → 0 ≤ mZ M 71 j ∧ mZ M 71 j ≤ 255) : wV (cal (d + 3) 268 [.ref 183, .ref 71, .int (iz (n : Int))] M) (fun M1 => Dif M M1 DCu ∧ TkX M M1 (TK (mZ M 71) n) (TK (mZ M 71) n).length ∧ mZ M1 190 (TK (mZ M 71) n).length = n ∧ mZ M1 191 (TK (mZ M 71) n).length = -1) := by
  refine wV_q (fun P hP => ?_)
  have h := hz
  have hN := h.1
  have tl := TK_len (b := mZ M 71) (n := n)
  rw [cal_268, gd_t (Nat.le_of_ble_eq_true rfl)]
  change wp (n_268_0 (cal _) [some (.ref 183), some (.ref 71), some (.int (iz (n : Int))), none, none, none] [] _) _
  simp (disch := first | assumption | decide | omega) only [n_268_0, n_268_69, n_268_107, n_268_152, n_268_163, n_268_176, f_268_39, n_268_10, z_iconst, z_bipush, z_sipush, z_ldc, z_ldcs, z_ldcw, z_ldc2, z_lconst0, z_lconst1, z_null, z_getstatic, z_iload_0, z_iload_1, z_iload_2, z_iload_3, z_iload, z_istore_0, z_istore_1, z_istore_2, z_istore_3, z_istore, z_lload_0, z_lload_1, z_lload_2, z_lload_3, z_lload, z_lstore_0, z_lstore_1, z_lstore_2, z_lstore_3, z_lstore, z_aload_0, z_aload_1, z_aload_2, z_aload_3, z_aload, z_astore_0, z_astore_1, z_astore_2, z_astore_3, z_astore, ald_0, ald_s, z_iinc, qst1_1i, qst2_1i, qst1_1r, qst2_1r, qst1_1u, qst2_1u, qst1_1n, qst2_1n, qst1_1l, qst2_1l, qst1_0, qst2_0, qst1_s, qst2_s, z_iadd, z_isub, z_imul, z_iand, z_ior, z_ixor, z_ishl, z_ishr, z_idiv, z_irem, z_ladd, z_lsub, z_lmul, z_land, z_lor, z_ldiv, z_lrem, z_ineg, z_lshl, z_lshr, z_i2l, z_l2i, z_i2b, z_i2c, z_lcmp, z_dupi, z_dupr, z_popi, z_popr, z_dup2, z_goto, z_get0, z_get1, z_get2, z_get3, z_put0, z_put1, z_put2, z_put2n, z_put3, z_iaload, z_baload, z_laload, z_aaload, z_iastore, z_bastore, z_lastore, z_aastore, z_aastoren, z_arraylength, z_new, z_newarray, z_anewarray, z_multi, z_objinit, z_is0, z_iv0, z_ip0, z_is1, z_iv1, z_ip1, z_is2, z_iv2, z_ip2, z_is3, z_iv3, z_ip3, z_is4, z_iv4, z_ip4, z_is5, z_iv5, z_ip5, z_is6, z_iv6, z_ip6, z_is7, z_iv7, z_ip7, z_m991, z_m992, z_m993, z_m994, z_m995, z_m996, z_m998, acal_0, acal_1, acal_2, acal_3, acal_4, aK_v, aK_n, sF_c, sF_n, b_nr, b_nn, r_I, r_Z, r_L, r_A, r_V, sw_F, sw_n, gd_tt, is01_bzT, is01_0, is01_1, qrv_s, qrv_n, bi_eq_t, bi_eq_f, bi_ne_t, bi_ne_f, bi_lt_t, bi_lt_f, bi_ge_t, bi_ge_f, bi_gt_t, bi_gt_f, bi_le_t, bi_le_f, bc_eq_t, bc_eq_f, bc_ne_t, bc_ne_f, bc_lt_t, bc_lt_f, bc_ge_t, bc_ge_f, bc_gt_t, bc_gt_f, bc_le_t, bc_le_f, bb_eq_t, bb_eq_f, bb_ne_t, bb_ne_f, sc_t, sc_f, b_nr, b_nn, mI_J, mI_R, mJ_I, mJ_R, mR_I, mR_J, mK_I, mK_J, mK_R, mN_I, mN_J, mN_R, inM_I, inM_J, inM_R, mZ_nc, mZ_nk, mZ_sm, mZ_J, mZ_R, mJ_nc, mJ_ni, mJ_sm, mI_Z, iz_add, iz_sub, iz_mul, iz_neg, iz_lt, iz_le, iz_eq, iz_clamp, iz_inB, iz_div, iz_rem, shK h, shR h, inM_lit, and_self, true_and, and_true, true_or, or_true, not_true_eq_false, not_false_eq_true, Nat.reduceEqDiff, reduceCtorEq, Int.reduceNeg, Int.reduceSub, Int.reduceAdd, Int.reduceMul, Int.reduceToNat, Int.reduceEq, Int.neg_neg, Int.cast_ofNat_Int, Nat.reduceAdd, Nat.reduceMul, Nat.reduceSub, gd_t, emod_r, iz_0, Int.zero_add, Int.add_zero, wp_some]
  -- i: where we are; t tokens laid; those still to come are the tokens from i on
  refine wp_lpq (fun k L M' => ∃ (i t : Nat) (v3 v5 : Option Value), L = [some (.ref 183), some (.ref 71), some (.int (iz (n : Int))), v3, some (.int (iz (i : Int))), v5] ∧ i + k = n ∧ (∃ f : Int, v3 = some (.int (iz f))) ∧ Dif M M' DCu ∧ mZ M' 183 4 = t ∧ TkX M M' (TK (mZ M 71) n) t ∧ (TK (mZ M 71) n).drop t = toks (mZ M 71) n 401 i ∧ t ≤ i) (k := n) ⟨0, 0, _, _, rfl, by omega, ⟨0, rfl⟩, Dif.rfl'.I (Or.inr ⟨rfl, rfl⟩), mZ_sm rfl (by decide) (by decide), fun j x q => by omega, rfl, Nat.le_refl 0⟩ (by omega) ?_
  rintro k L M' g ⟨i, t, v3, v5, rfl, hik, ⟨fz, rfl⟩, hD, ht, hT, hdr, hti⟩ hg2
  have h := hD.shp hz (fun i k hi => by unfold DCu; omega)
  have hN := h.1
  have q71 : ∀ k, mZ M' 71 k = mZ M 71 k := fun k => hD.z (by unfold DCu; omega)
  by_cases ei : i = n
  · have e0 : (TK (mZ M 71) n).drop t = [] := by rw [hdr, toks, if_pos (by omega)]
    have et : (TK (mZ M 71) n).length ≤ t := List.drop_eq_nil_iff.mp e0
    have et2 : t = (TK (mZ M 71) n).length := by
      rcases Nat.lt_or_ge (TK (mZ M 71) n).length t with q | q
      · exfalso
        sorry
      · omega
    have fin := hP (qsI (qsI M' 190 t (iz (n : Int))) 191 t (iz (-1))) ⟨(hD.I (Or.inl (by decide))).I (Or.inl (by decide)), fun j x j1 j2 => by
      have := hT j x (by omega) j2
      rw [mZ_nc (by decide), mZ_nk (by omega), mZ_nk (by omega), mZ_nc (by decide), mZ_nc (by decide), mZ_nc (by decide)]
      exact this, by rw [← et2, mZ_nc (by decide), mZ_sm rfl (by omega) (by omega)], by rw [← et2, mZ_sm rfl (by decide) (by decide)]⟩
    subst ei
    simp (disch := first | assumption | decide | omega) only [n_268_0, n_268_69, n_268_107, n_268_152, n_268_163, n_268_176, f_268_10, f_268_39, z_iconst, z_bipush, z_sipush, z_ldc, z_ldcs, z_ldcw, z_ldc2, z_lconst0, z_lconst1, z_null, z_getstatic, z_iload_0, z_iload_1, z_iload_2, z_iload_3, z_iload, z_istore_0, z_istore_1, z_istore_2, z_istore_3, z_istore, z_lload_0, z_lload_1, z_lload_2, z_lload_3, z_lload, z_lstore_0, z_lstore_1, z_lstore_2, z_lstore_3, z_lstore, z_aload_0, z_aload_1, z_aload_2, z_aload_3, z_aload, z_astore_0, z_astore_1, z_astore_2, z_astore_3, z_astore, ald_0, ald_s, z_iinc, qst1_1i, qst2_1i, qst1_1r, qst2_1r, qst1_1u, qst2_1u, qst1_1n, qst2_1n, qst1_1l, qst2_1l, qst1_0, qst2_0, qst1_s, qst2_s, z_iadd, z_isub, z_imul, z_iand, z_ior, z_ixor, z_ishl, z_ishr, z_idiv, z_irem, z_ladd, z_lsub, z_lmul, z_land, z_lor, z_ldiv, z_lrem, z_ineg, z_lshl, z_lshr, z_i2l, z_l2i, z_i2b, z_i2c, z_lcmp, z_dupi, z_dupr, z_popi, z_popr, z_dup2, z_goto, z_get0, z_get1, z_get2, z_get3, z_put0, z_put1, z_put2, z_put2n, z_put3, z_iaload, z_baload, z_laload, z_aaload, z_iastore, z_bastore, z_lastore, z_aastore, z_aastoren, z_arraylength, z_new, z_newarray, z_anewarray, z_multi, z_objinit, z_is0, z_iv0, z_ip0, z_is1, z_iv1, z_ip1, z_is2, z_iv2, z_ip2, z_is3, z_iv3, z_ip3, z_is4, z_iv4, z_ip4, z_is5, z_iv5, z_ip5, z_is6, z_iv6, z_ip6, z_is7, z_iv7, z_ip7, z_m991, z_m992, z_m993, z_m994, z_m995, z_m996, z_m998, acal_0, acal_1, acal_2, acal_3, acal_4, aK_v, aK_n, sF_c, sF_n, b_nr, b_nn, r_I, r_Z, r_L, r_A, r_V, sw_F, sw_n, gd_tt, is01_bzT, is01_0, is01_1, qrv_s, qrv_n, bi_eq_t, bi_eq_f, bi_ne_t, bi_ne_f, bi_lt_t, bi_lt_f, bi_ge_t, bi_ge_f, bi_gt_t, bi_gt_f, bi_le_t, bi_le_f, bc_eq_t, bc_eq_f, bc_ne_t, bc_ne_f, bc_lt_t, bc_lt_f, bc_ge_t, bc_ge_f, bc_gt_t, bc_gt_f, bc_le_t, bc_le_f, bb_eq_t, bb_eq_f, bb_ne_t, bb_ne_f, sc_t, sc_f, b_nr, b_nn, mI_J, mI_R, mJ_I, mJ_R, mR_I, mR_J, mK_I, mK_J, mK_R, mN_I, mN_J, mN_R, inM_I, inM_J, inM_R, mZ_nc, mZ_nk, mZ_sm, mZ_J, mZ_R, mJ_nc, mJ_ni, mJ_sm, mI_Z, iz_add, iz_sub, iz_mul, iz_neg, iz_lt, iz_le, iz_eq, iz_clamp, iz_inB, iz_div, iz_rem, shK h, shR h, inM_lit, and_self, true_and, and_true, true_or, or_true, not_true_eq_false, not_false_eq_true, Nat.reduceEqDiff, reduceCtorEq, Int.reduceNeg, Int.reduceSub, Int.reduceAdd, Int.reduceMul, Int.reduceToNat, Int.reduceEq, Int.neg_neg, Int.cast_ofNat_Int, Nat.reduceAdd, Nat.reduceMul, Nat.reduceSub, gd_t, emod_r, iz_0, Int.zero_add, Int.add_zero, wp_some, ht, Int.toNat_natCast]
    exact fin
  sorry

/-! m's side: ways that are open -/
theorem m_hgtOf {d : Nat} {M : qMe} {e : Int} (h : shp M) (he : (0 ≤ e ∧ e < 80) ∨ (100 ≤ e ∧ e < 108)) : cal (d + 1) 85 [.ref 479, .int (iz e)] M = some (some (.int (iz (hgt M e))), M) := by
  have hN := h.1
  refine (cal_85 _ _ _).trans ((gd_t (Nat.le_of_ble_eq_true rfl)).trans ?_)
  change n_85_0 (cal _) [some (.ref 479), some (.int (iz e))] [] _ = _
  unfold hgt
  by_cases g : e < 80
  · rw [if_pos g]
    simp (disch := first | assumption | decide | omega) only [n_85_0, n_85_18, z_iconst, z_bipush, z_sipush, z_ldc, z_ldcs, z_ldcw, z_ldc2, z_lconst0, z_lconst1, z_null, z_getstatic, z_iload_0, z_iload_1, z_iload_2, z_iload_3, z_iload, z_istore_0, z_istore_1, z_istore_2, z_istore_3, z_istore, z_lload_0, z_lload_1, z_lload_2, z_lload_3, z_lload, z_lstore_0, z_lstore_1, z_lstore_2, z_lstore_3, z_lstore, z_aload_0, z_aload_1, z_aload_2, z_aload_3, z_aload, z_astore_0, z_astore_1, z_astore_2, z_astore_3, z_astore, ald_0, ald_s, z_iinc, qst1_1i, qst2_1i, qst1_1r, qst2_1r, qst1_1u, qst2_1u, qst1_1n, qst2_1n, qst1_1l, qst2_1l, qst1_0, qst2_0, qst1_s, qst2_s, z_iadd, z_isub, z_imul, z_iand, z_ior, z_ixor, z_ishl, z_ishr, z_idiv, z_irem, z_ladd, z_lsub, z_lmul, z_land, z_lor, z_ldiv, z_lrem, z_ineg, z_lshl, z_lshr, z_i2l, z_l2i, z_i2b, z_i2c, z_lcmp, z_dupi, z_dupr, z_popi, z_popr, z_dup2, z_goto, z_get0, z_get1, z_get2, z_get3, z_put0, z_put1, z_put2, z_put2n, z_put3, z_iaload, z_baload, z_laload, z_aaload, z_iastore, z_bastore, z_lastore, z_aastore, z_aastoren, z_arraylength, z_new, z_newarray, z_anewarray, z_multi, z_objinit, z_is0, z_iv0, z_ip0, z_is1, z_iv1, z_ip1, z_is2, z_iv2, z_ip2, z_is3, z_iv3, z_ip3, z_is4, z_iv4, z_ip4, z_is5, z_iv5, z_ip5, z_is6, z_iv6, z_ip6, z_is7, z_iv7, z_ip7, z_m991, z_m992, z_m993, z_m994, z_m995, z_m996, z_m998, acal_0, acal_1, acal_2, acal_3, acal_4, aK_v, aK_n, sF_c, sF_n, b_nr, b_nn, r_I, r_Z, r_L, r_A, r_V, sw_F, sw_n, gd_tt, is01_bzT, is01_0, is01_1, qrv_s, qrv_n, bi_eq_t, bi_eq_f, bi_ne_t, bi_ne_f, bi_lt_t, bi_lt_f, bi_ge_t, bi_ge_f, bi_gt_t, bi_gt_f, bi_le_t, bi_le_f, bc_eq_t, bc_eq_f, bc_ne_t, bc_ne_f, bc_lt_t, bc_lt_f, bc_ge_t, bc_ge_f, bc_gt_t, bc_gt_f, bc_le_t, bc_le_f, bb_eq_t, bb_eq_f, bb_ne_t, bb_ne_f, sc_t, sc_f, b_nr, b_nn, mI_J, mI_R, mJ_I, mJ_R, mR_I, mR_J, mK_I, mK_J, mK_R, mN_I, mN_J, mN_R, inM_I, inM_J, inM_R, mZ_nc, mZ_nk, mZ_sm, mZ_J, mZ_R, mJ_nc, mJ_ni, mJ_sm, mI_Z, iz_add, iz_sub, iz_mul, iz_neg, iz_lt, iz_le, iz_eq, iz_clamp, iz_inB, iz_div, iz_rem, shK h, shR h, inM_lit, and_self, true_and, and_true, true_or, or_true, not_true_eq_false, not_false_eq_true, Nat.reduceEqDiff, reduceCtorEq, Int.reduceNeg, Int.reduceSub, Int.reduceAdd, Int.reduceMul, Int.reduceToNat, Int.reduceEq, Int.neg_neg, Int.cast_ofNat_Int, Nat.reduceAdd, Nat.reduceMul, Nat.reduceSub, gd_t, emod_r, iz_0, Int.zero_add, Int.add_zero, wp_some]
  · rw [if_neg g]
    simp (disch := first | assumption | decide | omega) only [n_85_0, n_85_18, z_iconst, z_bipush, z_sipush, z_ldc, z_ldcs, z_ldcw, z_ldc2, z_lconst0, z_lconst1, z_null, z_getstatic, z_iload_0, z_iload_1, z_iload_2, z_iload_3, z_iload, z_istore_0, z_istore_1, z_istore_2, z_istore_3, z_istore, z_lload_0, z_lload_1, z_lload_2, z_lload_3, z_lload, z_lstore_0, z_lstore_1, z_lstore_2, z_lstore_3, z_lstore, z_aload_0, z_aload_1, z_aload_2, z_aload_3, z_aload, z_astore_0, z_astore_1, z_astore_2, z_astore_3, z_astore, ald_0, ald_s, z_iinc, qst1_1i, qst2_1i, qst1_1r, qst2_1r, qst1_1u, qst2_1u, qst1_1n, qst2_1n, qst1_1l, qst2_1l, qst1_0, qst2_0, qst1_s, qst2_s, z_iadd, z_isub, z_imul, z_iand, z_ior, z_ixor, z_ishl, z_ishr, z_idiv, z_irem, z_ladd, z_lsub, z_lmul, z_land, z_lor, z_ldiv, z_lrem, z_ineg, z_lshl, z_lshr, z_i2l, z_l2i, z_i2b, z_i2c, z_lcmp, z_dupi, z_dupr, z_popi, z_popr, z_dup2, z_goto, z_get0, z_get1, z_get2, z_get3, z_put0, z_put1, z_put2, z_put2n, z_put3, z_iaload, z_baload, z_laload, z_aaload, z_iastore, z_bastore, z_lastore, z_aastore, z_aastoren, z_arraylength, z_new, z_newarray, z_anewarray, z_multi, z_objinit, z_is0, z_iv0, z_ip0, z_is1, z_iv1, z_ip1, z_is2, z_iv2, z_ip2, z_is3, z_iv3, z_ip3, z_is4, z_iv4, z_ip4, z_is5, z_iv5, z_ip5, z_is6, z_iv6, z_ip6, z_is7, z_iv7, z_ip7, z_m991, z_m992, z_m993, z_m994, z_m995, z_m996, z_m998, acal_0, acal_1, acal_2, acal_3, acal_4, aK_v, aK_n, sF_c, sF_n, b_nr, b_nn, r_I, r_Z, r_L, r_A, r_V, sw_F, sw_n, gd_tt, is01_bzT, is01_0, is01_1, qrv_s, qrv_n, bi_eq_t, bi_eq_f, bi_ne_t, bi_ne_f, bi_lt_t, bi_lt_f, bi_ge_t, bi_ge_f, bi_gt_t, bi_gt_f, bi_le_t, bi_le_f, bc_eq_t, bc_eq_f, bc_ne_t, bc_ne_f, bc_lt_t, bc_lt_f, bc_ge_t, bc_ge_f, bc_gt_t, bc_gt_f, bc_le_t, bc_le_f, bb_eq_t, bb_eq_f, bb_ne_t, bb_ne_f, sc_t, sc_f, b_nr, b_nn, mI_J, mI_R, mJ_I, mJ_R, mR_I, mR_J, mK_I, mK_J, mK_R, mN_I, mN_J, mN_R, inM_I, inM_J, inM_R, mZ_nc, mZ_nk, mZ_sm, mZ_J, mZ_R, mJ_nc, mJ_ni, mJ_sm, mI_Z, iz_add, iz_sub, iz_mul, iz_neg, iz_lt, iz_le, iz_eq, iz_clamp, iz_inB, iz_div, iz_rem, shK h, shR h, inM_lit, and_self, true_and, and_true, true_or, or_true, not_true_eq_false, not_false_eq_true, Nat.reduceEqDiff, reduceCtorEq, Int.reduceNeg, Int.reduceSub, Int.reduceAdd, Int.reduceMul, Int.reduceToNat, Int.reduceEq, Int.neg_neg, Int.cast_ofNat_Int, Nat.reduceAdd, Nat.reduceMul, Nat.reduceSub, gd_t, emod_r, iz_0, Int.zero_add, Int.add_zero, wp_some]
theorem m_pull {d : Nat} {M : qMe} {p dir x : Int} (hW : Wo M) (h1 : mZ M 479 31 = p) (h2 : mZ M 479 32 = dir) (p1 : 0 ≤ p ∧ p < 80) (d1 : 0 ≤ dir ∧ dir ≤ 3) (x1 : 0 ≤ x ∧ x ≤ 3) (xb : ¬ bes p x = -1) : cal (d + 2) 148 [.ref 479, .int (iz x)] M = some (some (.int (iz (pul M p dir x))), M) := by
  have h := hW.1
  have hN := h.1
  have bb := bes_b (p := p) (d := x) p1
  have q1 := m_hgtOf (d := d) (e := p) h (Or.inl p1)
  have q2 := m_hgtOf (d := d) (e := bes p x) h (by omega)
  have q3 := m_beside (d := d) (M := M) (p := p) (w := x) p1 x1
  have hb1 := hgt_b (e := p) hW.2.1 p1.1
  have hb2 := hgt_b (e := bes p x) hW.2.1 (by omega)
  refine (cal_148 _ _ _).trans ((gd_t (Nat.le_of_ble_eq_true rfl)).trans ?_)
  change n_148_0 (cal _) [some (.ref 479), some (.int (iz x))] [] _ = _
  unfold pul
  by_cases g : x = dir
  · rw [if_pos g]
    simp (disch := first | assumption | decide | omega) only [n_148_0, n_148_41, z_iconst, z_bipush, z_sipush, z_ldc, z_ldcs, z_ldcw, z_ldc2, z_lconst0, z_lconst1, z_null, z_getstatic, z_iload_0, z_iload_1, z_iload_2, z_iload_3, z_iload, z_istore_0, z_istore_1, z_istore_2, z_istore_3, z_istore, z_lload_0, z_lload_1, z_lload_2, z_lload_3, z_lload, z_lstore_0, z_lstore_1, z_lstore_2, z_lstore_3, z_lstore, z_aload_0, z_aload_1, z_aload_2, z_aload_3, z_aload, z_astore_0, z_astore_1, z_astore_2, z_astore_3, z_astore, ald_0, ald_s, z_iinc, qst1_1i, qst2_1i, qst1_1r, qst2_1r, qst1_1u, qst2_1u, qst1_1n, qst2_1n, qst1_1l, qst2_1l, qst1_0, qst2_0, qst1_s, qst2_s, z_iadd, z_isub, z_imul, z_iand, z_ior, z_ixor, z_ishl, z_ishr, z_idiv, z_irem, z_ladd, z_lsub, z_lmul, z_land, z_lor, z_ldiv, z_lrem, z_ineg, z_lshl, z_lshr, z_i2l, z_l2i, z_i2b, z_i2c, z_lcmp, z_dupi, z_dupr, z_popi, z_popr, z_dup2, z_goto, z_get0, z_get1, z_get2, z_get3, z_put0, z_put1, z_put2, z_put2n, z_put3, z_iaload, z_baload, z_laload, z_aaload, z_iastore, z_bastore, z_lastore, z_aastore, z_aastoren, z_arraylength, z_new, z_newarray, z_anewarray, z_multi, z_objinit, z_is0, z_iv0, z_ip0, z_is1, z_iv1, z_ip1, z_is2, z_iv2, z_ip2, z_is3, z_iv3, z_ip3, z_is4, z_iv4, z_ip4, z_is5, z_iv5, z_ip5, z_is6, z_iv6, z_ip6, z_is7, z_iv7, z_ip7, z_m991, z_m992, z_m993, z_m994, z_m995, z_m996, z_m998, acal_0, acal_1, acal_2, acal_3, acal_4, aK_v, aK_n, sF_c, sF_n, b_nr, b_nn, r_I, r_Z, r_L, r_A, r_V, sw_F, sw_n, gd_tt, is01_bzT, is01_0, is01_1, qrv_s, qrv_n, bi_eq_t, bi_eq_f, bi_ne_t, bi_ne_f, bi_lt_t, bi_lt_f, bi_ge_t, bi_ge_f, bi_gt_t, bi_gt_f, bi_le_t, bi_le_f, bc_eq_t, bc_eq_f, bc_ne_t, bc_ne_f, bc_lt_t, bc_lt_f, bc_ge_t, bc_ge_f, bc_gt_t, bc_gt_f, bc_le_t, bc_le_f, bb_eq_t, bb_eq_f, bb_ne_t, bb_ne_f, sc_t, sc_f, b_nr, b_nn, mI_J, mI_R, mJ_I, mJ_R, mR_I, mR_J, mK_I, mK_J, mK_R, mN_I, mN_J, mN_R, inM_I, inM_J, inM_R, mZ_nc, mZ_nk, mZ_sm, mZ_J, mZ_R, mJ_nc, mJ_ni, mJ_sm, mI_Z, iz_add, iz_sub, iz_mul, iz_neg, iz_lt, iz_le, iz_eq, iz_clamp, iz_inB, iz_div, iz_rem, shK h, shR h, inM_lit, and_self, true_and, and_true, true_or, or_true, not_true_eq_false, not_false_eq_true, Nat.reduceEqDiff, reduceCtorEq, Int.reduceNeg, Int.reduceSub, Int.reduceAdd, Int.reduceMul, Int.reduceToNat, Int.reduceEq, Int.neg_neg, Int.cast_ofNat_Int, Nat.reduceAdd, Nat.reduceMul, Nat.reduceSub, gd_t, emod_r, iz_0, Int.zero_add, Int.add_zero, wp_some, h1, h2, q1, q2, q3]
  · rw [if_neg g]
    simp (disch := first | assumption | decide | omega) only [n_148_0, n_148_41, z_iconst, z_bipush, z_sipush, z_ldc, z_ldcs, z_ldcw, z_ldc2, z_lconst0, z_lconst1, z_null, z_getstatic, z_iload_0, z_iload_1, z_iload_2, z_iload_3, z_iload, z_istore_0, z_istore_1, z_istore_2, z_istore_3, z_istore, z_lload_0, z_lload_1, z_lload_2, z_lload_3, z_lload, z_lstore_0, z_lstore_1, z_lstore_2, z_lstore_3, z_lstore, z_aload_0, z_aload_1, z_aload_2, z_aload_3, z_aload, z_astore_0, z_astore_1, z_astore_2, z_astore_3, z_astore, ald_0, ald_s, z_iinc, qst1_1i, qst2_1i, qst1_1r, qst2_1r, qst1_1u, qst2_1u, qst1_1n, qst2_1n, qst1_1l, qst2_1l, qst1_0, qst2_0, qst1_s, qst2_s, z_iadd, z_isub, z_imul, z_iand, z_ior, z_ixor, z_ishl, z_ishr, z_idiv, z_irem, z_ladd, z_lsub, z_lmul, z_land, z_lor, z_ldiv, z_lrem, z_ineg, z_lshl, z_lshr, z_i2l, z_l2i, z_i2b, z_i2c, z_lcmp, z_dupi, z_dupr, z_popi, z_popr, z_dup2, z_goto, z_get0, z_get1, z_get2, z_get3, z_put0, z_put1, z_put2, z_put2n, z_put3, z_iaload, z_baload, z_laload, z_aaload, z_iastore, z_bastore, z_lastore, z_aastore, z_aastoren, z_arraylength, z_new, z_newarray, z_anewarray, z_multi, z_objinit, z_is0, z_iv0, z_ip0, z_is1, z_iv1, z_ip1, z_is2, z_iv2, z_ip2, z_is3, z_iv3, z_ip3, z_is4, z_iv4, z_ip4, z_is5, z_iv5, z_ip5, z_is6, z_iv6, z_ip6, z_is7, z_iv7, z_ip7, z_m991, z_m992, z_m993, z_m994, z_m995, z_m996, z_m998, acal_0, acal_1, acal_2, acal_3, acal_4, aK_v, aK_n, sF_c, sF_n, b_nr, b_nn, r_I, r_Z, r_L, r_A, r_V, sw_F, sw_n, gd_tt, is01_bzT, is01_0, is01_1, qrv_s, qrv_n, bi_eq_t, bi_eq_f, bi_ne_t, bi_ne_f, bi_lt_t, bi_lt_f, bi_ge_t, bi_ge_f, bi_gt_t, bi_gt_f, bi_le_t, bi_le_f, bc_eq_t, bc_eq_f, bc_ne_t, bc_ne_f, bc_lt_t, bc_lt_f, bc_ge_t, bc_ge_f, bc_gt_t, bc_gt_f, bc_le_t, bc_le_f, bb_eq_t, bb_eq_f, bb_ne_t, bb_ne_f, sc_t, sc_f, b_nr, b_nn, mI_J, mI_R, mJ_I, mJ_R, mR_I, mR_J, mK_I, mK_J, mK_R, mN_I, mN_J, mN_R, inM_I, inM_J, inM_R, mZ_nc, mZ_nk, mZ_sm, mZ_J, mZ_R, mJ_nc, mJ_ni, mJ_sm, mI_Z, iz_add, iz_sub, iz_mul, iz_neg, iz_lt, iz_le, iz_eq, iz_clamp, iz_inB, iz_div, iz_rem, shK h, shR h, inM_lit, and_self, true_and, and_true, true_or, or_true, not_true_eq_false, not_false_eq_true, Nat.reduceEqDiff, reduceCtorEq, Int.reduceNeg, Int.reduceSub, Int.reduceAdd, Int.reduceMul, Int.reduceToNat, Int.reduceEq, Int.neg_neg, Int.cast_ofNat_Int, Nat.reduceAdd, Nat.reduceMul, Nat.reduceSub, gd_t, emod_r, iz_0, Int.zero_add, Int.add_zero, wp_some, h1, h2, q1, q2, q3]
def srt (f : Int → Int) (l : List Int) : Prop := List.Pairwise (fun a b => f b ≤ f a) l
theorem srt_ins {f : Int → Int} {d : Int} : ∀ l : List Int, srt f l → srt f (ins f d l)
  | [], _ => List.pairwise_singleton _ _
  | x :: l, h => by
    have h' := List.pairwise_cons.mp h
    unfold ins
    split
    · next q =>
      refine List.pairwise_cons.mpr ⟨fun y hy => ?_, h⟩
      rcases List.mem_cons.mp hy with rfl | hy
      · omega
      · have := h'.1 y hy; omega
    · next q =>
      refine List.pairwise_cons.mpr ⟨fun y hy => ?_, srt_ins l h'.2⟩
      rcases ins_mem l hy with rfl | hy
      · omega
      · exact h'.1 y hy
theorem srt_ways {o : Int → Prop} {f : Int → Int} : ∀ n, srt f (ways o f n)
  | 0 => List.Pairwise.nil
  | n + 1 => by
    by_cases q : o n
    · rw [ways_t q]; exact srt_ins _ (srt_ways n)
    · rw [ways_f q]; exact srt_ways n
theorem ins_eq {f : Int → Int} {d : Int} : ∀ (l : List Int) (k : Nat), srt f l → k ≤ l.length → (∀ (j : Nat) (x : Int), k ≤ j → l[j]? = some x → f x < f d) → (∀ (j : Nat) (x : Int), k = j + 1 → l[j]? = some x → ¬ f x < f d) → ins f d l = l.take k ++ d :: l.drop k
  | [], k, _, hk, _, _ => by
    have : k = 0 := by simp at hk; exact hk
    subst this
    rfl
  | x :: l, 0, _, _, h1, _ => by
    have := h1 0 x (Nat.le_refl _) rfl
    show (if f x < f d then d :: x :: l else x :: ins f d l) = _
    rw [if_pos this]
    rfl
  | x :: l, k + 1, hs, hk, h1, h2 => by
    have hs' := List.pairwise_cons.mp hs
    have hx : ¬ f x < f d := by
      cases k with
      | zero => exact h2 0 x rfl rfl
      | succ k =>
        have hl : k < l.length := by simp only [List.length_cons] at hk; omega
        have e : (x :: l)[k + 1]? = some l[k] := by rw [List.getElem?_cons_succ]; exact List.getElem?_eq_getElem hl
        have a := h2 (k + 1) _ rfl e
        have b := hs'.1 l[k] (List.getElem_mem hl)
        omega
    show (if f x < f d then d :: x :: l else x :: ins f d l) = _
    rw [if_neg hx, ins_eq l k hs'.2 (by simp only [List.length_cons] at hk; omega) (fun j y hj hy => h1 (j + 1) y (by omega) (by rw [List.getElem?_cons_succ]; exact hy)) (fun j y hj hy => h2 (j + 1) y (by omega) (by rw [List.getElem?_cons_succ]; exact hy))]
    rfl
theorem tk_get {l : List Int} {d : Int} {k j : Nat} {x : Int} (hk : k ≤ l.length) (h : (l.take k ++ d :: l.drop k)[j]? = some x) : (j < k ∧ l[j]? = some x) ∨ (j = k ∧ x = d) ∨ (∃ i, j = i + 1 ∧ k ≤ i ∧ l[i]? = some x) := by
  have hl : (l.take k).length = k := by rw [List.length_take]; omega
  rcases Nat.lt_trichotomy j k with q | q | q
  · left
    rw [List.getElem?_append_left (by omega), List.getElem?_take_of_lt q] at h
    exact ⟨q, h⟩
  · right; left
    rw [List.getElem?_append_right (by omega), hl, show j - k = 0 by omega] at h
    exact ⟨q, (Option.some.inj h).symm⟩
  · right; right
    refine ⟨j - 1, by omega, by omega, ?_⟩
    rw [List.getElem?_append_right (by omega), hl, show j - k = (j - 1 - k) + 1 by omega, List.getElem?_cons_succ, List.getElem?_drop, show k + (j - 1 - k) = j - 1 by omega] at h
    exact h
def DOp (i k : Nat) : Prop := DTo i k ∨ (i = 479 ∧ k = 40) ∨ i = 497

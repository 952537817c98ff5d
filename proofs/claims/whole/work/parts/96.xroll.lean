/-- the ride r is as Q -/
def RX (M : qMe) (r : Nat) (w : Int) (Q : RQ) : Prop := RAt M r (qp Q) (qd Q) (qs Q) w (qn Q) ((ql Q).length : Int) (qy Q) ∧ (∀ (j : Nat) (x : Int), (ql Q)[j]? = some x → mZ M (r + 2) j = x) ∧ (∀ (j : Nat) (x : Int), (qt Q)[j]? = some x → mZ M (r + 1) j = x) ∧ (∀ c, 0 ≤ c → c < 80 → (xbk M r c ↔ qb Q c))
/-- what a roll of r changes -/
def DRo (r : Nat) (i k : Nat) : Prop := (i = r ∧ ¬ (k = 13 ∨ k = 11)) ∨ i = r + 1 ∨ i = r + 2 ∨ (74 ≤ i ∧ i ≤ 77)
theorem lt_of_get {α : Type} {l : List α} {j : Nat} {x : α} (h : l[j]? = some x) : j < l.length := by
  rcases Nat.lt_or_ge j l.length with q | q
  · exact q
  · rw [List.getElem?_eq_none q] at h; cases h
theorem RX_add {M M1 : qMe} {r : Nat} {w : Int} {Q : RQ} {R : Int × Int × Int × Int × Int × Int} (hX : RX M r w Q) (hQ : QI Q) (hn : R.2.2.2.1 = qn Q ∨ R.2.2.2.1 = qn Q + 1) (hG : GoR M M1 r w (qn Q) ((ql Q).length : Int) R) : RX M1 r w (addP Q R) := by
  obtain ⟨x1, x2, x3, x4⟩ := hX
  obtain ⟨g1, g2, g3, g4, g5, g6⟩ := hG
  obtain ⟨a1, a2, a3, a4, a5, a6, a7, a8, a9, a10⟩ := hQ
  refine ⟨?_, fun j x hj => ?_, fun j x hj => ?_, fun c c1 c2 => ?_⟩
  · obtain ⟨k1, k2, k3, k4, k5, k6, k7⟩ := g1
    refine ⟨k1, k2, k3, k4, k5, ?_, k7⟩
    rw [k6]
    show _ = ((if R.2.2.2.2.2 = -1 then ql Q else ql Q ++ [R.2.2.2.2.2]).length : Int)
    split
    · rfl
    · simp only [List.length_append, List.length_cons, List.length_nil]; omega
  · have hj : (if R.2.2.2.2.2 = -1 then ql Q else ql Q ++ [R.2.2.2.2.2])[j]? = some x := hj
    by_cases q : R.2.2.2.2.2 = -1
    · rw [if_pos q] at hj
      have := lt_of_get hj
      rw [g4 j (by omega)]
      exact x2 j x hj
    · rw [if_neg q] at hj
      have hl := lt_of_get hj
      simp only [List.length_append, List.length_cons, List.length_nil] at hl
      rcases Nat.lt_or_ge j (ql Q).length with z | z
      · rw [List.getElem?_append_left z] at hj
        rw [g4 j (by omega)]
        exact x2 j x hj
      · have e : j = (ql Q).length := by omega
        subst e
        rw [List.getElem?_append_right (Nat.le_refl _), Nat.sub_self] at hj
        have hj : R.2.2.2.2.2 = x := Option.some.inj hj
        have := g5 q
        rw [Int.toNat_natCast] at this
        rw [this, hj]
  · have hj : (if R.2.2.2.1 = qn Q then qt Q else qt Q ++ [R.1])[j]? = some x := hj
    by_cases q : R.2.2.2.1 = qn Q
    · rw [if_pos q] at hj
      have := lt_of_get hj
      rw [g2 j (by omega)]
      exact x3 j x hj
    · rw [if_neg q] at hj
      have hl := lt_of_get hj
      simp only [List.length_append, List.length_cons, List.length_nil] at hl
      rcases Nat.lt_or_ge j (qt Q).length with z | z
      · rw [List.getElem?_append_left z] at hj
        rw [g2 j (by omega)]
        exact x3 j x hj
      · have e : j = (qt Q).length := by omega
        rw [e, List.getElem?_append_right (Nat.le_refl _), Nat.sub_self] at hj
        have hj : R.1 = x := Option.some.inj hj
        rw [show j = R.2.2.2.1.toNat by omega, g3, hj]
  · rw [g6 c c1 c2, x4 c c1 c2]
    exact Iff.rfl
/-- one try of a ride: look, then go by first or second -/
theorem x_lookgo {d r : Nat} {M : qMe} {w wall : Int} {Q : RQ} (hW : Wo M) (hG : JG M) (hr : isRide r) (hX : RX M r w Q) (hQ : QI Q) (hy : qy Q = -1) (hwl : mZ M r 11 = wall) (w1 : 0 ≤ w ∧ w < mZ M 481 266) : wV (cal (d + 4) 294 [.ref r] M) (fun M1 => Fr M M1 (DLk r) ∧ JG M1 ∧ Wo M1 ∧ RX M1 r w Q ∧ mZ M1 r 9 = wfi (wy M w (qp Q) (qd Q) (qs Q) 4) ∧ mZ M1 r 10 = wse (wy M w (qp Q) (qd Q) (qs Q) 4)) := by
  have q6 := hQ.2.2.2.2.2.1 hy
  have rb : 78 ≤ r ∧ r ≤ 110 := by unfold isRide at hr; omega
  obtain ⟨⟨r1, r2, r3, r4, r5, r6, r7⟩, x2, x3, x4⟩ := hX
  refine wV_mono (x_look (d := d) hW hG hr r1 r2 r3 r4 ⟨hQ.1.1, q6.1⟩ hQ.2.1 hQ.2.2.1 w1) (fun M1 q => ?_)
  obtain ⟨hF, hG1, f1, f2⟩ := q
  have e : ∀ k, ¬ (k = 9 ∨ k = 10) → mZ M1 r k = mZ M r k := fun k hk => hF.z (by unfold DLk; omega)
  refine ⟨hF, hG1, Wo_k hW hF.frm (fun i k q => by unfold DLk at q; unfold aside; omega), ⟨⟨(e _ (by decide)).trans r1, (e _ (by decide)).trans r2, (e _ (by decide)).trans r3, (e _ (by decide)).trans r4, (e _ (by decide)).trans r5, (e _ (by decide)).trans r6, (e _ (by decide)).trans r7⟩, fun j x hj => ?_, fun j x hj => ?_, fun c c1 c2 => ?_⟩, f1, f2⟩
  · rw [hF.z (by unfold DLk; omega)]; exact x2 j x hj
  · rw [hF.z (by unfold DLk; omega)]; exact x3 j x hj
  · rw [xbk_k (hF.j (by unfold DLk; simp only [not_or, not_and]; omega)) (hF.j (by unfold DLk; simp only [not_or, not_and]; omega))]
    exact x4 c c1 c2
theorem x_goQ {d r : Nat} {M : qMe} {w wall way : Int} {Q : RQ} (hW : Wo M) (hG : JG M) (hr : isRide r) (hX : RX M r w Q) (hQ : QI Q) (hy : qy Q = -1) (hwl : mZ M r 11 = wall) (w1 : 0 ≤ w ∧ w < mZ M 481 266) (y1 : -1 ≤ way ∧ way ≤ 3) : wV (cal (d + 4) 295 [.ref r, .int (iz way)] M) (fun M1 => Fr M M1 (DGo r) ∧ JG M1 ∧ Wo M1 ∧ RX M1 r w (addP Q (goP M w wall (qb Q) way (qp Q) (qd Q) (qs Q) (qn Q)))) := by
  have q6 := hQ.2.2.2.2.2.1 hy
  have rb : 78 ≤ r ∧ r ≤ 110 := by unfold isRide at hr; omega
  have hX0 := hX
  obtain ⟨r1, x2, x3, x4⟩ := hX
  rw [hy] at r1
  have a7 := hQ.2.2.2.2.2.2.1
  refine wV_mono (x_go (d := d) (wall := wall) hW hG hr r1 hwl (x3 _ _ hQ.2.2.2.2.2.2.2.2.1) ⟨hQ.1.1, q6.1⟩ hQ.2.2.1 w1 ⟨hQ.2.2.2.1.1, q6.2⟩ (by omega) y1) (fun M1 q => ?_)
  obtain ⟨hF, hG1, hR⟩ := q
  rw [goP_c (b2 := qb Q) ⟨hQ.1.1, q6.1⟩ x4] at hR
  refine ⟨hF, hG1, Wo_k hW hF.frm (fun i k q => by unfold DGo at q; unfold aside; omega), RX_add hX0 hQ ?_ hR⟩
  have gb := goP_b (w := w) (wall := wall) (bk := qb Q) hW.2.1 ⟨hQ.1.1, q6.1⟩ hQ.2.1 hQ.2.2.1 ⟨hQ.2.2.2.1.1, q6.2⟩ y1 _ rfl
  rcases gb.2.2.2 with ⟨c1, -⟩ | ⟨c1, -⟩
  · exact Or.inl c1
  · exact Or.inr c1
theorem wayP_f {M : qMe} {w : Int} {Q : RQ} : wayP M w False Q = wfi (wy M w (qp Q) (qd Q) (qs Q) 4) := if_neg (fun q => q.1)
theorem x_rollOut {d r : Nat} {M : qMe} {w wall : Int} {Q : RQ} (hW : Wo M) (hG : JG M) (hr : isRide r) (hX : RX M r w Q) (hQ : QI Q) (hwl : mZ M r 11 = wall) (w1 : 0 ≤ w ∧ w < mZ M 481 266) : wV (cal (d + 5) 293 [.ref r] M) (fun M1 => Fr M M1 (DRo r) ∧ JG M1 ∧ Wo M1 ∧ RX M1 r w (rollP M w wall 60 Q) ∧ QI (rollP M w wall 60 Q)) := by
  refine wV_q (fun P hP => ?_)
  have h := hW.1
  have rb : 78 ≤ r ∧ r ≤ 110 := by unfold isRide at hr; omega
  rw [cal_293, gd_t (Nat.le_of_ble_eq_true rfl)]
  change wp (n_293_0 (cal _) [some (.ref r), none] [] _) _
  generalize hT : rollP M w wall 60 Q = T at *
  simp (disch := first | assumption | decide | omega) only [n_293_0, n_293_34, n_293_2, z_iconst, z_bipush, z_sipush, z_ldc, z_ldcs, z_ldcw, z_ldc2, z_lconst0, z_lconst1, z_null, z_getstatic, z_iload_0, z_iload_1, z_iload_2, z_iload_3, z_iload, z_istore_0, z_istore_1, z_istore_2, z_istore_3, z_istore, z_lload_0, z_lload_1, z_lload_2, z_lload_3, z_lload, z_lstore_0, z_lstore_1, z_lstore_2, z_lstore_3, z_lstore, z_aload_0, z_aload_1, z_aload_2, z_aload_3, z_aload, z_astore_0, z_astore_1, z_astore_2, z_astore_3, z_astore, ald_0, ald_s, z_iinc, qst1_1i, qst2_1i, qst1_1r, qst2_1r, qst1_1u, qst2_1u, qst1_1n, qst2_1n, qst1_1l, qst2_1l, qst1_0, qst2_0, qst1_s, qst2_s, z_iadd, z_isub, z_imul, z_iand, z_ior, z_ixor, z_ishl, z_ishr, z_idiv, z_irem, z_ladd, z_lsub, z_lmul, z_land, z_lor, z_ldiv, z_lrem, z_ineg, z_lshl, z_lshr, z_i2l, z_l2i, z_i2b, z_i2c, z_lcmp, z_dupi, z_dupr, z_popi, z_popr, z_dup2, z_goto, z_get0, z_get1, z_get2, z_get3, z_put0, z_put1, z_put2, z_put2n, z_put3, z_iaload, z_baload, z_laload, z_aaload, z_iastore, z_bastore, z_lastore, z_aastore, z_aastoren, z_arraylength, z_new, z_newarray, z_anewarray, z_multi, z_objinit, z_is0, z_iv0, z_ip0, z_is1, z_iv1, z_ip1, z_is2, z_iv2, z_ip2, z_is3, z_iv3, z_ip3, z_is4, z_iv4, z_ip4, z_is5, z_iv5, z_ip5, z_is6, z_iv6, z_ip6, z_is7, z_iv7, z_ip7, z_m991, z_m992, z_m993, z_m994, z_m995, z_m996, z_m998, acal_0, acal_1, acal_2, acal_3, acal_4, aK_v, aK_n, sF_c, sF_n, b_nr, b_nn, r_I, r_Z, r_L, r_A, r_V, sw_F, sw_n, gd_tt, is01_bzT, is01_0, is01_1, qrv_s, qrv_n, bi_eq_t, bi_eq_f, bi_ne_t, bi_ne_f, bi_lt_t, bi_lt_f, bi_ge_t, bi_ge_f, bi_gt_t, bi_gt_f, bi_le_t, bi_le_f, bc_eq_t, bc_eq_f, bc_ne_t, bc_ne_f, bc_lt_t, bc_lt_f, bc_ge_t, bc_ge_f, bc_gt_t, bc_gt_f, bc_le_t, bc_le_f, bb_eq_t, bb_eq_f, bb_ne_t, bb_ne_f, sc_t, sc_f, b_nr, b_nn, mI_J, mI_R, mJ_I, mJ_R, mR_I, mR_J, mK_I, mK_J, mK_R, mN_I, mN_J, mN_R, inM_I, inM_J, inM_R, mZ_nc, mZ_nk, mZ_sm, mZ_J, mZ_R, mJ_nc, mJ_ni, mJ_sm, mI_Z, iz_add, iz_sub, iz_mul, iz_neg, iz_lt, iz_le, iz_eq, iz_clamp, iz_inB, iz_div, iz_rem, shK h, shR h, inM_lit, and_self, true_and, and_true, true_or, or_true, not_true_eq_false, not_false_eq_true, Nat.reduceEqDiff, reduceCtorEq, Int.reduceNeg, Int.reduceSub, Int.reduceAdd, Int.reduceMul, Int.reduceToNat, Int.reduceEq, Int.neg_neg, Int.cast_ofNat_Int, Nat.reduceAdd, Nat.reduceMul, Nat.reduceSub, gd_t, emod_r, iz_0, Int.zero_add, Int.add_zero, wp_some]
  refine wp_lpq (fun k L M' => ∃ (i : Nat) (Q' : RQ), L = [some (.ref r), some (.int (iz (i : Int)))] ∧ i + k = 60 ∧ Fr M M' (DRo r) ∧ JG M' ∧ Wo M' ∧ RX M' r w Q' ∧ QI Q' ∧ rollP M w wall k Q' = T) (k := 60) ⟨0, Q, rfl, rfl, Fr.rf, hG, hW, hX, hQ, hT⟩ (by decide) ?_
  rintro k L M' g ⟨i, Q', rfl, hik, hF, hG', hW', hX', hQ', hro⟩ hg2
  have h := hW'.1
  have hN := h.1
  obtain ⟨⟨k1, k2⟩, -⟩ := rideS h hr
  have ry : mZ M' r 8 = qy Q' := hX'.1.2.2.2.2.2.2
  have yb := hQ'.2.2.2.2.1
  by_cases c1 : i = 60
  · obtain rfl : k = 0 := by omega
    have hro : Q' = T := hro
    simp (disch := first | assumption | decide | omega) only [n_293_0, n_293_34, f_293_2, z_iconst, z_bipush, z_sipush, z_ldc, z_ldcs, z_ldcw, z_ldc2, z_lconst0, z_lconst1, z_null, z_getstatic, z_iload_0, z_iload_1, z_iload_2, z_iload_3, z_iload, z_istore_0, z_istore_1, z_istore_2, z_istore_3, z_istore, z_lload_0, z_lload_1, z_lload_2, z_lload_3, z_lload, z_lstore_0, z_lstore_1, z_lstore_2, z_lstore_3, z_lstore, z_aload_0, z_aload_1, z_aload_2, z_aload_3, z_aload, z_astore_0, z_astore_1, z_astore_2, z_astore_3, z_astore, ald_0, ald_s, z_iinc, qst1_1i, qst2_1i, qst1_1r, qst2_1r, qst1_1u, qst2_1u, qst1_1n, qst2_1n, qst1_1l, qst2_1l, qst1_0, qst2_0, qst1_s, qst2_s, z_iadd, z_isub, z_imul, z_iand, z_ior, z_ixor, z_ishl, z_ishr, z_idiv, z_irem, z_ladd, z_lsub, z_lmul, z_land, z_lor, z_ldiv, z_lrem, z_ineg, z_lshl, z_lshr, z_i2l, z_l2i, z_i2b, z_i2c, z_lcmp, z_dupi, z_dupr, z_popi, z_popr, z_dup2, z_goto, z_get0, z_get1, z_get2, z_get3, z_put0, z_put1, z_put2, z_put2n, z_put3, z_iaload, z_baload, z_laload, z_aaload, z_iastore, z_bastore, z_lastore, z_aastore, z_aastoren, z_arraylength, z_new, z_newarray, z_anewarray, z_multi, z_objinit, z_is0, z_iv0, z_ip0, z_is1, z_iv1, z_ip1, z_is2, z_iv2, z_ip2, z_is3, z_iv3, z_ip3, z_is4, z_iv4, z_ip4, z_is5, z_iv5, z_ip5, z_is6, z_iv6, z_ip6, z_is7, z_iv7, z_ip7, z_m991, z_m992, z_m993, z_m994, z_m995, z_m996, z_m998, acal_0, acal_1, acal_2, acal_3, acal_4, aK_v, aK_n, sF_c, sF_n, b_nr, b_nn, r_I, r_Z, r_L, r_A, r_V, sw_F, sw_n, gd_tt, is01_bzT, is01_0, is01_1, qrv_s, qrv_n, bi_eq_t, bi_eq_f, bi_ne_t, bi_ne_f, bi_lt_t, bi_lt_f, bi_ge_t, bi_ge_f, bi_gt_t, bi_gt_f, bi_le_t, bi_le_f, bc_eq_t, bc_eq_f, bc_ne_t, bc_ne_f, bc_lt_t, bc_lt_f, bc_ge_t, bc_ge_f, bc_gt_t, bc_gt_f, bc_le_t, bc_le_f, bb_eq_t, bb_eq_f, bb_ne_t, bb_ne_f, sc_t, sc_f, b_nr, b_nn, mI_J, mI_R, mJ_I, mJ_R, mR_I, mR_J, mK_I, mK_J, mK_R, mN_I, mN_J, mN_R, inM_I, inM_J, inM_R, mZ_nc, mZ_nk, mZ_sm, mZ_J, mZ_R, mJ_nc, mJ_ni, mJ_sm, mI_Z, iz_add, iz_sub, iz_mul, iz_neg, iz_lt, iz_le, iz_eq, iz_clamp, iz_inB, iz_div, iz_rem, shK h, shR h, inM_lit, and_self, true_and, and_true, true_or, or_true, not_true_eq_false, not_false_eq_true, Nat.reduceEqDiff, reduceCtorEq, Int.reduceNeg, Int.reduceSub, Int.reduceAdd, Int.reduceMul, Int.reduceToNat, Int.reduceEq, Int.neg_neg, Int.cast_ofNat_Int, Nat.reduceAdd, Nat.reduceMul, Nat.reduceSub, gd_t, emod_r, iz_0, Int.zero_add, Int.add_zero, wp_some]
    exact hP M' ⟨hF, hG', hW', hro ▸ hX', hro ▸ hQ'⟩
  · obtain ⟨k, rfl⟩ : ∃ k', k = k' + 1 := ⟨k - 1, by omega⟩
    unfold rollP at hro
    by_cases c2 : qy Q' = -1
    · rw [if_pos c2] at hro
      have k481 : ∀ k, mZ M' 481 k = mZ M 481 k := fun k => hF.z (by unfold DRo; omega)
      have wl' : mZ M' r 11 = wall := by rw [hF.z (by unfold DRo; omega)]; exact hwl
      have w1' : 0 ≤ w ∧ w < mZ M' 481 266 := by rw [k481]; exact w1
      simp (disch := first | assumption | decide | omega) only [n_293_0, n_293_34, f_293_2, z_iconst, z_bipush, z_sipush, z_ldc, z_ldcs, z_ldcw, z_ldc2, z_lconst0, z_lconst1, z_null, z_getstatic, z_iload_0, z_iload_1, z_iload_2, z_iload_3, z_iload, z_istore_0, z_istore_1, z_istore_2, z_istore_3, z_istore, z_lload_0, z_lload_1, z_lload_2, z_lload_3, z_lload, z_lstore_0, z_lstore_1, z_lstore_2, z_lstore_3, z_lstore, z_aload_0, z_aload_1, z_aload_2, z_aload_3, z_aload, z_astore_0, z_astore_1, z_astore_2, z_astore_3, z_astore, ald_0, ald_s, z_iinc, qst1_1i, qst2_1i, qst1_1r, qst2_1r, qst1_1u, qst2_1u, qst1_1n, qst2_1n, qst1_1l, qst2_1l, qst1_0, qst2_0, qst1_s, qst2_s, z_iadd, z_isub, z_imul, z_iand, z_ior, z_ixor, z_ishl, z_ishr, z_idiv, z_irem, z_ladd, z_lsub, z_lmul, z_land, z_lor, z_ldiv, z_lrem, z_ineg, z_lshl, z_lshr, z_i2l, z_l2i, z_i2b, z_i2c, z_lcmp, z_dupi, z_dupr, z_popi, z_popr, z_dup2, z_goto, z_get0, z_get1, z_get2, z_get3, z_put0, z_put1, z_put2, z_put2n, z_put3, z_iaload, z_baload, z_laload, z_aaload, z_iastore, z_bastore, z_lastore, z_aastore, z_aastoren, z_arraylength, z_new, z_newarray, z_anewarray, z_multi, z_objinit, z_is0, z_iv0, z_ip0, z_is1, z_iv1, z_ip1, z_is2, z_iv2, z_ip2, z_is3, z_iv3, z_ip3, z_is4, z_iv4, z_ip4, z_is5, z_iv5, z_ip5, z_is6, z_iv6, z_ip6, z_is7, z_iv7, z_ip7, z_m991, z_m992, z_m993, z_m994, z_m995, z_m996, z_m998, acal_0, acal_1, acal_2, acal_3, acal_4, aK_v, aK_n, sF_c, sF_n, b_nr, b_nn, r_I, r_Z, r_L, r_A, r_V, sw_F, sw_n, gd_tt, is01_bzT, is01_0, is01_1, qrv_s, qrv_n, bi_eq_t, bi_eq_f, bi_ne_t, bi_ne_f, bi_lt_t, bi_lt_f, bi_ge_t, bi_ge_f, bi_gt_t, bi_gt_f, bi_le_t, bi_le_f, bc_eq_t, bc_eq_f, bc_ne_t, bc_ne_f, bc_lt_t, bc_lt_f, bc_ge_t, bc_ge_f, bc_gt_t, bc_gt_f, bc_le_t, bc_le_f, bb_eq_t, bb_eq_f, bb_ne_t, bb_ne_f, sc_t, sc_f, b_nr, b_nn, mI_J, mI_R, mJ_I, mJ_R, mR_I, mR_J, mK_I, mK_J, mK_R, mN_I, mN_J, mN_R, inM_I, inM_J, inM_R, mZ_nc, mZ_nk, mZ_sm, mZ_J, mZ_R, mJ_nc, mJ_ni, mJ_sm, mI_Z, iz_add, iz_sub, iz_mul, iz_neg, iz_lt, iz_le, iz_eq, iz_clamp, iz_inB, iz_div, iz_rem, shK h, shR h, inM_lit, and_self, true_and, and_true, true_or, or_true, not_true_eq_false, not_false_eq_true, Nat.reduceEqDiff, reduceCtorEq, Int.reduceNeg, Int.reduceSub, Int.reduceAdd, Int.reduceMul, Int.reduceToNat, Int.reduceEq, Int.neg_neg, Int.cast_ofNat_Int, Nat.reduceAdd, Nat.reduceMul, Nat.reduceSub, gd_t, emod_r, iz_0, Int.zero_add, Int.add_zero, wp_some, k1, k2, ry]
      refine wp_cV (x_lookgo (d := d) hW' hG' hr hX' hQ' c2 wl' w1') (fun M2 q2 => ?_)
      obtain ⟨hF2, hG2, hW2, hX2, f1, -⟩ := q2
      have h2 := hW2.1
      have hN2 := h2.1
      obtain ⟨⟨j1, j2⟩, -⟩ := rideS h2 hr
      rw [wy_k k481] at f1
      have ef : wfi (wy M w (qp Q') (qd Q') (qs Q') 4) = wayP M w False Q' := wayP_f.symm
      rw [ef] at f1
      have yb2 := wayP_b (M := M) (w := w) (slip := False) (Q := Q')
      have k481' : ∀ k, mZ M2 481 k = mZ M 481 k := fun k => by rw [hF2.z (by unfold DLk; omega)]; exact k481 k
      simp (disch := first | assumption | decide | omega) only [n_293_0, n_293_34, f_293_2, z_iconst, z_bipush, z_sipush, z_ldc, z_ldcs, z_ldcw, z_ldc2, z_lconst0, z_lconst1, z_null, z_getstatic, z_iload_0, z_iload_1, z_iload_2, z_iload_3, z_iload, z_istore_0, z_istore_1, z_istore_2, z_istore_3, z_istore, z_lload_0, z_lload_1, z_lload_2, z_lload_3, z_lload, z_lstore_0, z_lstore_1, z_lstore_2, z_lstore_3, z_lstore, z_aload_0, z_aload_1, z_aload_2, z_aload_3, z_aload, z_astore_0, z_astore_1, z_astore_2, z_astore_3, z_astore, ald_0, ald_s, z_iinc, qst1_1i, qst2_1i, qst1_1r, qst2_1r, qst1_1u, qst2_1u, qst1_1n, qst2_1n, qst1_1l, qst2_1l, qst1_0, qst2_0, qst1_s, qst2_s, z_iadd, z_isub, z_imul, z_iand, z_ior, z_ixor, z_ishl, z_ishr, z_idiv, z_irem, z_ladd, z_lsub, z_lmul, z_land, z_lor, z_ldiv, z_lrem, z_ineg, z_lshl, z_lshr, z_i2l, z_l2i, z_i2b, z_i2c, z_lcmp, z_dupi, z_dupr, z_popi, z_popr, z_dup2, z_goto, z_get0, z_get1, z_get2, z_get3, z_put0, z_put1, z_put2, z_put2n, z_put3, z_iaload, z_baload, z_laload, z_aaload, z_iastore, z_bastore, z_lastore, z_aastore, z_aastoren, z_arraylength, z_new, z_newarray, z_anewarray, z_multi, z_objinit, z_is0, z_iv0, z_ip0, z_is1, z_iv1, z_ip1, z_is2, z_iv2, z_ip2, z_is3, z_iv3, z_ip3, z_is4, z_iv4, z_ip4, z_is5, z_iv5, z_ip5, z_is6, z_iv6, z_ip6, z_is7, z_iv7, z_ip7, z_m991, z_m992, z_m993, z_m994, z_m995, z_m996, z_m998, acal_0, acal_1, acal_2, acal_3, acal_4, aK_v, aK_n, sF_c, sF_n, b_nr, b_nn, r_I, r_Z, r_L, r_A, r_V, sw_F, sw_n, gd_tt, is01_bzT, is01_0, is01_1, qrv_s, qrv_n, bi_eq_t, bi_eq_f, bi_ne_t, bi_ne_f, bi_lt_t, bi_lt_f, bi_ge_t, bi_ge_f, bi_gt_t, bi_gt_f, bi_le_t, bi_le_f, bc_eq_t, bc_eq_f, bc_ne_t, bc_ne_f, bc_lt_t, bc_lt_f, bc_ge_t, bc_ge_f, bc_gt_t, bc_gt_f, bc_le_t, bc_le_f, bb_eq_t, bb_eq_f, bb_ne_t, bb_ne_f, sc_t, sc_f, b_nr, b_nn, mI_J, mI_R, mJ_I, mJ_R, mR_I, mR_J, mK_I, mK_J, mK_R, mN_I, mN_J, mN_R, inM_I, inM_J, inM_R, mZ_nc, mZ_nk, mZ_sm, mZ_J, mZ_R, mJ_nc, mJ_ni, mJ_sm, mI_Z, iz_add, iz_sub, iz_mul, iz_neg, iz_lt, iz_le, iz_eq, iz_clamp, iz_inB, iz_div, iz_rem, shK h, shR h, inM_lit, and_self, true_and, and_true, true_or, or_true, not_true_eq_false, not_false_eq_true, Nat.reduceEqDiff, reduceCtorEq, Int.reduceNeg, Int.reduceSub, Int.reduceAdd, Int.reduceMul, Int.reduceToNat, Int.reduceEq, Int.neg_neg, Int.cast_ofNat_Int, Nat.reduceAdd, Nat.reduceMul, Nat.reduceSub, gd_t, emod_r, iz_0, Int.zero_add, Int.add_zero, wp_some, j1, j2, f1]
      refine wp_cV (x_goQ (d := d) (wall := wall) hW2 hG2 hr hX2 hQ' c2 (by rw [hF2.z (by unfold DLk; omega)]; exact wl') (by rw [k481']; exact w1) yb2) (fun M3 q3 => ?_)
      obtain ⟨hF3, hG3, hW3, hX3⟩ := q3
      rw [goP_k k481'] at hX3
      have z := hg2 k [some (.ref r), some (.int (iz ((i + 1 : Nat) : Int)))] M3 (by omega) ⟨i + 1, stepP M w wall False Q', rfl, by omega, (hF.tr (hF2.mono (fun i k q => by unfold DLk at q; unfold DRo; omega))).tr (hF3.mono (fun i k q => by unfold DGo at q; unfold DRo; omega)), hG3, hW3, hX3, (addP_I hW.2.1 hQ' c2 yb2).1, hro⟩
      rw [show ((i + 1 : Nat) : Int) = (i : Int) + 1 by omega] at z
      exact z
    · rw [if_neg c2] at hro
      simp (disch := first | assumption | decide | omega) only [n_293_0, n_293_34, f_293_2, z_iconst, z_bipush, z_sipush, z_ldc, z_ldcs, z_ldcw, z_ldc2, z_lconst0, z_lconst1, z_null, z_getstatic, z_iload_0, z_iload_1, z_iload_2, z_iload_3, z_iload, z_istore_0, z_istore_1, z_istore_2, z_istore_3, z_istore, z_lload_0, z_lload_1, z_lload_2, z_lload_3, z_lload, z_lstore_0, z_lstore_1, z_lstore_2, z_lstore_3, z_lstore, z_aload_0, z_aload_1, z_aload_2, z_aload_3, z_aload, z_astore_0, z_astore_1, z_astore_2, z_astore_3, z_astore, ald_0, ald_s, z_iinc, qst1_1i, qst2_1i, qst1_1r, qst2_1r, qst1_1u, qst2_1u, qst1_1n, qst2_1n, qst1_1l, qst2_1l, qst1_0, qst2_0, qst1_s, qst2_s, z_iadd, z_isub, z_imul, z_iand, z_ior, z_ixor, z_ishl, z_ishr, z_idiv, z_irem, z_ladd, z_lsub, z_lmul, z_land, z_lor, z_ldiv, z_lrem, z_ineg, z_lshl, z_lshr, z_i2l, z_l2i, z_i2b, z_i2c, z_lcmp, z_dupi, z_dupr, z_popi, z_popr, z_dup2, z_goto, z_get0, z_get1, z_get2, z_get3, z_put0, z_put1, z_put2, z_put2n, z_put3, z_iaload, z_baload, z_laload, z_aaload, z_iastore, z_bastore, z_lastore, z_aastore, z_aastoren, z_arraylength, z_new, z_newarray, z_anewarray, z_multi, z_objinit, z_is0, z_iv0, z_ip0, z_is1, z_iv1, z_ip1, z_is2, z_iv2, z_ip2, z_is3, z_iv3, z_ip3, z_is4, z_iv4, z_ip4, z_is5, z_iv5, z_ip5, z_is6, z_iv6, z_ip6, z_is7, z_iv7, z_ip7, z_m991, z_m992, z_m993, z_m994, z_m995, z_m996, z_m998, acal_0, acal_1, acal_2, acal_3, acal_4, aK_v, aK_n, sF_c, sF_n, b_nr, b_nn, r_I, r_Z, r_L, r_A, r_V, sw_F, sw_n, gd_tt, is01_bzT, is01_0, is01_1, qrv_s, qrv_n, bi_eq_t, bi_eq_f, bi_ne_t, bi_ne_f, bi_lt_t, bi_lt_f, bi_ge_t, bi_ge_f, bi_gt_t, bi_gt_f, bi_le_t, bi_le_f, bc_eq_t, bc_eq_f, bc_ne_t, bc_ne_f, bc_lt_t, bc_lt_f, bc_ge_t, bc_ge_f, bc_gt_t, bc_gt_f, bc_le_t, bc_le_f, bb_eq_t, bb_eq_f, bb_ne_t, bb_ne_f, sc_t, sc_f, b_nr, b_nn, mI_J, mI_R, mJ_I, mJ_R, mR_I, mR_J, mK_I, mK_J, mK_R, mN_I, mN_J, mN_R, inM_I, inM_J, inM_R, mZ_nc, mZ_nk, mZ_sm, mZ_J, mZ_R, mJ_nc, mJ_ni, mJ_sm, mI_Z, iz_add, iz_sub, iz_mul, iz_neg, iz_lt, iz_le, iz_eq, iz_clamp, iz_inB, iz_div, iz_rem, shK h, shR h, inM_lit, and_self, true_and, and_true, true_or, or_true, not_true_eq_false, not_false_eq_true, Nat.reduceEqDiff, reduceCtorEq, Int.reduceNeg, Int.reduceSub, Int.reduceAdd, Int.reduceMul, Int.reduceToNat, Int.reduceEq, Int.neg_neg, Int.cast_ofNat_Int, Nat.reduceAdd, Nat.reduceMul, Nat.reduceSub, gd_t, emod_r, iz_0, Int.zero_add, Int.add_zero, wp_some, k1, k2, ry]
      exact hP M' ⟨hF, hG', hW', hro ▸ hX', hro ▸ hQ'⟩

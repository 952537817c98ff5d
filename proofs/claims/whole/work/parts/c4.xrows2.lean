/-- the ride r is as Q, but for what it keeps of its way -/
def RXL (M : qMe) (r : Nat) (w : Int) (Q : RQ) : Prop := RAt M r (qp Q) (qd Q) (qs Q) w (qn Q) ((ql Q).length : Int) (qy Q) ∧ (∀ c, 0 ≤ c → c < 80 → (xbk M r c ↔ qb Q c))
theorem RXL_of {M : qMe} {r : Nat} {w : Int} {Q : RQ} (h : RX M r w Q) : RXL M r w Q := ⟨h.1, h.2.2.2⟩
theorem RXL_k {M M1 : qMe} {D : Nat → Nat → Prop} {r : Nat} {w : Int} {Q : RQ} (h : RXL M r w Q) (hF : Fr M M1 D) (hD : ∀ k, ¬ (k = 9 ∨ k = 10) → ¬ D r k) : RXL M1 r w Q := by
  obtain ⟨⟨r1, r2, r3, r4, r5, r6, r7⟩, x4⟩ := h
  have e : ∀ k, ¬ (k = 9 ∨ k = 10) → mZ M1 r k = mZ M r k := fun k hk => hF.z (hD k hk)
  refine ⟨⟨(e _ (by decide)).trans r1, (e _ (by decide)).trans r2, (e _ (by decide)).trans r3, (e _ (by decide)).trans r4, (e _ (by decide)).trans r5, (e _ (by decide)).trans r6, (e _ (by decide)).trans r7⟩, fun c c1 c2 => ?_⟩
  rw [xbk_k (hF.j (hD _ (by decide))) (hF.j (hD _ (by decide)))]
  exact x4 c c1 c2
theorem x_lookR {d r : Nat} {M : qMe} {w : Int} {Q : RQ} (hW : Wo M) (hG : JG M) (hr : isRide r) (hX : RXL M r w Q) (hQ : QI Q) (hy : qy Q = -1) (w1 : 0 ≤ w ∧ w < mZ M 481 266) : wV (cal (d + 4) 294 [.ref r] M) (fun M1 => Fr M M1 (DLk r) ∧ JG M1 ∧ Wo M1 ∧ RXL M1 r w Q ∧ mZ M1 r 9 = wfi (wy M w (qp Q) (qd Q) (qs Q) 4) ∧ mZ M1 r 10 = wse (wy M w (qp Q) (qd Q) (qs Q) 4)) := by
  have q6 := hQ.2.2.2.2.2.1 hy
  have rb : 78 ≤ r ∧ r ≤ 110 := by unfold isRide at hr; omega
  have hX0 := hX
  obtain ⟨⟨r1, r2, r3, r4, r5, r6, r7⟩, x4⟩ := hX
  refine wV_mono (x_look (d := d) hW hG hr r1 r2 r3 r4 ⟨hQ.1.1, q6.1⟩ hQ.2.1 hQ.2.2.1 w1) (fun M1 q => ?_)
  obtain ⟨hF, hG1, f1, f2⟩ := q
  exact ⟨hF, hG1, Wo_k hW hF.frm (fun i k q => by unfold DLk at q; unfold aside; omega), RXL_k hX0 hF (fun k hk => by unfold DLk; omega), f1, f2⟩
theorem x_goR {d r : Nat} {M : qMe} {w wall way : Int} {Q : RQ} (hW : Wo M) (hG : JG M) (hr : isRide r) (hX : RXL M r w Q) (hQ : QI Q) (hy : qy Q = -1) (hwl : mZ M r 11 = wall) (w1 : 0 ≤ w ∧ w < mZ M 481 266) (y1 : -1 ≤ way ∧ way ≤ 3) : wV (cal (d + 4) 295 [.ref r, .int (iz way)] M) (fun M1 => Fr M M1 (DGo r) ∧ JG M1 ∧ Wo M1 ∧ RXL M1 r w (addP Q (goP M w wall (qb Q) way (qp Q) (qd Q) (qs Q) (qn Q)))) := by
  have q6 := hQ.2.2.2.2.2.1 hy
  have rb : 78 ≤ r ∧ r ≤ 110 := by unfold isRide at hr; omega
  obtain ⟨r1, x4⟩ := hX
  rw [hy] at r1
  have a7 := hQ.2.2.2.2.2.2.1
  refine wV_mono (x_goL (d := d) (wall := wall) hW hG hr r1 hwl ⟨hQ.1.1, q6.1⟩ hQ.2.2.1 w1 ⟨hQ.2.2.2.1.1, q6.2⟩ (by omega) y1) (fun M1 q => ?_)
  obtain ⟨hF, hG1, hR⟩ := q
  rw [goP_c (b2 := qb Q) ⟨hQ.1.1, q6.1⟩ x4] at hR
  refine ⟨hF, hG1, Wo_k hW hF.frm (fun i k q => by unfold DGo at q; unfold aside; omega), ?_⟩
  obtain ⟨⟨k1, k2, k3, k4, k5, k6, k7⟩, g6⟩ := hR
  refine ⟨⟨k1, k2, k3, k4, k5, ?_, k7⟩, fun c c1 c2 => ?_⟩
  · rw [k6]
    generalize goP M w wall (qb Q) way (qp Q) (qd Q) (qs Q) (qn Q) = R
    show _ = ((if R.2.2.2.2.2 = -1 then ql Q else ql Q ++ [R.2.2.2.2.2]).length : Int)
    split
    · rfl
    · simp only [List.length_append, List.length_cons, List.length_nil]; omega
  · rw [g6 c c1 c2, x4 c c1 c2]
    exact Iff.rfl
def DBr (r : Nat) (i k : Nat) : Prop := i = r ∧ ¬ (k = 11 ∨ k = 9 ∨ k = 10)
theorem x_branch {d r q : Nat} {M : qMe} {w : Int} {Q : RQ} (h : shp M) (hr : isRide r) (hq : isRide q) (ne : ¬ q = r) (hX : RXL M q w Q) (hQ : QI Q) (w1 : 0 ≤ w ∧ w < 8) : wV (cal (d + 1) 292 [.ref r, .ref q] M) (fun M1 => Fr M M1 (DBr r) ∧ RXL M1 r w Q) := by
  refine wV_q (fun P hP => ?_)
  have hN := h.1
  obtain ⟨⟨k1, k2⟩, -⟩ := rideS h hr
  obtain ⟨⟨j1, j2⟩, -⟩ := rideS h hq
  obtain ⟨⟨r1, r2, r3, r4, r5, r6, r7⟩, x4⟩ := hX
  have a1 := hQ.1
  have a2 := hQ.2.1
  have a3 := hQ.2.2.1
  have a4 := hQ.2.2.2.1
  have a5 := hQ.2.2.2.2.1
  have a7 := hQ.2.2.2.2.2.2.1
  rw [cal_292, gd_t (Nat.le_of_ble_eq_true rfl)]
  change wp (n_292_0 (cal _) [some (.ref r), some (.ref q)] [] _) _
  simp (disch := first | assumption | decide | omega) only [n_292_0, z_iconst, z_bipush, z_sipush, z_ldc, z_ldcs, z_ldcw, z_ldc2, z_lconst0, z_lconst1, z_null, z_getstatic, z_iload_0, z_iload_1, z_iload_2, z_iload_3, z_iload, z_istore_0, z_istore_1, z_istore_2, z_istore_3, z_istore, z_lload_0, z_lload_1, z_lload_2, z_lload_3, z_lload, z_lstore_0, z_lstore_1, z_lstore_2, z_lstore_3, z_lstore, z_aload_0, z_aload_1, z_aload_2, z_aload_3, z_aload, z_astore_0, z_astore_1, z_astore_2, z_astore_3, z_astore, ald_0, ald_s, z_iinc, qst1_1i, qst2_1i, qst1_1r, qst2_1r, qst1_1u, qst2_1u, qst1_1n, qst2_1n, qst1_1l, qst2_1l, qst1_0, qst2_0, qst1_s, qst2_s, z_iadd, z_isub, z_imul, z_iand, z_ior, z_ixor, z_ishl, z_ishr, z_idiv, z_irem, z_ladd, z_lsub, z_lmul, z_land, z_lor, z_ldiv, z_lrem, z_ineg, z_lshl, z_lshr, z_i2l, z_l2i, z_i2b, z_i2c, z_lcmp, z_dupi, z_dupr, z_popi, z_popr, z_dup2, z_goto, z_get0, z_get1, z_get2, z_get3, z_put0, z_put1, z_put2, z_put2n, z_put3, z_iaload, z_baload, z_laload, z_aaload, z_iastore, z_bastore, z_lastore, z_aastore, z_aastoren, z_arraylength, z_new, z_newarray, z_anewarray, z_multi, z_objinit, z_is0, z_iv0, z_ip0, z_is1, z_iv1, z_ip1, z_is2, z_iv2, z_ip2, z_is3, z_iv3, z_ip3, z_is4, z_iv4, z_ip4, z_is5, z_iv5, z_ip5, z_is6, z_iv6, z_ip6, z_is7, z_iv7, z_ip7, z_m991, z_m992, z_m993, z_m994, z_m995, z_m996, z_m998, acal_0, acal_1, acal_2, acal_3, acal_4, aK_v, aK_n, sF_c, sF_n, b_nr, b_nn, r_I, r_Z, r_L, r_A, r_V, sw_F, sw_n, gd_tt, is01_bzT, is01_0, is01_1, qrv_s, qrv_n, bi_eq_t, bi_eq_f, bi_ne_t, bi_ne_f, bi_lt_t, bi_lt_f, bi_ge_t, bi_ge_f, bi_gt_t, bi_gt_f, bi_le_t, bi_le_f, bc_eq_t, bc_eq_f, bc_ne_t, bc_ne_f, bc_lt_t, bc_lt_f, bc_ge_t, bc_ge_f, bc_gt_t, bc_gt_f, bc_le_t, bc_le_f, bb_eq_t, bb_eq_f, bb_ne_t, bb_ne_f, sc_t, sc_f, b_nr, b_nn, mI_J, mI_R, mJ_I, mJ_R, mR_I, mR_J, mK_I, mK_J, mK_R, mN_I, mN_J, mN_R, inM_I, inM_J, inM_R, mZ_nc, mZ_nk, mZ_sm, mZ_J, mZ_R, mJ_nc, mJ_ni, mJ_sm, mI_Z, iz_add, iz_sub, iz_mul, iz_neg, iz_lt, iz_le, iz_eq, iz_clamp, iz_inB, iz_div, iz_rem, shK h, shR h, inM_lit, and_self, true_and, and_true, true_or, or_true, not_true_eq_false, not_false_eq_true, Nat.reduceEqDiff, reduceCtorEq, Int.reduceNeg, Int.reduceSub, Int.reduceAdd, Int.reduceMul, Int.reduceToNat, Int.reduceEq, Int.neg_neg, Int.cast_ofNat_Int, Nat.reduceAdd, Nat.reduceMul, Nat.reduceSub, gd_t, emod_r, iz_0, Int.zero_add, Int.add_zero, wp_some, lz_add, lz_sub, lz_mul, lz_0, lz_1, lz_of, lz_nz, lz_i2l, lz_l2i, lz_rem, lz_div, is01_i, lcmp_lt, lcmp_eq, lcmp_gt, k1, k2, j1, j2, r1, r2, r3, r4, r5, r6, r7]
  refine hP _ ⟨?_, ⟨?_, ?_, ?_, ?_, ?_, ?_, ?_⟩, fun c c1 c2 => ?_⟩
  · exact ((((((((Fr.rf.I (by unfold DBr; omega)).I (by unfold DBr; omega)).I (by unfold DBr; omega)).I (by unfold DBr; omega)).I (by unfold DBr; omega)).I (by unfold DBr; omega)).I (by unfold DBr; omega)).J (by unfold DBr; omega)).J (by unfold DBr; omega)
  · simp (disch := first | decide | omega) only [mZ_J, mZ_nk, mZ_sm]
  · simp (disch := first | decide | omega) only [mZ_J, mZ_nk, mZ_sm]
  · simp (disch := first | decide | omega) only [mZ_J, mZ_nk, mZ_sm]
  · simp (disch := first | decide | omega) only [mZ_J, mZ_nk, mZ_sm]
  · simp (disch := first | decide | omega) only [mZ_J, mZ_nk, mZ_sm]
  · simp (disch := first | decide | omega) only [mZ_J, mZ_nk, mZ_sm]
  · simp (disch := first | decide | omega) only [mZ_J, mZ_nk, mZ_sm]
  · rw [← x4 c c1 c2]
    unfold xbk
    simp (disch := first | decide | omega) only [mJ_ni, mJ_sm, mJ_I]
theorem ridesR {M : qMe} {t : Nat} (h : shp M) (ht : t ≤ 2) : mR M 82 t = some (104 + 3 * t) := by
  rcases (show t = 0 ∨ t = 1 ∨ t = 2 by omega) with rfl | rfl | rfl
  · simp only [shR h, Nat.reduceMul, Nat.reduceAdd]
  · simp only [shR h, Nat.reduceMul, Nat.reduceAdd]
  · simp only [shR h, Nat.reduceMul, Nat.reduceAdd]
theorem csl_1 {M : qMe} {w : Int} {Q : RQ} : csl M w Q = 1 ↔ ¬ wse (wy M w (qp Q) (qd Q) (qs Q) 4) = -1 := by
  unfold csl
  split
  · next e => exact ⟨fun q => by omega, fun q => absurd e q⟩
  · next e => exact ⟨fun _ => e, fun _ => rfl⟩
theorem wayP_t {M : qMe} {w : Int} {Q : RQ} (h : ¬ wse (wy M w (qp Q) (qd Q) (qs Q) 4) = -1) : wayP M w True Q = wse (wy M w (qp Q) (qd Q) (qs Q) 4) := if_pos ⟨True.intro, h⟩

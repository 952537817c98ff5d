theorem wse_len {l : List Int} (h : ∀ x, x ∈ l → 0 ≤ x) : (wse l = -1 ↔ l.length ≤ 1) ∧ (wfi l = -1 ↔ l.length = 0) := by
  match l, h with
  | [], _ => exact ⟨⟨fun _ => by decide, fun _ => rfl⟩, ⟨fun _ => rfl, fun _ => rfl⟩⟩
  | [x], h =>
    have := h x List.mem_cons_self
    exact ⟨⟨fun _ => Nat.le_refl _, fun _ => rfl⟩, ⟨fun q => by have q : x = -1 := q; omega, fun q => by cases q⟩⟩
  | x :: y :: l, h =>
    have hx := h x List.mem_cons_self
    have hy := h y (List.mem_cons_of_mem _ List.mem_cons_self)
    refine ⟨⟨fun q => ?_, fun q => ?_⟩, ⟨fun q => ?_, fun q => by cases q⟩⟩
    · have q : y = -1 := q; omega
    · simp only [List.length_cons] at q; omega
    · have q : x = -1 := q; omega
theorem wfi_get {l : List Int} (h : 0 < l.length) : l[0]? = some (wfi l) := by
  cases l with
  | nil => cases h
  | cons x l => rfl
theorem wse_get {l : List Int} (h : 1 < l.length) : l[1]? = some (wse l) := by
  match l, h with
  | [], h => cases h
  | [_], h => simp only [List.length_cons, List.length_nil] at h; omega
  | _ :: y :: _, _ => rfl
theorem MX_k {M M1 : qMe} {Q : RQ} {T : Int} {D : Nat → Nat → Prop} (h : MX M Q T) (hD : Dif M M1 D) (h1 : ∀ i k, D i k → DOp i k ∨ i = 496) : MX M1 Q T := by
  obtain ⟨⟨m1, m2, m3, m4, m5, m6⟩, x2, x3, x4, x5⟩ := h
  have n : ∀ i k, ¬ (DOp i k ∨ i = 496) → mZ M1 i k = mZ M i k := fun i k q => hD.z (fun r => q (h1 i k r))
  refine ⟨⟨?_, ?_, ?_, ?_, ?_, ?_⟩, fun j x hj => ?_, fun j x hj => ?_, fun c c1 c2 => ?_, ?_⟩
  · rw [n _ _ (by unfold DOp DTo; omega)]; exact m1
  · rw [n _ _ (by unfold DOp DTo; omega)]; exact m2
  · rw [n _ _ (by unfold DOp DTo; omega)]; exact m3
  · rw [n _ _ (by unfold DOp DTo; omega)]; exact m4
  · rw [n _ _ (by unfold DOp DTo; omega)]; exact m5
  · rw [n _ _ (by unfold DOp DTo; omega)]; exact m6
  · rw [n _ _ (by unfold DOp DTo; omega)]; exact x2 j x hj
  · rw [n _ _ (by unfold DOp DTo; omega)]; exact x3 j x hj
  · unfold mbk
    rw [n _ _ (by unfold DOp DTo; omega)]
    exact x4 c c1 c2
  · rw [n _ _ (by unfold DOp DTo; omega)]; exact x5
/-- Q, but why is 0 -/
def q0 (Q : RQ) : RQ := (qp Q, qd Q, qs Q, qn Q, 0, qb Q, ql Q, qt Q)
theorem m_step {d : Nat} {M : qMe} {w wall s T : Int} {Q : RQ} (hW : Wo M) (hX : MX M Q T) (hQ : QI Q) (hy : qy Q = -1) (hwl : mZ M 479 38 = wall) (w1 : 0 ≤ w ∧ w < mZ M 481 266) (s01 : s = 0 ∨ s = 1) (T1 : 0 ≤ T ∧ T ≤ 60) : wV (cal (d + 164) 151 [.ref 479, .int (iz w), .int (iz s)] M) (fun M1 => Dif M M1 DSt ∧ MX M1 (stepP M w wall (s = 1) Q) (T + 1) ∧ (∀ k : Nat, ¬ k = T.toNat → mZ M1 496 k = mZ M 496 k) ∧ mZ M1 496 T.toNat = (if wse (wy M w (qp Q) (qd Q) (qs Q) 4) = -1 then 0 else 1)) := by
  refine wV_q (fun P hP => ?_)
  have h := hW.1
  have hN := h.1
  have q6 := hQ.2.2.2.2.2.1 hy
  have hX0 := hX
  obtain ⟨⟨m1, m2, m3, m4, m5, m6⟩, x2, x3, x4, x5⟩ := hX
  rw [cal_151, gd_t (Nat.le_of_ble_eq_true rfl)]
  change wp (n_151_0 (cal _) [some (.ref 479), some (.int (iz w)), some (.int (iz s)), none, none, none, none] [] _) _
  simp (disch := first | assumption | decide | omega) only [n_151_0, n_151_226, n_151_228, n_151_306, z_iconst, z_bipush, z_sipush, z_ldc, z_ldcs, z_ldcw, z_ldc2, z_lconst0, z_lconst1, z_null, z_getstatic, z_iload_0, z_iload_1, z_iload_2, z_iload_3, z_iload, z_istore_0, z_istore_1, z_istore_2, z_istore_3, z_istore, z_lload_0, z_lload_1, z_lload_2, z_lload_3, z_lload, z_lstore_0, z_lstore_1, z_lstore_2, z_lstore_3, z_lstore, z_aload_0, z_aload_1, z_aload_2, z_aload_3, z_aload, z_astore_0, z_astore_1, z_astore_2, z_astore_3, z_astore, ald_0, ald_s, z_iinc, qst1_1i, qst2_1i, qst1_1r, qst2_1r, qst1_1u, qst2_1u, qst1_1n, qst2_1n, qst1_1l, qst2_1l, qst1_0, qst2_0, qst1_s, qst2_s, z_iadd, z_isub, z_imul, z_iand, z_ior, z_ixor, z_ishl, z_ishr, z_idiv, z_irem, z_ladd, z_lsub, z_lmul, z_land, z_lor, z_ldiv, z_lrem, z_ineg, z_lshl, z_lshr, z_i2l, z_l2i, z_i2b, z_i2c, z_lcmp, z_dupi, z_dupr, z_popi, z_popr, z_dup2, z_goto, z_get0, z_get1, z_get2, z_get3, z_put0, z_put1, z_put2, z_put2n, z_put3, z_iaload, z_baload, z_laload, z_aaload, z_iastore, z_bastore, z_lastore, z_aastore, z_aastoren, z_arraylength, z_new, z_newarray, z_anewarray, z_multi, z_objinit, z_is0, z_iv0, z_ip0, z_is1, z_iv1, z_ip1, z_is2, z_iv2, z_ip2, z_is3, z_iv3, z_ip3, z_is4, z_iv4, z_ip4, z_is5, z_iv5, z_ip5, z_is6, z_iv6, z_ip6, z_is7, z_iv7, z_ip7, z_m991, z_m992, z_m993, z_m994, z_m995, z_m996, z_m998, acal_0, acal_1, acal_2, acal_3, acal_4, aK_v, aK_n, sF_c, sF_n, b_nr, b_nn, r_I, r_Z, r_L, r_A, r_V, sw_F, sw_n, gd_tt, is01_bzT, is01_0, is01_1, qrv_s, qrv_n, bi_eq_t, bi_eq_f, bi_ne_t, bi_ne_f, bi_lt_t, bi_lt_f, bi_ge_t, bi_ge_f, bi_gt_t, bi_gt_f, bi_le_t, bi_le_f, bc_eq_t, bc_eq_f, bc_ne_t, bc_ne_f, bc_lt_t, bc_lt_f, bc_ge_t, bc_ge_f, bc_gt_t, bc_gt_f, bc_le_t, bc_le_f, bb_eq_t, bb_eq_f, bb_ne_t, bb_ne_f, sc_t, sc_f, b_nr, b_nn, mI_J, mI_R, mJ_I, mJ_R, mR_I, mR_J, mK_I, mK_J, mK_R, mN_I, mN_J, mN_R, inM_I, inM_J, inM_R, mZ_nc, mZ_nk, mZ_sm, mZ_J, mZ_R, mJ_nc, mJ_ni, mJ_sm, mI_Z, iz_add, iz_sub, iz_mul, iz_neg, iz_lt, iz_le, iz_eq, iz_clamp, iz_inB, iz_div, iz_rem, shK h, shR h, inM_lit, and_self, true_and, and_true, true_or, or_true, not_true_eq_false, not_false_eq_true, Nat.reduceEqDiff, reduceCtorEq, Int.reduceNeg, Int.reduceSub, Int.reduceAdd, Int.reduceMul, Int.reduceToNat, Int.reduceEq, Int.neg_neg, Int.cast_ofNat_Int, Nat.reduceAdd, Nat.reduceMul, Nat.reduceSub, gd_t, emod_r, iz_0, Int.zero_add, Int.add_zero, wp_some]
  refine wp_cV (m_opens (d := d) hW m1 m2 m3 ⟨hQ.1.1, q6.1⟩ hQ.2.1 hQ.2.2.1 w1) (fun M1 qq => ?_)
  obtain ⟨hD1, hom, hop⟩ := qq
  have dop : ∀ i k, DOp i k → aside i := fun i k q => by unfold DOp DTo at q; unfold aside; omega
  have hW1 := Wo_k hW (Frm.of hD1) dop
  have h1 := hW1.1
  have hN1 := h1.1
  have hX1 := MX_k hX0 hD1 (fun i k q => Or.inl q)
  have lm : ∀ x, x ∈ wy M w (qp Q) (qd Q) (qs Q) 4 → 0 ≤ x := fun x hx => (ways_mem 4 hx).1.1
  have wl := wse_len lm
  have fb := wfi_b (o := opn M w (qp Q) (qs Q)) (f := pul M (qp Q) (qd Q)) (n := 4)
  have sb := wse_b (o := opn M w (qp Q) (qs Q)) (f := pul M (qp Q) (qd Q)) (n := 4)
  have l4 : (wy M w (qp Q) (qd Q) (qs Q) 4).length ≤ 4 := by
    have : ∀ m : Nat, (wy M w (qp Q) (qd Q) (qs Q) m).length ≤ m := fun m => by
      induction m with
      | zero => exact Nat.le_refl _
      | succ m ih =>
        by_cases q : opn M w (qp Q) (qs Q) m
        · rw [show wy M w (qp Q) (qd Q) (qs Q) (m + 1) = ins (pul M (qp Q) (qd Q)) m (wy M w (qp Q) (qd Q) (qs Q) m) from ways_t q, ins_len]; omega
        · rw [show wy M w (qp Q) (qd Q) (qs Q) (m + 1) = wy M w (qp Q) (qd Q) (qs Q) m from ways_f q]; omega
    exact this 4
  have t1 : mZ M1 479 37 = T := hX1.2.2.2.2
  have ewp : wayP M w (s = 1) Q = if s = 1 ∧ ¬ wse (wy M w (qp Q) (qd Q) (qs Q) 4) = -1 then wse (wy M w (qp Q) (qd Q) (qs Q) 4) else wfi (wy M w (qp Q) (qd Q) (qs Q) 4) := by
    unfold wayP
    by_cases q : s = 1 ∧ ¬ wse (wy M w (qp Q) (qd Q) (qs Q) 4) = -1
    · rw [if_pos q, if_pos q]
    · rw [if_neg q, if_neg q]
  have hst : stepP M w wall (s = 1) Q = addP Q (goP M w wall (qb Q) (wayP M w (s = 1) Q) (qp Q) (qd Q) (qs Q) (qn Q)) := rfl
  rw [ewp] at hst
  have fb : -1 ≤ wfi (wy M w (qp Q) (qd Q) (qs Q) 4) ∧ wfi (wy M w (qp Q) (qd Q) (qs Q) 4) < 4 ∧ (wfi (wy M w (qp Q) (qd Q) (qs Q) 4) = -1 ∨ (0 ≤ wfi (wy M w (qp Q) (qd Q) (qs Q) 4) ∧ opn M w (qp Q) (qs Q) (wfi (wy M w (qp Q) (qd Q) (qs Q) 4)))) := fb
  have sb : -1 ≤ wse (wy M w (qp Q) (qd Q) (qs Q) 4) ∧ wse (wy M w (qp Q) (qd Q) (qs Q) 4) < 4 ∧ (wse (wy M w (qp Q) (qd Q) (qs Q) 4) = -1 ∨ (0 ≤ wse (wy M w (qp Q) (qd Q) (qs Q) 4) ∧ opn M w (qp Q) (qs Q) (wse (wy M w (qp Q) (qd Q) (qs Q) 4)))) := sb
  generalize hl : wy M w (qp Q) (qd Q) (qs Q) 4 = l at *
  -- the books: couldSlip, tries0, why
  have bk2 : ∀ b : Int, (b = 0 ∨ b = 1) → Dif M1 (qsI (qsI (qsI M1 496 T.toNat (iz b)) 479 37 (iz (T + 1))) 479 35 (iz 0)) DSt ∧ MX (qsI (qsI (qsI M1 496 T.toNat (iz b)) 479 37 (iz (T + 1))) 479 35 (iz 0)) (q0 Q) (T + 1) ∧ (∀ k : Nat, ¬ k = T.toNat → mZ (qsI (qsI (qsI M1 496 T.toNat (iz b)) 479 37 (iz (T + 1))) 479 35 (iz 0)) 496 k = mZ M 496 k) ∧ mZ (qsI (qsI (qsI M1 496 T.toNat (iz b)) 479 37 (iz (T + 1))) 479 35 (iz 0)) 496 T.toNat = b := by
    intro b hb
    obtain ⟨⟨n1, n2, n3, n4, n5, n6⟩, y2, y3, y4, y5⟩ := hX1
    refine ⟨((Dif.rfl'.I (by unfold DSt; omega)).I (by unfold DSt; omega)).I (by unfold DSt; omega), ⟨⟨?_, ?_, ?_, ?_, ?_, ?_⟩, fun j x hj => ?_, fun j x hj => ?_, fun c c1 c2 => ?_, ?_⟩, fun k hk => ?_, ?_⟩
    · simp (disch := first | decide | omega) only [mZ_nc, mZ_nk]; exact n1
    · simp (disch := first | decide | omega) only [mZ_nc, mZ_nk]; exact n2
    · simp (disch := first | decide | omega) only [mZ_nc, mZ_nk]; exact n3
    · simp (disch := first | decide | omega) only [mZ_nc, mZ_nk]; exact n4
    · simp (disch := first | decide | omega) only [mZ_nc, mZ_nk]; exact n5
    · exact mZ_sm rfl (by decide) (by decide)
    · simp (disch := first | decide | omega) only [mZ_nc]; exact y2 j x hj
    · simp (disch := first | decide | omega) only [mZ_nc]; exact y3 j x hj
    · unfold mbk
      simp (disch := first | decide | omega) only [mZ_nc]
      exact y4 c c1 c2
    · simp (disch := first | decide | omega) only [mZ_nk, mZ_sm]
    · simp (disch := first | decide | omega) only [mZ_nc, mZ_nk]
      exact hD1.z (by unfold DOp DTo; omega)
    · simp (disch := first | decide | omega) only [mZ_nc, mZ_sm]
  -- behind the way
  have body : ∀ (b way : Int) (idx : Nat), (b = 0 ∨ b = 1) → b = (if wse l = -1 then 0 else 1) → l[idx]? = some way → idx ≤ 1 → (0 ≤ way ∧ way < 4) → ¬ bes (qp Q) way = -1 → stepP M w wall (s = 1) Q = addP Q (goP M w wall (qb Q) way (qp Q) (qd Q) (qs Q) (qn Q)) → wp (n_151_71 (cal (d + 163)) [some (.ref 479), some (.int (iz w)), some (.int (iz s)), none, none, none, none] [.int (iz (idx : Int)), .ref 497] (qsI (qsI (qsI M1 496 T.toNat (iz b)) 479 37 (iz (T + 1))) 479 35 (iz 0))) P := by
    intro b way idx b01 hb hidx i1 y1 bn hstp
    obtain ⟨D2, X2, c1, c2⟩ := bk2 b b01
    have ro : mZ (qsI (qsI (qsI M1 496 T.toNat (iz b)) 479 37 (iz (T + 1))) 479 35 (iz 0)) 497 idx = way := by
      simp (disch := first | decide | omega) only [mZ_nc]
      exact hop idx way hidx
    generalize hM2 : qsI (qsI (qsI M1 496 T.toNat (iz b)) 479 37 (iz (T + 1))) 479 35 (iz 0) = M2 at *
    have dst : ∀ i k, DSt i k → aside i := fun i k q => by unfold DSt DOp DTo at q; unfold aside; omega
    have hW2 := Wo_k hW1 (Frm.of D2) dst
    have h := hW2.1
    have hN2 := h.1
    have k481 : ∀ k, mZ M2 481 k = mZ M 481 k := fun k => by rw [D2.z (by unfold DSt DOp DTo; omega), hD1.z (by unfold DOp DTo; omega)]
    obtain ⟨⟨n1, n2, n3, n4, n5, n6⟩, -⟩ := X2
    have n1 : mZ M2 479 31 = qp Q := n1
    have n3 : mZ M2 479 33 = qs Q := n3
    have bb := bes_b (p := qp Q) (d := way) ⟨hQ.1.1, q6.1⟩
    have cb := m_beside (d := d + 162) (M := M2) (p := qp Q) (w := way) ⟨hQ.1.1, q6.1⟩ (by omega)
    have g1 : goP M w wall (qb Q) way (qp Q) (qd Q) (qs Q) (qn Q) = if gF M w (qp Q) (qs Q) (bes (qp Q) way) < 1 then (qp Q, qd Q, qs Q, qn Q, 0, -1) else if gF M w (qp Q) (qs Q) (bes (qp Q) way) * mZ M 481 (204 + 3 * w).toNat < 10 * gS M wall (qb Q) (bes (qp Q) way) then (qp Q, qd Q, qs Q, qn Q, 1, -1) else (bes (qp Q) way, way, (if 0 < gS M wall (qb Q) (bes (qp Q) way) then (if gF M w (qp Q) (qs Q) (bes (qp Q) way) - gS M wall (qb Q) (bes (qp Q) way) < 1 then 1 else gF M w (qp Q) (qs Q) (bes (qp Q) way) - gS M wall (qb Q) (bes (qp Q) way)) else gF M w (qp Q) (qs Q) (bes (qp Q) way)), qn Q + 1, whyOf M (bes (qp Q) way) (qn Q + 1), (if 0 < gS M wall (qb Q) (bes (qp Q) way) then bes (qp Q) way else -1)) := by
      unfold goP
      rw [if_neg (fun q => q.elim (fun q => by omega) bn)]
    generalize hee : bes (qp Q) way = e at *
    have q1 := m_hgtOf (d := d + 162) (e := qp Q) h (Or.inl ⟨hQ.1.1, q6.1⟩)
    have q2 := m_hgtOf (d := d + 162) (e := e) h (by omega)
    have hh : ∀ x, hgt M2 x = hgt M x := fun x => by unfold hgt; rw [k481]
    rw [hh] at q1 q2
    have hb1 := hgt_b (e := qp Q) hW.2.1 hQ.1.1
    have hb2 := hgt_b (e := e) hW.2.1 (by omega)
    have s1 := hQ.2.2.1
    simp (disch := first | assumption | decide | omega) only [n_151_0, n_151_71, n_151_226, n_151_228, n_151_306, z_iconst, z_bipush, z_sipush, z_ldc, z_ldcs, z_ldcw, z_ldc2, z_lconst0, z_lconst1, z_null, z_getstatic, z_iload_0, z_iload_1, z_iload_2, z_iload_3, z_iload, z_istore_0, z_istore_1, z_istore_2, z_istore_3, z_istore, z_lload_0, z_lload_1, z_lload_2, z_lload_3, z_lload, z_lstore_0, z_lstore_1, z_lstore_2, z_lstore_3, z_lstore, z_aload_0, z_aload_1, z_aload_2, z_aload_3, z_aload, z_astore_0, z_astore_1, z_astore_2, z_astore_3, z_astore, ald_0, ald_s, z_iinc, qst1_1i, qst2_1i, qst1_1r, qst2_1r, qst1_1u, qst2_1u, qst1_1n, qst2_1n, qst1_1l, qst2_1l, qst1_0, qst2_0, qst1_s, qst2_s, z_iadd, z_isub, z_imul, z_iand, z_ior, z_ixor, z_ishl, z_ishr, z_idiv, z_irem, z_ladd, z_lsub, z_lmul, z_land, z_lor, z_ldiv, z_lrem, z_ineg, z_lshl, z_lshr, z_i2l, z_l2i, z_i2b, z_i2c, z_lcmp, z_dupi, z_dupr, z_popi, z_popr, z_dup2, z_goto, z_get0, z_get1, z_get2, z_get3, z_put0, z_put1, z_put2, z_put2n, z_put3, z_iaload, z_baload, z_laload, z_aaload, z_iastore, z_bastore, z_lastore, z_aastore, z_aastoren, z_arraylength, z_new, z_newarray, z_anewarray, z_multi, z_objinit, z_is0, z_iv0, z_ip0, z_is1, z_iv1, z_ip1, z_is2, z_iv2, z_ip2, z_is3, z_iv3, z_ip3, z_is4, z_iv4, z_ip4, z_is5, z_iv5, z_ip5, z_is6, z_iv6, z_ip6, z_is7, z_iv7, z_ip7, z_m991, z_m992, z_m993, z_m994, z_m995, z_m996, z_m998, acal_0, acal_1, acal_2, acal_3, acal_4, aK_v, aK_n, sF_c, sF_n, b_nr, b_nn, r_I, r_Z, r_L, r_A, r_V, sw_F, sw_n, gd_tt, is01_bzT, is01_0, is01_1, qrv_s, qrv_n, bi_eq_t, bi_eq_f, bi_ne_t, bi_ne_f, bi_lt_t, bi_lt_f, bi_ge_t, bi_ge_f, bi_gt_t, bi_gt_f, bi_le_t, bi_le_f, bc_eq_t, bc_eq_f, bc_ne_t, bc_ne_f, bc_lt_t, bc_lt_f, bc_ge_t, bc_ge_f, bc_gt_t, bc_gt_f, bc_le_t, bc_le_f, bb_eq_t, bb_eq_f, bb_ne_t, bb_ne_f, sc_t, sc_f, b_nr, b_nn, mI_J, mI_R, mJ_I, mJ_R, mR_I, mR_J, mK_I, mK_J, mK_R, mN_I, mN_J, mN_R, inM_I, inM_J, inM_R, mZ_nc, mZ_nk, mZ_sm, mZ_J, mZ_R, mJ_nc, mJ_ni, mJ_sm, mI_Z, iz_add, iz_sub, iz_mul, iz_neg, iz_lt, iz_le, iz_eq, iz_clamp, iz_inB, iz_div, iz_rem, shK h, shR h, inM_lit, and_self, true_and, and_true, true_or, or_true, not_true_eq_false, not_false_eq_true, Nat.reduceEqDiff, reduceCtorEq, Int.reduceNeg, Int.reduceSub, Int.reduceAdd, Int.reduceMul, Int.reduceToNat, Int.reduceEq, Int.neg_neg, Int.cast_ofNat_Int, Nat.reduceAdd, Nat.reduceMul, Nat.reduceSub, gd_t, emod_r, iz_0, Int.zero_add, Int.add_zero, wp_some, ro, n1, n3, cb, q1, q2, Int.toNat_natCast]
    refine wp_cI (m_slowedAt (d := d + 1) hW2 ⟨hQ.1.1, q6.1⟩ (by rw [k481]; exact w1) s1) (fun z M3 qz => ?_)
    obtain ⟨hz, D3⟩ := qz
    rw [tau_k k481] at hz
    have tb := tau_b (M := M) (kk := 0) (hi := 99) (wo := 1) (cell := qp Q) (w := w) (sp := qs Q) (by decide) (by decide)
    have hW3 := Wo_k hW2 (Frm.of D3) (fun i k q => by unfold DTo at q; unfold aside; omega)
    obtain ⟨D2', X2', c1', c2'⟩ := (show Dif M1 M2 DSt ∧ MX M2 (q0 Q) (T + 1) ∧ (∀ k : Nat, ¬ k = T.toNat → mZ M2 496 k = mZ M 496 k) ∧ mZ M2 496 T.toNat = b from by rw [← hM2]; exact bk2 b b01)
    have X3 := MX_k X2' D3 (fun i k q => Or.inl (Or.inl q))
    have k481' : ∀ k, mZ M3 481 k = mZ M 481 k := fun k => by rw [D3.z (by unfold DTo; omega)]; exact k481 k
    have Q0 : QI (q0 Q) := by
      obtain ⟨a1, a2, a3, a4, a5, a6, a7, a8, a9, a10⟩ := hQ
      exact ⟨a1, a2, a3, a4, ⟨by show (-1 : Int) ≤ 0; omega, by show (0 : Int) ≤ 4; omega⟩, fun q => by have q : (0 : Int) = -1 := q; omega, a7, a8, a9, fun q => by have q : (0 : Int) = 2 := q; omega⟩
    have gf : gF M w (qp Q) (qs Q) e = (if 99 < qs Q + (hgt M (qp Q) - hgt M e) - z then 99 else qs Q + (hgt M (qp Q) - hgt M e) - z) := by unfold gF; rw [← hz]
    have fin : ∀ (F : Int), F = gF M w (qp Q) (qs Q) e → ∀ x6 : Option Value, wp (n_151_130 (cal (d + 162 + 1)) [some (.ref 479), some (.int (iz w)), some (.int (iz s)), some (.int (iz way)), some (.int (iz e)), some (.int (iz F)), x6] [] M3) P := by
      intro F hF x6
      refine m_step_130 (M0 := M) (wall := wall) (T := T + 1) (Q := q0 Q) hW3 X3 k481' Q0 rfl q6.2 ?_ (by rw [k481']; exact w1) (by omega) (by rw [hF, gf]; split <;> omega) (by rw [hF, gf]; split <;> omega) (by omega) (fun M4 D4 e496 X4 => ?_)
      · rw [D3.z (by unfold DTo; omega), D2.z (by unfold DSt DOp DTo; omega), hD1.z (by unfold DOp DTo; omega)]; exact hwl
      · have k496 : ∀ k, mZ M4 496 k = mZ M2 496 k := fun k => by rw [e496]; exact D3.z (by unfold DTo; omega)
        refine hP M4 ⟨?_, ?_, fun k hk => by rw [k496]; exact c1' k hk, by rw [k496, c2', hb]⟩
        · exact (((hD1.mono (fun i k q => Or.inl q)).tr D2).tr (D3.mono (fun i k q => Or.inl (Or.inl q)))).tr D4
        · rw [hstp, g1, ← hF]
          exact X4
    by_cases c9 : 99 < qs Q + (hgt M (qp Q) - hgt M e) - z
    · rw [if_pos c9] at gf
      have zz := fin 99 gf.symm
      simp (disch := first | assumption | decide | omega) only [n_151_0, n_151_71, n_151_226, n_151_228, n_151_306, z_iconst, z_bipush, z_sipush, z_ldc, z_ldcs, z_ldcw, z_ldc2, z_lconst0, z_lconst1, z_null, z_getstatic, z_iload_0, z_iload_1, z_iload_2, z_iload_3, z_iload, z_istore_0, z_istore_1, z_istore_2, z_istore_3, z_istore, z_lload_0, z_lload_1, z_lload_2, z_lload_3, z_lload, z_lstore_0, z_lstore_1, z_lstore_2, z_lstore_3, z_lstore, z_aload_0, z_aload_1, z_aload_2, z_aload_3, z_aload, z_astore_0, z_astore_1, z_astore_2, z_astore_3, z_astore, ald_0, ald_s, z_iinc, qst1_1i, qst2_1i, qst1_1r, qst2_1r, qst1_1u, qst2_1u, qst1_1n, qst2_1n, qst1_1l, qst2_1l, qst1_0, qst2_0, qst1_s, qst2_s, z_iadd, z_isub, z_imul, z_iand, z_ior, z_ixor, z_ishl, z_ishr, z_idiv, z_irem, z_ladd, z_lsub, z_lmul, z_land, z_lor, z_ldiv, z_lrem, z_ineg, z_lshl, z_lshr, z_i2l, z_l2i, z_i2b, z_i2c, z_lcmp, z_dupi, z_dupr, z_popi, z_popr, z_dup2, z_goto, z_get0, z_get1, z_get2, z_get3, z_put0, z_put1, z_put2, z_put2n, z_put3, z_iaload, z_baload, z_laload, z_aaload, z_iastore, z_bastore, z_lastore, z_aastore, z_aastoren, z_arraylength, z_new, z_newarray, z_anewarray, z_multi, z_objinit, z_is0, z_iv0, z_ip0, z_is1, z_iv1, z_ip1, z_is2, z_iv2, z_ip2, z_is3, z_iv3, z_ip3, z_is4, z_iv4, z_ip4, z_is5, z_iv5, z_ip5, z_is6, z_iv6, z_ip6, z_is7, z_iv7, z_ip7, z_m991, z_m992, z_m993, z_m994, z_m995, z_m996, z_m998, acal_0, acal_1, acal_2, acal_3, acal_4, aK_v, aK_n, sF_c, sF_n, b_nr, b_nn, r_I, r_Z, r_L, r_A, r_V, sw_F, sw_n, gd_tt, is01_bzT, is01_0, is01_1, qrv_s, qrv_n, bi_eq_t, bi_eq_f, bi_ne_t, bi_ne_f, bi_lt_t, bi_lt_f, bi_ge_t, bi_ge_f, bi_gt_t, bi_gt_f, bi_le_t, bi_le_f, bc_eq_t, bc_eq_f, bc_ne_t, bc_ne_f, bc_lt_t, bc_lt_f, bc_ge_t, bc_ge_f, bc_gt_t, bc_gt_f, bc_le_t, bc_le_f, bb_eq_t, bb_eq_f, bb_ne_t, bb_ne_f, sc_t, sc_f, b_nr, b_nn, mI_J, mI_R, mJ_I, mJ_R, mR_I, mR_J, mK_I, mK_J, mK_R, mN_I, mN_J, mN_R, inM_I, inM_J, inM_R, mZ_nc, mZ_nk, mZ_sm, mZ_J, mZ_R, mJ_nc, mJ_ni, mJ_sm, mI_Z, iz_add, iz_sub, iz_mul, iz_neg, iz_lt, iz_le, iz_eq, iz_clamp, iz_inB, iz_div, iz_rem, shK h, shR h, inM_lit, and_self, true_and, and_true, true_or, or_true, not_true_eq_false, not_false_eq_true, Nat.reduceEqDiff, reduceCtorEq, Int.reduceNeg, Int.reduceSub, Int.reduceAdd, Int.reduceMul, Int.reduceToNat, Int.reduceEq, Int.neg_neg, Int.cast_ofNat_Int, Nat.reduceAdd, Nat.reduceMul, Nat.reduceSub, gd_t, emod_r, iz_0, Int.zero_add, Int.add_zero, wp_some]
      exact zz _
    · rw [if_neg c9] at gf
      have zz := fin (qs Q + hgt M (qp Q) - hgt M e - z) (by rw [gf]; omega)
      simp (disch := first | assumption | decide | omega) only [n_151_0, n_151_71, n_151_226, n_151_228, n_151_306, z_iconst, z_bipush, z_sipush, z_ldc, z_ldcs, z_ldcw, z_ldc2, z_lconst0, z_lconst1, z_null, z_getstatic, z_iload_0, z_iload_1, z_iload_2, z_iload_3, z_iload, z_istore_0, z_istore_1, z_istore_2, z_istore_3, z_istore, z_lload_0, z_lload_1, z_lload_2, z_lload_3, z_lload, z_lstore_0, z_lstore_1, z_lstore_2, z_lstore_3, z_lstore, z_aload_0, z_aload_1, z_aload_2, z_aload_3, z_aload, z_astore_0, z_astore_1, z_astore_2, z_astore_3, z_astore, ald_0, ald_s, z_iinc, qst1_1i, qst2_1i, qst1_1r, qst2_1r, qst1_1u, qst2_1u, qst1_1n, qst2_1n, qst1_1l, qst2_1l, qst1_0, qst2_0, qst1_s, qst2_s, z_iadd, z_isub, z_imul, z_iand, z_ior, z_ixor, z_ishl, z_ishr, z_idiv, z_irem, z_ladd, z_lsub, z_lmul, z_land, z_lor, z_ldiv, z_lrem, z_ineg, z_lshl, z_lshr, z_i2l, z_l2i, z_i2b, z_i2c, z_lcmp, z_dupi, z_dupr, z_popi, z_popr, z_dup2, z_goto, z_get0, z_get1, z_get2, z_get3, z_put0, z_put1, z_put2, z_put2n, z_put3, z_iaload, z_baload, z_laload, z_aaload, z_iastore, z_bastore, z_lastore, z_aastore, z_aastoren, z_arraylength, z_new, z_newarray, z_anewarray, z_multi, z_objinit, z_is0, z_iv0, z_ip0, z_is1, z_iv1, z_ip1, z_is2, z_iv2, z_ip2, z_is3, z_iv3, z_ip3, z_is4, z_iv4, z_ip4, z_is5, z_iv5, z_ip5, z_is6, z_iv6, z_ip6, z_is7, z_iv7, z_ip7, z_m991, z_m992, z_m993, z_m994, z_m995, z_m996, z_m998, acal_0, acal_1, acal_2, acal_3, acal_4, aK_v, aK_n, sF_c, sF_n, b_nr, b_nn, r_I, r_Z, r_L, r_A, r_V, sw_F, sw_n, gd_tt, is01_bzT, is01_0, is01_1, qrv_s, qrv_n, bi_eq_t, bi_eq_f, bi_ne_t, bi_ne_f, bi_lt_t, bi_lt_f, bi_ge_t, bi_ge_f, bi_gt_t, bi_gt_f, bi_le_t, bi_le_f, bc_eq_t, bc_eq_f, bc_ne_t, bc_ne_f, bc_lt_t, bc_lt_f, bc_ge_t, bc_ge_f, bc_gt_t, bc_gt_f, bc_le_t, bc_le_f, bb_eq_t, bb_eq_f, bb_ne_t, bb_ne_f, sc_t, sc_f, b_nr, b_nn, mI_J, mI_R, mJ_I, mJ_R, mR_I, mR_J, mK_I, mK_J, mK_R, mN_I, mN_J, mN_R, inM_I, inM_J, inM_R, mZ_nc, mZ_nk, mZ_sm, mZ_J, mZ_R, mJ_nc, mJ_ni, mJ_sm, mI_Z, iz_add, iz_sub, iz_mul, iz_neg, iz_lt, iz_le, iz_eq, iz_clamp, iz_inB, iz_div, iz_rem, shK h, shR h, inM_lit, and_self, true_and, and_true, true_or, or_true, not_true_eq_false, not_false_eq_true, Nat.reduceEqDiff, reduceCtorEq, Int.reduceNeg, Int.reduceSub, Int.reduceAdd, Int.reduceMul, Int.reduceToNat, Int.reduceEq, Int.neg_neg, Int.cast_ofNat_Int, Nat.reduceAdd, Nat.reduceMul, Nat.reduceSub, gd_t, emod_r, iz_0, Int.zero_add, Int.add_zero, wp_some]
      exact zz _
  have h := h1
  have hN := h1.1
  rcases (show l.length = 0 ∨ l.length = 1 ∨ 2 ≤ l.length by omega) with c0 | c0 | c0
  · have f1 : wfi l = -1 := wl.2.mpr c0
    have s1 : wse l = -1 := wl.1.mpr (by omega)
    obtain ⟨D2, X2, c1, c2⟩ := bk2 0 (Or.inl rfl)
    have hom0 : mZ M1 479 40 = 0 := by rw [hom, c0]; rfl
    rw [if_neg (fun q => q.2 s1), f1] at hst
    have hg : goP M w wall (qb Q) (-1) (qp Q) (qd Q) (qs Q) (qn Q) = (qp Q, qd Q, qs Q, qn Q, 0, -1) := by
      unfold goP
      rw [if_pos (Or.inl rfl)]
    rw [hg] at hst
    have fin : P none (qsI (qsI (qsI M1 496 T.toNat (iz 0)) 479 37 (iz (T + 1))) 479 35 (iz 0)) := by
      refine hP _ ⟨(hD1.mono (fun i k q => Or.inl q)).tr D2, ?_, c1, by rw [c2, if_pos s1]⟩
      rw [hst]
      have el : ql (addP Q (qp Q, qd Q, qs Q, qn Q, 0, -1)) = ql Q := by
        show (if (-1 : Int) = -1 then ql Q else ql Q ++ [-1]) = ql Q
        rw [if_pos rfl]
      have et : qt (addP Q (qp Q, qd Q, qs Q, qn Q, 0, -1)) = qt Q := by
        show (if qn Q = qn Q then qt Q else qt Q ++ [qp Q]) = qt Q
        rw [if_pos rfl]
      obtain ⟨⟨n1, n2, n3, n4, n5, n6⟩, y2, y3, y4, y5⟩ := X2
      refine ⟨⟨n1, n2, n3, n4, by rw [el]; exact n5, n6⟩, fun j x hj => ?_, fun j x hj => ?_, fun c cc1 cc2 => ⟨(y4 c cc1 cc2).1, (y4 c cc1 cc2).2.trans ⟨fun q => Or.inl q, fun q => q.resolve_right (by simp only; omega)⟩⟩, y5⟩
      · rw [el] at hj; exact y2 j x hj
      · rw [et] at hj; exact y3 j x hj
    simp (disch := first | assumption | decide | omega) only [n_151_0, n_151_26, n_151_226, n_151_228, n_151_306, z_iconst, z_bipush, z_sipush, z_ldc, z_ldcs, z_ldcw, z_ldc2, z_lconst0, z_lconst1, z_null, z_getstatic, z_iload_0, z_iload_1, z_iload_2, z_iload_3, z_iload, z_istore_0, z_istore_1, z_istore_2, z_istore_3, z_istore, z_lload_0, z_lload_1, z_lload_2, z_lload_3, z_lload, z_lstore_0, z_lstore_1, z_lstore_2, z_lstore_3, z_lstore, z_aload_0, z_aload_1, z_aload_2, z_aload_3, z_aload, z_astore_0, z_astore_1, z_astore_2, z_astore_3, z_astore, ald_0, ald_s, z_iinc, qst1_1i, qst2_1i, qst1_1r, qst2_1r, qst1_1u, qst2_1u, qst1_1n, qst2_1n, qst1_1l, qst2_1l, qst1_0, qst2_0, qst1_s, qst2_s, z_iadd, z_isub, z_imul, z_iand, z_ior, z_ixor, z_ishl, z_ishr, z_idiv, z_irem, z_ladd, z_lsub, z_lmul, z_land, z_lor, z_ldiv, z_lrem, z_ineg, z_lshl, z_lshr, z_i2l, z_l2i, z_i2b, z_i2c, z_lcmp, z_dupi, z_dupr, z_popi, z_popr, z_dup2, z_goto, z_get0, z_get1, z_get2, z_get3, z_put0, z_put1, z_put2, z_put2n, z_put3, z_iaload, z_baload, z_laload, z_aaload, z_iastore, z_bastore, z_lastore, z_aastore, z_aastoren, z_arraylength, z_new, z_newarray, z_anewarray, z_multi, z_objinit, z_is0, z_iv0, z_ip0, z_is1, z_iv1, z_ip1, z_is2, z_iv2, z_ip2, z_is3, z_iv3, z_ip3, z_is4, z_iv4, z_ip4, z_is5, z_iv5, z_ip5, z_is6, z_iv6, z_ip6, z_is7, z_iv7, z_ip7, z_m991, z_m992, z_m993, z_m994, z_m995, z_m996, z_m998, acal_0, acal_1, acal_2, acal_3, acal_4, aK_v, aK_n, sF_c, sF_n, b_nr, b_nn, r_I, r_Z, r_L, r_A, r_V, sw_F, sw_n, gd_tt, is01_bzT, is01_0, is01_1, qrv_s, qrv_n, bi_eq_t, bi_eq_f, bi_ne_t, bi_ne_f, bi_lt_t, bi_lt_f, bi_ge_t, bi_ge_f, bi_gt_t, bi_gt_f, bi_le_t, bi_le_f, bc_eq_t, bc_eq_f, bc_ne_t, bc_ne_f, bc_lt_t, bc_lt_f, bc_ge_t, bc_ge_f, bc_gt_t, bc_gt_f, bc_le_t, bc_le_f, bb_eq_t, bb_eq_f, bb_ne_t, bb_ne_f, sc_t, sc_f, b_nr, b_nn, mI_J, mI_R, mJ_I, mJ_R, mR_I, mR_J, mK_I, mK_J, mK_R, mN_I, mN_J, mN_R, inM_I, inM_J, inM_R, mZ_nc, mZ_nk, mZ_sm, mZ_J, mZ_R, mJ_nc, mJ_ni, mJ_sm, mI_Z, iz_add, iz_sub, iz_mul, iz_neg, iz_lt, iz_le, iz_eq, iz_clamp, iz_inB, iz_div, iz_rem, shK h, shR h, inM_lit, and_self, true_and, and_true, true_or, or_true, not_true_eq_false, not_false_eq_true, Nat.reduceEqDiff, reduceCtorEq, Int.reduceNeg, Int.reduceSub, Int.reduceAdd, Int.reduceMul, Int.reduceToNat, Int.reduceEq, Int.neg_neg, Int.cast_ofNat_Int, Nat.reduceAdd, Nat.reduceMul, Nat.reduceSub, gd_t, emod_r, iz_0, Int.zero_add, Int.add_zero, wp_some, hom0, t1, vb0, if_false, if_true]
    exact fin
  · have f0 : ¬ wfi l = -1 := fun q => by have := wl.2.mp q; omega
    have s1 : wse l = -1 := wl.1.mpr (by omega)
    have hom0 : mZ M1 479 40 = 1 := by rw [hom, c0]; rfl
    rw [if_neg (fun q => q.2 s1)] at hst
    have fo := fb.2.2.resolve_left f0
    have z := body 0 (wfi l) 0 (Or.inl rfl) (by rw [if_pos s1]) (wfi_get (by omega)) (by decide) (by omega) fo.2.1 hst
    have z : wp (n_151_71 (cal (d + 163)) [some (.ref 479), some (.int (iz w)), some (.int (iz s)), none, none, none, none] [.int (iz 0), .ref 497] (qsI (qsI (qsI M1 496 T.toNat (iz 0)) 479 37 (iz (T + 1))) 479 35 (iz 0))) P := z
    rcases s01 with s0 | s0
    · simp (disch := first | assumption | decide | omega) only [n_151_0, n_151_26, n_151_70, n_151_226, n_151_228, n_151_306, z_iconst, z_bipush, z_sipush, z_ldc, z_ldcs, z_ldcw, z_ldc2, z_lconst0, z_lconst1, z_null, z_getstatic, z_iload_0, z_iload_1, z_iload_2, z_iload_3, z_iload, z_istore_0, z_istore_1, z_istore_2, z_istore_3, z_istore, z_lload_0, z_lload_1, z_lload_2, z_lload_3, z_lload, z_lstore_0, z_lstore_1, z_lstore_2, z_lstore_3, z_lstore, z_aload_0, z_aload_1, z_aload_2, z_aload_3, z_aload, z_astore_0, z_astore_1, z_astore_2, z_astore_3, z_astore, ald_0, ald_s, z_iinc, qst1_1i, qst2_1i, qst1_1r, qst2_1r, qst1_1u, qst2_1u, qst1_1n, qst2_1n, qst1_1l, qst2_1l, qst1_0, qst2_0, qst1_s, qst2_s, z_iadd, z_isub, z_imul, z_iand, z_ior, z_ixor, z_ishl, z_ishr, z_idiv, z_irem, z_ladd, z_lsub, z_lmul, z_land, z_lor, z_ldiv, z_lrem, z_ineg, z_lshl, z_lshr, z_i2l, z_l2i, z_i2b, z_i2c, z_lcmp, z_dupi, z_dupr, z_popi, z_popr, z_dup2, z_goto, z_get0, z_get1, z_get2, z_get3, z_put0, z_put1, z_put2, z_put2n, z_put3, z_iaload, z_baload, z_laload, z_aaload, z_iastore, z_bastore, z_lastore, z_aastore, z_aastoren, z_arraylength, z_new, z_newarray, z_anewarray, z_multi, z_objinit, z_is0, z_iv0, z_ip0, z_is1, z_iv1, z_ip1, z_is2, z_iv2, z_ip2, z_is3, z_iv3, z_ip3, z_is4, z_iv4, z_ip4, z_is5, z_iv5, z_ip5, z_is6, z_iv6, z_ip6, z_is7, z_iv7, z_ip7, z_m991, z_m992, z_m993, z_m994, z_m995, z_m996, z_m998, acal_0, acal_1, acal_2, acal_3, acal_4, aK_v, aK_n, sF_c, sF_n, b_nr, b_nn, r_I, r_Z, r_L, r_A, r_V, sw_F, sw_n, gd_tt, is01_bzT, is01_0, is01_1, qrv_s, qrv_n, bi_eq_t, bi_eq_f, bi_ne_t, bi_ne_f, bi_lt_t, bi_lt_f, bi_ge_t, bi_ge_f, bi_gt_t, bi_gt_f, bi_le_t, bi_le_f, bc_eq_t, bc_eq_f, bc_ne_t, bc_ne_f, bc_lt_t, bc_lt_f, bc_ge_t, bc_ge_f, bc_gt_t, bc_gt_f, bc_le_t, bc_le_f, bb_eq_t, bb_eq_f, bb_ne_t, bb_ne_f, sc_t, sc_f, b_nr, b_nn, mI_J, mI_R, mJ_I, mJ_R, mR_I, mR_J, mK_I, mK_J, mK_R, mN_I, mN_J, mN_R, inM_I, inM_J, inM_R, mZ_nc, mZ_nk, mZ_sm, mZ_J, mZ_R, mJ_nc, mJ_ni, mJ_sm, mI_Z, iz_add, iz_sub, iz_mul, iz_neg, iz_lt, iz_le, iz_eq, iz_clamp, iz_inB, iz_div, iz_rem, shK h, shR h, inM_lit, and_self, true_and, and_true, true_or, or_true, not_true_eq_false, not_false_eq_true, Nat.reduceEqDiff, reduceCtorEq, Int.reduceNeg, Int.reduceSub, Int.reduceAdd, Int.reduceMul, Int.reduceToNat, Int.reduceEq, Int.neg_neg, Int.cast_ofNat_Int, Nat.reduceAdd, Nat.reduceMul, Nat.reduceSub, gd_t, emod_r, iz_0, Int.zero_add, Int.add_zero, wp_some, hom0, t1, vb0, if_false, if_true]
      exact z
    · simp (disch := first | assumption | decide | omega) only [n_151_0, n_151_26, n_151_70, n_151_226, n_151_228, n_151_306, z_iconst, z_bipush, z_sipush, z_ldc, z_ldcs, z_ldcw, z_ldc2, z_lconst0, z_lconst1, z_null, z_getstatic, z_iload_0, z_iload_1, z_iload_2, z_iload_3, z_iload, z_istore_0, z_istore_1, z_istore_2, z_istore_3, z_istore, z_lload_0, z_lload_1, z_lload_2, z_lload_3, z_lload, z_lstore_0, z_lstore_1, z_lstore_2, z_lstore_3, z_lstore, z_aload_0, z_aload_1, z_aload_2, z_aload_3, z_aload, z_astore_0, z_astore_1, z_astore_2, z_astore_3, z_astore, ald_0, ald_s, z_iinc, qst1_1i, qst2_1i, qst1_1r, qst2_1r, qst1_1u, qst2_1u, qst1_1n, qst2_1n, qst1_1l, qst2_1l, qst1_0, qst2_0, qst1_s, qst2_s, z_iadd, z_isub, z_imul, z_iand, z_ior, z_ixor, z_ishl, z_ishr, z_idiv, z_irem, z_ladd, z_lsub, z_lmul, z_land, z_lor, z_ldiv, z_lrem, z_ineg, z_lshl, z_lshr, z_i2l, z_l2i, z_i2b, z_i2c, z_lcmp, z_dupi, z_dupr, z_popi, z_popr, z_dup2, z_goto, z_get0, z_get1, z_get2, z_get3, z_put0, z_put1, z_put2, z_put2n, z_put3, z_iaload, z_baload, z_laload, z_aaload, z_iastore, z_bastore, z_lastore, z_aastore, z_aastoren, z_arraylength, z_new, z_newarray, z_anewarray, z_multi, z_objinit, z_is0, z_iv0, z_ip0, z_is1, z_iv1, z_ip1, z_is2, z_iv2, z_ip2, z_is3, z_iv3, z_ip3, z_is4, z_iv4, z_ip4, z_is5, z_iv5, z_ip5, z_is6, z_iv6, z_ip6, z_is7, z_iv7, z_ip7, z_m991, z_m992, z_m993, z_m994, z_m995, z_m996, z_m998, acal_0, acal_1, acal_2, acal_3, acal_4, aK_v, aK_n, sF_c, sF_n, b_nr, b_nn, r_I, r_Z, r_L, r_A, r_V, sw_F, sw_n, gd_tt, is01_bzT, is01_0, is01_1, qrv_s, qrv_n, bi_eq_t, bi_eq_f, bi_ne_t, bi_ne_f, bi_lt_t, bi_lt_f, bi_ge_t, bi_ge_f, bi_gt_t, bi_gt_f, bi_le_t, bi_le_f, bc_eq_t, bc_eq_f, bc_ne_t, bc_ne_f, bc_lt_t, bc_lt_f, bc_ge_t, bc_ge_f, bc_gt_t, bc_gt_f, bc_le_t, bc_le_f, bb_eq_t, bb_eq_f, bb_ne_t, bb_ne_f, sc_t, sc_f, b_nr, b_nn, mI_J, mI_R, mJ_I, mJ_R, mR_I, mR_J, mK_I, mK_J, mK_R, mN_I, mN_J, mN_R, inM_I, inM_J, inM_R, mZ_nc, mZ_nk, mZ_sm, mZ_J, mZ_R, mJ_nc, mJ_ni, mJ_sm, mI_Z, iz_add, iz_sub, iz_mul, iz_neg, iz_lt, iz_le, iz_eq, iz_clamp, iz_inB, iz_div, iz_rem, shK h, shR h, inM_lit, and_self, true_and, and_true, true_or, or_true, not_true_eq_false, not_false_eq_true, Nat.reduceEqDiff, reduceCtorEq, Int.reduceNeg, Int.reduceSub, Int.reduceAdd, Int.reduceMul, Int.reduceToNat, Int.reduceEq, Int.neg_neg, Int.cast_ofNat_Int, Nat.reduceAdd, Nat.reduceMul, Nat.reduceSub, gd_t, emod_r, iz_0, Int.zero_add, Int.add_zero, wp_some, hom0, t1, vb0, if_false, if_true]
      exact z
  · have f0 : ¬ wfi l = -1 := fun q => by have := wl.2.mp q; omega
    have s1 : ¬ wse l = -1 := fun q => by have := wl.1.mp q; omega
    have hom1 : mZ M1 479 40 = (l.length : Int) := hom
    have fo := fb.2.2.resolve_left f0
    have so := sb.2.2.resolve_left s1
    have ll : (2 : Int) ≤ l.length := by omega
    rcases s01 with s0 | s0
    · rw [if_neg (by omega)] at hst
      have z := body 1 (wfi l) 0 (Or.inr rfl) (by rw [if_neg s1]) (wfi_get (by omega)) (by decide) (by omega) fo.2.1 hst
      have z : wp (n_151_71 (cal (d + 163)) [some (.ref 479), some (.int (iz w)), some (.int (iz s)), none, none, none, none] [.int (iz 0), .ref 497] (qsI (qsI (qsI M1 496 T.toNat (iz 1)) 479 37 (iz (T + 1))) 479 35 (iz 0))) P := z
      simp (disch := first | assumption | decide | omega) only [n_151_0, n_151_26, n_151_70, n_151_226, n_151_228, n_151_306, z_iconst, z_bipush, z_sipush, z_ldc, z_ldcs, z_ldcw, z_ldc2, z_lconst0, z_lconst1, z_null, z_getstatic, z_iload_0, z_iload_1, z_iload_2, z_iload_3, z_iload, z_istore_0, z_istore_1, z_istore_2, z_istore_3, z_istore, z_lload_0, z_lload_1, z_lload_2, z_lload_3, z_lload, z_lstore_0, z_lstore_1, z_lstore_2, z_lstore_3, z_lstore, z_aload_0, z_aload_1, z_aload_2, z_aload_3, z_aload, z_astore_0, z_astore_1, z_astore_2, z_astore_3, z_astore, ald_0, ald_s, z_iinc, qst1_1i, qst2_1i, qst1_1r, qst2_1r, qst1_1u, qst2_1u, qst1_1n, qst2_1n, qst1_1l, qst2_1l, qst1_0, qst2_0, qst1_s, qst2_s, z_iadd, z_isub, z_imul, z_iand, z_ior, z_ixor, z_ishl, z_ishr, z_idiv, z_irem, z_ladd, z_lsub, z_lmul, z_land, z_lor, z_ldiv, z_lrem, z_ineg, z_lshl, z_lshr, z_i2l, z_l2i, z_i2b, z_i2c, z_lcmp, z_dupi, z_dupr, z_popi, z_popr, z_dup2, z_goto, z_get0, z_get1, z_get2, z_get3, z_put0, z_put1, z_put2, z_put2n, z_put3, z_iaload, z_baload, z_laload, z_aaload, z_iastore, z_bastore, z_lastore, z_aastore, z_aastoren, z_arraylength, z_new, z_newarray, z_anewarray, z_multi, z_objinit, z_is0, z_iv0, z_ip0, z_is1, z_iv1, z_ip1, z_is2, z_iv2, z_ip2, z_is3, z_iv3, z_ip3, z_is4, z_iv4, z_ip4, z_is5, z_iv5, z_ip5, z_is6, z_iv6, z_ip6, z_is7, z_iv7, z_ip7, z_m991, z_m992, z_m993, z_m994, z_m995, z_m996, z_m998, acal_0, acal_1, acal_2, acal_3, acal_4, aK_v, aK_n, sF_c, sF_n, b_nr, b_nn, r_I, r_Z, r_L, r_A, r_V, sw_F, sw_n, gd_tt, is01_bzT, is01_0, is01_1, qrv_s, qrv_n, bi_eq_t, bi_eq_f, bi_ne_t, bi_ne_f, bi_lt_t, bi_lt_f, bi_ge_t, bi_ge_f, bi_gt_t, bi_gt_f, bi_le_t, bi_le_f, bc_eq_t, bc_eq_f, bc_ne_t, bc_ne_f, bc_lt_t, bc_lt_f, bc_ge_t, bc_ge_f, bc_gt_t, bc_gt_f, bc_le_t, bc_le_f, bb_eq_t, bb_eq_f, bb_ne_t, bb_ne_f, sc_t, sc_f, b_nr, b_nn, mI_J, mI_R, mJ_I, mJ_R, mR_I, mR_J, mK_I, mK_J, mK_R, mN_I, mN_J, mN_R, inM_I, inM_J, inM_R, mZ_nc, mZ_nk, mZ_sm, mZ_J, mZ_R, mJ_nc, mJ_ni, mJ_sm, mI_Z, iz_add, iz_sub, iz_mul, iz_neg, iz_lt, iz_le, iz_eq, iz_clamp, iz_inB, iz_div, iz_rem, shK h, shR h, inM_lit, and_self, true_and, and_true, true_or, or_true, not_true_eq_false, not_false_eq_true, Nat.reduceEqDiff, reduceCtorEq, Int.reduceNeg, Int.reduceSub, Int.reduceAdd, Int.reduceMul, Int.reduceToNat, Int.reduceEq, Int.neg_neg, Int.cast_ofNat_Int, Nat.reduceAdd, Nat.reduceMul, Nat.reduceSub, gd_t, emod_r, iz_0, Int.zero_add, Int.add_zero, wp_some, hom1, t1, vb1, if_false, if_true]
      exact z
    · rw [if_pos ⟨s0, s1⟩] at hst
      have z := body 1 (wse l) 1 (Or.inr rfl) (by rw [if_neg s1]) (wse_get (by omega)) (by decide) (by omega) so.2.1 hst
      have z : wp (n_151_71 (cal (d + 163)) [some (.ref 479), some (.int (iz w)), some (.int (iz s)), none, none, none, none] [.int (iz 1), .ref 497] (qsI (qsI (qsI M1 496 T.toNat (iz 1)) 479 37 (iz (T + 1))) 479 35 (iz 0))) P := z
      simp (disch := first | assumption | decide | omega) only [n_151_0, n_151_26, n_151_70, n_151_226, n_151_228, n_151_306, z_iconst, z_bipush, z_sipush, z_ldc, z_ldcs, z_ldcw, z_ldc2, z_lconst0, z_lconst1, z_null, z_getstatic, z_iload_0, z_iload_1, z_iload_2, z_iload_3, z_iload, z_istore_0, z_istore_1, z_istore_2, z_istore_3, z_istore, z_lload_0, z_lload_1, z_lload_2, z_lload_3, z_lload, z_lstore_0, z_lstore_1, z_lstore_2, z_lstore_3, z_lstore, z_aload_0, z_aload_1, z_aload_2, z_aload_3, z_aload, z_astore_0, z_astore_1, z_astore_2, z_astore_3, z_astore, ald_0, ald_s, z_iinc, qst1_1i, qst2_1i, qst1_1r, qst2_1r, qst1_1u, qst2_1u, qst1_1n, qst2_1n, qst1_1l, qst2_1l, qst1_0, qst2_0, qst1_s, qst2_s, z_iadd, z_isub, z_imul, z_iand, z_ior, z_ixor, z_ishl, z_ishr, z_idiv, z_irem, z_ladd, z_lsub, z_lmul, z_land, z_lor, z_ldiv, z_lrem, z_ineg, z_lshl, z_lshr, z_i2l, z_l2i, z_i2b, z_i2c, z_lcmp, z_dupi, z_dupr, z_popi, z_popr, z_dup2, z_goto, z_get0, z_get1, z_get2, z_get3, z_put0, z_put1, z_put2, z_put2n, z_put3, z_iaload, z_baload, z_laload, z_aaload, z_iastore, z_bastore, z_lastore, z_aastore, z_aastoren, z_arraylength, z_new, z_newarray, z_anewarray, z_multi, z_objinit, z_is0, z_iv0, z_ip0, z_is1, z_iv1, z_ip1, z_is2, z_iv2, z_ip2, z_is3, z_iv3, z_ip3, z_is4, z_iv4, z_ip4, z_is5, z_iv5, z_ip5, z_is6, z_iv6, z_ip6, z_is7, z_iv7, z_ip7, z_m991, z_m992, z_m993, z_m994, z_m995, z_m996, z_m998, acal_0, acal_1, acal_2, acal_3, acal_4, aK_v, aK_n, sF_c, sF_n, b_nr, b_nn, r_I, r_Z, r_L, r_A, r_V, sw_F, sw_n, gd_tt, is01_bzT, is01_0, is01_1, qrv_s, qrv_n, bi_eq_t, bi_eq_f, bi_ne_t, bi_ne_f, bi_lt_t, bi_lt_f, bi_ge_t, bi_ge_f, bi_gt_t, bi_gt_f, bi_le_t, bi_le_f, bc_eq_t, bc_eq_f, bc_ne_t, bc_ne_f, bc_lt_t, bc_lt_f, bc_ge_t, bc_ge_f, bc_gt_t, bc_gt_f, bc_le_t, bc_le_f, bb_eq_t, bb_eq_f, bb_ne_t, bb_ne_f, sc_t, sc_f, b_nr, b_nn, mI_J, mI_R, mJ_I, mJ_R, mR_I, mR_J, mK_I, mK_J, mK_R, mN_I, mN_J, mN_R, inM_I, inM_J, inM_R, mZ_nc, mZ_nk, mZ_sm, mZ_J, mZ_R, mJ_nc, mJ_ni, mJ_sm, mI_Z, iz_add, iz_sub, iz_mul, iz_neg, iz_lt, iz_le, iz_eq, iz_clamp, iz_inB, iz_div, iz_rem, shK h, shR h, inM_lit, and_self, true_and, and_true, true_or, or_true, not_true_eq_false, not_false_eq_true, Nat.reduceEqDiff, reduceCtorEq, Int.reduceNeg, Int.reduceSub, Int.reduceAdd, Int.reduceMul, Int.reduceToNat, Int.reduceEq, Int.neg_neg, Int.cast_ofNat_Int, Nat.reduceAdd, Nat.reduceMul, Nat.reduceSub, gd_t, emod_r, iz_0, Int.zero_add, Int.add_zero, wp_some, hom1, t1, vb1, if_false, if_true]
      exact z

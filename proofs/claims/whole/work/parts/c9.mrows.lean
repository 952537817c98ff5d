/-! m's rows0 -/
theorem stN_k {M M1 : qMe} {w wall : Int} {sl : Nat → Prop} {Q : RQ} (h : ∀ k, mZ M1 481 k = mZ M 481 k) : ∀ n : Nat, stN M1 w wall sl n Q = stN M w wall sl n Q
  | 0 => rfl
  | n + 1 => by rw [stN, stN, stN_k h n, stepP_k h]
theorem stN_c {M : qMe} {w wall : Int} {s1 s2 : Nat → Prop} {Q : RQ} : ∀ n : Nat, (∀ t, t < n → (s1 t ↔ s2 t)) → stN M w wall s1 n Q = stN M w wall s2 n Q
  | 0, _ => rfl
  | n + 1, h => by rw [stN, stN, stN_c n (fun t ht => h t (by omega)), show s1 n = s2 n from propext (h n (by omega))]
/-- slips in the tries a and b -/
noncomputable def st2M (M : qMe) (w a b : Int) (n : Nat) (Q : RQ) : RQ := stN M w (-1) (fun n => (n : Int) = a ∨ (n : Int) = b) n Q
theorem st2_s {M : qMe} {w a b : Int} {n : Nat} {Q : RQ} (h : qy (st2M M w a b n Q) = -1) : st2M M w a b (n + 1) Q = stepP M w (-1) ((n : Int) = a ∨ (n : Int) = b) (st2M M w a b n Q) := if_pos h
theorem st2_sF {M : qMe} {w a b : Int} {n : Nat} {Q : RQ} (h : qy (st2M M w a b n Q) = -1) (ha : ¬ (n : Int) = a) (hb : ¬ (n : Int) = b) : st2M M w a b (n + 1) Q = stepP M w (-1) False (st2M M w a b n Q) := by
  rw [st2_s h, show ((n : Int) = a ∨ (n : Int) = b) = False from propext ⟨fun q => q.elim ha hb, fun q => q.elim⟩]
theorem st2_sT {M : qMe} {w a b a' b' : Int} {n : Nat} {Q : RQ} (h : qy (st2M M w a b n Q) = -1) (hn : (n : Int) = a' ∨ (n : Int) = b') (hs : ∀ t : Nat, t < n → (((t : Int) = a' ∨ (t : Int) = b') ↔ ((t : Int) = a ∨ (t : Int) = b))) : st2M M w a' b' (n + 1) Q = stepP M w (-1) True (st2M M w a b n Q) := by
  have e : st2M M w a' b' n Q = st2M M w a b n Q := stN_c n hs
  rw [st2_s (by rw [e]; exact h), e, show ((n : Int) = a' ∨ (n : Int) = b') = True from propext ⟨fun _ => True.intro, fun _ => hn⟩]
theorem st2_st {M : qMe} {w a b : Int} {n : Nat} {Q : RQ} (h : ¬ qy (st2M M w a b n Q) = -1) (hn : n ≤ 60) : st2M M w a b 60 Q = st2M M w a b n Q := by
  have := stN_s h (60 - n)
  rw [show n + (60 - n) = 60 by omega] at this
  exact this
theorem st2_end {M : qMe} {w a b : Int} {Q : RQ} {f : Int → Int} : ∀ (n t : Nat), t + n = 60 → a < t → b < t → rowsG M w f n 0 (st2M M w a b t Q) = f (qp (st2M M w a b 60 Q))
  | 0, t, h, _, _ => by
    obtain rfl : t = 60 := by omega
    rfl
  | n + 1, t, h, ha, hb => by
    by_cases y : qy (st2M M w a b t Q) = -1
    · rw [rowsG, if_pos y, if_neg (fun q => Nat.lt_irrefl 0 q.1), Int.zero_add, ← st2_sF y (by omega) (by omega)]
      exact st2_end n (t + 1) (by omega) (by omega) (by omega)
    · rw [rowsG_s y, st2_st y (by omega)]
def fE (e : Int) : Int → Int := if e = 108 then (fun _ => 1) else one e
theorem fE_b {e : Int} : ∀ p, 0 ≤ fE e p ∧ fE e p ≤ 1 := fun p => by
  unfold fE
  split
  · dsimp only; omega
  · exact one_b
def vE (M : qMe) (e : Int) : Int := if e = 108 then mZ M 479 44 else mZ M 498 e.toNat
theorem vE_k {M M1 : qMe} {D : Nat → Nat → Prop} (hD : Dif M M1 D) (h1 : ¬ D 479 44) (h2 : ∀ k, ¬ D 498 k) (e : Int) : vE M1 e = vE M e := by
  unfold vE
  rw [hD.z h1, hD.z (h2 _)]
def DRw (i k : Nat) : Prop := DSt i k ∨ i = 498 ∨ i = 499 ∨ i = 500 ∨ (i = 479 ∧ k = 44)
theorem DRw_scr {i k : Nat} (q : DRw i k) : scr i k ∧ ¬ i = 73 ∧ ¬ i = 76 ∧ ¬ i = 77 := by unfold DRw DSt DOp DTo at q; unfold scr; omega
theorem m_counts0 {d : Nat} {M : qMe} {p : Int} (h : shp M) (hp : mZ M 479 31 = p) (p1 : 0 ≤ p ∧ p < 108) (hv : ∀ e : Int, 0 ≤ e → e ≤ 108 → 0 ≤ vE M e ∧ vE M e ≤ 100000) : wV (cal (d + 1) 162 [.ref 479] M) (fun M1 => Dif M M1 (fun i k => i = 498 ∨ (i = 479 ∧ k = 44)) ∧ ∀ e : Int, 0 ≤ e → e ≤ 108 → vE M1 e = vE M e + fE e p) := by
  refine wV_q (fun P hP => ?_)
  have hN := h.1
  have v1 := hv p p1.1 (by omega)
  have v2 := hv 108 (by decide) (by decide)
  unfold vE at v1 v2
  rw [if_neg (by omega)] at v1
  rw [if_pos rfl] at v2
  rw [cal_162, gd_t (Nat.le_of_ble_eq_true rfl)]
  change wp (n_162_0 (cal _) [some (.ref 479)] [] _) _
  simp (disch := first | assumption | decide | omega) only [n_162_0, z_iconst, z_bipush, z_sipush, z_ldc, z_ldcs, z_ldcw, z_ldc2, z_lconst0, z_lconst1, z_null, z_getstatic, z_iload_0, z_iload_1, z_iload_2, z_iload_3, z_iload, z_istore_0, z_istore_1, z_istore_2, z_istore_3, z_istore, z_lload_0, z_lload_1, z_lload_2, z_lload_3, z_lload, z_lstore_0, z_lstore_1, z_lstore_2, z_lstore_3, z_lstore, z_aload_0, z_aload_1, z_aload_2, z_aload_3, z_aload, z_astore_0, z_astore_1, z_astore_2, z_astore_3, z_astore, ald_0, ald_s, z_iinc, qst1_1i, qst2_1i, qst1_1r, qst2_1r, qst1_1u, qst2_1u, qst1_1n, qst2_1n, qst1_1l, qst2_1l, qst1_0, qst2_0, qst1_s, qst2_s, z_iadd, z_isub, z_imul, z_iand, z_ior, z_ixor, z_ishl, z_ishr, z_idiv, z_irem, z_ladd, z_lsub, z_lmul, z_land, z_lor, z_ldiv, z_lrem, z_ineg, z_lshl, z_lshr, z_i2l, z_l2i, z_i2b, z_i2c, z_lcmp, z_dupi, z_dupr, z_popi, z_popr, z_dup2, z_goto, z_get0, z_get1, z_get2, z_get3, z_put0, z_put1, z_put2, z_put2n, z_put3, z_iaload, z_baload, z_laload, z_aaload, z_iastore, z_bastore, z_lastore, z_aastore, z_aastoren, z_arraylength, z_new, z_newarray, z_anewarray, z_multi, z_objinit, z_is0, z_iv0, z_ip0, z_is1, z_iv1, z_ip1, z_is2, z_iv2, z_ip2, z_is3, z_iv3, z_ip3, z_is4, z_iv4, z_ip4, z_is5, z_iv5, z_ip5, z_is6, z_iv6, z_ip6, z_is7, z_iv7, z_ip7, z_m991, z_m992, z_m993, z_m994, z_m995, z_m996, z_m998, acal_0, acal_1, acal_2, acal_3, acal_4, aK_v, aK_n, sF_c, sF_n, b_nr, b_nn, r_I, r_Z, r_L, r_A, r_V, sw_F, sw_n, gd_tt, is01_bzT, is01_0, is01_1, qrv_s, qrv_n, bi_eq_t, bi_eq_f, bi_ne_t, bi_ne_f, bi_lt_t, bi_lt_f, bi_ge_t, bi_ge_f, bi_gt_t, bi_gt_f, bi_le_t, bi_le_f, bc_eq_t, bc_eq_f, bc_ne_t, bc_ne_f, bc_lt_t, bc_lt_f, bc_ge_t, bc_ge_f, bc_gt_t, bc_gt_f, bc_le_t, bc_le_f, bb_eq_t, bb_eq_f, bb_ne_t, bb_ne_f, sc_t, sc_f, b_nr, b_nn, mI_J, mI_R, mJ_I, mJ_R, mR_I, mR_J, mK_I, mK_J, mK_R, mN_I, mN_J, mN_R, inM_I, inM_J, inM_R, mZ_nc, mZ_nk, mZ_sm, mZ_J, mZ_R, mJ_nc, mJ_ni, mJ_sm, mI_Z, iz_add, iz_sub, iz_mul, iz_neg, iz_lt, iz_le, iz_eq, iz_clamp, iz_inB, iz_div, iz_rem, shK h, shR h, inM_lit, and_self, true_and, and_true, true_or, or_true, not_true_eq_false, not_false_eq_true, Nat.reduceEqDiff, reduceCtorEq, Int.reduceNeg, Int.reduceSub, Int.reduceAdd, Int.reduceMul, Int.reduceToNat, Int.reduceEq, Int.neg_neg, Int.cast_ofNat_Int, Nat.reduceAdd, Nat.reduceMul, Nat.reduceSub, gd_t, emod_r, iz_0, Int.zero_add, Int.add_zero, wp_some, hp]
  refine hP _ ⟨(Dif.rfl'.I (Or.inl rfl)).I (Or.inr ⟨rfl, rfl⟩), fun e a b => ?_⟩
  unfold vE fE one
  by_cases e8 : e = 108
  · rw [if_pos e8, if_pos e8, if_pos e8, mZ_sm rfl (by omega) (by omega)]
  · rw [if_neg e8, if_neg e8, if_neg e8, mZ_nc (by decide)]
    by_cases ep : p = e
    · subst ep
      rw [mZ_sm rfl (by omega) (by omega), if_pos rfl]
    · rw [mZ_nk (by omega), if_neg ep, Int.add_zero]
theorem m_castR {d : Nat} {M M' : qMe} {c a b : Int} (hW' : Wo M') (hI' : Rid M') (k481 : ∀ k, mZ M' 481 k = mZ M 481 k) (k493 : ∀ k, mZ M' 493 k = mZ M 493 k) (ht : isT M c) (l1 : -1 ≤ a ∧ a ≤ 100) (l2 : -1 ≤ b ∧ b ≤ 100) : wV (cal (d + 166) 161 [.ref 479, .int (iz c), .int (iz a), .int (iz b)] M') (fun M1 => Dif M' M1 DSt ∧ ∃ j : Nat, j ≤ 60 ∧ st2M M (c / 160) a b 60 (castS M c) = st2M M (c / 160) a b j (castS M c) ∧ mZ M1 479 31 = qp (st2M M (c / 160) a b 60 (castS M c)) ∧ mZ M1 479 37 = j ∧ ∀ t : Nat, t < j → qy (st2M M (c / 160) a b t (castS M c)) = -1 ∧ mZ M1 496 t = csl M (c / 160) (st2M M (c / 160) a b t (castS M c))) := by
  refine wV_mono (m_casts (d := d) (c := c) (wall := -1) hW' hI'.2.2 hI'.2.1 (by rw [isT_k k481]; exact ht) l1 l2) (fun M1 q => ?_)
  obtain ⟨hD, j, j6, e, hX, hc⟩ := q
  rw [castS_k k481 k493, stN_k k481, stN_k k481] at e
  rw [castS_k k481 k493, stN_k k481] at hX
  refine ⟨hD, j, j6, e, hX.1.1, hX.2.2.2.2, fun t ht => ?_⟩
  have := hc t ht
  rw [castS_k k481 k493, stN_k k481] at this
  have ec : ∀ Q, csl M' (c / 160) Q = csl M (c / 160) Q := fun Q => by unfold csl; rw [wy_k k481]
  rw [ec] at this
  exact this

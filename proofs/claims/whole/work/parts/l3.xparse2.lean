def DPx (i k : Nat) : Prop := DCu i k ∨ DPa 0 i k ∨ (i = 183 ∧ k = 8)
/-- what is read of a text -/
noncomputable def rTK (b : Nat → Int) (n : Nat) (law : Bool) : pR (List Itm) := pText (cTK b n) (vTK b n) law (nTK b n)
/-- x's draft holds it -/
def XDr (M1 : qMe) (cs : List Int) (is : List Itm) : Prop := mZ M1 184 5 = ((is.length : Nat) : Int) ∧ mZ M1 184 6 = ((cs.length : Nat) : Int) ∧ (∀ (j : Nat) (x : Int), cs[j]? = some x → mZ M1 189 j = x ∧ 0 ≤ x ∧ x ≤ 20000) ∧ ∀ (j : Nat) (it : Itm), is[j]? = some it → ItR M1 j it
theorem is01_law {law : Bool} : is01 (iz (if law then 1 else 0)) := by
  cases law
  · exact Or.inl rfl
  · exact Or.inr rfl
theorem x_clear {d : Nat} {M : qMe} (h : shp M) : cal (d + 1) 308 [.ref 184] M = some (none, qsI (qsI M 184 5 (iz 0)) 184 6 (iz 0)) := by
  have hN := h.1
  refine (cal_308 _ _ _).trans ((gd_t (Nat.le_of_ble_eq_true rfl)).trans ?_)
  change n_308_0 (cal _) [some (.ref 184)] [] _ = _
  simp (disch := first | assumption | decide | omega) only [n_308_0, z_iconst, z_bipush, z_sipush, z_ldc, z_ldcs, z_ldcw, z_ldc2, z_lconst0, z_lconst1, z_null, z_getstatic, z_iload_0, z_iload_1, z_iload_2, z_iload_3, z_iload, z_istore_0, z_istore_1, z_istore_2, z_istore_3, z_istore, z_lload_0, z_lload_1, z_lload_2, z_lload_3, z_lload, z_lstore_0, z_lstore_1, z_lstore_2, z_lstore_3, z_lstore, z_aload_0, z_aload_1, z_aload_2, z_aload_3, z_aload, z_astore_0, z_astore_1, z_astore_2, z_astore_3, z_astore, ald_0, ald_s, z_iinc, qst1_1i, qst2_1i, qst1_1r, qst2_1r, qst1_1u, qst2_1u, qst1_1n, qst2_1n, qst1_1l, qst2_1l, qst1_0, qst2_0, qst1_s, qst2_s, z_iadd, z_isub, z_imul, z_iand, z_ior, z_ixor, z_ishl, z_ishr, z_idiv, z_irem, z_ladd, z_lsub, z_lmul, z_land, z_lor, z_ldiv, z_lrem, z_ineg, z_lshl, z_lshr, z_i2l, z_l2i, z_i2b, z_i2c, z_lcmp, z_dupi, z_dupr, z_popi, z_popr, z_dup2, z_goto, z_get0, z_get1, z_get2, z_get3, z_put0, z_put1, z_put2, z_put2n, z_put3, z_iaload, z_baload, z_laload, z_aaload, z_iastore, z_bastore, z_lastore, z_aastore, z_aastoren, z_arraylength, z_new, z_newarray, z_anewarray, z_multi, z_objinit, z_is0, z_iv0, z_ip0, z_is1, z_iv1, z_ip1, z_is2, z_iv2, z_ip2, z_is3, z_iv3, z_ip3, z_is4, z_iv4, z_ip4, z_is5, z_iv5, z_ip5, z_is6, z_iv6, z_ip6, z_is7, z_iv7, z_ip7, z_m991, z_m992, z_m993, z_m994, z_m995, z_m996, z_m998, acal_0, acal_1, acal_2, acal_3, acal_4, aK_v, aK_n, sF_c, sF_n, b_nr, b_nn, r_I, r_Z, r_L, r_A, r_V, sw_F, sw_n, gd_tt, is01_bzT, is01_0, is01_1, qrv_s, qrv_n, bi_eq_t, bi_eq_f, bi_ne_t, bi_ne_f, bi_lt_t, bi_lt_f, bi_ge_t, bi_ge_f, bi_gt_t, bi_gt_f, bi_le_t, bi_le_f, bc_eq_t, bc_eq_f, bc_ne_t, bc_ne_f, bc_lt_t, bc_lt_f, bc_ge_t, bc_ge_f, bc_gt_t, bc_gt_f, bc_le_t, bc_le_f, bb_eq_t, bb_eq_f, bb_ne_t, bb_ne_f, sc_t, sc_f, b_nr, b_nn, mI_J, mI_R, mJ_I, mJ_R, mR_I, mR_J, mK_I, mK_J, mK_R, mN_I, mN_J, mN_R, inM_I, inM_J, inM_R, mZ_nc, mZ_nk, mZ_sm, mZ_J, mZ_R, mJ_nc, mJ_ni, mJ_sm, mI_Z, iz_add, iz_sub, iz_mul, iz_neg, iz_lt, iz_le, iz_eq, iz_clamp, iz_inB, iz_div, iz_rem, shK h, shR h, inM_lit, and_self, true_and, and_true, true_or, or_true, not_true_eq_false, not_false_eq_true, Nat.reduceEqDiff, reduceCtorEq, Int.reduceNeg, Int.reduceSub, Int.reduceAdd, Int.reduceMul, Int.reduceToNat, Int.reduceEq, Int.neg_neg, Int.cast_ofNat_Int, Nat.reduceAdd, Nat.reduceMul, Nat.reduceSub, gd_t, emod_r, iz_0, Int.zero_add, Int.add_zero, wp_some]
set_option maxHeartbeats 1000000 in
theorem x_parse {d n : Nat} {M : qMe} {law : Bool} (hz : shp M) (hn : n ≤ 400) (hb : ∀ j : Nat, j < n → 0 ≤ mZ M 71 j ∧ mZ M 71 j ≤ 255) : wI (cal (d + 96) 267 [.ref 183, .ref 71, .int (iz (n : Int)), .int (iz (if law then 1 else 0))] M) (fun z M1 => Dif M M1 DPx ∧ (((rTK (mZ M 71) n law).1 = true ∧ z = -1 ∧ XDr M1 (rTK (mZ M 71) n law).2.2.2.1 (rTK (mZ M 71) n law).2.2.2.2) ∨ ((rTK (mZ M 71) n law).1 = false ∧ z = ((sTK (mZ M 71) n (rTK (mZ M 71) n law).2.1 : Nat) : Int)))) := by
  refine wI_q (fun P hP => ?_)
  have h := hz
  have hN := h.1
  have is1 := is01_law (law := law)
  have nl := nTK_n (b := mZ M 71) (n := n)
  have ps : (rTK (mZ M 71) n law).2.1 ≤ nTK (mZ M 71) n := by
    have gen : ∀ (k p q a : Nat), p ≤ nTK (mZ M 71) n → (pTxt (cTK (mZ M 71) n) (vTK (mZ M 71) n) law (nTK (mZ M 71) n) k p q a).2.1 ≤ nTK (mZ M 71) n := by
      intro k
      induction k with
      | zero => exact fun p q a g => g
      | succ k ih =>
        intro p q a g
        rw [pTxt_s]
        refine pThen_p (pItm_p cTK_0 g) (fun p1 q1 cs i _ g1 => ?_)
        by_cases c1 : cTK (mZ M 71) n p1 = 159
        · rw [if_pos c1]
          exact pThen_p (ih _ _ _ (lt_tok cTK_0 (by omega))) (fun p2 q2 cs2 is _ g2 => g2)
        · rw [if_neg c1]
          by_cases c2 : p1 = nTK (mZ M 71) n
          · rw [if_pos c2]; exact g1
          · rw [if_neg c2]; exact g1
    exact gen 12 0 0 0 (Nat.zero_le _)
  show wp (cal ((d + 95) + 1) 267 [.ref 183, .ref 71, .int (iz (n : Int)), .int (iz (if law then 1 else 0))] M) P
  rw [cal_267, gd_t (Nat.le_of_ble_eq_true rfl)]
  change wp (n_267_0 (cal _) [some (.ref 183), some (.ref 71), some (.int (iz (n : Int))), some (.int (iz (if law then 1 else 0))), none, none] [] _) _
  have cu := x_cutUp (d := d + 92) h hn hb
  rw [show d + 92 + 3 = d + 95 by omega] at cu
  simp (disch := first | assumption | decide | omega) only [n_267_0, n_267_75, n_267_85, n_267_104, n_267_121, n_267_127, n_267_149, n_267_158, z_iconst, z_bipush, z_sipush, z_ldc, z_ldcs, z_ldcw, z_ldc2, z_lconst0, z_lconst1, z_null, z_getstatic, z_iload_0, z_iload_1, z_iload_2, z_iload_3, z_iload, z_istore_0, z_istore_1, z_istore_2, z_istore_3, z_istore, z_lload_0, z_lload_1, z_lload_2, z_lload_3, z_lload, z_lstore_0, z_lstore_1, z_lstore_2, z_lstore_3, z_lstore, z_aload_0, z_aload_1, z_aload_2, z_aload_3, z_aload, z_astore_0, z_astore_1, z_astore_2, z_astore_3, z_astore, ald_0, ald_s, z_iinc, qst1_1i, qst2_1i, qst1_1r, qst2_1r, qst1_1u, qst2_1u, qst1_1n, qst2_1n, qst1_1l, qst2_1l, qst1_0, qst2_0, qst1_s, qst2_s, z_iadd, z_isub, z_imul, z_iand, z_ior, z_ixor, z_ishl, z_ishr, z_idiv, z_irem, z_ladd, z_lsub, z_lmul, z_land, z_lor, z_ldiv, z_lrem, z_ineg, z_lshl, z_lshr, z_i2l, z_l2i, z_i2b, z_i2c, z_lcmp, z_dupi, z_dupr, z_popi, z_popr, z_dup2, z_goto, z_get0, z_get1, z_get2, z_get3, z_put0, z_put1, z_put2, z_put2n, z_put3, z_iaload, z_baload, z_laload, z_aaload, z_iastore, z_bastore, z_lastore, z_aastore, z_aastoren, z_arraylength, z_new, z_newarray, z_anewarray, z_multi, z_objinit, z_is0, z_iv0, z_ip0, z_is1, z_iv1, z_ip1, z_is2, z_iv2, z_ip2, z_is3, z_iv3, z_ip3, z_is4, z_iv4, z_ip4, z_is5, z_iv5, z_ip5, z_is6, z_iv6, z_ip6, z_is7, z_iv7, z_ip7, z_m991, z_m992, z_m993, z_m994, z_m995, z_m996, z_m998, acal_0, acal_1, acal_2, acal_3, acal_4, aK_v, aK_n, sF_c, sF_n, b_nr, b_nn, r_I, r_Z, r_L, r_A, r_V, sw_F, sw_n, gd_tt, is01_bzT, is01_0, is01_1, qrv_s, qrv_n, bi_eq_t, bi_eq_f, bi_ne_t, bi_ne_f, bi_lt_t, bi_lt_f, bi_ge_t, bi_ge_f, bi_gt_t, bi_gt_f, bi_le_t, bi_le_f, bc_eq_t, bc_eq_f, bc_ne_t, bc_ne_f, bc_lt_t, bc_lt_f, bc_ge_t, bc_ge_f, bc_gt_t, bc_gt_f, bc_le_t, bc_le_f, bb_eq_t, bb_eq_f, bb_ne_t, bb_ne_f, sc_t, sc_f, b_nr, b_nn, mI_J, mI_R, mJ_I, mJ_R, mR_I, mR_J, mK_I, mK_J, mK_R, mN_I, mN_J, mN_R, inM_I, inM_J, inM_R, mZ_nc, mZ_nk, mZ_sm, mZ_J, mZ_R, mJ_nc, mJ_ni, mJ_sm, mI_Z, iz_add, iz_sub, iz_mul, iz_neg, iz_lt, iz_le, iz_eq, iz_clamp, iz_inB, iz_div, iz_rem, shK h, shR h, inM_lit, and_self, true_and, and_true, true_or, or_true, not_true_eq_false, not_false_eq_true, Nat.reduceEqDiff, reduceCtorEq, Int.reduceNeg, Int.reduceSub, Int.reduceAdd, Int.reduceMul, Int.reduceToNat, Int.reduceEq, Int.neg_neg, Int.cast_ofNat_Int, Nat.reduceAdd, Nat.reduceMul, Nat.reduceSub, gd_t, emod_r, iz_0, Int.zero_add, Int.add_zero, wp_some]
  refine wp_cV cu (fun M1 r => ?_)
  clear cu
  obtain ⟨D1, T1, e190, e191⟩ := r
  have h1 := D1.shp h (fun i k hi => by unfold DCu; omega)
  have hN1 := h1.1
  have cl : cal (d + 95) 308 [.ref 184] M1 = some (none, qsI (qsI M1 184 5 (iz 0)) 184 6 (iz 0)) := by
    exact x_clear (d := d + 94) h1
  obtain ⟨M2, hM2⟩ : ∃ M2, M2 = qsI (qsI (qsI (qsI (qsI (qsI M1 184 5 (iz 0)) 184 6 (iz 0)) 183 8 (iz (if law then 1 else 0))) 183 5 (iz 0)) 183 6 (iz 0)) 183 7 (iz 0) := ⟨_, rfl⟩
  have D2 : Dif M M2 DPx := by
    rw [hM2]
    refine ((((((D1.mono (fun i k q => Or.inl q)).I ?_).I ?_).I ?_).I ?_).I ?_).I ?_
    · exact Or.inr (Or.inl (Or.inr (Or.inl ⟨rfl, rfl⟩)))
    · exact Or.inr (Or.inl (Or.inl (Or.inr (Or.inl ⟨rfl, rfl⟩))))
    · exact Or.inr (Or.inr ⟨rfl, rfl⟩)
    · exact Or.inr (Or.inl (Or.inl (Or.inl ⟨rfl, Or.inl rfl⟩)))
    · exact Or.inr (Or.inl (Or.inl (Or.inl ⟨rfl, Or.inr (Or.inl rfl)⟩)))
    · exact Or.inr (Or.inl (Or.inl (Or.inl ⟨rfl, Or.inr (Or.inr rfl)⟩)))
  have f19 : ∀ i k, (190 ≤ i ∧ i ≤ 192) → mZ M2 i k = mZ M1 i k := fun i k q => by
    rw [hM2, mZ_nc (by omega), mZ_nc (by omega), mZ_nc (by omega), mZ_nc (by omega), mZ_nc (by omega), mZ_nc (by omega)]
  have S2 : XS M2 0 0 0 0 := by
    rw [hM2]
    refine ⟨?_, ?_, ?_, ?_⟩
    · rw [mZ_nk (by decide), mZ_nk (by decide)]; exact mZ_sm rfl (by decide) (by decide)
    · rw [mZ_nk (by decide)]; exact mZ_sm rfl (by decide) (by decide)
    · exact mZ_sm rfl (by decide) (by decide)
    · rw [mZ_nc (by decide), mZ_nc (by decide), mZ_nc (by decide), mZ_nc (by decide)]; exact mZ_sm rfl (by decide) (by decide)
  have z2 : mZ M2 184 5 = ((0 : Nat) : Int) := by
    rw [hM2, mZ_nc (by decide), mZ_nc (by decide), mZ_nc (by decide), mZ_nc (by decide), mZ_nk (by decide)]; exact mZ_sm rfl (by decide) (by decide)
  have l2 : mZ M2 183 8 = (if law then 1 else 0) := by
    rw [hM2, mZ_nk (by decide), mZ_nk (by decide), mZ_nk (by decide)]
    exact mZ_sm rfl (by cases law <;> decide) (by cases law <;> decide)
  have h2 := D2.shp h (fun i k hi => by unfold DPx DCu DPa DRy; omega)
  have X2 : TX M2 (cTK (mZ M 71) n) (vTK (mZ M 71) n) (nTK (mZ M 71) n) law := TX_of hn hb (fun j x q1 q2 => by
    rw [f19 _ _ (by omega), f19 _ _ (by omega)]
    exact (T1 j x q1 q2).2) (by rw [f19 _ _ (by omega)]; exact e191) l2
  have G2 : ∀ j, j < nTK (mZ M 71) n → 0 ≤ mZ M2 191 j := fun j q => by
    obtain ⟨x, x1, x2, x3, x4, x5⟩ := TK_get q
    rw [f19 _ _ (by omega), (T1 j x q x1).2.1]
    exact (xsort_b (hb _ x2)).1
  have s190 : ∀ p, p ≤ nTK (mZ M 71) n → mZ M2 190 p = ((sTK (mZ M 71) n p : Nat) : Int) := fun p q => by
    rw [f19 _ _ (by omega)]
    by_cases e : p < nTK (mZ M 71) n
    · obtain ⟨x, x1, x2, x3, x4, x5⟩ := TK_get e
      rw [(T1 p x e x1).1, (cTK_s x1).2.2]
    · rw [show p = nTK (mZ M 71) n by omega, (cTK_n (Nat.le_refl _)).2.2]
      exact e190
  have hn2 := qLF_ge
  have fin := x_parse_lp (c := cTK (mZ M 71) n) (v := vTK (mZ M 71) n) (N := nTK (mZ M 71) n) (d := d) (law := law) (ln := (n : Int)) (a1 := .ref 71) 12 qLF 0 0 0 0 M2 P rfl (by omega) h2 X2 S2 (Nat.zero_le _) (by omega) (Nat.le_refl _) z2 (by rw [f19 _ _ (by omega)]; exact e191) G2 (fun z M3 r => by
    obtain ⟨D3, r⟩ := r
    refine hP z M3 ⟨D2.tr (D3.mono (fun i k q => Or.inr (Or.inl q))), ?_⟩
    rcases r with ⟨rz, rt, z3, l3, C3, I3⟩ | ⟨rt, rp, rz⟩
    · refine Or.inl ⟨rt, rz, by rw [Nat.zero_add] at z3; exact z3, by rw [Nat.zero_add] at l3; exact l3, fun j x q => ?_, fun j it q => ?_⟩
      · have := C3.1 j x q
        rw [Nat.zero_add] at this
        exact this
      · have := I3 j it q
        rw [Nat.zero_add] at this
        exact this
    · exact Or.inr ⟨rt, rz.trans (s190 _ ps)⟩)
  have fin : wp (lp (f_267_39 (cal (d + 95))) qLF [some (.ref 183), some (.ref 71), some (.int (iz (n : Int))), some (.int (iz (if law then 1 else 0))), some (.int (iz 1)), some (.int (iz 0))] [] M2) P := fin
  clear hP D2 f19 S2 z2 l2 h2 X2 G2 s190
  generalize (if law then (1 : Int) else 0) = lawI at *
  simp (disch := first | assumption | decide | omega) only [n_267_0, n_267_75, n_267_85, n_267_104, n_267_121, n_267_127, n_267_149, n_267_158, n_267_39, z_iconst, z_bipush, z_sipush, z_ldc, z_ldcs, z_ldcw, z_ldc2, z_lconst0, z_lconst1, z_null, z_getstatic, z_iload_0, z_iload_1, z_iload_2, z_iload_3, z_iload, z_istore_0, z_istore_1, z_istore_2, z_istore_3, z_istore, z_lload_0, z_lload_1, z_lload_2, z_lload_3, z_lload, z_lstore_0, z_lstore_1, z_lstore_2, z_lstore_3, z_lstore, z_aload_0, z_aload_1, z_aload_2, z_aload_3, z_aload, z_astore_0, z_astore_1, z_astore_2, z_astore_3, z_astore, ald_0, ald_s, z_iinc, qst1_1i, qst2_1i, qst1_1r, qst2_1r, qst1_1u, qst2_1u, qst1_1n, qst2_1n, qst1_1l, qst2_1l, qst1_0, qst2_0, qst1_s, qst2_s, z_iadd, z_isub, z_imul, z_iand, z_ior, z_ixor, z_ishl, z_ishr, z_idiv, z_irem, z_ladd, z_lsub, z_lmul, z_land, z_lor, z_ldiv, z_lrem, z_ineg, z_lshl, z_lshr, z_i2l, z_l2i, z_i2b, z_i2c, z_lcmp, z_dupi, z_dupr, z_popi, z_popr, z_dup2, z_goto, z_get0, z_get1, z_get2, z_get3, z_put0, z_put1, z_put2, z_put2n, z_put3, z_iaload, z_baload, z_laload, z_aaload, z_iastore, z_bastore, z_lastore, z_aastore, z_aastoren, z_arraylength, z_new, z_newarray, z_anewarray, z_multi, z_objinit, z_is0, z_iv0, z_ip0, z_is1, z_iv1, z_ip1, z_is2, z_iv2, z_ip2, z_is3, z_iv3, z_ip3, z_is4, z_iv4, z_ip4, z_is5, z_iv5, z_ip5, z_is6, z_iv6, z_ip6, z_is7, z_iv7, z_ip7, z_m991, z_m992, z_m993, z_m994, z_m995, z_m996, z_m998, acal_0, acal_1, acal_2, acal_3, acal_4, aK_v, aK_n, sF_c, sF_n, b_nr, b_nn, r_I, r_Z, r_L, r_A, r_V, sw_F, sw_n, gd_tt, is01_bzT, is01_0, is01_1, qrv_s, qrv_n, bi_eq_t, bi_eq_f, bi_ne_t, bi_ne_f, bi_lt_t, bi_lt_f, bi_ge_t, bi_ge_f, bi_gt_t, bi_gt_f, bi_le_t, bi_le_f, bc_eq_t, bc_eq_f, bc_ne_t, bc_ne_f, bc_lt_t, bc_lt_f, bc_ge_t, bc_ge_f, bc_gt_t, bc_gt_f, bc_le_t, bc_le_f, bb_eq_t, bb_eq_f, bb_ne_t, bb_ne_f, sc_t, sc_f, b_nr, b_nn, mI_J, mI_R, mJ_I, mJ_R, mR_I, mR_J, mK_I, mK_J, mK_R, mN_I, mN_J, mN_R, inM_I, inM_J, inM_R, mZ_nc, mZ_nk, mZ_sm, mZ_J, mZ_R, mJ_nc, mJ_ni, mJ_sm, mI_Z, iz_add, iz_sub, iz_mul, iz_neg, iz_lt, iz_le, iz_eq, iz_clamp, iz_inB, iz_div, iz_rem, shK h, shR h, inM_lit, and_self, true_and, and_true, true_or, or_true, not_true_eq_false, not_false_eq_true, Nat.reduceEqDiff, reduceCtorEq, Int.reduceNeg, Int.reduceSub, Int.reduceAdd, Int.reduceMul, Int.reduceToNat, Int.reduceEq, Int.neg_neg, Int.cast_ofNat_Int, Nat.reduceAdd, Nat.reduceMul, Nat.reduceSub, gd_t, emod_r, iz_0, Int.zero_add, Int.add_zero, wp_some, shK h1, shR h1, cl, is1]
  rw [← hM2]
  exact fin

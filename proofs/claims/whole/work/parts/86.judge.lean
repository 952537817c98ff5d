/-! the Judge: renew, what it keeps -/
theorem and127 {x : Int} (h1 : 0 ≤ x) (h2 : x < 2147483648) : iz x &&& iz 127 = iz (x % 128) := by
  apply Int32.toInt_inj.mp
  have h4 : ((iz x).toBitVec &&& 127#32).toNat = (iz x).toBitVec.toNat % 128 := by
    rw [BitVec.toNat_and]
    exact Nat.and_two_pow_sub_one_eq_mod (iz x).toBitVec.toNat 7
  have h5 : (iz x &&& iz 127).toInt = (((iz x).toBitVec &&& 127#32).toNat : Int) := by
    show ((iz x).toBitVec &&& 127#32).toInt = _
    rw [BitVec.toInt_eq_toNat_cond, if_pos (by rw [h4]; omega)]
  rw [h5, h4, iz_toInt (by omega) (by omega)]
  have h6 : ((iz x).toBitVec.toInt : Int) = x := iz_toInt (by omega) h2
  have h7 := (iz x).toBitVec.isLt
  rw [BitVec.toInt_eq_toNat_cond] at h6
  split at h6 <;> omega
theorem shr7 {x : Int} (h1 : 0 ≤ x) (h2 : x < 2147483648) : iz x >>> (iz 7 &&& 31) = iz (x / 128) := shr_k (k := 7) (by decide) h1 h2
theorem iz_bv {x : Int} (h1 : 0 ≤ x) (h2 : x < 2147483648) : (iz x).toBitVec.toNat = x.toNat := by
  have h6 : ((iz x).toBitVec.toInt : Int) = x := iz_toInt (by omega) h2
  have h7 := (iz x).toBitVec.isLt
  rw [BitVec.toInt_eq_toNat_cond] at h6
  split at h6 <;> omega
theorem shl7or {x t : Int} (h1 : 0 ≤ x) (h2 : x < 16000000) (h3 : 0 ≤ t) (h4 : t < 128) : (iz x <<< (iz 7 &&& 31)) ||| iz t = iz (x * 128 + t) := by
  apply Int32.toInt_inj.mp
  have h5 : ((iz x <<< (iz 7 &&& 31)) ||| iz t).toBitVec = ((iz x).toBitVec <<< ((iz 7 &&& 31).toBitVec.smod 32).toNat) ||| (iz t).toBitVec := rfl
  have h6 : ((iz 7 &&& 31 : Int32).toBitVec.smod 32).toNat = 7 := by decide
  rw [h6] at h5
  have h7 : (((iz x).toBitVec <<< 7) ||| (iz t).toBitVec).toNat = x.toNat * 128 + t.toNat := by
    rw [BitVec.toNat_or, BitVec.toNat_shiftLeft, iz_bv h1 (by omega), iz_bv h3 (by omega), Nat.shiftLeft_eq, Nat.mod_eq_of_lt (by omega), ← Nat.shiftLeft_eq, ← Nat.shiftLeft_add_eq_or_of_lt (by omega), Nat.shiftLeft_eq]
  show ((iz x <<< (iz 7 &&& 31)) ||| iz t).toBitVec.toInt = _
  rw [h5, BitVec.toInt_eq_toNat_cond, h7, if_pos (by omega), iz_toInt (by omega) (by omega)]
  omega
/-- as Dif, but the Judge's law may be another; of longs it says nothing -/
def Frm (M M1 : qMe) (D : Nat → Nat → Prop) : Prop := mN M1 = mN M ∧ (∀ i, mK M1 i = mK M i) ∧ (∀ i k, ¬ (i = 73 ∧ k = 5) → mR M1 i k = mR M i k) ∧ (∀ i k, ¬ D i k → mZ M1 i k = mZ M i k)
theorem Frm.of {M M1 : qMe} {D : Nat → Nat → Prop} (h : Dif M M1 D) : Frm M M1 D := ⟨h.1, h.2.1, fun i k _ => h.2.2.1 i k, fun i k hn => h.z hn⟩
theorem Frm.tr {M M1 M2 : qMe} {D : Nat → Nat → Prop} (h : Frm M M1 D) (g : Frm M1 M2 D) : Frm M M2 D := ⟨g.1.trans h.1, fun i => (g.2.1 i).trans (h.2.1 i), fun i k q => (g.2.2.1 i k q).trans (h.2.2.1 i k q), fun i k hn => (g.2.2.2 i k hn).trans (h.2.2.2 i k hn)⟩
theorem Frm.mono {M M1 : qMe} {D D2 : Nat → Nat → Prop} (h : Frm M M1 D) (hD : ∀ i k, D i k → D2 i k) : Frm M M1 D2 := ⟨h.1, h.2.1, h.2.2.1, fun i k hn => h.2.2.2 i k (fun q => hn (hD i k q))⟩
theorem Frm.rf {M : qMe} {D : Nat → Nat → Prop} : Frm M M D := Frm.of Dif.rfl'
theorem Frm.z {M M1 : qMe} {D : Nat → Nat → Prop} (h : Frm M M1 D) {i k : Nat} (hn : ¬ D i k) : mZ M1 i k = mZ M i k := h.2.2.2 i k hn
theorem Frm.inm {M M1 : qMe} {D : Nat → Nat → Prop} (h : Frm M M1 D) (i : Nat) : inM M1 i = inM M i := by
  unfold inM
  rw [h.1]
theorem rxl_73 : ∀ q ∈ rxl, ¬ (q.1 = 73 ∧ q.2.1 = 5) := by decide +kernel
theorem Frm.shp {M M1 : qMe} {D : Nat → Nat → Prop} (h : Frm M M1 D) (hs : shp M) (hD : ∀ i k, i < 8 → ¬ D i k) : shp M1 := shp_of hs (Nat.le_of_eq h.1.symm) (fun i _ => h.2.1 i) (fun q hq => h.2.2.1 _ _ (rxl_73 q hq)) (fun i hi k => by rw [mI_Z, mI_Z, h.z (hD i k hi)])
theorem pOf_k {M M1 : qMe} {arr : Nat} {off t : Int} (h : ∀ k, mZ M1 arr k = mZ M arr k) : pOf M1 arr off t = pOf M arr off t := by
  have e1 : nOf M1 arr off t = nOf M arr off t := by unfold nOf; rw [h]
  have e2 : cOf M1 arr off t = cOf M arr off t := funext (fun p => by unfold cOf; rw [e1, h])
  have e3 : vOf M1 arr off t = vOf M arr off t := funext (fun p => by unfold vOf; rw [e1, h])
  unfold pOf
  rw [e1, e2, e3]
theorem lawOk_k {M M1 : qMe} {arr : Nat} {off t : Int} (h : ∀ k, mZ M1 arr k = mZ M arr k) (hl : lawOk M arr off t) : lawOk M1 arr off t := by
  have e1 : nOf M1 arr off t = nOf M arr off t := by unfold nOf; rw [h]
  obtain ⟨a, b, c⟩ := hl
  refine ⟨by rw [h]; exact a, fun p => ?_, by rw [pOf_k h]; exact c⟩
  have := b p
  unfold vOf at this ⊢
  rw [e1, h]
  exact this
theorem tau_k {M M1 : qMe} {kk : Nat} {hi wo cell w sp : Int} (h : ∀ k, mZ M1 481 k = mZ M 481 k) : tau M1 kk hi wo cell w sp = tau M kk hi wo cell w sp := by
  have eh : hung M1 cell = hung M cell := by
    unfold hung
    rw [hAt_eq h]
    simp only [h]
  have ee : envL M1 cell w sp = envL M cell w sp := funext (fun k => by
    unfold envL
    rw [eh]
    simp only [h])
  unfold tau
  rw [h, pOf_k h, ee]
theorem LawsR_k {M M1 : qMe} {a arr : Nat} {off : Int} (h : LawsR M a arr off) (hz : ∀ k, mZ M1 arr k = mZ M arr k) (hN : mN M ≤ mN M1) (hK : ∀ i, i < mN M → mK M1 i = mK M i) (hR : ∀ i k, 513 ≤ i → i < mN M → mR M1 i k = mR M i k) (hR2 : ∀ k, mR M1 (a + 17) k = mR M (a + 17) k) (hZ : ∀ i k, 513 ≤ i → i < mN M → mZ M1 i k = mZ M i k) : LawsR M1 a arr off := by
  intro t g1 g2
  rw [hz] at g2
  obtain ⟨k1, L, Lk, Ls, Lt, Lm, Lc, m1, m2, m3⟩ := h t g1 g2
  refine ⟨lawOk_k hz k1, L, Lk, Ls, Lt, Lm, Lc, by rw [hR2]; exact m1, m2, ?_⟩
  rw [pOf_k hz]
  exact TextR_k m3 m2 hN hK hR hZ
theorem tolds_none {k : Nat} {hi : Int} {e : Nat → Int} : ∀ (is : List Itm) (w : Int), (∀ it, it ∈ is → ¬ it.1 = k) → tolds k hi e is w = w
  | [], w, _ => rfl
  | i :: is, w, h => by
    unfold tolds
    rw [if_neg (fun q => h i List.mem_cons_self q.1)]
    exact tolds_none is w (fun it hit => h it (List.mem_cons_of_mem _ hit))
theorem x_tells {d : Nat} {M : qMe} {L Lk Ls Lt Lm Lc : Nat} {cs : List Int} {is : List Itm} {kk : Nat} (h : shp M) (hT : TextR M L Lk Ls Lt Lm Lc cs is) (hi : is.length ≤ 12) (hk : kk ≤ 3) (hks : ∀ it, it ∈ is → it.1 ≤ 3) : wI (cal (d + 1) 313 [.ref L, .int (iz (kk : Int))] M) (fun z M1 => M1 = M ∧ ((z = 1 ∧ True) ∨ (z = 0 ∧ ∀ it, it ∈ is → ¬ it.1 = kk))) := by
  refine wI_q (fun P hP => ?_)
  rw [cal_313, gd_t (Nat.le_of_ble_eq_true rfl)]
  change wp (n_313_0 (cal _) [some (.ref L), some (.int (iz (kk : Int))), none] [] _) _
  have hN := h.1
  obtain ⟨⟨a1, a2, a3, -⟩, ⟨b1, b2, b3⟩, -, -, -, -, g1, -, g3, -⟩ := hT
  simp (disch := first | assumption | decide | omega) only [n_313_0, n_313_28, n_313_2, z_iconst, z_bipush, z_sipush, z_ldc, z_ldcs, z_ldcw, z_ldc2, z_lconst0, z_lconst1, z_null, z_getstatic, z_iload_0, z_iload_1, z_iload_2, z_iload_3, z_iload, z_istore_0, z_istore_1, z_istore_2, z_istore_3, z_istore, z_lload_0, z_lload_1, z_lload_2, z_lload_3, z_lload, z_lstore_0, z_lstore_1, z_lstore_2, z_lstore_3, z_lstore, z_aload_0, z_aload_1, z_aload_2, z_aload_3, z_aload, z_astore_0, z_astore_1, z_astore_2, z_astore_3, z_astore, ald_0, ald_s, z_iinc, qst1_1i, qst2_1i, qst1_1r, qst2_1r, qst1_1u, qst2_1u, qst1_1n, qst2_1n, qst1_1l, qst2_1l, qst1_0, qst2_0, qst1_s, qst2_s, z_iadd, z_isub, z_imul, z_iand, z_ior, z_ixor, z_ishl, z_ishr, z_idiv, z_irem, z_ladd, z_lsub, z_lmul, z_land, z_lor, z_ldiv, z_lrem, z_ineg, z_lshl, z_lshr, z_i2l, z_l2i, z_i2b, z_i2c, z_lcmp, z_dupi, z_dupr, z_popi, z_popr, z_dup2, z_goto, z_get0, z_get1, z_get2, z_get3, z_put0, z_put1, z_put2, z_put2n, z_put3, z_iaload, z_baload, z_laload, z_aaload, z_iastore, z_bastore, z_lastore, z_aastore, z_aastoren, z_arraylength, z_new, z_newarray, z_anewarray, z_multi, z_objinit, z_is0, z_iv0, z_ip0, z_is1, z_iv1, z_ip1, z_is2, z_iv2, z_ip2, z_is3, z_iv3, z_ip3, z_is4, z_iv4, z_ip4, z_is5, z_iv5, z_ip5, z_is6, z_iv6, z_ip6, z_is7, z_iv7, z_ip7, z_m991, z_m992, z_m993, z_m994, z_m995, z_m996, z_m998, acal_0, acal_1, acal_2, acal_3, acal_4, aK_v, aK_n, sF_c, sF_n, b_nr, b_nn, r_I, r_Z, r_L, r_A, r_V, sw_F, sw_n, gd_tt, is01_bzT, is01_0, is01_1, qrv_s, qrv_n, bi_eq_t, bi_eq_f, bi_ne_t, bi_ne_f, bi_lt_t, bi_lt_f, bi_ge_t, bi_ge_f, bi_gt_t, bi_gt_f, bi_le_t, bi_le_f, bc_eq_t, bc_eq_f, bc_ne_t, bc_ne_f, bc_lt_t, bc_lt_f, bc_ge_t, bc_ge_f, bc_gt_t, bc_gt_f, bc_le_t, bc_le_f, bb_eq_t, bb_eq_f, bb_ne_t, bb_ne_f, sc_t, sc_f, b_nr, b_nn, mI_J, mI_R, mJ_I, mJ_R, mR_I, mR_J, mK_I, mK_J, mK_R, mN_I, mN_J, mN_R, inM_I, inM_J, inM_R, mZ_nc, mZ_nk, mZ_sm, mZ_J, mZ_R, mJ_nc, mJ_ni, mJ_sm, mI_Z, iz_add, iz_sub, iz_mul, iz_neg, iz_lt, iz_le, iz_eq, iz_clamp, iz_inB, iz_div, iz_rem, shK h, shR h, inM_lit, and_self, true_and, and_true, true_or, or_true, not_true_eq_false, not_false_eq_true, Nat.reduceEqDiff, reduceCtorEq, Int.reduceNeg, Int.reduceSub, Int.reduceAdd, Int.reduceMul, Int.reduceToNat, Int.reduceEq, Int.neg_neg, Int.cast_ofNat_Int, Nat.reduceAdd, Nat.reduceMul, Nat.reduceSub, gd_t, emod_r, iz_0, Int.zero_add, Int.add_zero, wp_some]
  refine wp_lpq (fun k L' M' => M' = M ∧ ∃ i : Nat, L' = [some (.ref L), some (.int (iz (kk : Int))), some (.int (iz (i : Int)))] ∧ i + k = is.length ∧ ∀ j it, j < i → is[j]? = some it → ¬ it.1 = kk) (k := is.length) ⟨rfl, 0, rfl, by omega, fun j it hj => by omega⟩ (by omega) ?_
  rintro k L' M' g ⟨rfl, i, rfl, hik, hno⟩ hg2
  by_cases e : i = is.length
  · simp (disch := first | assumption | decide | omega) only [n_313_0, n_313_28, f_313_2, z_iconst, z_bipush, z_sipush, z_ldc, z_ldcs, z_ldcw, z_ldc2, z_lconst0, z_lconst1, z_null, z_getstatic, z_iload_0, z_iload_1, z_iload_2, z_iload_3, z_iload, z_istore_0, z_istore_1, z_istore_2, z_istore_3, z_istore, z_lload_0, z_lload_1, z_lload_2, z_lload_3, z_lload, z_lstore_0, z_lstore_1, z_lstore_2, z_lstore_3, z_lstore, z_aload_0, z_aload_1, z_aload_2, z_aload_3, z_aload, z_astore_0, z_astore_1, z_astore_2, z_astore_3, z_astore, ald_0, ald_s, z_iinc, qst1_1i, qst2_1i, qst1_1r, qst2_1r, qst1_1u, qst2_1u, qst1_1n, qst2_1n, qst1_1l, qst2_1l, qst1_0, qst2_0, qst1_s, qst2_s, z_iadd, z_isub, z_imul, z_iand, z_ior, z_ixor, z_ishl, z_ishr, z_idiv, z_irem, z_ladd, z_lsub, z_lmul, z_land, z_lor, z_ldiv, z_lrem, z_ineg, z_lshl, z_lshr, z_i2l, z_l2i, z_i2b, z_i2c, z_lcmp, z_dupi, z_dupr, z_popi, z_popr, z_dup2, z_goto, z_get0, z_get1, z_get2, z_get3, z_put0, z_put1, z_put2, z_put2n, z_put3, z_iaload, z_baload, z_laload, z_aaload, z_iastore, z_bastore, z_lastore, z_aastore, z_aastoren, z_arraylength, z_new, z_newarray, z_anewarray, z_multi, z_objinit, z_is0, z_iv0, z_ip0, z_is1, z_iv1, z_ip1, z_is2, z_iv2, z_ip2, z_is3, z_iv3, z_ip3, z_is4, z_iv4, z_ip4, z_is5, z_iv5, z_ip5, z_is6, z_iv6, z_ip6, z_is7, z_iv7, z_ip7, z_m991, z_m992, z_m993, z_m994, z_m995, z_m996, z_m998, acal_0, acal_1, acal_2, acal_3, acal_4, aK_v, aK_n, sF_c, sF_n, b_nr, b_nn, r_I, r_Z, r_L, r_A, r_V, sw_F, sw_n, gd_tt, is01_bzT, is01_0, is01_1, qrv_s, qrv_n, bi_eq_t, bi_eq_f, bi_ne_t, bi_ne_f, bi_lt_t, bi_lt_f, bi_ge_t, bi_ge_f, bi_gt_t, bi_gt_f, bi_le_t, bi_le_f, bc_eq_t, bc_eq_f, bc_ne_t, bc_ne_f, bc_lt_t, bc_lt_f, bc_ge_t, bc_ge_f, bc_gt_t, bc_gt_f, bc_le_t, bc_le_f, bb_eq_t, bb_eq_f, bb_ne_t, bb_ne_f, sc_t, sc_f, b_nr, b_nn, mI_J, mI_R, mJ_I, mJ_R, mR_I, mR_J, mK_I, mK_J, mK_R, mN_I, mN_J, mN_R, inM_I, inM_J, inM_R, mZ_nc, mZ_nk, mZ_sm, mZ_J, mZ_R, mJ_nc, mJ_ni, mJ_sm, mI_Z, iz_add, iz_sub, iz_mul, iz_neg, iz_lt, iz_le, iz_eq, iz_clamp, iz_inB, iz_div, iz_rem, shK h, shR h, inM_lit, and_self, true_and, and_true, true_or, or_true, not_true_eq_false, not_false_eq_true, Nat.reduceEqDiff, reduceCtorEq, Int.reduceNeg, Int.reduceSub, Int.reduceAdd, Int.reduceMul, Int.reduceToNat, Int.reduceEq, Int.neg_neg, Int.cast_ofNat_Int, Nat.reduceAdd, Nat.reduceMul, Nat.reduceSub, gd_t, emod_r, iz_0, Int.zero_add, Int.add_zero, wp_some, a1, a2, g1]
    refine hP 0 M' ⟨rfl, Or.inr ⟨rfl, fun it hit => ?_⟩⟩
    obtain ⟨j, hj⟩ := List.getElem?_of_mem hit
    have hl : j < is.length := by
      rcases Nat.lt_or_ge j is.length with q | q
      · exact q
      · rw [List.getElem?_eq_none q] at hj; cases hj
    exact hno j it (by omega) hj
  · have hl : i < is.length := by omega
    have he : is[i]? = some is[i] := List.getElem?_eq_getElem hl
    have q1 := (g3 i _ he).1
    have kb := hks _ (List.mem_of_getElem? he)
    have bi : i < (mK M' Lk).2 := by omega
    by_cases ek : (is[i]).1 = kk
    · simp (disch := first | assumption | decide | omega) only [n_313_0, n_313_28, f_313_2, z_iconst, z_bipush, z_sipush, z_ldc, z_ldcs, z_ldcw, z_ldc2, z_lconst0, z_lconst1, z_null, z_getstatic, z_iload_0, z_iload_1, z_iload_2, z_iload_3, z_iload, z_istore_0, z_istore_1, z_istore_2, z_istore_3, z_istore, z_lload_0, z_lload_1, z_lload_2, z_lload_3, z_lload, z_lstore_0, z_lstore_1, z_lstore_2, z_lstore_3, z_lstore, z_aload_0, z_aload_1, z_aload_2, z_aload_3, z_aload, z_astore_0, z_astore_1, z_astore_2, z_astore_3, z_astore, ald_0, ald_s, z_iinc, qst1_1i, qst2_1i, qst1_1r, qst2_1r, qst1_1u, qst2_1u, qst1_1n, qst2_1n, qst1_1l, qst2_1l, qst1_0, qst2_0, qst1_s, qst2_s, z_iadd, z_isub, z_imul, z_iand, z_ior, z_ixor, z_ishl, z_ishr, z_idiv, z_irem, z_ladd, z_lsub, z_lmul, z_land, z_lor, z_ldiv, z_lrem, z_ineg, z_lshl, z_lshr, z_i2l, z_l2i, z_i2b, z_i2c, z_lcmp, z_dupi, z_dupr, z_popi, z_popr, z_dup2, z_goto, z_get0, z_get1, z_get2, z_get3, z_put0, z_put1, z_put2, z_put2n, z_put3, z_iaload, z_baload, z_laload, z_aaload, z_iastore, z_bastore, z_lastore, z_aastore, z_aastoren, z_arraylength, z_new, z_newarray, z_anewarray, z_multi, z_objinit, z_is0, z_iv0, z_ip0, z_is1, z_iv1, z_ip1, z_is2, z_iv2, z_ip2, z_is3, z_iv3, z_ip3, z_is4, z_iv4, z_ip4, z_is5, z_iv5, z_ip5, z_is6, z_iv6, z_ip6, z_is7, z_iv7, z_ip7, z_m991, z_m992, z_m993, z_m994, z_m995, z_m996, z_m998, acal_0, acal_1, acal_2, acal_3, acal_4, aK_v, aK_n, sF_c, sF_n, b_nr, b_nn, r_I, r_Z, r_L, r_A, r_V, sw_F, sw_n, gd_tt, is01_bzT, is01_0, is01_1, qrv_s, qrv_n, bi_eq_t, bi_eq_f, bi_ne_t, bi_ne_f, bi_lt_t, bi_lt_f, bi_ge_t, bi_ge_f, bi_gt_t, bi_gt_f, bi_le_t, bi_le_f, bc_eq_t, bc_eq_f, bc_ne_t, bc_ne_f, bc_lt_t, bc_lt_f, bc_ge_t, bc_ge_f, bc_gt_t, bc_gt_f, bc_le_t, bc_le_f, bb_eq_t, bb_eq_f, bb_ne_t, bb_ne_f, sc_t, sc_f, b_nr, b_nn, mI_J, mI_R, mJ_I, mJ_R, mR_I, mR_J, mK_I, mK_J, mK_R, mN_I, mN_J, mN_R, inM_I, inM_J, inM_R, mZ_nc, mZ_nk, mZ_sm, mZ_J, mZ_R, mJ_nc, mJ_ni, mJ_sm, mI_Z, iz_add, iz_sub, iz_mul, iz_neg, iz_lt, iz_le, iz_eq, iz_clamp, iz_inB, iz_div, iz_rem, shK h, shR h, inM_lit, and_self, true_and, and_true, true_or, or_true, not_true_eq_false, not_false_eq_true, Nat.reduceEqDiff, reduceCtorEq, Int.reduceNeg, Int.reduceSub, Int.reduceAdd, Int.reduceMul, Int.reduceToNat, Int.reduceEq, Int.neg_neg, Int.cast_ofNat_Int, Nat.reduceAdd, Nat.reduceMul, Nat.reduceSub, gd_t, emod_r, iz_0, Int.zero_add, Int.add_zero, wp_some, a1, a2, g1, a3, b1, b2, q1, Int.toNat_natCast]
      exact hP 1 M' ⟨rfl, Or.inl ⟨rfl, trivial⟩⟩
    · have z := hg2 (k - 1) [some (.ref L), some (.int (iz (kk : Int))), some (.int (iz ((i + 1 : Nat) : Int)))] M' (by omega) ⟨rfl, i + 1, rfl, by omega, fun j it hj hjt => by
        by_cases ej : j = i
        · subst ej
          rw [he] at hjt
          cases hjt
          exact ek
        · exact hno j it (by omega) hjt⟩
      rw [show ((i + 1 : Nat) : Int) = (i : Int) + 1 by omega] at z
      simp (disch := first | assumption | decide | omega) only [n_313_0, n_313_28, f_313_2, z_iconst, z_bipush, z_sipush, z_ldc, z_ldcs, z_ldcw, z_ldc2, z_lconst0, z_lconst1, z_null, z_getstatic, z_iload_0, z_iload_1, z_iload_2, z_iload_3, z_iload, z_istore_0, z_istore_1, z_istore_2, z_istore_3, z_istore, z_lload_0, z_lload_1, z_lload_2, z_lload_3, z_lload, z_lstore_0, z_lstore_1, z_lstore_2, z_lstore_3, z_lstore, z_aload_0, z_aload_1, z_aload_2, z_aload_3, z_aload, z_astore_0, z_astore_1, z_astore_2, z_astore_3, z_astore, ald_0, ald_s, z_iinc, qst1_1i, qst2_1i, qst1_1r, qst2_1r, qst1_1u, qst2_1u, qst1_1n, qst2_1n, qst1_1l, qst2_1l, qst1_0, qst2_0, qst1_s, qst2_s, z_iadd, z_isub, z_imul, z_iand, z_ior, z_ixor, z_ishl, z_ishr, z_idiv, z_irem, z_ladd, z_lsub, z_lmul, z_land, z_lor, z_ldiv, z_lrem, z_ineg, z_lshl, z_lshr, z_i2l, z_l2i, z_i2b, z_i2c, z_lcmp, z_dupi, z_dupr, z_popi, z_popr, z_dup2, z_goto, z_get0, z_get1, z_get2, z_get3, z_put0, z_put1, z_put2, z_put2n, z_put3, z_iaload, z_baload, z_laload, z_aaload, z_iastore, z_bastore, z_lastore, z_aastore, z_aastoren, z_arraylength, z_new, z_newarray, z_anewarray, z_multi, z_objinit, z_is0, z_iv0, z_ip0, z_is1, z_iv1, z_ip1, z_is2, z_iv2, z_ip2, z_is3, z_iv3, z_ip3, z_is4, z_iv4, z_ip4, z_is5, z_iv5, z_ip5, z_is6, z_iv6, z_ip6, z_is7, z_iv7, z_ip7, z_m991, z_m992, z_m993, z_m994, z_m995, z_m996, z_m998, acal_0, acal_1, acal_2, acal_3, acal_4, aK_v, aK_n, sF_c, sF_n, b_nr, b_nn, r_I, r_Z, r_L, r_A, r_V, sw_F, sw_n, gd_tt, is01_bzT, is01_0, is01_1, qrv_s, qrv_n, bi_eq_t, bi_eq_f, bi_ne_t, bi_ne_f, bi_lt_t, bi_lt_f, bi_ge_t, bi_ge_f, bi_gt_t, bi_gt_f, bi_le_t, bi_le_f, bc_eq_t, bc_eq_f, bc_ne_t, bc_ne_f, bc_lt_t, bc_lt_f, bc_ge_t, bc_ge_f, bc_gt_t, bc_gt_f, bc_le_t, bc_le_f, bb_eq_t, bb_eq_f, bb_ne_t, bb_ne_f, sc_t, sc_f, b_nr, b_nn, mI_J, mI_R, mJ_I, mJ_R, mR_I, mR_J, mK_I, mK_J, mK_R, mN_I, mN_J, mN_R, inM_I, inM_J, inM_R, mZ_nc, mZ_nk, mZ_sm, mZ_J, mZ_R, mJ_nc, mJ_ni, mJ_sm, mI_Z, iz_add, iz_sub, iz_mul, iz_neg, iz_lt, iz_le, iz_eq, iz_clamp, iz_inB, iz_div, iz_rem, shK h, shR h, inM_lit, and_self, true_and, and_true, true_or, or_true, not_true_eq_false, not_false_eq_true, Nat.reduceEqDiff, reduceCtorEq, Int.reduceNeg, Int.reduceSub, Int.reduceAdd, Int.reduceMul, Int.reduceToNat, Int.reduceEq, Int.neg_neg, Int.cast_ofNat_Int, Nat.reduceAdd, Nat.reduceMul, Nat.reduceSub, gd_t, emod_r, iz_0, Int.zero_add, Int.add_zero, wp_some, a1, a2, g1, a3, b1, b2, q1, Int.toNat_natCast]
      exact z

/-! x's ORDERS: the beginning -/
def DBg (i k : Nat) : Prop := DPx i k ∨ (i = 8 ∧ (k = 4 ∨ k = 6 ∨ k = 7)) ∨ (193 ≤ i ∧ i ≤ 213)
theorem DBg_i {i k : Nat} (h : DBg i k) : (i = 8 ∧ (k = 4 ∨ k = 6 ∨ k = 7)) ∨ (183 ≤ i ∧ i ≤ 213) := by
  unfold DBg DPx DCu DPa DRy at h
  omega
theorem Ra_low {M M2 : qMe} (hw : WFk M 481 0) (h : Ra M 9 481 0) (hk : ∀ k : Nat, k < 271 → mZ M2 481 k = mZ M 481 k) (hx : ∀ i k, 9 ≤ i → i < 29 → mZ M2 i k = mZ M i k) : Ra M2 9 481 0 := by
  have xs := (Ra_iff.mp h).2.2.2.2.2.2.2.2.2.2.2.2.2.2.2.2
  have c : mZ M 9 12 = mZ M 481 269 := xs.2.2.2.2.2.1
  exact Ra_law hw h (fun k _ q => hk k q) (fun i k a b _ => hx i k a b) (by rw [hx _ _ (by decide) (by decide), hk _ (by decide)]; exact c)
theorem gO_low {M B : qMe} {n : Nat} {b : Nat → Int} (k : Nat) (h : ¬ DLn 6 (nTK b n) 481 k) : mZ (gO B (o0R M b n)) 481 k = mZ M 481 k := by
  show (rowL M b n k).toInt = _
  rw [rowL_n h]
  rfl
theorem XI_0 {M B : qMe} {n t0 : Nat} {E : Int} {cs : List Int} {is : List Itm} (hn : n ≤ 400) (hW : Wo M) (hU : Un M) (hK : JK M) (he : 0 ≤ mZ M 73 6 ∧ mZ M 73 6 ≤ E) (hI : Rid M) (hA : okM Ax B) (F : Frx M B DBg (fun i => i = 211)) (hC : CkX B 0 0 (-1)) (hD : XDr B cs is) (ht : mZ M 113 8 = (t0 : Int)) (t6 : t0 < 16) : XI B B t0 E (o0R M (mZ M 71) n) cs is := by
  have nl := nTK_n (b := mZ M 71) (n := n)
  have hB : shp B := F.shp hW.1 (fun i q => by unfold isL; omega) (fun i k hi z => by have := DBg_i z; omega)
  have bz : ∀ i k, (¬ (183 ≤ i ∧ i ≤ 213)) → ¬ i = 8 → mZ B i k = mZ M i k := fun i k a b => F.z (fun z => by have := DBg_i z; omega)
  have gz : ∀ i k, ¬ i = 481 → ¬ i = 501 → ¬ (i = 479 ∧ k = 47) → mZ (gO B (o0R M (mZ M 71) n)) i k = mZ B i k := fun i k q1 q2 q3 => gm_Z q1 q2 q3
  have low : ∀ k : Nat, k < 271 → mZ (gO B (o0R M (mZ M 71) n)) 481 k = mZ M 481 k := fun k q => gO_low k (by unfold DLn; omega)
  have hG : shp (gO B (o0R M (mZ M 71) n)) := gm_F.frm.shp hB (fun i k hi => by omega)
  have fK : ∀ i, mK (gO B (o0R M (mZ M 71) n)) i = mK M i := fun i => F.2.1 i
  refine ⟨⟨hG, WFk_low hW.2.1 low, Ra_low hW.2.1 hW.2.2.1 low (fun i k a b => (gz _ _ (by omega) (by omega) (by omega)).trans (bz _ _ (by omega) (by omega))), LawsR_6 hW.2.1 hW.2.2.2 (fun k q => gO_low k (fun z => q (by unfold DLn at z; unfold DLy; omega))) (fun k => F.2.2.1 26 k (by decide) (by omega)) (Nat.le_of_eq F.1.symm) (fun i _ => fK i) (fun i k a _ => F.2.2.1 i k (by omega) (by omega)) (fun i k a _ => (gz _ _ (by omega) (by omega) (by omega)).trans (bz _ _ (by omega) (by omega)))⟩, ?_, JK_z hK (fun i k q => bz _ _ (by omega) (by omega)), ?_, Rid_z hI (fun i k q => bz _ _ (by omega) (by omega)), hA, hC, hD, fun k => rfl, Frm.of Dif.rfl', ⟨fun j q => ?_, 0, ?_, ?_, fun i k _ _ _ => rfl⟩⟩
  · refine Un_k hU (fun i k q => ?_) rfl
    by_cases e : i = 501
    · subst e; rfl
    · exact (gz _ _ (by omega) (by omega) (by omega)).trans (bz _ _ (by omega) (by omega))
  · rw [bz _ _ (by decide) (by decide)]; exact he
  · rw [bz _ _ (by decide) (by decide), Ra22 hW.2.2.1 j q]; exact W_gone hW.2.1 j q
  · rw [bz _ _ (by decide) (by decide), ht, Nat.add_zero, Nat.mod_eq_of_lt t6]
  · omega
/-- what is known of ORDERS well read -/
theorem rTK_itX {b : Nat → Int} {n : Nat} (hn : n ≤ 400) (h : (rTK b n false).1 = true) : ∀ it, it ∈ (rTK b n false).2.2.2.2 → itX (rTK b n false).2.2.2.1 it := by
  have nl := nTK_n (b := b) (n := n)
  cases hR : rTK b n false with
  | mk rb R =>
  obtain ⟨p1, q1, cs, is⟩ := R
  rw [hR] at h
  have h : rb = true := h
  subst h
  have hR : pTxt (cTK b n) (vTK b n) false (nTK b n) 12 0 0 0 = (true, p1, q1, cs, is) := hR
  have a := pTxt_all cTK_0 (fun p => (vTK_b p).1) 12 0 0 0 p1 q1 cs is (Nat.zero_le _) (by omega) hR
  intro it hit
  obtain ⟨b1, b2, b3, b4, b5⟩ := a.2.1 it hit
  have k2 := b2 rfl
  refine ⟨⟨b3, b4⟩, fun e he => ?_⟩
  obtain ⟨c1, c2⟩ := a.2.2 (cdOf cs) cs.length 6 e (by decide) (fun k _ => he k) (At_cd cs) (by omega) (by have := a.1; omega) it hit
  refine ⟨k2, ?_, c1, c2⟩
  rcases (show it.1 = 0 ∨ it.1 = 1 ∨ it.1 = 2 by omega) with e | e | e
  · rw [e] at b5 ⊢
    exact b5
  · rw [e] at b5 ⊢
    exact b5
  · rw [e] at b5 ⊢
    have b5 : it.2.1 = [] := b5
    rw [b5]
    rfl
theorem itM_of {cs : List Int} {it : Itm} (h : itX cs it) : itM it := by
  obtain ⟨h1, h2⟩ := h
  refine ⟨h1, fun e zs he hz => ?_⟩
  obtain ⟨k2, l, s, -⟩ := h2 e he
  have := sumsV_b (cd := cdOf cs) (len := cs.length) it.2.1 zs s hz
  exact ⟨this.1.trans l, this.2⟩
/-- what x's ORDERS leave -/
def DX1 (i k : Nat) : Prop := DLf i k ∨ (i = 8 ∧ k = 7)
def OxR (M : qMe) (n s t : Nat) (E : Int) (z : Int) (M1 : qMe) : Prop :=
  ((rTK (mZ M 71) n false).1 = false ∧ z = -6 ∧ ∃ Mp, Dif M Mp DX1 ∧ mZ Mp 8 4 = 0 ∧ mZ Mp 8 6 = ((sTK (mZ M 71) n (rTK (mZ M 71) n false).2.1 : Nat) : Int) ∧ mZ Mp 8 7 = -1 ∧ M1 = xrf Mp (-6)) ∨
  ((rTK (mZ M 71) n false).1 = true ∧ ∃ B i' o', Frx M B DBg (fun i => i = 211) ∧ Cp M B 9 194 ∧ mZ B 8 4 = 0 ∧ mZ B 8 6 = -1 ∧ mZ B 8 7 = -1 ∧ ((runO B (rTK (mZ M 71) n false).2.2.2.2 0 (o0R M (mZ M 71) n) = (true, i', o') ∧ z = o'.2.2.2.1 ∧ boO o' 900 ∧ ∃ X, XI B X t E o' (rTK (mZ M 71) n false).2.2.2.1 (rTK (mZ M 71) n false).2.2.2.2 ∧ M1 = qsI X 8 8 (iz 0)) ∨ (runO B (rTK (mZ M 71) n false).2.2.2.2 0 (o0R M (mZ M 71) n) = (false, i', o') ∧ z = -3 ∧ ∃ X X2, XF B X t E ∧ FrA X X2 9 ∧ Cp X X2 194 9 ∧ M1 = xrf (qsI (qsI (qsI X2 113 8 (iz (t : Int))) 113 7 (iz (s : Int))) 8 7 (iz (i' : Int))) (-3))))
theorem Cp_R {M M1 : qMe} {b a : Nat} (h : Cp M M1 b a) : ∀ k : Nat, k < 6 → mR M1 (a + 17) k = mR M (b + 17) k := h.2.2.2.2.2.2.2.2.2.2.2.2.2.2.2.2.2.2
theorem Cp_g {M0 M M1 M2 : qMe} {b a : Nat} (h : Cp M M1 b a) (h0 : ∀ i j, b ≤ i → i ≤ b + 19 → mZ M i j = mZ M0 i j) (r0 : ∀ k, mR M (b + 17) k = mR M0 (b + 17) k) (h1 : ∀ i j, a ≤ i → i ≤ a + 19 → mZ M2 i j = mZ M1 i j) (r1 : ∀ k, mR M2 (a + 17) k = mR M1 (a + 17) k) : Cp M0 M2 b a := by
  obtain ⟨c1, c2, c3, c4, c5, c6, c7, c8, c9, c10, c11, c12, c13, c14, c15, c16, c17, ⟨s1, s2, s3, s4, s5, s6, s7⟩, cr⟩ := h
  have f : ∀ n x y : Nat, n ≤ 19 → mZ M1 (a + n) x = mZ M (b + n) y → mZ M2 (a + n) x = mZ M0 (b + n) y := fun n x y q e => (h1 _ _ (by omega) (by omega)).trans (e.trans (h0 _ _ (by omega) (by omega)))
  exact ⟨fun k q => f _ _ _ (by decide) (c1 k q), fun k q => f _ _ _ (by decide) (c2 k q), fun k q => f _ _ _ (by decide) (c3 k q), fun k q => f _ _ _ (by decide) (c4 k q), fun k q => f _ _ _ (by decide) (c5 k q), fun k q => f _ _ _ (by decide) (c6 k q), fun k q => f _ _ _ (by decide) (c7 k q), fun k q => f _ _ _ (by decide) (c8 k q), fun k q => f _ _ _ (by decide) (c9 k q), fun k q => f _ _ _ (by decide) (c10 k q), fun k q => f _ _ _ (by decide) (c11 k q), fun k q => f _ _ _ (by decide) (c12 k q), fun k q => f _ _ _ (by decide) (c13 k q), fun k q => f _ _ _ (by decide) (c14 k q), fun k q => f _ _ _ (by decide) (c15 k q), fun k q => f _ _ _ (by decide) (c16 k q), fun k q => f _ _ _ (by decide) (c17 k q), ⟨f 1 _ _ (by decide) s1, f 1 _ _ (by decide) s2, f 0 _ _ (by decide) s3, f 0 _ _ (by decide) s4, f 0 _ _ (by decide) s5, f 0 _ _ (by decide) s6, f 0 _ _ (by decide) s7⟩, fun k q => (r1 k).trans ((cr k q).trans (r0 k))⟩
theorem okM_D {A : Nat → Prop} {M M1 : qMe} {D : Nat → Nat → Prop} (h : okM A M) (hD : Dif M M1 D) : okM A M1 := ⟨fun i k j a e => h.1 i k j a (by rw [← hD.2.2.1 i k]; exact e), fun i q => h.2.1 i (by rw [← hD.1]; exact q), h.2.2⟩
set_option maxHeartbeats 2000000 in
theorem x_orders {d n s t : Nat} {M : qMe} (hW : Wo M) (hU : Un M) (hK : JK M) (he : 0 ≤ mZ M 73 6 ∧ mZ M 73 6 < 15990000) (hI : Rid M) (hA : okM Ax M) (hT : TxR M 9) (htl : mZ M 8 4 = (n : Int)) (hn : n ≤ 400) (hb : ∀ j : Nat, j < n → 0 ≤ mZ M 71 j ∧ mZ M 71 j ≤ 255) (hs : mZ M 113 7 = (s : Int)) (ht : mZ M 113 8 = (t : Int)) (s8 : s ≤ 8) (t6 : t < 16) : wI (cal (d + 97) 17 [.ref 8] M) (fun z M1 => OxR M n s t (mZ M 73 6 + 240) z M1) := by
  refine wI_q (fun P hP => ?_)
  have h := hW.1
  have hN := h.1
  have nl := nTK_n (b := mZ M 71) (n := n)
  show wp (cal ((d + 96) + 1) 17 [.ref 8] M) P
  rw [cal_17, gd_t (Nat.le_of_ble_eq_true rfl)]
  change wp (n_17_0 (cal _) [some (.ref 8), none, none, none, none] [] _) _
  have Da : Dif M (qsI (qsI M 8 4 (iz 0)) 8 7 (iz (-1))) (fun i k => i = 8 ∧ (k = 4 ∨ k = 7)) := (Dif.rfl'.I ⟨rfl, Or.inl rfl⟩).I ⟨rfl, Or.inr rfl⟩
  have ha := Da.shp h (fun i k hi => by omega)
  have hNa := ha.1
  have oka := okM_D hA Da
  have ta : mZ (qsI (qsI M 8 4 (iz 0)) 8 7 (iz (-1))) 8 4 = 0 := by rw [mZ_nk (by decide), mZ_sm rfl (by decide) (by decide)]
  have sa : mZ (qsI (qsI M 8 4 (iz 0)) 8 7 (iz (-1))) 8 7 = -1 := mZ_sm rfl (by decide) (by decide)
  have e71 : mZ (qsI (qsI M 8 4 (iz 0)) 8 7 (iz (-1))) 71 = mZ M 71 := funext (fun k => Da.z (by omega))
  have pa := x_parse (d := d) (n := n) (law := false) ha hn (fun j q => by rw [e71]; exact hb j q)
  rw [e71] at pa
  have pa : wI (cal (d + 96) 267 [.ref 183, .ref 71, .int (iz (n : Int)), .int (iz 0)] (qsI (qsI M 8 4 (iz 0)) 8 7 (iz (-1)))) _ := pa
  simp (disch := first | assumption | decide | omega) only [n_17_0, n_17_130, f_17_75, z_iconst, z_bipush, z_sipush, z_ldc, z_ldcs, z_ldcw, z_ldc2, z_lconst0, z_lconst1, z_null, z_getstatic, z_iload_0, z_iload_1, z_iload_2, z_iload_3, z_iload, z_istore_0, z_istore_1, z_istore_2, z_istore_3, z_istore, z_lload_0, z_lload_1, z_lload_2, z_lload_3, z_lload, z_lstore_0, z_lstore_1, z_lstore_2, z_lstore_3, z_lstore, z_aload_0, z_aload_1, z_aload_2, z_aload_3, z_aload, z_astore_0, z_astore_1, z_astore_2, z_astore_3, z_astore, ald_0, ald_s, z_iinc, qst1_1i, qst2_1i, qst1_1r, qst2_1r, qst1_1u, qst2_1u, qst1_1n, qst2_1n, qst1_1l, qst2_1l, qst1_0, qst2_0, qst1_s, qst2_s, z_iadd, z_isub, z_imul, z_iand, z_ior, z_ixor, z_ishl, z_ishr, z_idiv, z_irem, z_ladd, z_lsub, z_lmul, z_land, z_lor, z_ldiv, z_lrem, z_ineg, z_lshl, z_lshr, z_i2l, z_l2i, z_i2b, z_i2c, z_lcmp, z_dupi, z_dupr, z_popi, z_popr, z_dup2, z_goto, z_get0, z_get1, z_get2, z_get3, z_put0, z_put1, z_put2, z_put2n, z_put3, z_iaload, z_baload, z_laload, z_aaload, z_iastore, z_bastore, z_lastore, z_aastore, z_aastoren, z_arraylength, z_new, z_newarray, z_anewarray, z_multi, z_objinit, z_is0, z_iv0, z_ip0, z_is1, z_iv1, z_ip1, z_is2, z_iv2, z_ip2, z_is3, z_iv3, z_ip3, z_is4, z_iv4, z_ip4, z_is5, z_iv5, z_ip5, z_is6, z_iv6, z_ip6, z_is7, z_iv7, z_ip7, z_m991, z_m992, z_m993, z_m994, z_m995, z_m996, z_m998, acal_0, acal_1, acal_2, acal_3, acal_4, aK_v, aK_n, sF_c, sF_n, b_nr, b_nn, r_I, r_Z, r_L, r_A, r_V, sw_F, sw_n, gd_tt, is01_bzT, is01_0, is01_1, qrv_s, qrv_n, bi_eq_t, bi_eq_f, bi_ne_t, bi_ne_f, bi_lt_t, bi_lt_f, bi_ge_t, bi_ge_f, bi_gt_t, bi_gt_f, bi_le_t, bi_le_f, bc_eq_t, bc_eq_f, bc_ne_t, bc_ne_f, bc_lt_t, bc_lt_f, bc_ge_t, bc_ge_f, bc_gt_t, bc_gt_f, bc_le_t, bc_le_f, bb_eq_t, bb_eq_f, bb_ne_t, bb_ne_f, sc_t, sc_f, b_nr, b_nn, mI_J, mI_R, mJ_I, mJ_R, mR_I, mR_J, mK_I, mK_J, mK_R, mN_I, mN_J, mN_R, inM_I, inM_J, inM_R, mZ_nc, mZ_nk, mZ_sm, mZ_J, mZ_R, mJ_nc, mJ_ni, mJ_sm, mI_Z, iz_add, iz_sub, iz_mul, iz_neg, iz_lt, iz_le, iz_eq, iz_clamp, iz_inB, iz_div, iz_rem, shK h, shR h, inM_lit, and_self, true_and, and_true, true_or, or_true, not_true_eq_false, not_false_eq_true, Nat.reduceEqDiff, reduceCtorEq, Int.reduceNeg, Int.reduceSub, Int.reduceAdd, Int.reduceMul, Int.reduceToNat, Int.reduceEq, Int.neg_neg, Int.cast_ofNat_Int, Nat.reduceAdd, Nat.reduceMul, Nat.reduceSub, gd_t, emod_r, iz_0, Int.zero_add, Int.add_zero, wp_some, htl]
  generalize qsI (qsI M 8 4 (iz 0)) 8 7 (iz (-1)) = Ma at *
  refine wp_cI pa (fun z M2 r => ?_)
  clear pa
  obtain ⟨D2, r⟩ := r
  have h2 := D2.shp ha (fun i k hi => by unfold DPx DCu DPa DRy; omega)
  have hN2 := h2.1
  have ok2 := okM_D oka D2
  have D12 : Dif M M2 DX1 := (Da.mono (fun i k q => by unfold DX1 DLf; omega)).tr (D2.mono (fun i k q => Or.inl (Or.inl q)))
  have t2 : mZ M2 8 4 = 0 := (D2.z (by unfold DPx DCu DPa DRy; omega)).trans ta
  have s2 : mZ M2 8 7 = -1 := (D2.z (by unfold DPx DCu DPa DRy; omega)).trans sa
  rcases r with ⟨rt, rfl, xd⟩ | ⟨rt, rfl⟩
  · -- well read
    have D3 : Dif M2 (qsI M2 8 6 (iz (-1))) (fun i k => i = 8 ∧ k = 6) := Dif.rfl'.I ⟨rfl, rfl⟩
    have h3 := D3.shp h2 (fun i k hi => by omega)
    have hN3 := h3.1
    have ok3 := okM_D ok2 D3
    have t3 : mZ (qsI M2 8 6 (iz (-1))) 8 4 = 0 := (D3.z (by omega)).trans t2
    have s3 : mZ (qsI M2 8 6 (iz (-1))) 8 7 = -1 := (D3.z (by omega)).trans s2
    have f3 : mZ (qsI M2 8 6 (iz (-1))) 8 6 = -1 := mZ_sm rfl (by decide) (by decide)
    have D13 : Dif M (qsI M2 8 6 (iz (-1))) DX1 := D12.tr (D3.mono (fun i k q => by unfold DX1 DLf; omega))
    have F13 : Frx M (qsI M2 8 6 (iz (-1))) DBg (fun i => i = 211) := Frx.of (Frm.of (D13.mono (fun i k q => by
      rcases q with (q | q) | q
      · exact Or.inl q
      · unfold DBg; omega
      · unfold DBg; omega)))
    have T3 : TxR (qsI M2 8 6 (iz (-1))) 9 := TxR_x hT F13 (by decide) (by decide)
    have z3 : ∀ i k, ¬ i = 8 → ¬ (183 ≤ i ∧ i ≤ 213) → mZ (qsI M2 8 6 (iz (-1))) i k = mZ M i k := fun i k a b => F13.z (fun z => by have := DBg_i z; omega)
    have xd3 : XDr (qsI M2 8 6 (iz (-1))) (rTK (mZ M 71) n false).2.2.2.1 (rTK (mZ M 71) n false).2.2.2.2 := XDr_z xd (fun i k a b => D3.z (by omega))
    have be := x_clerkBegin (d := d + 93) h3 T3 ((z3 _ _ (by decide) (by decide)).trans hs) ((z3 _ _ (by decide) (by decide)).trans ht) s8 t6
    have be : wV (cal (d + 96) 247 [.ref 193] (qsI M2 8 6 (iz (-1)))) _ := be
    simp (disch := first | assumption | decide | omega) only [n_17_0, n_17_130, f_17_75, z_iconst, z_bipush, z_sipush, z_ldc, z_ldcs, z_ldcw, z_ldc2, z_lconst0, z_lconst1, z_null, z_getstatic, z_iload_0, z_iload_1, z_iload_2, z_iload_3, z_iload, z_istore_0, z_istore_1, z_istore_2, z_istore_3, z_istore, z_lload_0, z_lload_1, z_lload_2, z_lload_3, z_lload, z_lstore_0, z_lstore_1, z_lstore_2, z_lstore_3, z_lstore, z_aload_0, z_aload_1, z_aload_2, z_aload_3, z_aload, z_astore_0, z_astore_1, z_astore_2, z_astore_3, z_astore, ald_0, ald_s, z_iinc, qst1_1i, qst2_1i, qst1_1r, qst2_1r, qst1_1u, qst2_1u, qst1_1n, qst2_1n, qst1_1l, qst2_1l, qst1_0, qst2_0, qst1_s, qst2_s, z_iadd, z_isub, z_imul, z_iand, z_ior, z_ixor, z_ishl, z_ishr, z_idiv, z_irem, z_ladd, z_lsub, z_lmul, z_land, z_lor, z_ldiv, z_lrem, z_ineg, z_lshl, z_lshr, z_i2l, z_l2i, z_i2b, z_i2c, z_lcmp, z_dupi, z_dupr, z_popi, z_popr, z_dup2, z_goto, z_get0, z_get1, z_get2, z_get3, z_put0, z_put1, z_put2, z_put2n, z_put3, z_iaload, z_baload, z_laload, z_aaload, z_iastore, z_bastore, z_lastore, z_aastore, z_aastoren, z_arraylength, z_new, z_newarray, z_anewarray, z_multi, z_objinit, z_is0, z_iv0, z_ip0, z_is1, z_iv1, z_ip1, z_is2, z_iv2, z_ip2, z_is3, z_iv3, z_ip3, z_is4, z_iv4, z_ip4, z_is5, z_iv5, z_ip5, z_is6, z_iv6, z_ip6, z_is7, z_iv7, z_ip7, z_m991, z_m992, z_m993, z_m994, z_m995, z_m996, z_m998, acal_0, acal_1, acal_2, acal_3, acal_4, aK_v, aK_n, sF_c, sF_n, b_nr, b_nn, r_I, r_Z, r_L, r_A, r_V, sw_F, sw_n, gd_tt, is01_bzT, is01_0, is01_1, qrv_s, qrv_n, bi_eq_t, bi_eq_f, bi_ne_t, bi_ne_f, bi_lt_t, bi_lt_f, bi_ge_t, bi_ge_f, bi_gt_t, bi_gt_f, bi_le_t, bi_le_f, bc_eq_t, bc_eq_f, bc_ne_t, bc_ne_f, bc_lt_t, bc_lt_f, bc_ge_t, bc_ge_f, bc_gt_t, bc_gt_f, bc_le_t, bc_le_f, bb_eq_t, bb_eq_f, bb_ne_t, bb_ne_f, sc_t, sc_f, b_nr, b_nn, mI_J, mI_R, mJ_I, mJ_R, mR_I, mR_J, mK_I, mK_J, mK_R, mN_I, mN_J, mN_R, inM_I, inM_J, inM_R, mZ_nc, mZ_nk, mZ_sm, mZ_J, mZ_R, mJ_nc, mJ_ni, mJ_sm, mI_Z, iz_add, iz_sub, iz_mul, iz_neg, iz_lt, iz_le, iz_eq, iz_clamp, iz_inB, iz_div, iz_rem, inM_lit, and_self, true_and, and_true, true_or, or_true, not_true_eq_false, not_false_eq_true, Nat.reduceEqDiff, reduceCtorEq, Int.reduceNeg, Int.reduceSub, Int.reduceAdd, Int.reduceMul, Int.reduceToNat, Int.reduceEq, Int.neg_neg, Int.cast_ofNat_Int, Nat.reduceAdd, Nat.reduceMul, Nat.reduceSub, gd_t, emod_r, iz_0, Int.zero_add, Int.add_zero, wp_some, shK h2, shR h2]
    generalize qsI M2 8 6 (iz (-1)) = M3 at *
    obtain ⟨B, e4, M4, F4, C4, D4, as4, at4, ck4⟩ := be
    have ok4 : okM Ax B := okM_x ok3 (okS_r (fun i q => by cases q) (by unfold Ax; omega)) e4
    have F4x : Frx M3 B DBg (fun i => i = 211) := (F4.frx.mono (fun i k q => by unfold DBg; omega) (fun i q => q)).tr (Frx.of (Frm.of (D4.mono (fun i k q => by unfold DBg; omega))))
    have F : Frx M B DBg (fun i => i = 211) := F13.tr F4x
    have hB : shp B := F.shp h (fun i q => by unfold isL; omega) (fun i k hi z => by have := DBg_i z; omega)
    have hNB := hB.1
    have CB : Cp M B 9 194 := Cp_g C4 (fun i j a b => z3 i j (by omega) (by omega)) (fun k => F13.2.2.1 26 k (by decide) (by omega)) (fun i j a b => by
      by_cases e : i = 193
      · omega
      · exact D4.z e) (fun k => D4.2.2.1 _ _)
    have z4 : ∀ i k, i < 193 → mZ B i k = mZ M3 i k := fun i k a => (D4.z (by omega)).trans (F4.2.2.2.2 _ _ (by omega))
    have xd4 : XDr B (rTK (mZ M 71) n false).2.2.2.1 (rTK (mZ M 71) n false).2.2.2.2 := XDr_z xd3 (fun i k a b => z4 _ _ (by omega))
    have x0 := XI_0 (E := mZ M 73 6) hn hW hU hK ⟨he.1, Int.le_refl _⟩ hI ok4 F ck4 xd4 ht t6
    have TB : TxR B 194 := TxR_cp hT F (Cp_R CB)
    have rk := rTK_ok hn rt
    have hall := rTK_itX hn rt
    have hP : ∀ z M1, OxR M n s t (mZ M 73 6 + 240) z M1 → P (some (.int (iz z))) M1 := hP
    unfold OxR at hP
    have l12 := rk.2.1
    have l4 := rk.1
    generalize (rTK (mZ M 71) n false).2.2.2.1 = cs at *
    generalize (rTK (mZ M 71) n false).2.2.2.2 = is at *
    have q := qLF_ge
    have fin : wp (n_17_64 (cal (d + 96)) [some (.ref 8), some (.int (iz (n : Int))), some (.ref 184), some (.int (iz 0)), none] [] B) P := x_outer (d := d + 89) (t0 := t) (B := B) (cs := cs) (is := is) (E9 := mZ M 73 6 + 240) (by omega) l12 hall (by omega) is 0 qLF none (o0R M (mZ M 71) n) B (mZ M 73 6) 0 (fun j it w => by rw [Nat.zero_add]; exact w) (by omega) (by omega) x0 ⟨by show 0 ≤ (0 : Int) ∧ (0 : Int) ≤ 0; omega, by show 0 ≤ (0 : Int) ∧ (0 : Int) ≤ 0; omega, by show -1 ≤ (-1 : Int) ∧ (-1 : Int) ≤ 1000; omega⟩ (by omega) (by omega) (fun X i' o' v er xi bo => ?_) (fun X i' o' er xf => ?_)
    · simp (disch := first | assumption | decide | omega) only [n_17_0, n_17_130, f_17_75, z_iconst, z_bipush, z_sipush, z_ldc, z_ldcs, z_ldcw, z_ldc2, z_lconst0, z_lconst1, z_null, z_getstatic, z_iload_0, z_iload_1, z_iload_2, z_iload_3, z_iload, z_istore_0, z_istore_1, z_istore_2, z_istore_3, z_istore, z_lload_0, z_lload_1, z_lload_2, z_lload_3, z_lload, z_lstore_0, z_lstore_1, z_lstore_2, z_lstore_3, z_lstore, z_aload_0, z_aload_1, z_aload_2, z_aload_3, z_aload, z_astore_0, z_astore_1, z_astore_2, z_astore_3, z_astore, ald_0, ald_s, z_iinc, qst1_1i, qst2_1i, qst1_1r, qst2_1r, qst1_1u, qst2_1u, qst1_1n, qst2_1n, qst1_1l, qst2_1l, qst1_0, qst2_0, qst1_s, qst2_s, z_iadd, z_isub, z_imul, z_iand, z_ior, z_ixor, z_ishl, z_ishr, z_idiv, z_irem, z_ladd, z_lsub, z_lmul, z_land, z_lor, z_ldiv, z_lrem, z_ineg, z_lshl, z_lshr, z_i2l, z_l2i, z_i2b, z_i2c, z_lcmp, z_dupi, z_dupr, z_popi, z_popr, z_dup2, z_goto, z_get0, z_get1, z_get2, z_get3, z_put0, z_put1, z_put2, z_put2n, z_put3, z_iaload, z_baload, z_laload, z_aaload, z_iastore, z_bastore, z_lastore, z_aastore, z_aastoren, z_arraylength, z_new, z_newarray, z_anewarray, z_multi, z_objinit, z_is0, z_iv0, z_ip0, z_is1, z_iv1, z_ip1, z_is2, z_iv2, z_ip2, z_is3, z_iv3, z_ip3, z_is4, z_iv4, z_ip4, z_is5, z_iv5, z_ip5, z_is6, z_iv6, z_ip6, z_is7, z_iv7, z_ip7, z_m991, z_m992, z_m993, z_m994, z_m995, z_m996, z_m998, acal_0, acal_1, acal_2, acal_3, acal_4, aK_v, aK_n, sF_c, sF_n, b_nr, b_nn, r_I, r_Z, r_L, r_A, r_V, sw_F, sw_n, gd_tt, is01_bzT, is01_0, is01_1, qrv_s, qrv_n, bi_eq_t, bi_eq_f, bi_ne_t, bi_ne_f, bi_lt_t, bi_lt_f, bi_ge_t, bi_ge_f, bi_gt_t, bi_gt_f, bi_le_t, bi_le_f, bc_eq_t, bc_eq_f, bc_ne_t, bc_ne_f, bc_lt_t, bc_lt_f, bc_ge_t, bc_ge_f, bc_gt_t, bc_gt_f, bc_le_t, bc_le_f, bb_eq_t, bb_eq_f, bb_ne_t, bb_ne_f, sc_t, sc_f, b_nr, b_nn, mI_J, mI_R, mJ_I, mJ_R, mR_I, mR_J, mK_I, mK_J, mK_R, mN_I, mN_J, mN_R, inM_I, inM_J, inM_R, mZ_nc, mZ_nk, mZ_sm, mZ_J, mZ_R, mJ_nc, mJ_ni, mJ_sm, mI_Z, iz_add, iz_sub, iz_mul, iz_neg, iz_lt, iz_le, iz_eq, iz_clamp, iz_inB, iz_div, iz_rem, inM_lit, and_self, true_and, and_true, true_or, or_true, not_true_eq_false, not_false_eq_true, Nat.reduceEqDiff, reduceCtorEq, Int.reduceNeg, Int.reduceSub, Int.reduceAdd, Int.reduceMul, Int.reduceToNat, Int.reduceEq, Int.neg_neg, Int.cast_ofNat_Int, Nat.reduceAdd, Nat.reduceMul, Nat.reduceSub, gd_t, emod_r, iz_0, Int.zero_add, Int.add_zero, wp_some, e4, shK hB, shR hB]
      exact fin
    · have hX := XI_shp xi
      have hNX := hX.1
      have dn : mZ X 193 10 = o'.2.2.2.1 := xi.2.2.2.2.2.2.1.1
      have an := c_answered (d := d + 95) (v := iz o'.2.2.2.1) hX
      rw [show d + 95 + 1 = d + 96 by omega] at an
      have fin := hP _ _ (Or.inr ⟨rt, B, i', o', F, CB, (z4 _ _ (by decide)).trans t3, (z4 _ _ (by decide)).trans f3, (z4 _ _ (by decide)).trans s3, Or.inl ⟨er, rfl, bo, X, xi, rfl⟩⟩)
      clear hP
      show wp (n_17_136 (cal (d + 96)) _ [] X) P
      simp (disch := first | assumption | decide | omega) only [n_17_0, n_17_130, n_17_136, f_17_75, z_iconst, z_bipush, z_sipush, z_ldc, z_ldcs, z_ldcw, z_ldc2, z_lconst0, z_lconst1, z_null, z_getstatic, z_iload_0, z_iload_1, z_iload_2, z_iload_3, z_iload, z_istore_0, z_istore_1, z_istore_2, z_istore_3, z_istore, z_lload_0, z_lload_1, z_lload_2, z_lload_3, z_lload, z_lstore_0, z_lstore_1, z_lstore_2, z_lstore_3, z_lstore, z_aload_0, z_aload_1, z_aload_2, z_aload_3, z_aload, z_astore_0, z_astore_1, z_astore_2, z_astore_3, z_astore, ald_0, ald_s, z_iinc, qst1_1i, qst2_1i, qst1_1r, qst2_1r, qst1_1u, qst2_1u, qst1_1n, qst2_1n, qst1_1l, qst2_1l, qst1_0, qst2_0, qst1_s, qst2_s, z_iadd, z_isub, z_imul, z_iand, z_ior, z_ixor, z_ishl, z_ishr, z_idiv, z_irem, z_ladd, z_lsub, z_lmul, z_land, z_lor, z_ldiv, z_lrem, z_ineg, z_lshl, z_lshr, z_i2l, z_l2i, z_i2b, z_i2c, z_lcmp, z_dupi, z_dupr, z_popi, z_popr, z_dup2, z_goto, z_get0, z_get1, z_get2, z_get3, z_put0, z_put1, z_put2, z_put2n, z_put3, z_iaload, z_baload, z_laload, z_aaload, z_iastore, z_bastore, z_lastore, z_aastore, z_aastoren, z_arraylength, z_new, z_newarray, z_anewarray, z_multi, z_objinit, z_is0, z_iv0, z_ip0, z_is1, z_iv1, z_ip1, z_is2, z_iv2, z_ip2, z_is3, z_iv3, z_ip3, z_is4, z_iv4, z_ip4, z_is5, z_iv5, z_ip5, z_is6, z_iv6, z_ip6, z_is7, z_iv7, z_ip7, z_m991, z_m992, z_m993, z_m994, z_m995, z_m996, z_m998, acal_0, acal_1, acal_2, acal_3, acal_4, aK_v, aK_n, sF_c, sF_n, b_nr, b_nn, r_I, r_Z, r_L, r_A, r_V, sw_F, sw_n, gd_tt, is01_bzT, is01_0, is01_1, qrv_s, qrv_n, bi_eq_t, bi_eq_f, bi_ne_t, bi_ne_f, bi_lt_t, bi_lt_f, bi_ge_t, bi_ge_f, bi_gt_t, bi_gt_f, bi_le_t, bi_le_f, bc_eq_t, bc_eq_f, bc_ne_t, bc_ne_f, bc_lt_t, bc_lt_f, bc_ge_t, bc_ge_f, bc_gt_t, bc_gt_f, bc_le_t, bc_le_f, bb_eq_t, bb_eq_f, bb_ne_t, bb_ne_f, sc_t, sc_f, b_nr, b_nn, mI_J, mI_R, mJ_I, mJ_R, mR_I, mR_J, mK_I, mK_J, mK_R, mN_I, mN_J, mN_R, inM_I, inM_J, inM_R, mZ_nc, mZ_nk, mZ_sm, mZ_J, mZ_R, mJ_nc, mJ_ni, mJ_sm, mI_Z, iz_add, iz_sub, iz_mul, iz_neg, iz_lt, iz_le, iz_eq, iz_clamp, iz_inB, iz_div, iz_rem, inM_lit, and_self, true_and, and_true, true_or, or_true, not_true_eq_false, not_false_eq_true, Nat.reduceEqDiff, reduceCtorEq, Int.reduceNeg, Int.reduceSub, Int.reduceAdd, Int.reduceMul, Int.reduceToNat, Int.reduceEq, Int.neg_neg, Int.cast_ofNat_Int, Nat.reduceAdd, Nat.reduceMul, Nat.reduceSub, gd_t, emod_r, iz_0, Int.zero_add, Int.add_zero, wp_some, shK hX, shR hX, dn, an]
      exact fin
    · obtain ⟨hX, hKX, heX, okX, FX, RX⟩ := id xf
      have sX : mZ X 193 7 = (s : Int) := (FX.z (by unfold Dxo DXt; omega)).trans as4
      have tX : mZ X 193 6 = (t : Int) := (FX.z (by unfold Dxo DXt; omega)).trans at4
      have TX : TxR X 194 := TxR_x TB (Frx.of (R := fun _ => False) FX) (fun z => z) (by decide)
      obtain ⟨X3, e5, X2, F5, C5, rfl⟩ := x_clerkBack (d := d + 93) hX TX sX tX
      have h5 : shp X2 := F5.frx.shp hX (fun i q => by unfold isL; omega) (fun i k hi => by omega)
      exact ⟨_, e5, shp_I (shp_I h5 (by decide)) (by decide), hP _ _ (Or.inr ⟨rt, B, i', o', F, CB, (z4 _ _ (by decide)).trans t3, (z4 _ _ (by decide)).trans f3, (z4 _ _ (by decide)).trans s3, Or.inr ⟨er, rfl, X, X2, xf, F5, C5, rfl⟩⟩)⟩
  · have fb := sTK_b (b := mZ M 71) (n := n) (rTK (mZ M 71) n false).2.1
    have fbI : 0 ≤ ((sTK (mZ M 71) n (rTK (mZ M 71) n false).2.1 : Nat) : Int) ∧ ((sTK (mZ M 71) n (rTK (mZ M 71) n false).2.1 : Nat) : Int) ≤ 400 := by omega
    have D3 : Dif M2 (qsI M2 8 6 (iz ((sTK (mZ M 71) n (rTK (mZ M 71) n false).2.1 : Nat) : Int))) (fun i k => i = 8 ∧ k = 6) := Dif.rfl'.I ⟨rfl, rfl⟩
    have h3 := D3.shp h2 (fun i k hi => by omega)
    have fin := hP (-6) _ (Or.inl ⟨rt, rfl, _, D12.tr (D3.mono (fun i k q => by unfold DX1 DLf; omega)), (D3.z (by omega)).trans t2, mZ_sm rfl (by omega) (by omega), (D3.z (by omega)).trans s2, rfl⟩)
    clear hP
    generalize ((sTK (mZ M 71) n (rTK (mZ M 71) n false).2.1 : Nat) : Int) = fz at *
    have re := c_refused (d := d + 95) (b := -6) h3 (by unfold isrf; omega)
    rw [show d + 95 + 1 = d + 96 by omega] at re
    simp (disch := first | assumption | decide | omega) only [n_17_0, n_17_130, f_17_75, z_iconst, z_bipush, z_sipush, z_ldc, z_ldcs, z_ldcw, z_ldc2, z_lconst0, z_lconst1, z_null, z_getstatic, z_iload_0, z_iload_1, z_iload_2, z_iload_3, z_iload, z_istore_0, z_istore_1, z_istore_2, z_istore_3, z_istore, z_lload_0, z_lload_1, z_lload_2, z_lload_3, z_lload, z_lstore_0, z_lstore_1, z_lstore_2, z_lstore_3, z_lstore, z_aload_0, z_aload_1, z_aload_2, z_aload_3, z_aload, z_astore_0, z_astore_1, z_astore_2, z_astore_3, z_astore, ald_0, ald_s, z_iinc, qst1_1i, qst2_1i, qst1_1r, qst2_1r, qst1_1u, qst2_1u, qst1_1n, qst2_1n, qst1_1l, qst2_1l, qst1_0, qst2_0, qst1_s, qst2_s, z_iadd, z_isub, z_imul, z_iand, z_ior, z_ixor, z_ishl, z_ishr, z_idiv, z_irem, z_ladd, z_lsub, z_lmul, z_land, z_lor, z_ldiv, z_lrem, z_ineg, z_lshl, z_lshr, z_i2l, z_l2i, z_i2b, z_i2c, z_lcmp, z_dupi, z_dupr, z_popi, z_popr, z_dup2, z_goto, z_get0, z_get1, z_get2, z_get3, z_put0, z_put1, z_put2, z_put2n, z_put3, z_iaload, z_baload, z_laload, z_aaload, z_iastore, z_bastore, z_lastore, z_aastore, z_aastoren, z_arraylength, z_new, z_newarray, z_anewarray, z_multi, z_objinit, z_is0, z_iv0, z_ip0, z_is1, z_iv1, z_ip1, z_is2, z_iv2, z_ip2, z_is3, z_iv3, z_ip3, z_is4, z_iv4, z_ip4, z_is5, z_iv5, z_ip5, z_is6, z_iv6, z_ip6, z_is7, z_iv7, z_ip7, z_m991, z_m992, z_m993, z_m994, z_m995, z_m996, z_m998, acal_0, acal_1, acal_2, acal_3, acal_4, aK_v, aK_n, sF_c, sF_n, b_nr, b_nn, r_I, r_Z, r_L, r_A, r_V, sw_F, sw_n, gd_tt, is01_bzT, is01_0, is01_1, qrv_s, qrv_n, bi_eq_t, bi_eq_f, bi_ne_t, bi_ne_f, bi_lt_t, bi_lt_f, bi_ge_t, bi_ge_f, bi_gt_t, bi_gt_f, bi_le_t, bi_le_f, bc_eq_t, bc_eq_f, bc_ne_t, bc_ne_f, bc_lt_t, bc_lt_f, bc_ge_t, bc_ge_f, bc_gt_t, bc_gt_f, bc_le_t, bc_le_f, bb_eq_t, bb_eq_f, bb_ne_t, bb_ne_f, sc_t, sc_f, b_nr, b_nn, mI_J, mI_R, mJ_I, mJ_R, mR_I, mR_J, mK_I, mK_J, mK_R, mN_I, mN_J, mN_R, inM_I, inM_J, inM_R, mZ_nc, mZ_nk, mZ_sm, mZ_J, mZ_R, mJ_nc, mJ_ni, mJ_sm, mI_Z, iz_add, iz_sub, iz_mul, iz_neg, iz_lt, iz_le, iz_eq, iz_clamp, iz_inB, iz_div, iz_rem, inM_lit, and_self, true_and, and_true, true_or, or_true, not_true_eq_false, not_false_eq_true, Nat.reduceEqDiff, reduceCtorEq, Int.reduceNeg, Int.reduceSub, Int.reduceAdd, Int.reduceMul, Int.reduceToNat, Int.reduceEq, Int.neg_neg, Int.cast_ofNat_Int, Nat.reduceAdd, Nat.reduceMul, Nat.reduceSub, gd_t, emod_r, iz_0, Int.zero_add, Int.add_zero, wp_some, shK h2, shR h2, re]
    exact fin

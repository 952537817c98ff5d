/-! what a send or an undo changes of the Alps -/
def chg (k : Nat) : Prop := (80 ≤ k ∧ k < 160) ∨ (206 ≤ k ∧ k ≤ 227 ∧ (k - 206) % 3 = 0) ∨ (162 ≤ k ∧ k ≤ 198 ∧ ((k - 162) % 5 = 0 ∨ (k - 162) % 5 = 1))
theorem WFk_u {M M2 : qMe} (h : WFk M 481 0) (hk : ∀ k : Nat, ¬ chg k → mZ M2 481 k = mZ M 481 k) (hf : ∀ c : Int, 0 ≤ c → c < 80 → 0 ≤ mZ M2 481 (80 + c).toNat ∧ mZ M2 481 (80 + c).toNat ≤ 9) (hg : ∀ w : Int, 0 ≤ w → w < 8 → 0 ≤ mZ M2 481 (204 + 3 * w + 2).toNat ∧ mZ M2 481 (204 + 3 * w + 2).toNat ≤ 1) : WFk M2 481 0 := by
  obtain ⟨hs, h1, h2, h3, h4, h5, h6, h7, h8, h9, h10⟩ := h
  have s := hs
  obtain ⟨s1, s2, s3, s4, s5, -⟩ := s
  have s1 : 0 ≤ mZ M 481 264 ∧ mZ M 481 264 ≤ 8 := s1
  have s2 : 0 ≤ mZ M 481 265 ∧ mZ M 481 265 ≤ 4 := s2
  have s3 : 0 ≤ mZ M 481 266 ∧ mZ M 481 266 ≤ 8 := s3
  have s4 : 0 ≤ mZ M 481 267 ∧ mZ M 481 267 ≤ 8 := s4
  have s5 : 0 ≤ mZ M 481 268 ∧ mZ M 481 268 ≤ 8 := s5
  have e : ∀ n : Int, ¬ chg (0 + n).toNat → mZ M2 481 (0 + n).toNat = mZ M 481 (0 + n).toNat := fun n q => hk _ q
  have z0 : ∀ n : Int, (0 : Int) + n = n := Int.zero_add
  refine ⟨?_, fun c g1 g2 => ?_, fun c g1 g2 => ?_, fun c g1 g2 => ?_, fun c g1 g2 => ?_, fun c k g1 g2 g3 => ?_, fun c g1 g2 => ?_, fun c g1 g2 => ?_, fun c g1 g2 => ?_, fun c g1 g2 => ?_, fun c g1 g2 => ?_⟩
  · rw [e 264 (by unfold chg; omega), e 265 (by unfold chg; omega), e 266 (by unfold chg; omega), e 267 (by unfold chg; omega), e 268 (by unfold chg; omega), e 269 (by unfold chg; omega), e 270 (by unfold chg; omega), e 260 (by unfold chg; omega), e 261 (by unfold chg; omega), e 262 (by unfold chg; omega), e 263 (by unfold chg; omega)]; exact hs
  · rw [e c (by unfold chg; omega)]; exact h1 c g1 g2
  · rw [z0]; exact hf c g1 g2
  · rw [e 264 (by unfold chg; omega)] at g2
    have g3 : c < mZ M 481 264 := g2
    rw [e (160 + 5 * c) (by unfold chg; omega), e (160 + 5 * c + 1) (by unfold chg; omega)]; exact h3 c g1 g2
  · rw [e (160 + 5 * c + 4) (by unfold chg; omega)]; exact h4 c g1 g2
  · rw [e 264 (by unfold chg; omega)] at g3
    have g4 : k < mZ M 481 264 := g3
    rw [e (160 + 5 * c) (by unfold chg; omega), e (160 + 5 * k) (by unfold chg; omega)]; exact h5 c k g1 g2 g3
  · rw [e 265 (by unfold chg; omega)] at g2
    have g3 : c < mZ M 481 265 := g2
    rw [e (200 + c) (by unfold chg; omega)]; exact h6 c g1 g2
  · rw [e 266 (by unfold chg; omega)] at g2
    have g3 : c < mZ M 481 266 := g2
    rw [e (204 + 3 * c) (by unfold chg; omega), e (204 + 3 * c + 1) (by unfold chg; omega)]; exact h7 c g1 g2
  · rw [z0]; exact hg c g1 g2
  · rw [e 267 (by unfold chg; omega)] at g2
    have g3 : c < mZ M 481 267 := g2
    rw [e 264 (by unfold chg; omega), e (228 + 2 * c) (by unfold chg; omega), e (228 + 2 * c + 1) (by unfold chg; omega)]; exact h9 c g1 g2
  · rw [e 268 (by unfold chg; omega)] at g2
    have g3 : c < mZ M 481 268 := g2
    rw [e (244 + 2 * c) (by unfold chg; omega), e (244 + 2 * c + 1) (by unfold chg; omega)]; exact h10 c g1 g2
theorem hAt_u {M M2 : qMe} (h8 : mZ M 481 264 ≤ 8) (hk : ∀ k : Nat, ¬ chg k → mZ M2 481 k = mZ M 481 k) (c : Int) : hAt M2 481 0 c = hAt M 481 0 c := by
  unfold hAt
  rw [show mZ M2 481 ((0 : Int) + 264).toNat = mZ M 481 ((0 : Int) + 264).toNat from hk 264 (by unfold chg; omega)]
  have h9 : mZ M 481 ((0 : Int) + 264).toNat ≤ 8 := h8
  exact ffr_congr _ _ (fun j _ q => by rw [hk ((0 : Int) + (160 + 5 * (j : Int))).toNat (by unfold chg; omega)])
theorem Ra_u {M M2 : qMe} (hw : WFk M 481 0) (h : Ra M 9 481 0) (hk : ∀ k : Nat, ¬ chg k → mZ M2 481 k = mZ M 481 k) (hx : ∀ i k, 9 ≤ i → i < 29 → ¬ (i = 12 ∨ i = 16 ∨ i = 17 ∨ i = 22) → mZ M2 i k = mZ M i k) (hf : ∀ c : Int, 0 ≤ c → c < 80 → mZ M2 12 c.toNat = mZ M2 481 (80 + c).toNat) (hg : ∀ w : Int, 0 ≤ w → w < 8 → mZ M2 22 w.toNat = mZ M2 481 (204 + 3 * w + 2).toNat) (hu : ∀ w : Int, 0 ≤ w → w < 8 → mZ M2 16 w.toNat = mZ M2 481 (160 + 5 * w + 2).toNat) (he : ∀ w : Int, 0 ≤ w → w < 8 → mZ M2 17 w.toNat = mZ M2 481 (160 + 5 * w + 3).toNat) : Ra M2 9 481 0 := by
  have s1 := (WFk_s hw).1
  have hh := hAt_u s1.2 hk
  obtain ⟨r1, r2, r3, r4, r5, r6, r7, r8, r9, r10, r11, r12, r13, r14, r15, r16, r17, r18⟩ := h
  have z0 : ∀ n : Int, (0 : Int) + n = n := Int.zero_add
  have e : ∀ n : Int, ¬ chg (0 + n).toNat → mZ M2 481 (0 + n).toNat = mZ M 481 (0 + n).toNat := fun n q => hk _ q
  refine ⟨fun c g1 g2 => ?_, fun c g1 g2 => ?_, fun c g1 g2 => ?_, fun c g1 g2 => ?_, fun c g1 g2 => ?_, fun c g1 g2 => ?_, fun c g1 g2 => ?_, fun c g1 g2 => ?_, fun c g1 g2 => ?_, fun c g1 g2 => ?_, fun c g1 g2 => ?_, fun c g1 g2 => ?_, fun c g1 g2 => ?_, fun c g1 g2 => ?_, fun c g1 g2 => ?_, fun c g1 g2 => ?_, fun c g1 g2 => ?_, ?_⟩
  · rw [hx _ _ (by decide) (by decide) (by decide), e c (by unfold chg; omega)]; exact r1 c g1 g2
  · rw [z0]; exact hf c g1 g2
  · rw [hx _ _ (by decide) (by decide) (by decide), hh]; exact r3 c g1 g2
  · rw [hx _ _ (by decide) (by decide) (by decide), e (160 + 5 * c) (by unfold chg; omega)]; exact r4 c g1 g2
  · have hb := hAt_ge M 481 0 c
    have h9 : mZ M 481 ((0 : Int) + 264).toNat ≤ 8 := s1.2
    rw [hx _ _ (by decide) (by decide) (by decide), hh]
    by_cases q : hAt M 481 0 c = -1
    · rw [if_pos q]; have := r5 c g1 g2; rw [if_pos q] at this; exact this
    · rw [if_neg q, e (160 + 5 * hAt M 481 0 c + 1) (by unfold chg; omega)]; have := r5 c g1 g2; rw [if_neg q] at this; exact this
  · rw [z0]; exact hu c g1 g2
  · rw [z0]; exact he c g1 g2
  · rw [hx _ _ (by decide) (by decide) (by decide), e (160 + 5 * c + 4) (by unfold chg; omega)]; exact r8 c g1 g2
  · rw [hx _ _ (by decide) (by decide) (by decide), e (200 + c) (by unfold chg; omega)]; exact r9 c g1 g2
  · rw [hx _ _ (by decide) (by decide) (by decide), e (204 + 3 * c) (by unfold chg; omega)]; exact r10 c g1 g2
  · rw [hx _ _ (by decide) (by decide) (by decide), e (204 + 3 * c + 1) (by unfold chg; omega)]; exact r11 c g1 g2
  · rw [z0]; exact hg c g1 g2
  · rw [hx _ _ (by decide) (by decide) (by decide), e (228 + 2 * c) (by unfold chg; omega)]; exact r13 c g1 g2
  · rw [hx _ _ (by decide) (by decide) (by decide), e (228 + 2 * c + 1) (by unfold chg; omega)]; exact r14 c g1 g2
  · rw [hx _ _ (by decide) (by decide) (by decide), e (260 + c) (by unfold chg; omega)]; exact r15 c g1 g2
  · rw [hx _ _ (by decide) (by decide) (by decide), e (244 + 2 * c) (by unfold chg; omega)]; exact r16 c g1 g2
  · rw [hx _ _ (by decide) (by decide) (by decide), e (244 + 2 * c + 1) (by unfold chg; omega)]; exact r17 c g1 g2
  · obtain ⟨y1, y2, y3, y4, y5, y6, y7⟩ := r18
    exact ⟨(hx _ _ (by decide) (by decide) (by decide)).trans (y1.trans (e 264 (by unfold chg; omega)).symm), (hx _ _ (by decide) (by decide) (by decide)).trans (y2.trans (e 265 (by unfold chg; omega)).symm), (hx _ _ (by decide) (by decide) (by decide)).trans (y3.trans (e 266 (by unfold chg; omega)).symm), (hx _ _ (by decide) (by decide) (by decide)).trans (y4.trans (e 267 (by unfold chg; omega)).symm), (hx _ _ (by decide) (by decide) (by decide)).trans (y5.trans (e 268 (by unfold chg; omega)).symm), (hx _ _ (by decide) (by decide) (by decide)).trans (y6.trans (e 269 (by unfold chg; omega)).symm), (hx _ _ (by decide) (by decide) (by decide)).trans (y7.trans (e 270 (by unfold chg; omega)).symm)⟩
theorem Dif.cp {M M1 : qMe} {D : Nat → Nat → Prop} {a p b q n : Nat} (h : Dif M M1 D) (hD : ∀ j, D b j) : Dif M (qcpI M1 a p b q n) D := by
  refine ⟨h.1, h.2.1, h.2.2.1, h.2.2.2.1, fun i k hn => ?_⟩
  have e : mZ (qcpI M1 a p b q n) i k = mZ M1 i k := mZ_cpn (fun z => hn (z ▸ hD k))
  rw [mI_Z, e, ← mI_Z]
  exact h.2.2.2.2 i k hn
def DTk (i k : Nat) : Prop := i = 12 ∨ i = 16 ∨ i = 17 ∨ i = 22 ∨ (i = 113 ∧ (k = 7 ∨ k = 8))
theorem x_takeBack {d s t : Nat} {M : qMe} (h : shp M) (hs : mZ M 113 7 = s) (ht : mZ M 113 8 = t) (s1 : 1 ≤ s ∧ s ≤ 8) (t1 : t < 16) : wI (cal (d + 1) 305 [.ref 113] M) (fun z M1 => z = mZ M 182 ((t + 15) % 16) ∧ Dif M M1 DTk ∧ (∀ c : Nat, c < 80 → mZ M1 12 c = mZ M (115 + (t + 15) % 16) c) ∧ (∀ c : Nat, c < 8 → mZ M1 22 c = mZ M (132 + (t + 15) % 16) c) ∧ (∀ c : Nat, c < 8 → mZ M1 16 c = mZ M (149 + (t + 15) % 16) c) ∧ (∀ c : Nat, c < 8 → mZ M1 17 c = mZ M (166 + (t + 15) % 16) c) ∧ mZ M1 113 7 = (s : Int) - 1 ∧ mZ M1 113 8 = ((t + 15) % 16 : Nat)) := by
  refine wI_q (fun P hP => ?_)
  have hN := h.1
  generalize hu : (t + 15) % 16 = u at *
  have u1 : u < 16 := by omega
  have et : ((t : Int) + 16 - 1) % 16 = (u : Int) := by omega
  have et2 : ((t : Int) + 16 - 1).toNat % 16 = u := by omega
  have et3 : ((t : Int) + 16 - 1) / 16 * 16 = (t : Int) + 16 - 1 - u := by omega
  obtain ⟨f1, f2⟩ := shR_114 h u1
  obtain ⟨g1, g2⟩ := shR_131 h u1
  obtain ⟨v1, v2⟩ := shR_148 h u1
  obtain ⟨w1, w2⟩ := shR_165 h u1
  have im : ∀ i, 8 ≤ i → i < 513 → inM M i := fun i a b => of_eq_true (inM_lit hN a b)
  have i1 := im (115 + u) (by omega) (by omega)
  have i2 := im (132 + u) (by omega) (by omega)
  have i3 := im (149 + u) (by omega) (by omega)
  have i4 := im (166 + u) (by omega) (by omega)
  have q1 := mZ_ge M 182 u
  have q2 := mZ_lt M 182 u
  rw [cal_305, gd_t (Nat.le_of_ble_eq_true rfl)]
  change wp (n_305_0 (cal _) [some (.ref 113)] [] _) _
  simp (disch := first | assumption | decide | omega) only [n_305_0, z_iconst, z_bipush, z_sipush, z_ldc, z_ldcs, z_ldcw, z_ldc2, z_lconst0, z_lconst1, z_null, z_getstatic, z_iload_0, z_iload_1, z_iload_2, z_iload_3, z_iload, z_istore_0, z_istore_1, z_istore_2, z_istore_3, z_istore, z_lload_0, z_lload_1, z_lload_2, z_lload_3, z_lload, z_lstore_0, z_lstore_1, z_lstore_2, z_lstore_3, z_lstore, z_aload_0, z_aload_1, z_aload_2, z_aload_3, z_aload, z_astore_0, z_astore_1, z_astore_2, z_astore_3, z_astore, ald_0, ald_s, z_iinc, qst1_1i, qst2_1i, qst1_1r, qst2_1r, qst1_1u, qst2_1u, qst1_1n, qst2_1n, qst1_1l, qst2_1l, qst1_0, qst2_0, qst1_s, qst2_s, z_iadd, z_isub, z_imul, z_iand, z_ior, z_ixor, z_ishl, z_ishr, z_idiv, z_irem, z_ladd, z_lsub, z_lmul, z_land, z_lor, z_ldiv, z_lrem, z_ineg, z_lshl, z_lshr, z_i2l, z_l2i, z_i2b, z_i2c, z_lcmp, z_dupi, z_dupr, z_popi, z_popr, z_dup2, z_goto, z_get0, z_get1, z_get2, z_get3, z_put0, z_put1, z_put2, z_put2n, z_put3, z_iaload, z_baload, z_laload, z_aaload, z_iastore, z_bastore, z_lastore, z_aastore, z_aastoren, z_arraylength, z_new, z_newarray, z_anewarray, z_multi, z_objinit, z_is0, z_iv0, z_ip0, z_is1, z_iv1, z_ip1, z_is2, z_iv2, z_ip2, z_is3, z_iv3, z_ip3, z_is4, z_iv4, z_ip4, z_is5, z_iv5, z_ip5, z_is6, z_iv6, z_ip6, z_is7, z_iv7, z_ip7, z_m991, z_m992, z_m993, z_m994, z_m995, z_m996, z_m998, acal_0, acal_1, acal_2, acal_3, acal_4, aK_v, aK_n, sF_c, sF_n, b_nr, b_nn, r_I, r_Z, r_L, r_A, r_V, sw_F, sw_n, gd_tt, is01_bzT, is01_0, is01_1, qrv_s, qrv_n, bi_eq_t, bi_eq_f, bi_ne_t, bi_ne_f, bi_lt_t, bi_lt_f, bi_ge_t, bi_ge_f, bi_gt_t, bi_gt_f, bi_le_t, bi_le_f, bc_eq_t, bc_eq_f, bc_ne_t, bc_ne_f, bc_lt_t, bc_lt_f, bc_ge_t, bc_ge_f, bc_gt_t, bc_gt_f, bc_le_t, bc_le_f, bb_eq_t, bb_eq_f, bb_ne_t, bb_ne_f, sc_t, sc_f, b_nr, b_nn, mI_J, mI_R, mJ_I, mJ_R, mR_I, mR_J, mK_I, mK_J, mK_R, mN_I, mN_J, mN_R, inM_I, inM_J, inM_R, mZ_nc, mZ_nk, mZ_sm, mZ_J, mZ_R, mJ_nc, mJ_ni, mJ_sm, mI_Z, iz_add, iz_sub, iz_mul, iz_neg, iz_lt, iz_le, iz_eq, iz_clamp, iz_inB, iz_div, iz_rem, shK h, shR h, inM_lit, and_self, true_and, and_true, true_or, or_true, not_true_eq_false, not_false_eq_true, Nat.reduceEqDiff, reduceCtorEq, Int.reduceNeg, Int.reduceSub, Int.reduceAdd, Int.reduceMul, Int.reduceToNat, Int.reduceEq, Int.neg_neg, Int.cast_ofNat_Int, Nat.reduceAdd, Nat.reduceMul, Nat.reduceSub, gd_t, emod_r, iz_0, Int.zero_add, Int.add_zero, wp_some, hs, ht, et, mK_cp, mR_cp, inM_cp, mI_cpZ, mZ_cpn, Int.reduceLE, List.length_nil, Nat.zero_le, Nat.le_refl, Int.toNat_natCast, f1, f2, g1, g2, v1, v2, w1, w2, i1, i2, i3, i4]
  clear f1 f2 g1 g2 v1 v2 w1 w2 i1 i2 i3 i4 im
  refine hP _ _ ⟨rfl, (((((Dif.rfl'.I (by unfold DTk; omega)).I (by unfold DTk; omega)).cp (fun j => by unfold DTk; omega)).cp (fun j => by unfold DTk; omega)).cp (fun j => by unfold DTk; omega)).cp (fun j => by unfold DTk; omega), fun c q => ?_, fun c q => ?_, fun c q => ?_, fun c q => ?_, ?_, ?_⟩
  · simp (disch := omega) only [mZ_cpn, mZ_cps, mZ_nc]
  · simp (disch := omega) only [mZ_cpn, mZ_cps, mZ_nc]
  · simp (disch := omega) only [mZ_cpn, mZ_cps, mZ_nc]
  · simp (disch := omega) only [mZ_cpn, mZ_cps, mZ_nc]
  · simp (disch := first | decide | omega) only [mZ_cpn, mZ_sm]
  · simp (disch := first | decide | omega) only [mZ_cpn, mZ_nk, mZ_sm]
/-- what lies in a place of the ring, and in m's row from b on -/
def En (M : qMe) (u b : Nat) : Prop := (∀ c : Nat, c < 80 → mZ M (115 + u) c = mZ M 501 (b + c) ∧ 0 ≤ mZ M 501 (b + c) ∧ mZ M 501 (b + c) ≤ 9) ∧ (∀ c : Nat, c < 8 → mZ M (132 + u) c = mZ M 501 (b + 80 + c) ∧ 0 ≤ mZ M 501 (b + 80 + c) ∧ mZ M 501 (b + 80 + c) ≤ 1) ∧ (∀ c : Nat, c < 8 → mZ M (149 + u) c = mZ M 501 (b + 88 + 2 * c)) ∧ (∀ c : Nat, c < 8 → mZ M (166 + u) c = mZ M 501 (b + 88 + 2 * c + 1)) ∧ mZ M 182 u = mZ M 501 (b + 104)
def Un (M : qMe) : Prop := ∃ s t : Nat, s ≤ 8 ∧ t < 16 ∧ mZ M 113 7 = s ∧ mZ M 113 8 = t ∧ mZ M 479 47 = s ∧ ∀ j : Nat, j < s → En M ((t + 16 - s + j) % 16) (105 * j)
theorem En_k {M M1 : qMe} {u b : Nat} (h : En M u b) (hu : u < 16) (hz : ∀ i k, (114 ≤ i ∧ i ≤ 182) ∨ i = 501 → mZ M1 i k = mZ M i k) : En M1 u b := by
  obtain ⟨a1, a2, a3, a4, a5⟩ := h
  have e : ∀ k, mZ M1 501 k = mZ M 501 k := fun k => hz _ _ (Or.inr rfl)
  refine ⟨fun c q => ?_, fun c q => ?_, fun c q => ?_, fun c q => ?_, ?_⟩
  · rw [hz _ _ (Or.inl (by omega)), e]; exact a1 c q
  · rw [hz _ _ (Or.inl (by omega)), e]; exact a2 c q
  · rw [hz _ _ (Or.inl (by omega)), e]; exact a3 c q
  · rw [hz _ _ (Or.inl (by omega)), e]; exact a4 c q
  · rw [hz _ _ (Or.inl (by omega)), e]; exact a5
theorem Un_k {M M1 : qMe} (h : Un M) (hz : ∀ i k, (113 ≤ i ∧ i ≤ 182) ∨ i = 501 → mZ M1 i k = mZ M i k) (hm : mZ M1 479 47 = mZ M 479 47) : Un M1 := by
  obtain ⟨s, t, s8, t6, h1, h2, h3, h4⟩ := h
  exact ⟨s, t, s8, t6, (hz _ _ (Or.inl (by decide))).trans h1, (hz _ _ (Or.inl (by decide))).trans h2, hm.trans h3, fun j q => En_k (h4 j q) (by omega) (fun i k z => hz i k (by omega))⟩
def DMu (i k : Nat) : Prop := (i = 481 ∧ chg k) ∨ (i = 479 ∧ (k = 47 ∨ k = 0))
theorem m_undo {d s : Nat} {M : qMe} (h : shp M) (hs : mZ M 479 47 = s) (s1 : 1 ≤ s ∧ s ≤ 8) : wI (cal (d + 2) 169 [.ref 479] M) (fun z M1 => z = mZ M 501 (105 * (s - 1) + 104) ∧ Dif M M1 DMu ∧ (∀ c : Nat, c < 80 → mZ M1 481 (80 + c) = mZ M 501 (105 * (s - 1) + c)) ∧ (∀ c : Nat, c < 8 → mZ M1 481 (206 + 3 * c) = mZ M 501 (105 * (s - 1) + 80 + c)) ∧ (∀ c : Nat, c < 16 → mZ M1 481 (162 + 5 * (c / 2) + c % 2) = mZ M 501 (105 * (s - 1) + 88 + c)) ∧ mZ M1 479 47 = (s : Int) - 1 ∧ mZ M1 479 0 = 0) := by
  refine wI_q (fun P hP => ?_)
  have hN := h.1
  have h0 := h
  generalize hb : 105 * (s - 1) = b at *
  have eb : (105 : Int) * ((s : Int) - 1) = (b : Int) := by omega
  have b8 : b ≤ 735 := by omega
  rw [cal_169, gd_t (Nat.le_of_ble_eq_true rfl)]
  change wp (n_169_0 (cal _) [some (.ref 479), none, none] [] _) _
  simp (disch := first | assumption | decide | omega) only [n_169_0, n_169_102, n_169_150, f_169_65, f_169_104, n_169_34, z_iconst, z_bipush, z_sipush, z_ldc, z_ldcs, z_ldcw, z_ldc2, z_lconst0, z_lconst1, z_null, z_getstatic, z_iload_0, z_iload_1, z_iload_2, z_iload_3, z_iload, z_istore_0, z_istore_1, z_istore_2, z_istore_3, z_istore, z_lload_0, z_lload_1, z_lload_2, z_lload_3, z_lload, z_lstore_0, z_lstore_1, z_lstore_2, z_lstore_3, z_lstore, z_aload_0, z_aload_1, z_aload_2, z_aload_3, z_aload, z_astore_0, z_astore_1, z_astore_2, z_astore_3, z_astore, ald_0, ald_s, z_iinc, qst1_1i, qst2_1i, qst1_1r, qst2_1r, qst1_1u, qst2_1u, qst1_1n, qst2_1n, qst1_1l, qst2_1l, qst1_0, qst2_0, qst1_s, qst2_s, z_iadd, z_isub, z_imul, z_iand, z_ior, z_ixor, z_ishl, z_ishr, z_idiv, z_irem, z_ladd, z_lsub, z_lmul, z_land, z_lor, z_ldiv, z_lrem, z_ineg, z_lshl, z_lshr, z_i2l, z_l2i, z_i2b, z_i2c, z_lcmp, z_dupi, z_dupr, z_popi, z_popr, z_dup2, z_goto, z_get0, z_get1, z_get2, z_get3, z_put0, z_put1, z_put2, z_put2n, z_put3, z_iaload, z_baload, z_laload, z_aaload, z_iastore, z_bastore, z_lastore, z_aastore, z_aastoren, z_arraylength, z_new, z_newarray, z_anewarray, z_multi, z_objinit, z_is0, z_iv0, z_ip0, z_is1, z_iv1, z_ip1, z_is2, z_iv2, z_ip2, z_is3, z_iv3, z_ip3, z_is4, z_iv4, z_ip4, z_is5, z_iv5, z_ip5, z_is6, z_iv6, z_ip6, z_is7, z_iv7, z_ip7, z_m991, z_m992, z_m993, z_m994, z_m995, z_m996, z_m998, acal_0, acal_1, acal_2, acal_3, acal_4, aK_v, aK_n, sF_c, sF_n, b_nr, b_nn, r_I, r_Z, r_L, r_A, r_V, sw_F, sw_n, gd_tt, is01_bzT, is01_0, is01_1, qrv_s, qrv_n, bi_eq_t, bi_eq_f, bi_ne_t, bi_ne_f, bi_lt_t, bi_lt_f, bi_ge_t, bi_ge_f, bi_gt_t, bi_gt_f, bi_le_t, bi_le_f, bc_eq_t, bc_eq_f, bc_ne_t, bc_ne_f, bc_lt_t, bc_lt_f, bc_ge_t, bc_ge_f, bc_gt_t, bc_gt_f, bc_le_t, bc_le_f, bb_eq_t, bb_eq_f, bb_ne_t, bb_ne_f, sc_t, sc_f, b_nr, b_nn, mI_J, mI_R, mJ_I, mJ_R, mR_I, mR_J, mK_I, mK_J, mK_R, mN_I, mN_J, mN_R, inM_I, inM_J, inM_R, mZ_nc, mZ_nk, mZ_sm, mZ_J, mZ_R, mJ_nc, mJ_ni, mJ_sm, mI_Z, iz_add, iz_sub, iz_mul, iz_neg, iz_lt, iz_le, iz_eq, iz_clamp, iz_inB, iz_div, iz_rem, shK h, shR h, inM_lit, and_self, true_and, and_true, true_or, or_true, not_true_eq_false, not_false_eq_true, Nat.reduceEqDiff, reduceCtorEq, Int.reduceNeg, Int.reduceSub, Int.reduceAdd, Int.reduceMul, Int.reduceToNat, Int.reduceEq, Int.neg_neg, Int.cast_ofNat_Int, Nat.reduceAdd, Nat.reduceMul, Nat.reduceSub, gd_t, emod_r, iz_0, Int.zero_add, Int.add_zero, wp_some, hs, eb]
  have D0 : Dif M (qsI M 479 47 (iz ((s : Int) - 1))) DMu := Dif.rfl'.I (by unfold DMu; omega)
  have u0 : mZ (qsI M 479 47 (iz ((s : Int) - 1))) 479 47 = (s : Int) - 1 := mZ_sm rfl (by omega) (by omega)
  generalize qsI M 479 47 (iz ((s : Int) - 1)) = M0 at *
  refine wp_lpq (fun kk L M' => ∃ i : Nat, L = [some (.ref 479), some (.int (iz (b : Int))), some (.int (iz (i : Int)))] ∧ i + kk = 80 ∧ Dif M M' DMu ∧ mZ M' 479 47 = (s : Int) - 1 ∧ ∀ c : Nat, c < i → mZ M' 481 (80 + c) = mZ M 501 (b + c)) (k := 80) ⟨0, rfl, rfl, D0, u0, fun c q => by omega⟩ (by decide) ?_
  clear D0 u0
  rintro kk L M1 g ⟨i, rfl, hik, hD, hu, hdo⟩ hg2
  have h := hD.shp h0 (fun i k hi => by unfold DMu; omega)
  have hN := h.1
  by_cases e : ¬ i = 80
  · have ei : ((b : Int) + i).toNat = b + i := by omega
    have ei2 : (80 + (i : Int)).toNat = 80 + i := by omega
    have r1 : mZ M1 501 (b + i) = mZ M 501 (b + i) := hD.z (by unfold DMu; omega)
    have v1 := mZ_ge M 501 (b + i)
    have v2 := mZ_lt M 501 (b + i)
    have z := hg2 (kk - 1) [some (.ref 479), some (.int (iz (b : Int))), some (.int (iz ((i + 1 : Nat) : Int)))] (qsI M1 481 (80 + i) (iz (mZ M 501 (b + i)))) (by omega) ⟨i + 1, rfl, by omega, hD.I (by unfold DMu chg; omega), by rw [mZ_nc (by decide)]; exact hu, fun c q => by
      by_cases ej : c = i
      · rw [mZ_sm (by rw [ej]) v1 v2, ej]
      · rw [mZ_nk (by omega)]; exact hdo c (by omega)⟩
    simp (disch := first | assumption | decide | omega) only [n_169_0, n_169_102, n_169_150, f_169_34, f_169_65, f_169_104, z_iconst, z_bipush, z_sipush, z_ldc, z_ldcs, z_ldcw, z_ldc2, z_lconst0, z_lconst1, z_null, z_getstatic, z_iload_0, z_iload_1, z_iload_2, z_iload_3, z_iload, z_istore_0, z_istore_1, z_istore_2, z_istore_3, z_istore, z_lload_0, z_lload_1, z_lload_2, z_lload_3, z_lload, z_lstore_0, z_lstore_1, z_lstore_2, z_lstore_3, z_lstore, z_aload_0, z_aload_1, z_aload_2, z_aload_3, z_aload, z_astore_0, z_astore_1, z_astore_2, z_astore_3, z_astore, ald_0, ald_s, z_iinc, qst1_1i, qst2_1i, qst1_1r, qst2_1r, qst1_1u, qst2_1u, qst1_1n, qst2_1n, qst1_1l, qst2_1l, qst1_0, qst2_0, qst1_s, qst2_s, z_iadd, z_isub, z_imul, z_iand, z_ior, z_ixor, z_ishl, z_ishr, z_idiv, z_irem, z_ladd, z_lsub, z_lmul, z_land, z_lor, z_ldiv, z_lrem, z_ineg, z_lshl, z_lshr, z_i2l, z_l2i, z_i2b, z_i2c, z_lcmp, z_dupi, z_dupr, z_popi, z_popr, z_dup2, z_goto, z_get0, z_get1, z_get2, z_get3, z_put0, z_put1, z_put2, z_put2n, z_put3, z_iaload, z_baload, z_laload, z_aaload, z_iastore, z_bastore, z_lastore, z_aastore, z_aastoren, z_arraylength, z_new, z_newarray, z_anewarray, z_multi, z_objinit, z_is0, z_iv0, z_ip0, z_is1, z_iv1, z_ip1, z_is2, z_iv2, z_ip2, z_is3, z_iv3, z_ip3, z_is4, z_iv4, z_ip4, z_is5, z_iv5, z_ip5, z_is6, z_iv6, z_ip6, z_is7, z_iv7, z_ip7, z_m991, z_m992, z_m993, z_m994, z_m995, z_m996, z_m998, acal_0, acal_1, acal_2, acal_3, acal_4, aK_v, aK_n, sF_c, sF_n, b_nr, b_nn, r_I, r_Z, r_L, r_A, r_V, sw_F, sw_n, gd_tt, is01_bzT, is01_0, is01_1, qrv_s, qrv_n, bi_eq_t, bi_eq_f, bi_ne_t, bi_ne_f, bi_lt_t, bi_lt_f, bi_ge_t, bi_ge_f, bi_gt_t, bi_gt_f, bi_le_t, bi_le_f, bc_eq_t, bc_eq_f, bc_ne_t, bc_ne_f, bc_lt_t, bc_lt_f, bc_ge_t, bc_ge_f, bc_gt_t, bc_gt_f, bc_le_t, bc_le_f, bb_eq_t, bb_eq_f, bb_ne_t, bb_ne_f, sc_t, sc_f, b_nr, b_nn, mI_J, mI_R, mJ_I, mJ_R, mR_I, mR_J, mK_I, mK_J, mK_R, mN_I, mN_J, mN_R, inM_I, inM_J, inM_R, mZ_nc, mZ_nk, mZ_sm, mZ_J, mZ_R, mJ_nc, mJ_ni, mJ_sm, mI_Z, iz_add, iz_sub, iz_mul, iz_neg, iz_lt, iz_le, iz_eq, iz_clamp, iz_inB, iz_div, iz_rem, shK h, shR h, inM_lit, and_self, true_and, and_true, true_or, or_true, not_true_eq_false, not_false_eq_true, Nat.reduceEqDiff, reduceCtorEq, Int.reduceNeg, Int.reduceSub, Int.reduceAdd, Int.reduceMul, Int.reduceToNat, Int.reduceEq, Int.neg_neg, Int.cast_ofNat_Int, Nat.reduceAdd, Nat.reduceMul, Nat.reduceSub, gd_t, emod_r, iz_0, Int.zero_add, Int.add_zero, wp_some, ei, ei2, r1, Int.toNat_natCast]
    exact z
  have e : i = 80 := by omega
  subst e
  clear hg2
  simp (disch := first | assumption | decide | omega) only [n_169_0, n_169_63, n_169_150, f_169_34, f_169_104, n_169_65, z_iconst, z_bipush, z_sipush, z_ldc, z_ldcs, z_ldcw, z_ldc2, z_lconst0, z_lconst1, z_null, z_getstatic, z_iload_0, z_iload_1, z_iload_2, z_iload_3, z_iload, z_istore_0, z_istore_1, z_istore_2, z_istore_3, z_istore, z_lload_0, z_lload_1, z_lload_2, z_lload_3, z_lload, z_lstore_0, z_lstore_1, z_lstore_2, z_lstore_3, z_lstore, z_aload_0, z_aload_1, z_aload_2, z_aload_3, z_aload, z_astore_0, z_astore_1, z_astore_2, z_astore_3, z_astore, ald_0, ald_s, z_iinc, qst1_1i, qst2_1i, qst1_1r, qst2_1r, qst1_1u, qst2_1u, qst1_1n, qst2_1n, qst1_1l, qst2_1l, qst1_0, qst2_0, qst1_s, qst2_s, z_iadd, z_isub, z_imul, z_iand, z_ior, z_ixor, z_ishl, z_ishr, z_idiv, z_irem, z_ladd, z_lsub, z_lmul, z_land, z_lor, z_ldiv, z_lrem, z_ineg, z_lshl, z_lshr, z_i2l, z_l2i, z_i2b, z_i2c, z_lcmp, z_dupi, z_dupr, z_popi, z_popr, z_dup2, z_goto, z_get0, z_get1, z_get2, z_get3, z_put0, z_put1, z_put2, z_put2n, z_put3, z_iaload, z_baload, z_laload, z_aaload, z_iastore, z_bastore, z_lastore, z_aastore, z_aastoren, z_arraylength, z_new, z_newarray, z_anewarray, z_multi, z_objinit, z_is0, z_iv0, z_ip0, z_is1, z_iv1, z_ip1, z_is2, z_iv2, z_ip2, z_is3, z_iv3, z_ip3, z_is4, z_iv4, z_ip4, z_is5, z_iv5, z_ip5, z_is6, z_iv6, z_ip6, z_is7, z_iv7, z_ip7, z_m991, z_m992, z_m993, z_m994, z_m995, z_m996, z_m998, acal_0, acal_1, acal_2, acal_3, acal_4, aK_v, aK_n, sF_c, sF_n, b_nr, b_nn, r_I, r_Z, r_L, r_A, r_V, sw_F, sw_n, gd_tt, is01_bzT, is01_0, is01_1, qrv_s, qrv_n, bi_eq_t, bi_eq_f, bi_ne_t, bi_ne_f, bi_lt_t, bi_lt_f, bi_ge_t, bi_ge_f, bi_gt_t, bi_gt_f, bi_le_t, bi_le_f, bc_eq_t, bc_eq_f, bc_ne_t, bc_ne_f, bc_lt_t, bc_lt_f, bc_ge_t, bc_ge_f, bc_gt_t, bc_gt_f, bc_le_t, bc_le_f, bb_eq_t, bb_eq_f, bb_ne_t, bb_ne_f, sc_t, sc_f, b_nr, b_nn, mI_J, mI_R, mJ_I, mJ_R, mR_I, mR_J, mK_I, mK_J, mK_R, mN_I, mN_J, mN_R, inM_I, inM_J, inM_R, mZ_nc, mZ_nk, mZ_sm, mZ_J, mZ_R, mJ_nc, mJ_ni, mJ_sm, mI_Z, iz_add, iz_sub, iz_mul, iz_neg, iz_lt, iz_le, iz_eq, iz_clamp, iz_inB, iz_div, iz_rem, shK h, shR h, inM_lit, and_self, true_and, and_true, true_or, or_true, not_true_eq_false, not_false_eq_true, Nat.reduceEqDiff, reduceCtorEq, Int.reduceNeg, Int.reduceSub, Int.reduceAdd, Int.reduceMul, Int.reduceToNat, Int.reduceEq, Int.neg_neg, Int.cast_ofNat_Int, Nat.reduceAdd, Nat.reduceMul, Nat.reduceSub, gd_t, emod_r, iz_0, Int.zero_add, Int.add_zero, wp_some]
  refine wp_lpq (fun kk L M' => ∃ i : Nat, L = [some (.ref 479), some (.int (iz (b : Int))), some (.int (iz (i : Int)))] ∧ i + kk = 8 ∧ Dif M M' DMu ∧ mZ M' 479 47 = (s : Int) - 1 ∧ (∀ c : Nat, c < 80 → mZ M' 481 (80 + c) = mZ M 501 (b + c)) ∧ ∀ c : Nat, c < i → mZ M' 481 (206 + 3 * c) = mZ M 501 (b + 80 + c)) (k := 8) ⟨0, rfl, rfl, hD, hu, hdo, fun c q => by omega⟩ (by decide) ?_
  clear hD hu hdo
  rintro kk L M1 g ⟨i, rfl, hik, hD, hu, hf, hdo⟩ hg2
  have h := hD.shp h0 (fun i k hi => by unfold DMu; omega)
  have hN := h.1
  by_cases e : ¬ i = 8
  · have ei : ((b : Int) + 80 + i).toNat = b + 80 + i := by omega
    have ei2 : (204 + 3 * (i : Int) + 2).toNat = 206 + 3 * i := by omega
    have r1 : mZ M1 501 (b + 80 + i) = mZ M 501 (b + 80 + i) := hD.z (by unfold DMu; omega)
    have v1 := mZ_ge M 501 (b + 80 + i)
    have v2 := mZ_lt M 501 (b + 80 + i)
    have z := hg2 (kk - 1) [some (.ref 479), some (.int (iz (b : Int))), some (.int (iz ((i + 1 : Nat) : Int)))] (qsI M1 481 (206 + 3 * i) (iz (mZ M 501 (b + 80 + i)))) (by omega) ⟨i + 1, rfl, by omega, hD.I (by unfold DMu chg; omega), by rw [mZ_nc (by decide)]; exact hu, fun c q => by rw [mZ_nk (by omega)]; exact hf c q, fun c q => by
      by_cases ej : c = i
      · rw [mZ_sm (by rw [ej]) v1 v2, ej]
      · rw [mZ_nk (by omega)]; exact hdo c (by omega)⟩
    simp (disch := first | assumption | decide | omega) only [n_169_0, n_169_63, n_169_150, f_169_34, f_169_65, f_169_104, z_iconst, z_bipush, z_sipush, z_ldc, z_ldcs, z_ldcw, z_ldc2, z_lconst0, z_lconst1, z_null, z_getstatic, z_iload_0, z_iload_1, z_iload_2, z_iload_3, z_iload, z_istore_0, z_istore_1, z_istore_2, z_istore_3, z_istore, z_lload_0, z_lload_1, z_lload_2, z_lload_3, z_lload, z_lstore_0, z_lstore_1, z_lstore_2, z_lstore_3, z_lstore, z_aload_0, z_aload_1, z_aload_2, z_aload_3, z_aload, z_astore_0, z_astore_1, z_astore_2, z_astore_3, z_astore, ald_0, ald_s, z_iinc, qst1_1i, qst2_1i, qst1_1r, qst2_1r, qst1_1u, qst2_1u, qst1_1n, qst2_1n, qst1_1l, qst2_1l, qst1_0, qst2_0, qst1_s, qst2_s, z_iadd, z_isub, z_imul, z_iand, z_ior, z_ixor, z_ishl, z_ishr, z_idiv, z_irem, z_ladd, z_lsub, z_lmul, z_land, z_lor, z_ldiv, z_lrem, z_ineg, z_lshl, z_lshr, z_i2l, z_l2i, z_i2b, z_i2c, z_lcmp, z_dupi, z_dupr, z_popi, z_popr, z_dup2, z_goto, z_get0, z_get1, z_get2, z_get3, z_put0, z_put1, z_put2, z_put2n, z_put3, z_iaload, z_baload, z_laload, z_aaload, z_iastore, z_bastore, z_lastore, z_aastore, z_aastoren, z_arraylength, z_new, z_newarray, z_anewarray, z_multi, z_objinit, z_is0, z_iv0, z_ip0, z_is1, z_iv1, z_ip1, z_is2, z_iv2, z_ip2, z_is3, z_iv3, z_ip3, z_is4, z_iv4, z_ip4, z_is5, z_iv5, z_ip5, z_is6, z_iv6, z_ip6, z_is7, z_iv7, z_ip7, z_m991, z_m992, z_m993, z_m994, z_m995, z_m996, z_m998, acal_0, acal_1, acal_2, acal_3, acal_4, aK_v, aK_n, sF_c, sF_n, b_nr, b_nn, r_I, r_Z, r_L, r_A, r_V, sw_F, sw_n, gd_tt, is01_bzT, is01_0, is01_1, qrv_s, qrv_n, bi_eq_t, bi_eq_f, bi_ne_t, bi_ne_f, bi_lt_t, bi_lt_f, bi_ge_t, bi_ge_f, bi_gt_t, bi_gt_f, bi_le_t, bi_le_f, bc_eq_t, bc_eq_f, bc_ne_t, bc_ne_f, bc_lt_t, bc_lt_f, bc_ge_t, bc_ge_f, bc_gt_t, bc_gt_f, bc_le_t, bc_le_f, bb_eq_t, bb_eq_f, bb_ne_t, bb_ne_f, sc_t, sc_f, b_nr, b_nn, mI_J, mI_R, mJ_I, mJ_R, mR_I, mR_J, mK_I, mK_J, mK_R, mN_I, mN_J, mN_R, inM_I, inM_J, inM_R, mZ_nc, mZ_nk, mZ_sm, mZ_J, mZ_R, mJ_nc, mJ_ni, mJ_sm, mI_Z, iz_add, iz_sub, iz_mul, iz_neg, iz_lt, iz_le, iz_eq, iz_clamp, iz_inB, iz_div, iz_rem, shK h, shR h, inM_lit, and_self, true_and, and_true, true_or, or_true, not_true_eq_false, not_false_eq_true, Nat.reduceEqDiff, reduceCtorEq, Int.reduceNeg, Int.reduceSub, Int.reduceAdd, Int.reduceMul, Int.reduceToNat, Int.reduceEq, Int.neg_neg, Int.cast_ofNat_Int, Nat.reduceAdd, Nat.reduceMul, Nat.reduceSub, gd_t, emod_r, iz_0, Int.zero_add, Int.add_zero, wp_some, ei, ei2, r1, Int.toNat_natCast]
    exact z
  have e : i = 8 := by omega
  subst e
  clear hg2
  simp (disch := first | assumption | decide | omega) only [n_169_0, n_169_63, n_169_102, f_169_34, f_169_65, n_169_104, z_iconst, z_bipush, z_sipush, z_ldc, z_ldcs, z_ldcw, z_ldc2, z_lconst0, z_lconst1, z_null, z_getstatic, z_iload_0, z_iload_1, z_iload_2, z_iload_3, z_iload, z_istore_0, z_istore_1, z_istore_2, z_istore_3, z_istore, z_lload_0, z_lload_1, z_lload_2, z_lload_3, z_lload, z_lstore_0, z_lstore_1, z_lstore_2, z_lstore_3, z_lstore, z_aload_0, z_aload_1, z_aload_2, z_aload_3, z_aload, z_astore_0, z_astore_1, z_astore_2, z_astore_3, z_astore, ald_0, ald_s, z_iinc, qst1_1i, qst2_1i, qst1_1r, qst2_1r, qst1_1u, qst2_1u, qst1_1n, qst2_1n, qst1_1l, qst2_1l, qst1_0, qst2_0, qst1_s, qst2_s, z_iadd, z_isub, z_imul, z_iand, z_ior, z_ixor, z_ishl, z_ishr, z_idiv, z_irem, z_ladd, z_lsub, z_lmul, z_land, z_lor, z_ldiv, z_lrem, z_ineg, z_lshl, z_lshr, z_i2l, z_l2i, z_i2b, z_i2c, z_lcmp, z_dupi, z_dupr, z_popi, z_popr, z_dup2, z_goto, z_get0, z_get1, z_get2, z_get3, z_put0, z_put1, z_put2, z_put2n, z_put3, z_iaload, z_baload, z_laload, z_aaload, z_iastore, z_bastore, z_lastore, z_aastore, z_aastoren, z_arraylength, z_new, z_newarray, z_anewarray, z_multi, z_objinit, z_is0, z_iv0, z_ip0, z_is1, z_iv1, z_ip1, z_is2, z_iv2, z_ip2, z_is3, z_iv3, z_ip3, z_is4, z_iv4, z_ip4, z_is5, z_iv5, z_ip5, z_is6, z_iv6, z_ip6, z_is7, z_iv7, z_ip7, z_m991, z_m992, z_m993, z_m994, z_m995, z_m996, z_m998, acal_0, acal_1, acal_2, acal_3, acal_4, aK_v, aK_n, sF_c, sF_n, b_nr, b_nn, r_I, r_Z, r_L, r_A, r_V, sw_F, sw_n, gd_tt, is01_bzT, is01_0, is01_1, qrv_s, qrv_n, bi_eq_t, bi_eq_f, bi_ne_t, bi_ne_f, bi_lt_t, bi_lt_f, bi_ge_t, bi_ge_f, bi_gt_t, bi_gt_f, bi_le_t, bi_le_f, bc_eq_t, bc_eq_f, bc_ne_t, bc_ne_f, bc_lt_t, bc_lt_f, bc_ge_t, bc_ge_f, bc_gt_t, bc_gt_f, bc_le_t, bc_le_f, bb_eq_t, bb_eq_f, bb_ne_t, bb_ne_f, sc_t, sc_f, b_nr, b_nn, mI_J, mI_R, mJ_I, mJ_R, mR_I, mR_J, mK_I, mK_J, mK_R, mN_I, mN_J, mN_R, inM_I, inM_J, inM_R, mZ_nc, mZ_nk, mZ_sm, mZ_J, mZ_R, mJ_nc, mJ_ni, mJ_sm, mI_Z, iz_add, iz_sub, iz_mul, iz_neg, iz_lt, iz_le, iz_eq, iz_clamp, iz_inB, iz_div, iz_rem, shK h, shR h, inM_lit, and_self, true_and, and_true, true_or, or_true, not_true_eq_false, not_false_eq_true, Nat.reduceEqDiff, reduceCtorEq, Int.reduceNeg, Int.reduceSub, Int.reduceAdd, Int.reduceMul, Int.reduceToNat, Int.reduceEq, Int.neg_neg, Int.cast_ofNat_Int, Nat.reduceAdd, Nat.reduceMul, Nat.reduceSub, gd_t, emod_r, iz_0, Int.zero_add, Int.add_zero, wp_some]
  refine wp_lpq (fun kk L M' => ∃ i : Nat, L = [some (.ref 479), some (.int (iz (b : Int))), some (.int (iz (i : Int)))] ∧ i + kk = 16 ∧ Dif M M' DMu ∧ mZ M' 479 47 = (s : Int) - 1 ∧ (∀ c : Nat, c < 80 → mZ M' 481 (80 + c) = mZ M 501 (b + c)) ∧ (∀ c : Nat, c < 8 → mZ M' 481 (206 + 3 * c) = mZ M 501 (b + 80 + c)) ∧ ∀ c : Nat, c < i → mZ M' 481 (162 + 5 * (c / 2) + c % 2) = mZ M 501 (b + 88 + c)) (k := 16) ⟨0, rfl, rfl, hD, hu, hf, hdo, fun c q => by omega⟩ (by decide) ?_
  clear hD hu hdo hf
  rintro kk L M1 g ⟨i, rfl, hik, hD, hu, hf, hg, hdo⟩ hg2
  have h := hD.shp h0 (fun i k hi => by unfold DMu; omega)
  have hN := h.1
  by_cases e : i = 16
  · subst e
    have an := fun v => m_good (d := d) (v := v) h
    have ei : ((b : Int) + 105 - 1).toNat = b + 104 := by omega
    have r1 : mZ M1 501 (b + 104) = mZ M 501 (b + 104) := hD.z (by unfold DMu; omega)
    have fin := hP (mZ M 501 (b + 104)) (qsI M1 479 0 (iz 0)) ⟨rfl, hD.I (by unfold DMu; omega), fun c q => by rw [mZ_nc (by decide)]; exact hf c q, fun c q => by rw [mZ_nc (by decide)]; exact hg c q, fun c q => by rw [mZ_nc (by decide)]; exact hdo c q, by rw [mZ_nk (by decide)]; exact hu, mZ_sm rfl (by decide) (by decide)⟩
    simp (disch := first | assumption | decide | omega) only [n_169_0, n_169_63, n_169_102, n_169_150, f_169_34, f_169_65, f_169_104, z_iconst, z_bipush, z_sipush, z_ldc, z_ldcs, z_ldcw, z_ldc2, z_lconst0, z_lconst1, z_null, z_getstatic, z_iload_0, z_iload_1, z_iload_2, z_iload_3, z_iload, z_istore_0, z_istore_1, z_istore_2, z_istore_3, z_istore, z_lload_0, z_lload_1, z_lload_2, z_lload_3, z_lload, z_lstore_0, z_lstore_1, z_lstore_2, z_lstore_3, z_lstore, z_aload_0, z_aload_1, z_aload_2, z_aload_3, z_aload, z_astore_0, z_astore_1, z_astore_2, z_astore_3, z_astore, ald_0, ald_s, z_iinc, qst1_1i, qst2_1i, qst1_1r, qst2_1r, qst1_1u, qst2_1u, qst1_1n, qst2_1n, qst1_1l, qst2_1l, qst1_0, qst2_0, qst1_s, qst2_s, z_iadd, z_isub, z_imul, z_iand, z_ior, z_ixor, z_ishl, z_ishr, z_idiv, z_irem, z_ladd, z_lsub, z_lmul, z_land, z_lor, z_ldiv, z_lrem, z_ineg, z_lshl, z_lshr, z_i2l, z_l2i, z_i2b, z_i2c, z_lcmp, z_dupi, z_dupr, z_popi, z_popr, z_dup2, z_goto, z_get0, z_get1, z_get2, z_get3, z_put0, z_put1, z_put2, z_put2n, z_put3, z_iaload, z_baload, z_laload, z_aaload, z_iastore, z_bastore, z_lastore, z_aastore, z_aastoren, z_arraylength, z_new, z_newarray, z_anewarray, z_multi, z_objinit, z_is0, z_iv0, z_ip0, z_is1, z_iv1, z_ip1, z_is2, z_iv2, z_ip2, z_is3, z_iv3, z_ip3, z_is4, z_iv4, z_ip4, z_is5, z_iv5, z_ip5, z_is6, z_iv6, z_ip6, z_is7, z_iv7, z_ip7, z_m991, z_m992, z_m993, z_m994, z_m995, z_m996, z_m998, acal_0, acal_1, acal_2, acal_3, acal_4, aK_v, aK_n, sF_c, sF_n, b_nr, b_nn, r_I, r_Z, r_L, r_A, r_V, sw_F, sw_n, gd_tt, is01_bzT, is01_0, is01_1, qrv_s, qrv_n, bi_eq_t, bi_eq_f, bi_ne_t, bi_ne_f, bi_lt_t, bi_lt_f, bi_ge_t, bi_ge_f, bi_gt_t, bi_gt_f, bi_le_t, bi_le_f, bc_eq_t, bc_eq_f, bc_ne_t, bc_ne_f, bc_lt_t, bc_lt_f, bc_ge_t, bc_ge_f, bc_gt_t, bc_gt_f, bc_le_t, bc_le_f, bb_eq_t, bb_eq_f, bb_ne_t, bb_ne_f, sc_t, sc_f, b_nr, b_nn, mI_J, mI_R, mJ_I, mJ_R, mR_I, mR_J, mK_I, mK_J, mK_R, mN_I, mN_J, mN_R, inM_I, inM_J, inM_R, mZ_nc, mZ_nk, mZ_sm, mZ_J, mZ_R, mJ_nc, mJ_ni, mJ_sm, mI_Z, iz_add, iz_sub, iz_mul, iz_neg, iz_lt, iz_le, iz_eq, iz_clamp, iz_inB, iz_div, iz_rem, shK h, shR h, inM_lit, and_self, true_and, and_true, true_or, or_true, not_true_eq_false, not_false_eq_true, Nat.reduceEqDiff, reduceCtorEq, Int.reduceNeg, Int.reduceSub, Int.reduceAdd, Int.reduceMul, Int.reduceToNat, Int.reduceEq, Int.neg_neg, Int.cast_ofNat_Int, Nat.reduceAdd, Nat.reduceMul, Nat.reduceSub, gd_t, emod_r, iz_0, Int.zero_add, Int.add_zero, wp_some, ei, r1, an]
    exact fin
  · have ei : ((b : Int) + 80 + 8 + i).toNat = b + 88 + i := by omega
    have ei2 : (160 + 5 * ((i : Int) / 2) + 2 + (i : Int) % 2).toNat = 162 + 5 * (i / 2) + i % 2 := by omega
    have r1 : mZ M1 501 (b + 88 + i) = mZ M 501 (b + 88 + i) := hD.z (by unfold DMu; omega)
    have v1 := mZ_ge M 501 (b + 88 + i)
    have v2 := mZ_lt M 501 (b + 88 + i)
    have z := hg2 (kk - 1) [some (.ref 479), some (.int (iz (b : Int))), some (.int (iz ((i + 1 : Nat) : Int)))] (qsI M1 481 (162 + 5 * (i / 2) + i % 2) (iz (mZ M 501 (b + 88 + i)))) (by omega) ⟨i + 1, rfl, by omega, hD.I (by unfold DMu chg; omega), by rw [mZ_nc (by decide)]; exact hu, fun c q => by rw [mZ_nk (by omega)]; exact hf c q, fun c q => by rw [mZ_nk (by omega)]; exact hg c q, fun c q => by
      by_cases ej : c = i
      · rw [mZ_sm (by rw [ej]) v1 v2, ej]
      · rw [mZ_nk (by omega)]; exact hdo c (by omega)⟩
    simp (disch := first | assumption | decide | omega) only [n_169_0, n_169_63, n_169_102, f_169_34, f_169_65, f_169_104, z_iconst, z_bipush, z_sipush, z_ldc, z_ldcs, z_ldcw, z_ldc2, z_lconst0, z_lconst1, z_null, z_getstatic, z_iload_0, z_iload_1, z_iload_2, z_iload_3, z_iload, z_istore_0, z_istore_1, z_istore_2, z_istore_3, z_istore, z_lload_0, z_lload_1, z_lload_2, z_lload_3, z_lload, z_lstore_0, z_lstore_1, z_lstore_2, z_lstore_3, z_lstore, z_aload_0, z_aload_1, z_aload_2, z_aload_3, z_aload, z_astore_0, z_astore_1, z_astore_2, z_astore_3, z_astore, ald_0, ald_s, z_iinc, qst1_1i, qst2_1i, qst1_1r, qst2_1r, qst1_1u, qst2_1u, qst1_1n, qst2_1n, qst1_1l, qst2_1l, qst1_0, qst2_0, qst1_s, qst2_s, z_iadd, z_isub, z_imul, z_iand, z_ior, z_ixor, z_ishl, z_ishr, z_idiv, z_irem, z_ladd, z_lsub, z_lmul, z_land, z_lor, z_ldiv, z_lrem, z_ineg, z_lshl, z_lshr, z_i2l, z_l2i, z_i2b, z_i2c, z_lcmp, z_dupi, z_dupr, z_popi, z_popr, z_dup2, z_goto, z_get0, z_get1, z_get2, z_get3, z_put0, z_put1, z_put2, z_put2n, z_put3, z_iaload, z_baload, z_laload, z_aaload, z_iastore, z_bastore, z_lastore, z_aastore, z_aastoren, z_arraylength, z_new, z_newarray, z_anewarray, z_multi, z_objinit, z_is0, z_iv0, z_ip0, z_is1, z_iv1, z_ip1, z_is2, z_iv2, z_ip2, z_is3, z_iv3, z_ip3, z_is4, z_iv4, z_ip4, z_is5, z_iv5, z_ip5, z_is6, z_iv6, z_ip6, z_is7, z_iv7, z_ip7, z_m991, z_m992, z_m993, z_m994, z_m995, z_m996, z_m998, acal_0, acal_1, acal_2, acal_3, acal_4, aK_v, aK_n, sF_c, sF_n, b_nr, b_nn, r_I, r_Z, r_L, r_A, r_V, sw_F, sw_n, gd_tt, is01_bzT, is01_0, is01_1, qrv_s, qrv_n, bi_eq_t, bi_eq_f, bi_ne_t, bi_ne_f, bi_lt_t, bi_lt_f, bi_ge_t, bi_ge_f, bi_gt_t, bi_gt_f, bi_le_t, bi_le_f, bc_eq_t, bc_eq_f, bc_ne_t, bc_ne_f, bc_lt_t, bc_lt_f, bc_ge_t, bc_ge_f, bc_gt_t, bc_gt_f, bc_le_t, bc_le_f, bb_eq_t, bb_eq_f, bb_ne_t, bb_ne_f, sc_t, sc_f, b_nr, b_nn, mI_J, mI_R, mJ_I, mJ_R, mR_I, mR_J, mK_I, mK_J, mK_R, mN_I, mN_J, mN_R, inM_I, inM_J, inM_R, mZ_nc, mZ_nk, mZ_sm, mZ_J, mZ_R, mJ_nc, mJ_ni, mJ_sm, mI_Z, iz_add, iz_sub, iz_mul, iz_neg, iz_lt, iz_le, iz_eq, iz_clamp, iz_inB, iz_div, iz_rem, shK h, shR h, inM_lit, and_self, true_and, and_true, true_or, or_true, not_true_eq_false, not_false_eq_true, Nat.reduceEqDiff, reduceCtorEq, Int.reduceNeg, Int.reduceSub, Int.reduceAdd, Int.reduceMul, Int.reduceToNat, Int.reduceEq, Int.neg_neg, Int.cast_ofNat_Int, Nat.reduceAdd, Nat.reduceMul, Nat.reduceSub, gd_t, emod_r, iz_0, Int.zero_add, Int.add_zero, wp_some, ei, ei2, r1, Int.toNat_natCast]
    exact z

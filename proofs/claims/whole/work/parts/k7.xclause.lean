theorem sAt_law {s c : Int} (h : sAt s c) : (¬ kLaw c = 9 → s = 300 + (kLaw c : Int) ∧ kLaw c ≤ 3 ∧ ¬ c = 0) ∧ (kLaw c = 9 → ¬ (300 ≤ s ∧ s ≤ 303)) := by
  have a0 : s = 300 ↔ c = 1 := sAt_word (k := 0) h (by decide)
  have a1 : s = 301 ↔ c = 2 := sAt_word (k := 1) h (by decide)
  have a2 : s = 302 ↔ c = 3 := sAt_word (k := 2) h (by decide)
  have a3 : s = 303 ↔ c = 4 := sAt_word (k := 3) h (by decide)
  unfold kLaw
  by_cases c1 : c = 1
  · rw [if_pos c1]; omega
  · rw [if_neg c1]
    by_cases c2 : c = 2
    · rw [if_pos c2]; omega
    · rw [if_neg c2]
      by_cases c3 : c = 3
      · rw [if_pos c3]; omega
      · rw [if_neg c3]
        by_cases c4 : c = 4
        · rw [if_pos c4]; omega
        · rw [if_neg c4]; omega
theorem sAt_ord {s c : Int} (h : sAt s c) : (¬ kOrd c = 9 → s = 304 + (kOrd c : Int) ∧ kOrd c ≤ 2 ∧ ¬ c = 0) ∧ (kOrd c = 9 → ¬ (304 ≤ s ∧ s ≤ 306)) := by
  have a0 : s = 304 ↔ c = 23 := sAt_word (k := 22) h (by decide)
  have a1 : s = 305 ↔ c = 27 := sAt_word (k := 26) h (by decide)
  have a2 : s = 306 ↔ c = 29 := sAt_word (k := 28) h (by decide)
  unfold kOrd
  by_cases c1 : c = 23
  · rw [if_pos c1]; omega
  · rw [if_neg c1]
    by_cases c2 : c = 27
    · rw [if_pos c2]; omega
    · rw [if_neg c2]
      by_cases c3 : c = 29
      · rw [if_pos c3]; omega
      · rw [if_neg c3]; omega
/-- an item m laid down -/
def ItR (M1 : qMe) (m : Nat) (it : Itm) : Prop := mZ M1 185 m = it.1 ∧ mZ M1 187 m = tAt it.2.2.1 ∧ mZ M1 188 m = it.2.2.2 ∧ ∀ (j : Nat) (s : Nat × Den), it.2.1[j]? = some s → mZ M1 186 (4 * m + j) = s.1
def XRI (M M1 : qMe) (z : Int) (m a : Nat) (r : pR Itm) : Prop := Dif M M1 (DIt m) ∧ ((z = 1 ∧ r.1 = true ∧ XS M1 r.2.1 r.2.2.1 0 (a + r.2.2.2.1.length) ∧ CdR M M1 a r.2.2.2.1 ∧ mZ M1 184 5 = (m : Int) + 1 ∧ ItR M1 m r.2.2.2.2) ∨ (z = 0 ∧ r.1 = false ∧ mZ M1 183 5 = r.2.1))
/-- behind the SUMS of an item -/
def XH (M M1 : qMe) (m a kd : Nat) (t : Int) (p1 q1 : Nat) (cs1 : List Int) (Ss : List (Nat × Den)) : Prop := Dif M M1 (DIt m) ∧ XS M1 p1 q1 0 (a + cs1.length) ∧ CdR M M1 a cs1 ∧ mZ M1 184 5 = (m : Int) + 1 ∧ mZ M1 185 m = (kd : Int) ∧ mZ M1 187 m = -1 ∧ mZ M1 188 m = t ∧ ∀ (j : Nat) (s : Nat × Den), Ss[j]? = some s → mZ M1 186 (4 * m + j) = s.1
/-- the TEST of an item, on x's side -/
theorem XH_if {c v : Nat → Int} {fw lw : Int} {M M1 M2 : qMe} {z t : Int} {m a kd p1 q1 : Nat} {cs1 : List Int} {Ss : List (Nat × Den)} (hH : XH M M1 m a kd t p1 q1 cs1 Ss) (r : XRF M1 M2 z m (a + cs1.length) (pIf c v fw lw p1 q1 (a + cs1.length))) : XRI M M2 z m a (pThen (pIf c v fw lw p1 q1 (a + cs1.length)) noi (fun p3 q3 cs3 T => (true, p3, q3, cs1 ++ cs3, (kd, Ss, T, t)))) := by
  obtain ⟨a1, a2, a3, a4, a5, a6, a7, a8⟩ := hH
  obtain ⟨D2, r⟩ := r
  refine ⟨a1.tr (D2.mono (fun i k q => by unfold DIf DRy at q; unfold DIt DRy; omega)), ?_⟩
  generalize pIf c v fw lw p1 q1 (a + cs1.length) = R at *
  obtain ⟨rb, p3, q3, cs3, T⟩ := R
  rcases r with ⟨rz, rt, S2, C2, f2⟩ | ⟨rz, rt, tk⟩
  · have rt : rb = true := rt
    subst rt
    refine Or.inl ⟨rz, rfl, ?_, CdR_app a3 C2, ?_, ?_, f2, ?_, fun j s q => ?_⟩
    · show XS M2 p3 q3 0 (a + (cs1 ++ cs3).length)
      rw [List.length_append, ← Nat.add_assoc]
      exact S2
    · rw [D2.z (by unfold DIf DRy; omega)]
      exact a4
    · show mZ M2 185 m = (kd : Int)
      rw [D2.z (by unfold DIf DRy; omega)]
      exact a5
    · show mZ M2 188 m = t
      rw [D2.z (by unfold DIf DRy; omega)]
      exact a7
    · rw [D2.z (by unfold DIf DRy; omega)]
      exact a8 j s q
  · have rt : rb = false := rt
    subst rt
    exact Or.inr ⟨rz, rfl, tk⟩
/-- where an item begins -/
theorem x_begin {c v : Nat → Int} {N m p q a kd : Nat} {law : Bool} {M : qMe} (hm : m < 12) (h : shp M) (hX : TX M c v N law) (hS : XS M p q 0 a) (hp : p ≤ N) (k3 : kd ≤ 3) : XH M (qsI (qsI (qsI (qsI (qsI M 183 5 (iz ((p : Int) + 1))) 185 m (iz (kd : Int))) 187 m (iz (-1))) 188 m (iz 1)) 184 5 (iz ((m : Int) + 1))) m a kd 1 (p + 1) q [] [] := by
  have N4 := hX.1
  obtain ⟨st, sq, sd, sa⟩ := hS
  refine ⟨((((Dif.rfl'.I ?_).I ?_).I ?_).I ?_).I ?_, ⟨?_, ?_, ?_, ?_⟩, ?_, ?_, ?_, ?_, ?_, fun j s q => by cases q⟩
  · unfold DIt DRy; omega
  · unfold DIt DRy; omega
  · unfold DIt DRy; omega
  · unfold DIt DRy; omega
  · unfold DIt DRy; omega
  · rw [mZ_nc (by decide), mZ_nc (by decide), mZ_nc (by decide), mZ_nc (by decide)]; exact mZ_sm rfl (by omega) (by omega)
  · rw [mZ_nc (by decide), mZ_nc (by decide), mZ_nc (by decide), mZ_nc (by decide), mZ_nk (by decide)]; exact sq
  · rw [mZ_nc (by decide), mZ_nc (by decide), mZ_nc (by decide), mZ_nc (by decide), mZ_nk (by decide)]; exact sd
  · rw [mZ_nk (by decide), mZ_nc (by decide), mZ_nc (by decide), mZ_nc (by decide), mZ_nc (by decide)]; exact sa
  · exact CdR_k CdR_nil (fun k => by rw [mZ_nc (by decide), mZ_nc (by decide), mZ_nc (by decide), mZ_nc (by decide), mZ_nc (by decide)])
  · exact mZ_sm rfl (by omega) (by omega)
  · rw [mZ_nc (by decide), mZ_nc (by decide), mZ_nc (by decide)]; exact mZ_sm rfl (by omega) (by omega)
  · rw [mZ_nc (by decide), mZ_nc (by decide)]; exact mZ_sm rfl (by decide) (by decide)
  · rw [mZ_nc (by decide)]; exact mZ_sm rfl (by decide) (by decide)
theorem XH_sums {c v : Nat → Int} {fw lw : Int} {M M1 M2 : qMe} {t : Int} {m a kd p1 q1 p2 q2 : Nat} {ss : List Int} {cs2 : List Int} {Ss : List (Nat × Den)} (hH : XH M M1 m a kd t p1 q1 [] []) (e : pSs c v fw lw ss p1 q1 a = (true, p2, q2, cs2, Ss)) (r : XRS M1 M2 1 m 0 a (pSs c v fw lw ss p1 q1 a)) : XH M M2 m a kd t p2 q2 cs2 Ss := by
  obtain ⟨a1, a2, a3, a4, a5, a6, a7, a8⟩ := hH
  rw [e] at r
  obtain ⟨D2, r⟩ := r
  rcases r with ⟨-, -, S2, C2, f2⟩ | ⟨rz, -, -⟩
  · refine ⟨a1.tr (Ss_I D2), S2, ⟨C2.1, fun j y => (C2.2 j y).trans (a3.2 j y)⟩, ?_, ?_, ?_, ?_, fun j s q => f2 j s q⟩
    · rw [D2.z (by unfold DSs DRy; omega)]; exact a4
    · rw [D2.z (by unfold DSs DRy; omega)]; exact a5
    · rw [D2.z (by unfold DSs DRy; omega)]; exact a6
    · rw [D2.z (by unfold DSs DRy; omega)]; exact a7
  · omega
set_option maxHeartbeats 1000000 in
theorem x_readClause {c v : Nat → Int} {N m d p q a : Nat} {M : qMe} (hm : m < 12) (h : shp M) (hX : TX M c v N true) (hS : XS M p q 0 a) (hp : p ≤ N) (hq : q ≤ 50) (hap : a ≤ p) (hz : mZ M 184 5 = (m : Int)) : wI (cal (d + 95) 274 [.ref 183] M) (fun z M1 => XRI M M1 z m a (pItm c v true p q a)) := by
  refine wI_q (fun P hP => ?_)
  have hN := h.1
  obtain ⟨N4, hc0, hv0, hsA, -⟩ := id hX
  have e1 : d + 94 = (d + 93) + 1 := by omega
  have sp := hsA p hp
  have sb := sAt_b sp
  obtain ⟨sk, sk9⟩ := sAt_law sp
  obtain ⟨st, sq, sd, sa⟩ := id hS
  have hb := fun kd k3 => x_begin (c := c) (v := v) (N := N) (m := m) (p := p) (q := q) (a := a) (kd := kd) (law := true) (M := M) hm h hX hS hp k3
  have add := fun (M : qMe) (kd : Int) h hz k0 => x_add (d := d + 93) (m := m) (kd := kd) (M := M) h hz hm k0
  simp only [← e1] at add
  show wp (cal ((d + 94) + 1) 274 [.ref 183] M) P
  rw [cal_274, gd_t (Nat.le_of_ble_eq_true rfl)]
  change wp (n_274_0 (cal _) [some (.ref 183), none] [] _) _
  unfold pItm at hP
  have hP : ∀ z M1, XRI M M1 z m a (if kLaw (c p) = 9 then (false, p, q, [], noi) else pThen (pSum0 c v (fwOf true) (lwOf true) (seps true (kLaw (c p))) (p + 1) q a) noi (fun p1 q1 cs1 Ss => pThen (pTimes c v true p1 q1) noi (fun p2 q2 _ t => pThen (pIf c v (fwOf true) (lwOf true) p2 q2 (a + cs1.length)) noi (fun p3 q3 cs3 T => (true, p3, q3, cs1 ++ cs3, (kLaw (c p), Ss, T, t)))))) → P (some (.int (iz z))) M1 := hP
  generalize hsv : mZ M 191 p = sv at *
  have cw := c_within (d := d + 93) (v := sv - 300) (a := 0) (b := 3) (M := M) (by omega) (by omega) (by decide) (by decide) (by decide) (by decide)
  rw [← e1] at cw
  by_cases k9 : kLaw (c p) = 9
  · rw [if_pos k9] at hP
    have nw : ¬ (0 ≤ sv - 300 ∧ sv - 300 ≤ 3) := by have := sk9 k9; omega
    have fin := hP 0 M ⟨Dif.rfl', Or.inr ⟨rfl, rfl, st⟩⟩
    simp (disch := first | assumption | decide | omega) only [n_274_0, n_274_57, n_274_68, n_274_69, z_iconst, z_bipush, z_sipush, z_ldc, z_ldcs, z_ldcw, z_ldc2, z_lconst0, z_lconst1, z_null, z_getstatic, z_iload_0, z_iload_1, z_iload_2, z_iload_3, z_iload, z_istore_0, z_istore_1, z_istore_2, z_istore_3, z_istore, z_lload_0, z_lload_1, z_lload_2, z_lload_3, z_lload, z_lstore_0, z_lstore_1, z_lstore_2, z_lstore_3, z_lstore, z_aload_0, z_aload_1, z_aload_2, z_aload_3, z_aload, z_astore_0, z_astore_1, z_astore_2, z_astore_3, z_astore, ald_0, ald_s, z_iinc, qst1_1i, qst2_1i, qst1_1r, qst2_1r, qst1_1u, qst2_1u, qst1_1n, qst2_1n, qst1_1l, qst2_1l, qst1_0, qst2_0, qst1_s, qst2_s, z_iadd, z_isub, z_imul, z_iand, z_ior, z_ixor, z_ishl, z_ishr, z_idiv, z_irem, z_ladd, z_lsub, z_lmul, z_land, z_lor, z_ldiv, z_lrem, z_ineg, z_lshl, z_lshr, z_i2l, z_l2i, z_i2b, z_i2c, z_lcmp, z_dupi, z_dupr, z_popi, z_popr, z_dup2, z_goto, z_get0, z_get1, z_get2, z_get3, z_put0, z_put1, z_put2, z_put2n, z_put3, z_iaload, z_baload, z_laload, z_aaload, z_iastore, z_bastore, z_lastore, z_aastore, z_aastoren, z_arraylength, z_new, z_newarray, z_anewarray, z_multi, z_objinit, z_is0, z_iv0, z_ip0, z_is1, z_iv1, z_ip1, z_is2, z_iv2, z_ip2, z_is3, z_iv3, z_ip3, z_is4, z_iv4, z_ip4, z_is5, z_iv5, z_ip5, z_is6, z_iv6, z_ip6, z_is7, z_iv7, z_ip7, z_m991, z_m992, z_m993, z_m994, z_m995, z_m996, z_m998, acal_0, acal_1, acal_2, acal_3, acal_4, aK_v, aK_n, sF_c, sF_n, b_nr, b_nn, r_I, r_Z, r_L, r_A, r_V, sw_F, sw_n, gd_tt, is01_bzT, is01_0, is01_1, qrv_s, qrv_n, bi_eq_t, bi_eq_f, bi_ne_t, bi_ne_f, bi_lt_t, bi_lt_f, bi_ge_t, bi_ge_f, bi_gt_t, bi_gt_f, bi_le_t, bi_le_f, bc_eq_t, bc_eq_f, bc_ne_t, bc_ne_f, bc_lt_t, bc_lt_f, bc_ge_t, bc_ge_f, bc_gt_t, bc_gt_f, bc_le_t, bc_le_f, bb_eq_t, bb_eq_f, bb_ne_t, bb_ne_f, sc_t, sc_f, b_nr, b_nn, mI_J, mI_R, mJ_I, mJ_R, mR_I, mR_J, mK_I, mK_J, mK_R, mN_I, mN_J, mN_R, inM_I, inM_J, inM_R, mZ_nc, mZ_nk, mZ_sm, mZ_J, mZ_R, mJ_nc, mJ_ni, mJ_sm, mI_Z, iz_add, iz_sub, iz_mul, iz_neg, iz_lt, iz_le, iz_eq, iz_clamp, iz_inB, iz_div, iz_rem, shK h, shR h, inM_lit, and_self, true_and, and_true, true_or, or_true, not_true_eq_false, not_false_eq_true, Nat.reduceEqDiff, reduceCtorEq, Int.reduceNeg, Int.reduceSub, Int.reduceAdd, Int.reduceMul, Int.reduceToNat, Int.reduceEq, Int.neg_neg, Int.cast_ofNat_Int, Nat.reduceAdd, Nat.reduceMul, Nat.reduceSub, gd_t, emod_r, iz_0, Int.zero_add, Int.add_zero, wp_some, st, hsv, cw, Int.toNat_natCast]
    exact fin
  · rw [if_neg k9] at hP
    obtain ⟨s1, s3, s0⟩ := sk k9
    have pN : p < N := by
      rcases Nat.lt_or_ge p N with z | z
      · exact z
      · exact absurd (hc0 p z) s0
    generalize kLaw (c p) = kd at *
    have yw : 0 ≤ sv - 300 ∧ sv - 300 ≤ 3 := by omega
    have es : sv - 300 = (kd : Int) := by omega
    rw [es] at cw yw
    have hH := hb kd s3
    have hx : shp (qsI M 183 5 (iz ((p : Int) + 1))) := shp_I h (by decide)
    have ad := add (qsI M 183 5 (iz ((p : Int) + 1))) (kd : Int) hx (by rw [mZ_nc (by decide)]; exact hz) (by omega)
    have hNx := hx.1
    -- the TEST
    have tail : ∀ (M1 : qMe) (p1 q1 : Nat) (cs1 : List Int) (Ss : List (Nat × Den)), p1 ≤ N → q1 ≤ 50 → a + cs1.length ≤ p1 → XH M M1 m a kd 1 p1 q1 cs1 Ss → (∀ z M2, XRI M M2 z m a (pThen (pIf c v (fwOf true) (lwOf true) p1 q1 (a + cs1.length)) noi (fun p3 q3 cs3 T => (true, p3, q3, cs1 ++ cs3, (kd, Ss, T, 1)))) → P (some (.int (iz z))) M2) → wp (n_274_57 (cal (d + 94)) [some (.ref 183), some (.int (iz (kd : Int)))] [] M1) P := fun M1 p1 q1 cs1 Ss g1 g2 g3 g4 g5 => by
      have D1 := g4.1
      have h1 := D1.shp h (fun i k hi => DIt_8 hi)
      have hN1 := h1.1
      have ri := x_readIf (c := c) (v := v) (N := N) (m := m) (d := d) (law := true) hm h1 (TX_I hX D1) g4.2.1 g1 g2 g3 g4.2.2.2.1 g4.2.2.2.2.2.1
      simp (disch := first | assumption | decide | omega) only [n_274_0, n_274_57, n_274_68, z_iconst, z_bipush, z_sipush, z_ldc, z_ldcs, z_ldcw, z_ldc2, z_lconst0, z_lconst1, z_null, z_getstatic, z_iload_0, z_iload_1, z_iload_2, z_iload_3, z_iload, z_istore_0, z_istore_1, z_istore_2, z_istore_3, z_istore, z_lload_0, z_lload_1, z_lload_2, z_lload_3, z_lload, z_lstore_0, z_lstore_1, z_lstore_2, z_lstore_3, z_lstore, z_aload_0, z_aload_1, z_aload_2, z_aload_3, z_aload, z_astore_0, z_astore_1, z_astore_2, z_astore_3, z_astore, ald_0, ald_s, z_iinc, qst1_1i, qst2_1i, qst1_1r, qst2_1r, qst1_1u, qst2_1u, qst1_1n, qst2_1n, qst1_1l, qst2_1l, qst1_0, qst2_0, qst1_s, qst2_s, z_iadd, z_isub, z_imul, z_iand, z_ior, z_ixor, z_ishl, z_ishr, z_idiv, z_irem, z_ladd, z_lsub, z_lmul, z_land, z_lor, z_ldiv, z_lrem, z_ineg, z_lshl, z_lshr, z_i2l, z_l2i, z_i2b, z_i2c, z_lcmp, z_dupi, z_dupr, z_popi, z_popr, z_dup2, z_goto, z_get0, z_get1, z_get2, z_get3, z_put0, z_put1, z_put2, z_put2n, z_put3, z_iaload, z_baload, z_laload, z_aaload, z_iastore, z_bastore, z_lastore, z_aastore, z_aastoren, z_arraylength, z_new, z_newarray, z_anewarray, z_multi, z_objinit, z_is0, z_iv0, z_ip0, z_is1, z_iv1, z_ip1, z_is2, z_iv2, z_ip2, z_is3, z_iv3, z_ip3, z_is4, z_iv4, z_ip4, z_is5, z_iv5, z_ip5, z_is6, z_iv6, z_ip6, z_is7, z_iv7, z_ip7, z_m991, z_m992, z_m993, z_m994, z_m995, z_m996, z_m998, acal_0, acal_1, acal_2, acal_3, acal_4, aK_v, aK_n, sF_c, sF_n, b_nr, b_nn, r_I, r_Z, r_L, r_A, r_V, sw_F, sw_n, gd_tt, is01_bzT, is01_0, is01_1, qrv_s, qrv_n, bi_eq_t, bi_eq_f, bi_ne_t, bi_ne_f, bi_lt_t, bi_lt_f, bi_ge_t, bi_ge_f, bi_gt_t, bi_gt_f, bi_le_t, bi_le_f, bc_eq_t, bc_eq_f, bc_ne_t, bc_ne_f, bc_lt_t, bc_lt_f, bc_ge_t, bc_ge_f, bc_gt_t, bc_gt_f, bc_le_t, bc_le_f, bb_eq_t, bb_eq_f, bb_ne_t, bb_ne_f, sc_t, sc_f, b_nr, b_nn, mI_J, mI_R, mJ_I, mJ_R, mR_I, mR_J, mK_I, mK_J, mK_R, mN_I, mN_J, mN_R, inM_I, inM_J, inM_R, mZ_nc, mZ_nk, mZ_sm, mZ_J, mZ_R, mJ_nc, mJ_ni, mJ_sm, mI_Z, iz_add, iz_sub, iz_mul, iz_neg, iz_lt, iz_le, iz_eq, iz_clamp, iz_inB, iz_div, iz_rem, shK h, shR h, inM_lit, and_self, true_and, and_true, true_or, or_true, not_true_eq_false, not_false_eq_true, Nat.reduceEqDiff, reduceCtorEq, Int.reduceNeg, Int.reduceSub, Int.reduceAdd, Int.reduceMul, Int.reduceToNat, Int.reduceEq, Int.neg_neg, Int.cast_ofNat_Int, Nat.reduceAdd, Nat.reduceMul, Nat.reduceSub, gd_t, emod_r, iz_0, Int.zero_add, Int.add_zero, wp_some, shK h1]
      refine wp_cI ri (fun z M2 r => ?_)
      have xx := XH_if (c := c) (v := v) (fw := fwOf true) (lw := lwOf true) g4 r
      have fin := g5 z M2 xx
      have z01 : z = 1 ∨ z = 0 := by
        rcases r.2 with y | y
        · exact Or.inl y.1
        · exact Or.inr y.1
      rcases z01 with rfl | rfl
      · simp (disch := first | assumption | decide | omega) only [n_274_0, n_274_57, n_274_68, n_274_69, z_iconst, z_bipush, z_sipush, z_ldc, z_ldcs, z_ldcw, z_ldc2, z_lconst0, z_lconst1, z_null, z_getstatic, z_iload_0, z_iload_1, z_iload_2, z_iload_3, z_iload, z_istore_0, z_istore_1, z_istore_2, z_istore_3, z_istore, z_lload_0, z_lload_1, z_lload_2, z_lload_3, z_lload, z_lstore_0, z_lstore_1, z_lstore_2, z_lstore_3, z_lstore, z_aload_0, z_aload_1, z_aload_2, z_aload_3, z_aload, z_astore_0, z_astore_1, z_astore_2, z_astore_3, z_astore, ald_0, ald_s, z_iinc, qst1_1i, qst2_1i, qst1_1r, qst2_1r, qst1_1u, qst2_1u, qst1_1n, qst2_1n, qst1_1l, qst2_1l, qst1_0, qst2_0, qst1_s, qst2_s, z_iadd, z_isub, z_imul, z_iand, z_ior, z_ixor, z_ishl, z_ishr, z_idiv, z_irem, z_ladd, z_lsub, z_lmul, z_land, z_lor, z_ldiv, z_lrem, z_ineg, z_lshl, z_lshr, z_i2l, z_l2i, z_i2b, z_i2c, z_lcmp, z_dupi, z_dupr, z_popi, z_popr, z_dup2, z_goto, z_get0, z_get1, z_get2, z_get3, z_put0, z_put1, z_put2, z_put2n, z_put3, z_iaload, z_baload, z_laload, z_aaload, z_iastore, z_bastore, z_lastore, z_aastore, z_aastoren, z_arraylength, z_new, z_newarray, z_anewarray, z_multi, z_objinit, z_is0, z_iv0, z_ip0, z_is1, z_iv1, z_ip1, z_is2, z_iv2, z_ip2, z_is3, z_iv3, z_ip3, z_is4, z_iv4, z_ip4, z_is5, z_iv5, z_ip5, z_is6, z_iv6, z_ip6, z_is7, z_iv7, z_ip7, z_m991, z_m992, z_m993, z_m994, z_m995, z_m996, z_m998, acal_0, acal_1, acal_2, acal_3, acal_4, aK_v, aK_n, sF_c, sF_n, b_nr, b_nn, r_I, r_Z, r_L, r_A, r_V, sw_F, sw_n, gd_tt, is01_bzT, is01_0, is01_1, qrv_s, qrv_n, bi_eq_t, bi_eq_f, bi_ne_t, bi_ne_f, bi_lt_t, bi_lt_f, bi_ge_t, bi_ge_f, bi_gt_t, bi_gt_f, bi_le_t, bi_le_f, bc_eq_t, bc_eq_f, bc_ne_t, bc_ne_f, bc_lt_t, bc_lt_f, bc_ge_t, bc_ge_f, bc_gt_t, bc_gt_f, bc_le_t, bc_le_f, bb_eq_t, bb_eq_f, bb_ne_t, bb_ne_f, sc_t, sc_f, b_nr, b_nn, mI_J, mI_R, mJ_I, mJ_R, mR_I, mR_J, mK_I, mK_J, mK_R, mN_I, mN_J, mN_R, inM_I, inM_J, inM_R, mZ_nc, mZ_nk, mZ_sm, mZ_J, mZ_R, mJ_nc, mJ_ni, mJ_sm, mI_Z, iz_add, iz_sub, iz_mul, iz_neg, iz_lt, iz_le, iz_eq, iz_clamp, iz_inB, iz_div, iz_rem, shK h, shR h, inM_lit, and_self, true_and, and_true, true_or, or_true, not_true_eq_false, not_false_eq_true, Nat.reduceEqDiff, reduceCtorEq, Int.reduceNeg, Int.reduceSub, Int.reduceAdd, Int.reduceMul, Int.reduceToNat, Int.reduceEq, Int.neg_neg, Int.cast_ofNat_Int, Nat.reduceAdd, Nat.reduceMul, Nat.reduceSub, gd_t, emod_r, iz_0, Int.zero_add, Int.add_zero, wp_some]
        exact fin
      · simp (disch := first | assumption | decide | omega) only [n_274_0, n_274_57, n_274_68, n_274_69, z_iconst, z_bipush, z_sipush, z_ldc, z_ldcs, z_ldcw, z_ldc2, z_lconst0, z_lconst1, z_null, z_getstatic, z_iload_0, z_iload_1, z_iload_2, z_iload_3, z_iload, z_istore_0, z_istore_1, z_istore_2, z_istore_3, z_istore, z_lload_0, z_lload_1, z_lload_2, z_lload_3, z_lload, z_lstore_0, z_lstore_1, z_lstore_2, z_lstore_3, z_lstore, z_aload_0, z_aload_1, z_aload_2, z_aload_3, z_aload, z_astore_0, z_astore_1, z_astore_2, z_astore_3, z_astore, ald_0, ald_s, z_iinc, qst1_1i, qst2_1i, qst1_1r, qst2_1r, qst1_1u, qst2_1u, qst1_1n, qst2_1n, qst1_1l, qst2_1l, qst1_0, qst2_0, qst1_s, qst2_s, z_iadd, z_isub, z_imul, z_iand, z_ior, z_ixor, z_ishl, z_ishr, z_idiv, z_irem, z_ladd, z_lsub, z_lmul, z_land, z_lor, z_ldiv, z_lrem, z_ineg, z_lshl, z_lshr, z_i2l, z_l2i, z_i2b, z_i2c, z_lcmp, z_dupi, z_dupr, z_popi, z_popr, z_dup2, z_goto, z_get0, z_get1, z_get2, z_get3, z_put0, z_put1, z_put2, z_put2n, z_put3, z_iaload, z_baload, z_laload, z_aaload, z_iastore, z_bastore, z_lastore, z_aastore, z_aastoren, z_arraylength, z_new, z_newarray, z_anewarray, z_multi, z_objinit, z_is0, z_iv0, z_ip0, z_is1, z_iv1, z_ip1, z_is2, z_iv2, z_ip2, z_is3, z_iv3, z_ip3, z_is4, z_iv4, z_ip4, z_is5, z_iv5, z_ip5, z_is6, z_iv6, z_ip6, z_is7, z_iv7, z_ip7, z_m991, z_m992, z_m993, z_m994, z_m995, z_m996, z_m998, acal_0, acal_1, acal_2, acal_3, acal_4, aK_v, aK_n, sF_c, sF_n, b_nr, b_nn, r_I, r_Z, r_L, r_A, r_V, sw_F, sw_n, gd_tt, is01_bzT, is01_0, is01_1, qrv_s, qrv_n, bi_eq_t, bi_eq_f, bi_ne_t, bi_ne_f, bi_lt_t, bi_lt_f, bi_ge_t, bi_ge_f, bi_gt_t, bi_gt_f, bi_le_t, bi_le_f, bc_eq_t, bc_eq_f, bc_ne_t, bc_ne_f, bc_lt_t, bc_lt_f, bc_ge_t, bc_ge_f, bc_gt_t, bc_gt_f, bc_le_t, bc_le_f, bb_eq_t, bb_eq_f, bb_ne_t, bb_ne_f, sc_t, sc_f, b_nr, b_nn, mI_J, mI_R, mJ_I, mJ_R, mR_I, mR_J, mK_I, mK_J, mK_R, mN_I, mN_J, mN_R, inM_I, inM_J, inM_R, mZ_nc, mZ_nk, mZ_sm, mZ_J, mZ_R, mJ_nc, mJ_ni, mJ_sm, mI_Z, iz_add, iz_sub, iz_mul, iz_neg, iz_lt, iz_le, iz_eq, iz_clamp, iz_inB, iz_div, iz_rem, shK h, shR h, inM_lit, and_self, true_and, and_true, true_or, or_true, not_true_eq_false, not_false_eq_true, Nat.reduceEqDiff, reduceCtorEq, Int.reduceNeg, Int.reduceSub, Int.reduceAdd, Int.reduceMul, Int.reduceToNat, Int.reduceEq, Int.neg_neg, Int.cast_ofNat_Int, Nat.reduceAdd, Nat.reduceMul, Nat.reduceSub, gd_t, emod_r, iz_0, Int.zero_add, Int.add_zero, wp_some]
        exact fin
    clear add hb
    by_cases k1 : kd ≤ 1
    · have kI : ¬ (1 : Int) < (kd : Int) := by omega
      have es1 : seps true kd = some [] := if_pos k1
      rw [es1] at hP
      have hP : ∀ z M1, XRI M M1 z m a (pThen (pSs c v (fwOf true) (lwOf true) [] (p + 1) q a) noi (fun p1 q1 cs1 Ss => pThen (pTimes c v true p1 q1) noi (fun p2 q2 _ t => pThen (pIf c v (fwOf true) (lwOf true) p2 q2 (a + cs1.length)) noi (fun p3 q3 cs3 T => (true, p3, q3, cs1 ++ cs3, (kd, Ss, T, t)))))) → P (some (.int (iz z))) M1 := hP
      simp (disch := first | assumption | decide | omega) only [n_274_0, n_274_69, z_iconst, z_bipush, z_sipush, z_ldc, z_ldcs, z_ldcw, z_ldc2, z_lconst0, z_lconst1, z_null, z_getstatic, z_iload_0, z_iload_1, z_iload_2, z_iload_3, z_iload, z_istore_0, z_istore_1, z_istore_2, z_istore_3, z_istore, z_lload_0, z_lload_1, z_lload_2, z_lload_3, z_lload, z_lstore_0, z_lstore_1, z_lstore_2, z_lstore_3, z_lstore, z_aload_0, z_aload_1, z_aload_2, z_aload_3, z_aload, z_astore_0, z_astore_1, z_astore_2, z_astore_3, z_astore, ald_0, ald_s, z_iinc, qst1_1i, qst2_1i, qst1_1r, qst2_1r, qst1_1u, qst2_1u, qst1_1n, qst2_1n, qst1_1l, qst2_1l, qst1_0, qst2_0, qst1_s, qst2_s, z_iadd, z_isub, z_imul, z_iand, z_ior, z_ixor, z_ishl, z_ishr, z_idiv, z_irem, z_ladd, z_lsub, z_lmul, z_land, z_lor, z_ldiv, z_lrem, z_ineg, z_lshl, z_lshr, z_i2l, z_l2i, z_i2b, z_i2c, z_lcmp, z_dupi, z_dupr, z_popi, z_popr, z_dup2, z_goto, z_get0, z_get1, z_get2, z_get3, z_put0, z_put1, z_put2, z_put2n, z_put3, z_iaload, z_baload, z_laload, z_aaload, z_iastore, z_bastore, z_lastore, z_aastore, z_aastoren, z_arraylength, z_new, z_newarray, z_anewarray, z_multi, z_objinit, z_is0, z_iv0, z_ip0, z_is1, z_iv1, z_ip1, z_is2, z_iv2, z_ip2, z_is3, z_iv3, z_ip3, z_is4, z_iv4, z_ip4, z_is5, z_iv5, z_ip5, z_is6, z_iv6, z_ip6, z_is7, z_iv7, z_ip7, z_m991, z_m992, z_m993, z_m994, z_m995, z_m996, z_m998, acal_0, acal_1, acal_2, acal_3, acal_4, aK_v, aK_n, sF_c, sF_n, b_nr, b_nn, r_I, r_Z, r_L, r_A, r_V, sw_F, sw_n, gd_tt, is01_bzT, is01_0, is01_1, qrv_s, qrv_n, bi_eq_t, bi_eq_f, bi_ne_t, bi_ne_f, bi_lt_t, bi_lt_f, bi_ge_t, bi_ge_f, bi_gt_t, bi_gt_f, bi_le_t, bi_le_f, bc_eq_t, bc_eq_f, bc_ne_t, bc_ne_f, bc_lt_t, bc_lt_f, bc_ge_t, bc_ge_f, bc_gt_t, bc_gt_f, bc_le_t, bc_le_f, bb_eq_t, bb_eq_f, bb_ne_t, bb_ne_f, sc_t, sc_f, b_nr, b_nn, mI_J, mI_R, mJ_I, mJ_R, mR_I, mR_J, mK_I, mK_J, mK_R, mN_I, mN_J, mN_R, inM_I, inM_J, inM_R, mZ_nc, mZ_nk, mZ_sm, mZ_J, mZ_R, mJ_nc, mJ_ni, mJ_sm, mI_Z, iz_add, iz_sub, iz_mul, iz_neg, iz_lt, iz_le, iz_eq, iz_clamp, iz_inB, iz_div, iz_rem, shK h, shR h, inM_lit, and_self, true_and, and_true, true_or, or_true, not_true_eq_false, not_false_eq_true, Nat.reduceEqDiff, reduceCtorEq, Int.reduceNeg, Int.reduceSub, Int.reduceAdd, Int.reduceMul, Int.reduceToNat, Int.reduceEq, Int.neg_neg, Int.cast_ofNat_Int, Nat.reduceAdd, Nat.reduceMul, Nat.reduceSub, gd_t, emod_r, iz_0, Int.zero_add, Int.add_zero, wp_some, st, hsv, cw, es, ad, Int.toNat_natCast]
      generalize qsI (qsI (qsI (qsI (qsI M 183 5 (iz ((p : Int) + 1))) 185 m (iz (kd : Int))) 187 m (iz (-1))) 188 m (iz 1)) 184 5 (iz ((m : Int) + 1)) = M1 at *
      have D1 := hH.1
      have h1 := D1.shp h (fun i k hi => DIt_8 hi)
      have hN1 := h1.1
      have rs := x_readSums (c := c) (v := v) (N := N) (m := m) (many := 1) (d := d) (fb := 0) (law := true) (ss := []) hm rfl (by decide) (by decide) (fun j s q => by cases q) h1 (TX_I hX D1) (by have := hH.2.1; rw [List.length_nil, Nat.add_zero] at this; exact this) (by omega) hq (by omega) hH.2.2.2.1
      have rs : wI (cal (d + 94) 276 [.ref 183, .int (iz 1), .int (iz 0)] M1) (fun z M2 => XRS M1 M2 z m 0 a (pSs c v (fwOf true) (lwOf true) [] (p + 1) q a)) := rs
      refine wp_cI rs (fun z M2 r => ?_)
      have rr := r
      obtain ⟨D2, r⟩ := r
      cases hR : pSs c v (fwOf true) (lwOf true) [] (p + 1) q a with
      | mk rb R =>
        obtain ⟨p1, q1, cs1, Ss⟩ := R
        rw [hR] at r hP
        rcases r with ⟨rfl, rt, S2, C2, f2⟩ | ⟨rfl, rt, tk⟩
        · have rt : rb = true := rt
          subst rt
          rw [pThen_t] at hP
          have H2 := XH_sums hH hR rr
          have ok := pSs_ok (v := v) (lw := lwOf true) hc0 (fwOf_p (law := true)).1 [] (p + 1) q a p1 q1 cs1 Ss (fun s q => by cases q) (by omega) hq hR
          have fin := tail M2 p1 q1 cs1 Ss ok.2.1 ok.2.2.2.1 (by omega) H2 (fun z M3 r3 => hP z M3 r3)
          simp (disch := first | assumption | decide | omega) only [n_274_0, n_274_69, z_iconst, z_bipush, z_sipush, z_ldc, z_ldcs, z_ldcw, z_ldc2, z_lconst0, z_lconst1, z_null, z_getstatic, z_iload_0, z_iload_1, z_iload_2, z_iload_3, z_iload, z_istore_0, z_istore_1, z_istore_2, z_istore_3, z_istore, z_lload_0, z_lload_1, z_lload_2, z_lload_3, z_lload, z_lstore_0, z_lstore_1, z_lstore_2, z_lstore_3, z_lstore, z_aload_0, z_aload_1, z_aload_2, z_aload_3, z_aload, z_astore_0, z_astore_1, z_astore_2, z_astore_3, z_astore, ald_0, ald_s, z_iinc, qst1_1i, qst2_1i, qst1_1r, qst2_1r, qst1_1u, qst2_1u, qst1_1n, qst2_1n, qst1_1l, qst2_1l, qst1_0, qst2_0, qst1_s, qst2_s, z_iadd, z_isub, z_imul, z_iand, z_ior, z_ixor, z_ishl, z_ishr, z_idiv, z_irem, z_ladd, z_lsub, z_lmul, z_land, z_lor, z_ldiv, z_lrem, z_ineg, z_lshl, z_lshr, z_i2l, z_l2i, z_i2b, z_i2c, z_lcmp, z_dupi, z_dupr, z_popi, z_popr, z_dup2, z_goto, z_get0, z_get1, z_get2, z_get3, z_put0, z_put1, z_put2, z_put2n, z_put3, z_iaload, z_baload, z_laload, z_aaload, z_iastore, z_bastore, z_lastore, z_aastore, z_aastoren, z_arraylength, z_new, z_newarray, z_anewarray, z_multi, z_objinit, z_is0, z_iv0, z_ip0, z_is1, z_iv1, z_ip1, z_is2, z_iv2, z_ip2, z_is3, z_iv3, z_ip3, z_is4, z_iv4, z_ip4, z_is5, z_iv5, z_ip5, z_is6, z_iv6, z_ip6, z_is7, z_iv7, z_ip7, z_m991, z_m992, z_m993, z_m994, z_m995, z_m996, z_m998, acal_0, acal_1, acal_2, acal_3, acal_4, aK_v, aK_n, sF_c, sF_n, b_nr, b_nn, r_I, r_Z, r_L, r_A, r_V, sw_F, sw_n, gd_tt, is01_bzT, is01_0, is01_1, qrv_s, qrv_n, bi_eq_t, bi_eq_f, bi_ne_t, bi_ne_f, bi_lt_t, bi_lt_f, bi_ge_t, bi_ge_f, bi_gt_t, bi_gt_f, bi_le_t, bi_le_f, bc_eq_t, bc_eq_f, bc_ne_t, bc_ne_f, bc_lt_t, bc_lt_f, bc_ge_t, bc_ge_f, bc_gt_t, bc_gt_f, bc_le_t, bc_le_f, bb_eq_t, bb_eq_f, bb_ne_t, bb_ne_f, sc_t, sc_f, b_nr, b_nn, mI_J, mI_R, mJ_I, mJ_R, mR_I, mR_J, mK_I, mK_J, mK_R, mN_I, mN_J, mN_R, inM_I, inM_J, inM_R, mZ_nc, mZ_nk, mZ_sm, mZ_J, mZ_R, mJ_nc, mJ_ni, mJ_sm, mI_Z, iz_add, iz_sub, iz_mul, iz_neg, iz_lt, iz_le, iz_eq, iz_clamp, iz_inB, iz_div, iz_rem, shK h, shR h, inM_lit, and_self, true_and, and_true, true_or, or_true, not_true_eq_false, not_false_eq_true, Nat.reduceEqDiff, reduceCtorEq, Int.reduceNeg, Int.reduceSub, Int.reduceAdd, Int.reduceMul, Int.reduceToNat, Int.reduceEq, Int.neg_neg, Int.cast_ofNat_Int, Nat.reduceAdd, Nat.reduceMul, Nat.reduceSub, gd_t, emod_r, iz_0, Int.zero_add, Int.add_zero, wp_some]
          exact fin
        · have rt : rb = false := rt
          subst rt
          rw [pThen_f] at hP
          have fin := hP 0 M2 ⟨D1.tr (Ss_I D2), Or.inr ⟨rfl, rfl, tk⟩⟩
          simp (disch := first | assumption | decide | omega) only [n_274_0, n_274_68, n_274_69, z_iconst, z_bipush, z_sipush, z_ldc, z_ldcs, z_ldcw, z_ldc2, z_lconst0, z_lconst1, z_null, z_getstatic, z_iload_0, z_iload_1, z_iload_2, z_iload_3, z_iload, z_istore_0, z_istore_1, z_istore_2, z_istore_3, z_istore, z_lload_0, z_lload_1, z_lload_2, z_lload_3, z_lload, z_lstore_0, z_lstore_1, z_lstore_2, z_lstore_3, z_lstore, z_aload_0, z_aload_1, z_aload_2, z_aload_3, z_aload, z_astore_0, z_astore_1, z_astore_2, z_astore_3, z_astore, ald_0, ald_s, z_iinc, qst1_1i, qst2_1i, qst1_1r, qst2_1r, qst1_1u, qst2_1u, qst1_1n, qst2_1n, qst1_1l, qst2_1l, qst1_0, qst2_0, qst1_s, qst2_s, z_iadd, z_isub, z_imul, z_iand, z_ior, z_ixor, z_ishl, z_ishr, z_idiv, z_irem, z_ladd, z_lsub, z_lmul, z_land, z_lor, z_ldiv, z_lrem, z_ineg, z_lshl, z_lshr, z_i2l, z_l2i, z_i2b, z_i2c, z_lcmp, z_dupi, z_dupr, z_popi, z_popr, z_dup2, z_goto, z_get0, z_get1, z_get2, z_get3, z_put0, z_put1, z_put2, z_put2n, z_put3, z_iaload, z_baload, z_laload, z_aaload, z_iastore, z_bastore, z_lastore, z_aastore, z_aastoren, z_arraylength, z_new, z_newarray, z_anewarray, z_multi, z_objinit, z_is0, z_iv0, z_ip0, z_is1, z_iv1, z_ip1, z_is2, z_iv2, z_ip2, z_is3, z_iv3, z_ip3, z_is4, z_iv4, z_ip4, z_is5, z_iv5, z_ip5, z_is6, z_iv6, z_ip6, z_is7, z_iv7, z_ip7, z_m991, z_m992, z_m993, z_m994, z_m995, z_m996, z_m998, acal_0, acal_1, acal_2, acal_3, acal_4, aK_v, aK_n, sF_c, sF_n, b_nr, b_nn, r_I, r_Z, r_L, r_A, r_V, sw_F, sw_n, gd_tt, is01_bzT, is01_0, is01_1, qrv_s, qrv_n, bi_eq_t, bi_eq_f, bi_ne_t, bi_ne_f, bi_lt_t, bi_lt_f, bi_ge_t, bi_ge_f, bi_gt_t, bi_gt_f, bi_le_t, bi_le_f, bc_eq_t, bc_eq_f, bc_ne_t, bc_ne_f, bc_lt_t, bc_lt_f, bc_ge_t, bc_ge_f, bc_gt_t, bc_gt_f, bc_le_t, bc_le_f, bb_eq_t, bb_eq_f, bb_ne_t, bb_ne_f, sc_t, sc_f, b_nr, b_nn, mI_J, mI_R, mJ_I, mJ_R, mR_I, mR_J, mK_I, mK_J, mK_R, mN_I, mN_J, mN_R, inM_I, inM_J, inM_R, mZ_nc, mZ_nk, mZ_sm, mZ_J, mZ_R, mJ_nc, mJ_ni, mJ_sm, mI_Z, iz_add, iz_sub, iz_mul, iz_neg, iz_lt, iz_le, iz_eq, iz_clamp, iz_inB, iz_div, iz_rem, shK h, shR h, inM_lit, and_self, true_and, and_true, true_or, or_true, not_true_eq_false, not_false_eq_true, Nat.reduceEqDiff, reduceCtorEq, Int.reduceNeg, Int.reduceSub, Int.reduceAdd, Int.reduceMul, Int.reduceToNat, Int.reduceEq, Int.neg_neg, Int.cast_ofNat_Int, Nat.reduceAdd, Nat.reduceMul, Nat.reduceSub, gd_t, emod_r, iz_0, Int.zero_add, Int.add_zero, wp_some]
          exact fin
    · have kI : (1 : Int) < (kd : Int) := by omega
      have es1 : seps true kd = none := if_neg k1
      rw [es1] at hP
      have hP : ∀ z M1, XRI M M1 z m a (pThen (pIf c v (fwOf true) (lwOf true) (p + 1) q (a + ([] : List Int).length)) noi (fun p3 q3 cs3 T => (true, p3, q3, [] ++ cs3, (kd, [], T, 1)))) → P (some (.int (iz z))) M1 := hP
      have fin := tail _ (p + 1) q [] [] (by omega) hq (by rw [List.length_nil]; omega) hH hP
      simp (disch := first | assumption | decide | omega) only [n_274_0, n_274_69, z_iconst, z_bipush, z_sipush, z_ldc, z_ldcs, z_ldcw, z_ldc2, z_lconst0, z_lconst1, z_null, z_getstatic, z_iload_0, z_iload_1, z_iload_2, z_iload_3, z_iload, z_istore_0, z_istore_1, z_istore_2, z_istore_3, z_istore, z_lload_0, z_lload_1, z_lload_2, z_lload_3, z_lload, z_lstore_0, z_lstore_1, z_lstore_2, z_lstore_3, z_lstore, z_aload_0, z_aload_1, z_aload_2, z_aload_3, z_aload, z_astore_0, z_astore_1, z_astore_2, z_astore_3, z_astore, ald_0, ald_s, z_iinc, qst1_1i, qst2_1i, qst1_1r, qst2_1r, qst1_1u, qst2_1u, qst1_1n, qst2_1n, qst1_1l, qst2_1l, qst1_0, qst2_0, qst1_s, qst2_s, z_iadd, z_isub, z_imul, z_iand, z_ior, z_ixor, z_ishl, z_ishr, z_idiv, z_irem, z_ladd, z_lsub, z_lmul, z_land, z_lor, z_ldiv, z_lrem, z_ineg, z_lshl, z_lshr, z_i2l, z_l2i, z_i2b, z_i2c, z_lcmp, z_dupi, z_dupr, z_popi, z_popr, z_dup2, z_goto, z_get0, z_get1, z_get2, z_get3, z_put0, z_put1, z_put2, z_put2n, z_put3, z_iaload, z_baload, z_laload, z_aaload, z_iastore, z_bastore, z_lastore, z_aastore, z_aastoren, z_arraylength, z_new, z_newarray, z_anewarray, z_multi, z_objinit, z_is0, z_iv0, z_ip0, z_is1, z_iv1, z_ip1, z_is2, z_iv2, z_ip2, z_is3, z_iv3, z_ip3, z_is4, z_iv4, z_ip4, z_is5, z_iv5, z_ip5, z_is6, z_iv6, z_ip6, z_is7, z_iv7, z_ip7, z_m991, z_m992, z_m993, z_m994, z_m995, z_m996, z_m998, acal_0, acal_1, acal_2, acal_3, acal_4, aK_v, aK_n, sF_c, sF_n, b_nr, b_nn, r_I, r_Z, r_L, r_A, r_V, sw_F, sw_n, gd_tt, is01_bzT, is01_0, is01_1, qrv_s, qrv_n, bi_eq_t, bi_eq_f, bi_ne_t, bi_ne_f, bi_lt_t, bi_lt_f, bi_ge_t, bi_ge_f, bi_gt_t, bi_gt_f, bi_le_t, bi_le_f, bc_eq_t, bc_eq_f, bc_ne_t, bc_ne_f, bc_lt_t, bc_lt_f, bc_ge_t, bc_ge_f, bc_gt_t, bc_gt_f, bc_le_t, bc_le_f, bb_eq_t, bb_eq_f, bb_ne_t, bb_ne_f, sc_t, sc_f, b_nr, b_nn, mI_J, mI_R, mJ_I, mJ_R, mR_I, mR_J, mK_I, mK_J, mK_R, mN_I, mN_J, mN_R, inM_I, inM_J, inM_R, mZ_nc, mZ_nk, mZ_sm, mZ_J, mZ_R, mJ_nc, mJ_ni, mJ_sm, mI_Z, iz_add, iz_sub, iz_mul, iz_neg, iz_lt, iz_le, iz_eq, iz_clamp, iz_inB, iz_div, iz_rem, shK h, shR h, inM_lit, and_self, true_and, and_true, true_or, or_true, not_true_eq_false, not_false_eq_true, Nat.reduceEqDiff, reduceCtorEq, Int.reduceNeg, Int.reduceSub, Int.reduceAdd, Int.reduceMul, Int.reduceToNat, Int.reduceEq, Int.neg_neg, Int.cast_ofNat_Int, Nat.reduceAdd, Nat.reduceMul, Nat.reduceSub, gd_t, emod_r, iz_0, Int.zero_add, Int.add_zero, wp_some, st, hsv, cw, es, ad, Int.toNat_natCast]
      exact fin

theorem kLaw_c {c : Int} (h : ¬ kLaw c = 9) : (1 ≤ c ∧ c ≤ 4) ∧ c = kLaw c + 1 ∧ kLaw c ≤ 3 := by
  unfold kLaw at *
  by_cases h1 : c = 1
  · subst h1; exact ⟨by omega, rfl, by decide⟩
  · by_cases h2 : c = 2
    · subst h2; exact ⟨by omega, rfl, by decide⟩
    · by_cases h3 : c = 3
      · subst h3; exact ⟨by omega, rfl, by decide⟩
      · by_cases h4 : c = 4
        · subst h4; exact ⟨by omega, rfl, by decide⟩
        · rw [if_neg h1, if_neg h2, if_neg h3, if_neg h4] at h; exact absurd rfl h
theorem pItm_law {c v : Nat → Int} {p q a p3 q3 : Nat} {cs : List Int} {it : Itm} (h : pItm c v true p q a = (true, p3, q3, cs, it)) : ∃ ps qs css Ss T cs3, ((1 ≤ c p ∧ c p ≤ 4) ∧ c p = kLaw (c p) + 1 ∧ kLaw (c p) ≤ 3) ∧ it = (kLaw (c p), Ss, T, 1) ∧ cs = css ++ cs3 ∧ pIf c v 9 17 ps qs (a + css.length) = (true, p3, q3, cs3, T) ∧ ((c p ≤ 2 ∧ ∃ cs0 D, pE c v 9 17 30 0 0 (p + 1) q a = (true, ps, qs, cs0, D) ∧ Ss = [(a, D)] ∧ css = cs0 ++ [0]) ∨ (3 ≤ c p ∧ ps = p + 1 ∧ qs = q ∧ Ss = [] ∧ css = [])) := by
  unfold pItm at h
  by_cases k9 : kOf true (c p) = 9
  · rw [if_pos k9] at h; cases h
  · rw [if_neg k9] at h
    have k9 : ¬ kLaw (c p) = 9 := k9
    obtain ⟨k1, k2, k3⟩ := kLaw_c k9
    obtain ⟨p1, q1, cs1, Ss, e1, e2⟩ := pThen_ok (by rw [h])
    rw [e2] at h
    obtain ⟨p2, q2, cs2, t, e3, e4⟩ := pThen_ok (by rw [h])
    rw [e4] at h
    obtain ⟨p4, q4, cs4, T, e5, e6⟩ := pThen_ok (by rw [h])
    rw [e6] at h
    have e3 : ((true, p1, q1, [], 1) : pR Int) = (true, p2, q2, cs2, t) := e3
    simp only [Prod.mk.injEq, true_and] at h e3
    obtain ⟨rfl, rfl, -, rfl⟩ := e3
    obtain ⟨rfl, rfl, rfl, rfl⟩ := h
    refine ⟨p1, q1, cs1, Ss, T, cs4, ⟨k1, k2, k3⟩, rfl, rfl, e5, ?_⟩
    have e1 : pSum0 c v 9 17 (seps true (kLaw (c p))) (p + 1) q a = (true, p1, q1, cs1, Ss) := e1
    by_cases g : kLaw (c p) ≤ 1
    · left
      refine ⟨by omega, ?_⟩
      rw [show seps true (kLaw (c p)) = some [] from if_pos g] at e1
      have e1 : pThen (pE c v 9 17 30 0 0 (p + 1) q a) [] (fun p1 q1 cs D => ((true, p1, q1, cs ++ [0], [(a, D)]) : pR (List (Nat × Den)))) = (true, p1, q1, cs1, Ss) := e1
      obtain ⟨p5, q5, cs5, D, e7, e8⟩ := pThen_ok (by rw [e1])
      rw [e8] at e1
      simp only [Prod.mk.injEq, true_and] at e1
      obtain ⟨rfl, rfl, rfl, rfl⟩ := e1
      exact ⟨cs5, D, e7, rfl, rfl⟩
    · right
      rw [show seps true (kLaw (c p)) = none from if_neg g] at e1
      have e1 : ((true, p + 1, q, [], []) : pR (List (Nat × Den))) = (true, p1, q1, cs1, Ss) := e1
      simp only [Prod.mk.injEq, true_and] at e1
      obtain ⟨rfl, rfl, rfl, rfl⟩ := e1
      exact ⟨by omega, rfl, rfl, rfl, rfl⟩
theorem pIf_ok {c v : Nat → Int} {fw lw : Int} {N p q a p1 q1 : Nat} {cs : List Int} {T : Option (Nat × DenB)} (hN : ∀ p, N ≤ p → c p = 0) (hf : 0 < fw) (hp : p ≤ N) (hq : q ≤ 50) (h : pIf c v fw lw p q a = (true, p1, q1, cs, T)) : p ≤ p1 ∧ p1 ≤ N ∧ q ≤ q1 ∧ q1 ≤ 50 ∧ cs.length ≤ p1 - p := by
  unfold pIf at h
  by_cases c5 : c p = 5
  · rw [if_pos c5] at h
    have hp2 : p < N := by
      rcases Nat.lt_or_ge p N with z | z
      · exact z
      · have := hN p z; omega
    obtain ⟨p5, q5, cs5, D, e7, e8⟩ := pThen_ok (by rw [h])
    rw [e8] at h
    simp only [Prod.mk.injEq, true_and] at h
    obtain ⟨rfl, rfl, rfl, rfl⟩ := h
    have s2 := pT_ok (v := v) (lw := lw) hN hf 60 0 0 (p + 1) q a hp2 hq
    rw [e7] at s2
    obtain ⟨a1, a2, a3, a4, a5⟩ := s2 rfl
    simp only at a1 a2 a3 a4 a5
    exact ⟨by omega, a2, a3, a4, by simp only [List.length_append, List.length_cons, List.length_nil]; omega⟩
  · rw [if_neg c5] at h
    simp only [Prod.mk.injEq, true_and] at h
    obtain ⟨rfl, rfl, rfl, rfl⟩ := h
    exact ⟨Nat.le_refl _, hp, Nat.le_refl _, hq, by simp⟩
theorem m_told_lp {d : Nat} {P : Option Value → qMe → Prop} {M : qMe} {b : Int} {N : Nat} {c v e : Nat → Int} {head cell w sp hi wo : Int} {kk : Nat} {T : Int} {is0 : List Itm} {p0 q0 : Nat} {cs0 : List Int} {x9 x10 x11 x12 x13 : Option Value} (hE : Ev M b N 9 c v e) (hg : mZ M 479 22 = b) (hk : head = kk + 1) (hk3 : kk ≤ 3) (h0 : 1 ≤ hi ∧ hi ≤ 999) (hw : 0 ≤ wo ∧ wo ≤ 999) (hT : pText c v true N = (true, p0, q0, cs0, is0)) (eT : tolds kk hi e is0 wo = T) (hP : ∀ M1, Dif M M1 DEv → P (some (.int (iz T))) M1) : wp (lp (f_140_191 (cal (d + 160))) qLF [some (.ref 479), some (.int (iz head)), some (.int (iz cell)), some (.int (iz w)), some (.int (iz sp)), some (.int (iz hi)), some (.int (iz wo)), some (.long (lz wo)), none, x9, x10, x11, x12, x13] [] M) P := by
  refine wp_lpq (fun k L M' => ∃ (t : Int) (x9 x10 x11 x12 x13 : Option Value), L = [some (.ref 479), some (.int (iz head)), some (.int (iz cell)), some (.int (iz w)), some (.int (iz sp)), some (.int (iz hi)), some (.int (iz wo)), some (.long (lz t)), none, x9, x10, x11, x12, x13] ∧ (0 ≤ t ∧ t ≤ 999) ∧ Dif M M' DEv ∧ ((∃ (m p q a p1 q1 : Nat) (cs : List Int) (is : List Itm), k = m + 1 ∧ p ≤ N ∧ q ≤ 50 ∧ pTxt c v true N m p q a = (true, p1, q1, cs, is) ∧ mZ M' 479 22 = b + p ∧ tolds kk hi e is t = T) ∨ (k = 0 ∧ mZ M' 479 22 = b + N + 1 ∧ t = T))) (k := 13) ⟨wo, x9, x10, x11, x12, x13, rfl, hw, Dif.rfl', Or.inl ⟨12, 0, 0, 0, p0, q0, cs0, is0, rfl, Nat.zero_le _, Nat.zero_le _, hT, by rw [hg]; omega, eT⟩⟩ (by decide) ?_
  clear hg eT hT
  rintro k L M' g ⟨t, y9, y10, y11, y12, y13, rfl, ht, hD, hA⟩ hg2
  have hE' := Ev_k hE hD
  have h := hE'.1
  have hN := h.1
  have hbb := hE.2.1
  have hge := hE'.2.2.1
  have hz : ∀ p, N ≤ p → c p = 0 := hE.2.2.2.2.2.1
  have hlt : ∀ p, ¬ c p = 0 → p < N := fun p q => by
    rcases Nat.lt_or_ge p N with z | z
    · exact z
    · exact absurd (hz p z) q
  rcases hA with ⟨m, p, q, a, p1, q1, cs, is, rfl, hp, hq, hx, hg, ht2⟩ | ⟨rfl, hg, rfl⟩
  · cases m with
    | zero => cases hx
    | succ m =>
      unfold pTxt at hx
      obtain ⟨p3, q3, cs3, it, e1, e2⟩ := pThen_ok (by rw [hx])
      rw [e2] at hx
      obtain ⟨ps, qs, css, Ss, TT, cs4, ⟨k1, k2, k3⟩, hit, -, hI, hcase⟩ := pItm_law e1
      have hpN := hlt p (by omega)
      have cb := Ev_c hE' p
      have qc := m_codeAt (d := d + 159) (p := p) hE' rfl (by omega)
      have hE0 : Ev (qsI (qsI M' 479 24 (iz 0)) 479 22 (iz (b + p + 1))) b N 9 c v e := Ev_I (Ev_I hE' (Or.inr rfl)) (Or.inl rfl)
      have hD0 : Dif M (qsI (qsI M' 479 24 (iz 0)) 479 22 (iz (b + p + 1))) DEv := (hD.I (by unfold DEv; omega)).I (by unfold DEv; omega)
      have hb0 : mZ (qsI (qsI M' 479 24 (iz 0)) 479 22 (iz (b + p + 1))) 479 24 = 0 := by rw [mZ_nk (by decide), mZ_sm rfl (by decide) (by decide)]
      have hg0 : mZ (qsI (qsI M' 479 24 (iz 0)) 479 22 (iz (b + p + 1))) 479 22 = b + (p + 1 : Nat) := by rw [mZ_sm rfl (by omega) (by omega)]; omega
      -- behind the item
      have nxt : ∀ (M1 : qMe) (y9 y10 y11 y12 y13 : Option Value) (t' : Int), (0 ≤ t' ∧ t' ≤ 999) → Dif M M1 DEv → mZ M1 479 22 = b + p3 + 1 → p3 ≤ N → q3 ≤ 50 → t' = (if it.1 = kk ∧ itest it.2.2.1 e = some true then (match isum it.1 it.2.1 e with
          | some s => clamp hi s
          | none => t) else t) → wp (g [some (.ref 479), some (.int (iz head)), some (.int (iz cell)), some (.int (iz w)), some (.int (iz sp)), some (.int (iz hi)), some (.int (iz wo)), some (.long (lz t')), none, y9, y10, y11, y12, y13] [] M1) P := by
        intro M1 y9 y10 y11 y12 y13 t' ht' hD1 hg1 hp3 hq3 et
        by_cases c9 : c p3 = 159
        · rw [if_pos c9] at hx
          obtain ⟨p5, q5, cs5, is5, e5, e6⟩ := pThen_ok (by rw [hx])
          rw [e6] at hx
          simp only [Prod.mk.injEq, true_and] at hx
          obtain ⟨-, -, -, rfl⟩ := hx
          have hp3 := hlt p3 (by omega)
          refine hg2 (m + 1) _ M1 (by omega) ⟨t', y9, y10, y11, y12, y13, rfl, ht', hD1, Or.inl ⟨m, p3 + 1, q3, _, p5, q5, cs5, is5, rfl, hp3, hq3, e5, by rw [hg1]; omega, ?_⟩⟩
          rw [et]
          exact ht2
        · rw [if_neg c9] at hx
          by_cases cN : p3 = N
          · rw [if_pos cN] at hx
            simp only [Prod.mk.injEq, true_and] at hx
            obtain ⟨-, -, -, rfl⟩ := hx
            refine hg2 0 _ M1 (by omega) ⟨t', y9, y10, y11, y12, y13, rfl, ht', hD1, Or.inr ⟨rfl, by rw [hg1, cN], ?_⟩⟩
            rw [et]
            exact ht2
          · rw [if_neg cN] at hx; cases hx
      have cl : ∀ z, 0 ≤ clamp hi z ∧ clamp hi z ≤ 999 := fun z => by
        unfold clamp
        split
        · omega
        · split <;> omega
      rcases hcase with ⟨c2, cs0, D, hpE, hSs, -⟩ | ⟨c2, rfl, rfl, hSs, -⟩
      · have s0 := m_E (b := b) (e := e) (lw := 17) (by decide) (by decide) (by decide) 30 0 0 (p + 1) q a (by omega) hpN hq (by rw [hpE]) (d + 127) _ 1 0 hE0 hg0 hb0 (Or.inl rfl) (Or.inr rfl)
        rw [hpE] at s0
        have so := pE_ok (c := c) (v := v) (fw := 9) (lw := 17) (N := N) hz (by decide) 30 0 0 (p + 1) q a hpN hq
        rw [hpE] at so
        obtain ⟨o1, o2, o3, o4, o5⟩ := so rfl
        simp only at o1 o2 o3 o4 o5
        have io := pIf_ok hz (by decide) o2 o4 hI
        simp (disch := first | assumption | decide | omega) only [n_140_0, n_140_239, n_140_277, n_140_335, n_140_337, n_140_350, f_140_191, z_iconst, z_bipush, z_sipush, z_ldc, z_ldcs, z_ldcw, z_ldc2, z_lconst0, z_lconst1, z_null, z_getstatic, z_iload_0, z_iload_1, z_iload_2, z_iload_3, z_iload, z_istore_0, z_istore_1, z_istore_2, z_istore_3, z_istore, z_lload_0, z_lload_1, z_lload_2, z_lload_3, z_lload, z_lstore_0, z_lstore_1, z_lstore_2, z_lstore_3, z_lstore, z_aload_0, z_aload_1, z_aload_2, z_aload_3, z_aload, z_astore_0, z_astore_1, z_astore_2, z_astore_3, z_astore, ald_0, ald_s, z_iinc, qst1_1i, qst2_1i, qst1_1r, qst2_1r, qst1_1u, qst2_1u, qst1_1n, qst2_1n, qst1_1l, qst2_1l, qst1_0, qst2_0, qst1_s, qst2_s, z_iadd, z_isub, z_imul, z_iand, z_ior, z_ixor, z_ishl, z_ishr, z_idiv, z_irem, z_ladd, z_lsub, z_lmul, z_land, z_lor, z_ldiv, z_lrem, z_ineg, z_lshl, z_lshr, z_i2l, z_l2i, z_i2b, z_i2c, z_lcmp, z_dupi, z_dupr, z_popi, z_popr, z_dup2, z_goto, z_get0, z_get1, z_get2, z_get3, z_put0, z_put1, z_put2, z_put2n, z_put3, z_iaload, z_baload, z_laload, z_aaload, z_iastore, z_bastore, z_lastore, z_aastore, z_aastoren, z_arraylength, z_new, z_newarray, z_anewarray, z_multi, z_objinit, z_is0, z_iv0, z_ip0, z_is1, z_iv1, z_ip1, z_is2, z_iv2, z_ip2, z_is3, z_iv3, z_ip3, z_is4, z_iv4, z_ip4, z_is5, z_iv5, z_ip5, z_is6, z_iv6, z_ip6, z_is7, z_iv7, z_ip7, z_m991, z_m992, z_m993, z_m994, z_m995, z_m996, z_m998, acal_0, acal_1, acal_2, acal_3, acal_4, aK_v, aK_n, sF_c, sF_n, b_nr, b_nn, r_I, r_Z, r_L, r_A, r_V, sw_F, sw_n, gd_tt, is01_bzT, is01_0, is01_1, qrv_s, qrv_n, bi_eq_t, bi_eq_f, bi_ne_t, bi_ne_f, bi_lt_t, bi_lt_f, bi_ge_t, bi_ge_f, bi_gt_t, bi_gt_f, bi_le_t, bi_le_f, bc_eq_t, bc_eq_f, bc_ne_t, bc_ne_f, bc_lt_t, bc_lt_f, bc_ge_t, bc_ge_f, bc_gt_t, bc_gt_f, bc_le_t, bc_le_f, bb_eq_t, bb_eq_f, bb_ne_t, bb_ne_f, sc_t, sc_f, b_nr, b_nn, mI_J, mI_R, mJ_I, mJ_R, mR_I, mR_J, mK_I, mK_J, mK_R, mN_I, mN_J, mN_R, inM_I, inM_J, inM_R, mZ_nc, mZ_nk, mZ_sm, mZ_J, mZ_R, mJ_nc, mJ_ni, mJ_sm, mI_Z, iz_add, iz_sub, iz_mul, iz_neg, iz_lt, iz_le, iz_eq, iz_clamp, iz_inB, iz_div, iz_rem, shK h, shR h, inM_lit, and_self, true_and, and_true, true_or, or_true, not_true_eq_false, not_false_eq_true, Nat.reduceEqDiff, reduceCtorEq, Int.reduceNeg, Int.reduceSub, Int.reduceAdd, Int.reduceMul, Int.reduceToNat, Int.reduceEq, Int.neg_neg, Int.cast_ofNat_Int, Nat.reduceAdd, Nat.reduceMul, Nat.reduceSub, gd_t, emod_r, iz_0, Int.zero_add, Int.add_zero, wp_some, lz_add, lz_sub, lz_mul, lz_0, lz_1, lz_of, lz_nz, lz_i2l, lz_l2i, lz_rem, lz_div, is01_i, lcmp_lt, lcmp_eq, lcmp_gt, hg, hge, qc]
        refine wp_cL s0 (fun z M1 k1' => ?_)
        obtain ⟨hD1, hg1, hr1⟩ := k1'
        have hE1 := Ev_k hE0 hD1
        have hr5 := hr1.2.2.2.2 rfl rfl
        have hr2 := hr1.2.1
        refine m_told_if hE1 (hD0.tr hD1) hg1 (by omega) o2 o4 hI io.2.1 (by omega) (by omega) h0 hr1.1 (fun M2 y11 y12 y13 hD2 hg2' => ?_)
        refine nxt M2 _ _ _ _ _ _ (by split; exact cl z; exact ht) hD2 hg2' io.2.1 io.2.2.2.1 ?_
        subst hit hSs
        have hs : isum (kLaw (c p)) [(a, D)] e = D e := if_pos (by omega)
        simp only [hs]
        rcases hr5 with ⟨w1, w2⟩ | ⟨w1, w2⟩
        · have w1 : D e = some z := w1
          rw [w1]
          by_cases q1 : kLaw (c p) = kk ∧ itest TT e = some true
          · rw [if_pos q1, if_pos ⟨by omega, q1.2, w2⟩]
          · rw [if_neg q1, if_neg (fun q => q1 ⟨by omega, q.2.1⟩)]
        · have w1 : D e = none := w1
          rw [w1, if_neg (fun q => by omega)]
          simp only [ite_self]
      · have io := pIf_ok hz (by decide) hpN hq hI
        have fin := m_told_if (d := d) (g := g) (P := P) (head := head) (cell := cell) (w := w) (sp := sp) (hi := hi) (wo := wo) (t := t) (is := c p) (z := 1) (x10 := y10) (x11 := y11) (x12 := y12) (x13 := y13) hE0 hD0 hg0 (by omega) hpN hq hI io.2.1 (by omega) (by omega) h0 (by omega) (fun M2 y11 y12 y13 hD2 hg2' => by
          refine nxt M2 _ _ _ _ _ _ (by split; exact cl 1; exact ht) hD2 hg2' io.2.1 io.2.2.2.1 ?_
          subst hit hSs
          have hs : isum (kLaw (c p)) [] e = some 1 := if_neg (by omega)
          simp only [hs]
          by_cases q1 : kLaw (c p) = kk ∧ itest TT e = some true
          · rw [if_pos q1, if_pos ⟨by omega, q1.2, hb0⟩]
          · rw [if_neg q1, if_neg (fun q => q1 ⟨by omega, q.2.1⟩)])
        by_cases c3 : c p = 3
        · simp (disch := first | assumption | decide | omega) only [n_140_0, n_140_239, n_140_277, n_140_335, n_140_337, n_140_350, f_140_191, z_iconst, z_bipush, z_sipush, z_ldc, z_ldcs, z_ldcw, z_ldc2, z_lconst0, z_lconst1, z_null, z_getstatic, z_iload_0, z_iload_1, z_iload_2, z_iload_3, z_iload, z_istore_0, z_istore_1, z_istore_2, z_istore_3, z_istore, z_lload_0, z_lload_1, z_lload_2, z_lload_3, z_lload, z_lstore_0, z_lstore_1, z_lstore_2, z_lstore_3, z_lstore, z_aload_0, z_aload_1, z_aload_2, z_aload_3, z_aload, z_astore_0, z_astore_1, z_astore_2, z_astore_3, z_astore, ald_0, ald_s, z_iinc, qst1_1i, qst2_1i, qst1_1r, qst2_1r, qst1_1u, qst2_1u, qst1_1n, qst2_1n, qst1_1l, qst2_1l, qst1_0, qst2_0, qst1_s, qst2_s, z_iadd, z_isub, z_imul, z_iand, z_ior, z_ixor, z_ishl, z_ishr, z_idiv, z_irem, z_ladd, z_lsub, z_lmul, z_land, z_lor, z_ldiv, z_lrem, z_ineg, z_lshl, z_lshr, z_i2l, z_l2i, z_i2b, z_i2c, z_lcmp, z_dupi, z_dupr, z_popi, z_popr, z_dup2, z_goto, z_get0, z_get1, z_get2, z_get3, z_put0, z_put1, z_put2, z_put2n, z_put3, z_iaload, z_baload, z_laload, z_aaload, z_iastore, z_bastore, z_lastore, z_aastore, z_aastoren, z_arraylength, z_new, z_newarray, z_anewarray, z_multi, z_objinit, z_is0, z_iv0, z_ip0, z_is1, z_iv1, z_ip1, z_is2, z_iv2, z_ip2, z_is3, z_iv3, z_ip3, z_is4, z_iv4, z_ip4, z_is5, z_iv5, z_ip5, z_is6, z_iv6, z_ip6, z_is7, z_iv7, z_ip7, z_m991, z_m992, z_m993, z_m994, z_m995, z_m996, z_m998, acal_0, acal_1, acal_2, acal_3, acal_4, aK_v, aK_n, sF_c, sF_n, b_nr, b_nn, r_I, r_Z, r_L, r_A, r_V, sw_F, sw_n, gd_tt, is01_bzT, is01_0, is01_1, qrv_s, qrv_n, bi_eq_t, bi_eq_f, bi_ne_t, bi_ne_f, bi_lt_t, bi_lt_f, bi_ge_t, bi_ge_f, bi_gt_t, bi_gt_f, bi_le_t, bi_le_f, bc_eq_t, bc_eq_f, bc_ne_t, bc_ne_f, bc_lt_t, bc_lt_f, bc_ge_t, bc_ge_f, bc_gt_t, bc_gt_f, bc_le_t, bc_le_f, bb_eq_t, bb_eq_f, bb_ne_t, bb_ne_f, sc_t, sc_f, b_nr, b_nn, mI_J, mI_R, mJ_I, mJ_R, mR_I, mR_J, mK_I, mK_J, mK_R, mN_I, mN_J, mN_R, inM_I, inM_J, inM_R, mZ_nc, mZ_nk, mZ_sm, mZ_J, mZ_R, mJ_nc, mJ_ni, mJ_sm, mI_Z, iz_add, iz_sub, iz_mul, iz_neg, iz_lt, iz_le, iz_eq, iz_clamp, iz_inB, iz_div, iz_rem, shK h, shR h, inM_lit, and_self, true_and, and_true, true_or, or_true, not_true_eq_false, not_false_eq_true, Nat.reduceEqDiff, reduceCtorEq, Int.reduceNeg, Int.reduceSub, Int.reduceAdd, Int.reduceMul, Int.reduceToNat, Int.reduceEq, Int.neg_neg, Int.cast_ofNat_Int, Nat.reduceAdd, Nat.reduceMul, Nat.reduceSub, gd_t, emod_r, iz_0, Int.zero_add, Int.add_zero, wp_some, lz_add, lz_sub, lz_mul, lz_0, lz_1, lz_of, lz_nz, lz_i2l, lz_l2i, lz_rem, lz_div, is01_i, lcmp_lt, lcmp_eq, lcmp_gt, hg, hge, qc]
          exact fin
        · simp (disch := first | assumption | decide | omega) only [n_140_0, n_140_239, n_140_277, n_140_335, n_140_337, n_140_350, f_140_191, z_iconst, z_bipush, z_sipush, z_ldc, z_ldcs, z_ldcw, z_ldc2, z_lconst0, z_lconst1, z_null, z_getstatic, z_iload_0, z_iload_1, z_iload_2, z_iload_3, z_iload, z_istore_0, z_istore_1, z_istore_2, z_istore_3, z_istore, z_lload_0, z_lload_1, z_lload_2, z_lload_3, z_lload, z_lstore_0, z_lstore_1, z_lstore_2, z_lstore_3, z_lstore, z_aload_0, z_aload_1, z_aload_2, z_aload_3, z_aload, z_astore_0, z_astore_1, z_astore_2, z_astore_3, z_astore, ald_0, ald_s, z_iinc, qst1_1i, qst2_1i, qst1_1r, qst2_1r, qst1_1u, qst2_1u, qst1_1n, qst2_1n, qst1_1l, qst2_1l, qst1_0, qst2_0, qst1_s, qst2_s, z_iadd, z_isub, z_imul, z_iand, z_ior, z_ixor, z_ishl, z_ishr, z_idiv, z_irem, z_ladd, z_lsub, z_lmul, z_land, z_lor, z_ldiv, z_lrem, z_ineg, z_lshl, z_lshr, z_i2l, z_l2i, z_i2b, z_i2c, z_lcmp, z_dupi, z_dupr, z_popi, z_popr, z_dup2, z_goto, z_get0, z_get1, z_get2, z_get3, z_put0, z_put1, z_put2, z_put2n, z_put3, z_iaload, z_baload, z_laload, z_aaload, z_iastore, z_bastore, z_lastore, z_aastore, z_aastoren, z_arraylength, z_new, z_newarray, z_anewarray, z_multi, z_objinit, z_is0, z_iv0, z_ip0, z_is1, z_iv1, z_ip1, z_is2, z_iv2, z_ip2, z_is3, z_iv3, z_ip3, z_is4, z_iv4, z_ip4, z_is5, z_iv5, z_ip5, z_is6, z_iv6, z_ip6, z_is7, z_iv7, z_ip7, z_m991, z_m992, z_m993, z_m994, z_m995, z_m996, z_m998, acal_0, acal_1, acal_2, acal_3, acal_4, aK_v, aK_n, sF_c, sF_n, b_nr, b_nn, r_I, r_Z, r_L, r_A, r_V, sw_F, sw_n, gd_tt, is01_bzT, is01_0, is01_1, qrv_s, qrv_n, bi_eq_t, bi_eq_f, bi_ne_t, bi_ne_f, bi_lt_t, bi_lt_f, bi_ge_t, bi_ge_f, bi_gt_t, bi_gt_f, bi_le_t, bi_le_f, bc_eq_t, bc_eq_f, bc_ne_t, bc_ne_f, bc_lt_t, bc_lt_f, bc_ge_t, bc_ge_f, bc_gt_t, bc_gt_f, bc_le_t, bc_le_f, bb_eq_t, bb_eq_f, bb_ne_t, bb_ne_f, sc_t, sc_f, b_nr, b_nn, mI_J, mI_R, mJ_I, mJ_R, mR_I, mR_J, mK_I, mK_J, mK_R, mN_I, mN_J, mN_R, inM_I, inM_J, inM_R, mZ_nc, mZ_nk, mZ_sm, mZ_J, mZ_R, mJ_nc, mJ_ni, mJ_sm, mI_Z, iz_add, iz_sub, iz_mul, iz_neg, iz_lt, iz_le, iz_eq, iz_clamp, iz_inB, iz_div, iz_rem, shK h, shR h, inM_lit, and_self, true_and, and_true, true_or, or_true, not_true_eq_false, not_false_eq_true, Nat.reduceEqDiff, reduceCtorEq, Int.reduceNeg, Int.reduceSub, Int.reduceAdd, Int.reduceMul, Int.reduceToNat, Int.reduceEq, Int.neg_neg, Int.cast_ofNat_Int, Nat.reduceAdd, Nat.reduceMul, Nat.reduceSub, gd_t, emod_r, iz_0, Int.zero_add, Int.add_zero, wp_some, lz_add, lz_sub, lz_mul, lz_0, lz_1, lz_of, lz_nz, lz_i2l, lz_l2i, lz_rem, lz_div, is01_i, lcmp_lt, lcmp_eq, lcmp_gt, hg, hge, qc]
          exact fin
  · simp (disch := first | assumption | decide | omega) only [n_140_0, n_140_239, n_140_277, n_140_335, n_140_337, n_140_350, f_140_191, z_iconst, z_bipush, z_sipush, z_ldc, z_ldcs, z_ldcw, z_ldc2, z_lconst0, z_lconst1, z_null, z_getstatic, z_iload_0, z_iload_1, z_iload_2, z_iload_3, z_iload, z_istore_0, z_istore_1, z_istore_2, z_istore_3, z_istore, z_lload_0, z_lload_1, z_lload_2, z_lload_3, z_lload, z_lstore_0, z_lstore_1, z_lstore_2, z_lstore_3, z_lstore, z_aload_0, z_aload_1, z_aload_2, z_aload_3, z_aload, z_astore_0, z_astore_1, z_astore_2, z_astore_3, z_astore, ald_0, ald_s, z_iinc, qst1_1i, qst2_1i, qst1_1r, qst2_1r, qst1_1u, qst2_1u, qst1_1n, qst2_1n, qst1_1l, qst2_1l, qst1_0, qst2_0, qst1_s, qst2_s, z_iadd, z_isub, z_imul, z_iand, z_ior, z_ixor, z_ishl, z_ishr, z_idiv, z_irem, z_ladd, z_lsub, z_lmul, z_land, z_lor, z_ldiv, z_lrem, z_ineg, z_lshl, z_lshr, z_i2l, z_l2i, z_i2b, z_i2c, z_lcmp, z_dupi, z_dupr, z_popi, z_popr, z_dup2, z_goto, z_get0, z_get1, z_get2, z_get3, z_put0, z_put1, z_put2, z_put2n, z_put3, z_iaload, z_baload, z_laload, z_aaload, z_iastore, z_bastore, z_lastore, z_aastore, z_aastoren, z_arraylength, z_new, z_newarray, z_anewarray, z_multi, z_objinit, z_is0, z_iv0, z_ip0, z_is1, z_iv1, z_ip1, z_is2, z_iv2, z_ip2, z_is3, z_iv3, z_ip3, z_is4, z_iv4, z_ip4, z_is5, z_iv5, z_ip5, z_is6, z_iv6, z_ip6, z_is7, z_iv7, z_ip7, z_m991, z_m992, z_m993, z_m994, z_m995, z_m996, z_m998, acal_0, acal_1, acal_2, acal_3, acal_4, aK_v, aK_n, sF_c, sF_n, b_nr, b_nn, r_I, r_Z, r_L, r_A, r_V, sw_F, sw_n, gd_tt, is01_bzT, is01_0, is01_1, qrv_s, qrv_n, bi_eq_t, bi_eq_f, bi_ne_t, bi_ne_f, bi_lt_t, bi_lt_f, bi_ge_t, bi_ge_f, bi_gt_t, bi_gt_f, bi_le_t, bi_le_f, bc_eq_t, bc_eq_f, bc_ne_t, bc_ne_f, bc_lt_t, bc_lt_f, bc_ge_t, bc_ge_f, bc_gt_t, bc_gt_f, bc_le_t, bc_le_f, bb_eq_t, bb_eq_f, bb_ne_t, bb_ne_f, sc_t, sc_f, b_nr, b_nn, mI_J, mI_R, mJ_I, mJ_R, mR_I, mR_J, mK_I, mK_J, mK_R, mN_I, mN_J, mN_R, inM_I, inM_J, inM_R, mZ_nc, mZ_nk, mZ_sm, mZ_J, mZ_R, mJ_nc, mJ_ni, mJ_sm, mI_Z, iz_add, iz_sub, iz_mul, iz_neg, iz_lt, iz_le, iz_eq, iz_clamp, iz_inB, iz_div, iz_rem, shK h, shR h, inM_lit, and_self, true_and, and_true, true_or, or_true, not_true_eq_false, not_false_eq_true, Nat.reduceEqDiff, reduceCtorEq, Int.reduceNeg, Int.reduceSub, Int.reduceAdd, Int.reduceMul, Int.reduceToNat, Int.reduceEq, Int.neg_neg, Int.cast_ofNat_Int, Nat.reduceAdd, Nat.reduceMul, Nat.reduceSub, gd_t, emod_r, iz_0, Int.zero_add, Int.add_zero, wp_some, lz_add, lz_sub, lz_mul, lz_0, lz_1, lz_of, lz_nz, lz_i2l, lz_l2i, lz_rem, lz_div, is01_i, lcmp_lt, lcmp_eq, lcmp_gt, hg, hge]
    exact hP M' hD

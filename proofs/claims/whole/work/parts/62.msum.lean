/-! m's sumOf, termOf, partOf -/
def EvZ (bM : Int) (D : Den) (e : Nat → Int) (l bk z : Int) : Prop := (-1000000000 ≤ z ∧ z ≤ 1000000000) ∧ (0 ≤ bM ∧ bM ≤ 1) ∧ (l = 0 → z = 0 ∧ bM = bk) ∧ (l = 1 → bk = 1 → bM = 1) ∧ (l = 1 → bk = 0 → (D e = some z ∧ bM = 0) ∨ (D e = none ∧ bM = 1))
theorem ev_bin {op : Nat} {D D2 : Den} {e : Nat → Int} {l bk z w y w2 b1 b2 b3 b4 : Int} (hl : l = 0 ∨ l = 1) (hbk : bk = 0 ∨ bk = 1) (r1 : EvZ b1 D e l bk z) (r2 : EvZ b2 D2 e l b1 w) (h0 : l = 0 → b3 = b2) (h1 : b2 = 1 → b3 = 1) (hy : l = 0 → y = 0) (hop : l = 1 → b3 = 0 → dop op z w = chk y) (hop2 : l = 1 → b2 = 0 → b3 = 1 → dop op z w = none) (B : (b3 = 1 ∧ w2 = 0 ∧ b4 = 1) ∨ (b3 = 0 ∧ l = 0 ∧ w2 = y ∧ b4 = 0) ∨ (b3 = 0 ∧ l = 1 ∧ chk y = some w2 ∧ w2 = y ∧ (-1000000000 ≤ y ∧ y ≤ 1000000000) ∧ b4 = 0) ∨ (b3 = 0 ∧ l = 1 ∧ chk y = none ∧ w2 = 0 ∧ b4 = 1)) : EvZ b4 (dbin op D D2) e l bk w2 := by
  obtain ⟨r1a, r1b, r1c, r1d, r1e⟩ := r1
  obtain ⟨r2a, r2b, r2c, r2d, r2e⟩ := r2
  have hb3 : b3 = 0 ∨ b3 = 1 := by
    rcases B with q | q | q | q
    · exact Or.inr q.1
    · exact Or.inl q.1
    · exact Or.inl q.1
    · exact Or.inl q.1
  refine ⟨?_, ?_, fun q => ?_, fun q q2 => ?_, fun q q2 => ?_⟩
  · rcases B with k | k | k | k
    · omega
    · have := hy k.2.1; omega
    · omega
    · omega
  · rcases B with k | k | k | k <;> omega
  · have := h0 q
    have := hy q
    have := r1c q
    have := r2c q
    rcases B with k | k | k | k
    · omega
    · omega
    · omega
    · omega
  · have a1 := r1d q q2
    have a2 := r2d q a1
    have a3 := h1 a2
    rcases B with k | k | k | k
    · exact k.2.2
    · omega
    · omega
    · omega
  · rcases r1e q q2 with ⟨d1, f1⟩ | ⟨d1, f1⟩
    · rcases r2e q f1 with ⟨d2, f2⟩ | ⟨d2, f2⟩
      · have ed : dbin op D D2 e = dop op z w := by unfold dbin; rw [d1]; simp only; rw [d2]
        rw [ed]
        rcases hb3 with g | g
        · rw [hop q g]
          rcases B with k | k | k | k
          · omega
          · omega
          · exact Or.inl ⟨k.2.2.1, k.2.2.2.2.2⟩
          · exact Or.inr ⟨k.2.2.1, k.2.2.2.2⟩
        · rw [hop2 q f2 g]
          rcases B with k | k | k | k
          · exact Or.inr ⟨rfl, k.2.2⟩
          · omega
          · omega
          · omega
      · have ed : dbin op D D2 e = none := by unfold dbin; rw [d1]; simp only; rw [d2]
        have a3 := h1 f2
        right
        refine ⟨ed, ?_⟩
        rcases B with k | k | k | k
        · exact k.2.2
        · omega
        · omega
        · omega
    · have ed : dbin op D D2 e = none := by unfold dbin; rw [d1]
      have a3 := h1 (r2d q f1)
      right
      refine ⟨ed, ?_⟩
      rcases B with k | k | k | k
      · exact k.2.2
      · omega
      · omega
      · omega
def EvC (dd y : Nat) (b : Int) (N : Nat) (fw : Int) (c v e : Nat → Int) (p : Nat) (r : pR Den) : Prop := ∀ (M : qMe) (l bk : Int), Ev M b N fw c v e → mZ M 479 22 = b + p → mZ M 479 24 = bk → (bk = 0 ∨ bk = 1) → (l = 0 ∨ l = 1) → wL (cal dd y [.ref 479, .int (iz l)] M) (fun z M1 => Dif M M1 DEv ∧ mZ M1 479 22 = b + r.2.1 ∧ EvZ (mZ M1 479 24) r.2.2.2.2 e l bk z)
theorem opA0 {c : Int} : (opA 0 c = 0 ∧ ¬ c = 143 ∧ ¬ c = 145) ∨ (opA 0 c = 6 ∧ c = 143) ∨ (opA 0 c = 7 ∧ c = 145) := by
  unfold opA
  rw [if_pos rfl]
  by_cases h : c = 143
  · rw [if_pos h]; exact Or.inr (Or.inl ⟨rfl, h⟩)
  · by_cases h2 : c = 145
    · rw [if_neg h, if_pos h2]; exact Or.inr (Or.inr ⟨rfl, h2⟩)
    · rw [if_neg h, if_neg h2]; exact Or.inl ⟨rfl, h, h2⟩
theorem opA1 {c : Int} : (opA 1 c = 0 ∧ ¬ c = 142 ∧ ¬ c = 147 ∧ ¬ c = 137) ∨ (opA 1 c = 8 ∧ c = 142) ∨ (opA 1 c = 9 ∧ c = 147) ∨ (opA 1 c = 10 ∧ c = 137) := by
  unfold opA
  rw [if_neg (by decide)]
  by_cases h : c = 142
  · rw [if_pos h]; exact Or.inr (Or.inl ⟨rfl, h⟩)
  · by_cases h2 : c = 147
    · rw [if_neg h, if_pos h2]; exact Or.inr (Or.inr (Or.inl ⟨rfl, h2⟩))
    · by_cases h3 : c = 137
      · rw [if_neg h, if_neg h2, if_pos h3]; exact Or.inr (Or.inr (Or.inr ⟨rfl, h3⟩))
      · rw [if_neg h, if_neg h2, if_neg h3]; exact Or.inl ⟨rfl, h, h2, h3⟩
section
variable {M : qMe} {b fw : Int} {N : Nat} {c v e : Nat → Int}
theorem m_sum_lp {d a k0 p0 q0 : Nat} {sub : Nat → Nat → Nat → pR Den} {R : pR Den} {cs0 : List Int} {D0 : Den} {M0 : qMe} {l bk z0 : Int} {x4 x5 x6 : Option Value} {P : Option Value → qMe → Prop} (hs : ∀ p q a, p ≤ N → q ≤ 50 → (sub p q a).1 = true → EvC (d + 3) 134 b N fw c v e p (sub p q a) ∧ (sub p q a).2.1 ≤ N ∧ (sub p q a).2.2.1 ≤ 50) (hE : Ev M b N fw c v e) (hl : l = 0 ∨ l = 1) (hbk : bk = 0 ∨ bk = 1) (hR : pLo c 0 a sub k0 p0 q0 cs0 D0 = R) (hok : R.1 = true) (hk : k0 < 100000) (hp0 : p0 ≤ N) (hq0 : q0 ≤ 50) (hD : Dif M M0 DEv) (hg : mZ M0 479 22 = b + p0) (hr : EvZ (mZ M0 479 24) D0 e l bk z0) (hP : ∀ z M1, Dif M M1 DEv → mZ M1 479 22 = b + R.2.1 → EvZ (mZ M1 479 24) R.2.2.2.2 e l bk z → P (some (.long (lz z))) M1) : wp (lp (f_133_6 (cal (d + 3))) qLF [some (.ref 479), some (.int (iz l)), some (.long (lz z0)), none, x4, x5, x6] [] M0) P := by
  refine wp_lpq (fun k L M' => ∃ (p q : Nat) (cs : List Int) (D : Den) (z : Int) (x4 x5 x6 : Option Value), L = [some (.ref 479), some (.int (iz l)), some (.long (lz z)), none, x4, x5, x6] ∧ pLo c 0 a sub k p q cs D = R ∧ p ≤ N ∧ q ≤ 50 ∧ Dif M M' DEv ∧ mZ M' 479 22 = b + p ∧ EvZ (mZ M' 479 24) D e l bk z) ⟨p0, q0, cs0, D0, z0, x4, x5, x6, rfl, hR, hp0, hq0, hD, hg, hr⟩ hk ?_
  clear hR hk hp0 hD hg hr
  rintro k L M' g ⟨p, q, cs, D, z, y4, y5, y6, rfl, hk, hp, hq, hD, hg, hr⟩ hg2
  cases k with
  | zero => rw [← hk] at hok; cases hok
  | succ k =>
    have hE' := Ev_k hE hD
    have h := hE'.1
    have hN := h.1
    have hb := hE.2.1
    have cb := Ev_c hE' p
    have qc := m_codeAt (d := d + 2) (p := p) hE' rfl (by omega)
    have rz := hr.1
    unfold pLo at hk
    rcases opA0 (c := c p) with ⟨e0, n1, n2⟩ | ho
    · rw [if_pos e0] at hk
      subst hk
      simp (disch := first | assumption | decide | omega) only [n_133_0, n_133_38, n_133_59, n_133_95, f_133_6, z_iconst, z_bipush, z_sipush, z_ldc, z_ldcs, z_ldcw, z_ldc2, z_lconst0, z_lconst1, z_null, z_getstatic, z_iload_0, z_iload_1, z_iload_2, z_iload_3, z_iload, z_istore_0, z_istore_1, z_istore_2, z_istore_3, z_istore, z_lload_0, z_lload_1, z_lload_2, z_lload_3, z_lload, z_lstore_0, z_lstore_1, z_lstore_2, z_lstore_3, z_lstore, z_aload_0, z_aload_1, z_aload_2, z_aload_3, z_aload, z_astore_0, z_astore_1, z_astore_2, z_astore_3, z_astore, ald_0, ald_s, z_iinc, qst1_1i, qst2_1i, qst1_1r, qst2_1r, qst1_1u, qst2_1u, qst1_1n, qst2_1n, qst1_1l, qst2_1l, qst1_0, qst2_0, qst1_s, qst2_s, z_iadd, z_isub, z_imul, z_iand, z_ior, z_ixor, z_ishl, z_ishr, z_idiv, z_irem, z_ladd, z_lsub, z_lmul, z_land, z_lor, z_ldiv, z_lrem, z_ineg, z_lshl, z_lshr, z_i2l, z_l2i, z_i2b, z_i2c, z_lcmp, z_dupi, z_dupr, z_popi, z_popr, z_dup2, z_goto, z_get0, z_get1, z_get2, z_get3, z_put0, z_put1, z_put2, z_put2n, z_put3, z_iaload, z_baload, z_laload, z_aaload, z_iastore, z_bastore, z_lastore, z_aastore, z_aastoren, z_arraylength, z_new, z_newarray, z_anewarray, z_multi, z_objinit, z_is0, z_iv0, z_ip0, z_is1, z_iv1, z_ip1, z_is2, z_iv2, z_ip2, z_is3, z_iv3, z_ip3, z_is4, z_iv4, z_ip4, z_is5, z_iv5, z_ip5, z_is6, z_iv6, z_ip6, z_is7, z_iv7, z_ip7, z_m991, z_m992, z_m993, z_m994, z_m995, z_m996, z_m998, acal_0, acal_1, acal_2, acal_3, acal_4, aK_v, aK_n, sF_c, sF_n, b_nr, b_nn, r_I, r_Z, r_L, r_A, r_V, sw_F, sw_n, gd_tt, is01_bzT, is01_0, is01_1, qrv_s, qrv_n, bi_eq_t, bi_eq_f, bi_ne_t, bi_ne_f, bi_lt_t, bi_lt_f, bi_ge_t, bi_ge_f, bi_gt_t, bi_gt_f, bi_le_t, bi_le_f, bc_eq_t, bc_eq_f, bc_ne_t, bc_ne_f, bc_lt_t, bc_lt_f, bc_ge_t, bc_ge_f, bc_gt_t, bc_gt_f, bc_le_t, bc_le_f, bb_eq_t, bb_eq_f, bb_ne_t, bb_ne_f, sc_t, sc_f, b_nr, b_nn, mI_J, mI_R, mJ_I, mJ_R, mR_I, mR_J, mK_I, mK_J, mK_R, mN_I, mN_J, mN_R, inM_I, inM_J, inM_R, mZ_nc, mZ_nk, mZ_sm, mZ_J, mZ_R, mJ_nc, mJ_ni, mJ_sm, mI_Z, iz_add, iz_sub, iz_mul, iz_neg, iz_lt, iz_le, iz_eq, iz_clamp, iz_inB, iz_div, iz_rem, shK h, shR h, inM_lit, and_self, true_and, and_true, true_or, or_true, not_true_eq_false, not_false_eq_true, Nat.reduceEqDiff, reduceCtorEq, Int.reduceNeg, Int.reduceSub, Int.reduceAdd, Int.reduceMul, Int.reduceToNat, Int.reduceEq, Int.neg_neg, Int.cast_ofNat_Int, Nat.reduceAdd, Nat.reduceMul, Nat.reduceSub, gd_t, emod_r, iz_0, Int.zero_add, Int.add_zero, wp_some, lz_add, lz_sub, lz_mul, lz_0, lz_1, lz_of, lz_nz, lz_i2l, lz_l2i, lz_rem, lz_div, is01_i, lcmp_lt, lcmp_eq, lcmp_gt, hg, qc, m_sign]
      exact hP z M' hD hg hr
    · have e0 : ¬ opA 0 (c p) = 0 := by rcases ho with ⟨k1, -⟩ | ⟨k1, -⟩ <;> rw [k1] <;> decide
      rw [if_neg e0] at hk
      obtain ⟨p2, q2, cs2, D2, e2, e3⟩ := pThen_ok (by rw [hk]; exact hok)
      rw [e3] at hk
      have hpN : p < N := by
        rcases Nat.lt_or_ge p N with z | z
        · exact z
        · exact absurd (hE.2.2.2.2.2.1 p z) (opA_s e0)
      obtain ⟨hc, hle, hlq⟩ := hs (p + 1) q (a + cs.length) hpN hq (by rw [e2])
      rw [e2] at hc hle hlq
      have b1 : mZ M' 479 24 = 0 ∨ mZ M' 479 24 = 1 := by have := hr.2.1; omega
      have s1 := hc (qsI M' 479 22 (iz (b + p + 1))) l (mZ M' 479 24) (Ev_k hE' (Dif.rfl'.I (by unfold DEv; omega))) (by rw [mZ_sm rfl (by omega) (by omega)]; omega) (mZ_nk (by decide)) b1 hl
      have cont : ∀ (w y : Int) (M3 : qMe) (pl : Value), Dif (qsI M' 479 22 (iz (b + p + 1))) M3 DEv ∧ mZ M3 479 22 = b + (true, p2, q2, cs2, D2).2.1 ∧ EvZ (mZ M3 479 24) (true, p2, q2, cs2, D2).2.2.2.2 e l (mZ M' 479 24) w → (-2000000000000000000 ≤ y ∧ y ≤ 2000000000000000000) → (l = 0 → y = 0) → dop (opA 0 (c p)) z w = chk y → wp (aK (cal (d + 3) 132 [.ref 479, .long (lz y), .int (iz l)] M3) [] (fun s1 M1 => sF (cal (d + 3)) [(.lstore_n 2, 1, 0, 0, 0), (.goto (-94), 3, 6, 0, 0)] g [some (.ref 479), some (.int (iz l)), some (.long (lz z)), none, some pl, some (.long (lz w)), none] s1 M1)) P := by
        intro w y M3 pl ⟨hD3, hg3, hr3⟩ hy hy0 hop
        have h3 : shp M3 := (Ev_k (Ev_k hE' (Dif.rfl'.I (by unfold DEv; omega))) hD3).1
        have b3 : mZ M3 479 24 = 0 ∨ mZ M3 479 24 = 1 := by have := hr3.2.1; omega
        refine wp_cL (m_bounded (d := d + 2) h3 rfl b3 hl hy.1 hy.2) (fun w2 M4 q4 => ?_)
        obtain ⟨hD4, hg4, B⟩ := q4
        simp (disch := first | assumption | decide | omega) only [n_133_0, n_133_38, n_133_59, n_133_95, f_133_6, z_iconst, z_bipush, z_sipush, z_ldc, z_ldcs, z_ldcw, z_ldc2, z_lconst0, z_lconst1, z_null, z_getstatic, z_iload_0, z_iload_1, z_iload_2, z_iload_3, z_iload, z_istore_0, z_istore_1, z_istore_2, z_istore_3, z_istore, z_lload_0, z_lload_1, z_lload_2, z_lload_3, z_lload, z_lstore_0, z_lstore_1, z_lstore_2, z_lstore_3, z_lstore, z_aload_0, z_aload_1, z_aload_2, z_aload_3, z_aload, z_astore_0, z_astore_1, z_astore_2, z_astore_3, z_astore, ald_0, ald_s, z_iinc, qst1_1i, qst2_1i, qst1_1r, qst2_1r, qst1_1u, qst2_1u, qst1_1n, qst2_1n, qst1_1l, qst2_1l, qst1_0, qst2_0, qst1_s, qst2_s, z_iadd, z_isub, z_imul, z_iand, z_ior, z_ixor, z_ishl, z_ishr, z_idiv, z_irem, z_ladd, z_lsub, z_lmul, z_land, z_lor, z_ldiv, z_lrem, z_ineg, z_lshl, z_lshr, z_i2l, z_l2i, z_i2b, z_i2c, z_lcmp, z_dupi, z_dupr, z_popi, z_popr, z_dup2, z_goto, z_get0, z_get1, z_get2, z_get3, z_put0, z_put1, z_put2, z_put2n, z_put3, z_iaload, z_baload, z_laload, z_aaload, z_iastore, z_bastore, z_lastore, z_aastore, z_aastoren, z_arraylength, z_new, z_newarray, z_anewarray, z_multi, z_objinit, z_is0, z_iv0, z_ip0, z_is1, z_iv1, z_ip1, z_is2, z_iv2, z_ip2, z_is3, z_iv3, z_ip3, z_is4, z_iv4, z_ip4, z_is5, z_iv5, z_ip5, z_is6, z_iv6, z_ip6, z_is7, z_iv7, z_ip7, z_m991, z_m992, z_m993, z_m994, z_m995, z_m996, z_m998, acal_0, acal_1, acal_2, acal_3, acal_4, aK_v, aK_n, sF_c, sF_n, b_nr, b_nn, r_I, r_Z, r_L, r_A, r_V, sw_F, sw_n, gd_tt, is01_bzT, is01_0, is01_1, qrv_s, qrv_n, bi_eq_t, bi_eq_f, bi_ne_t, bi_ne_f, bi_lt_t, bi_lt_f, bi_ge_t, bi_ge_f, bi_gt_t, bi_gt_f, bi_le_t, bi_le_f, bc_eq_t, bc_eq_f, bc_ne_t, bc_ne_f, bc_lt_t, bc_lt_f, bc_ge_t, bc_ge_f, bc_gt_t, bc_gt_f, bc_le_t, bc_le_f, bb_eq_t, bb_eq_f, bb_ne_t, bb_ne_f, sc_t, sc_f, b_nr, b_nn, mI_J, mI_R, mJ_I, mJ_R, mR_I, mR_J, mK_I, mK_J, mK_R, mN_I, mN_J, mN_R, inM_I, inM_J, inM_R, mZ_nc, mZ_nk, mZ_sm, mZ_J, mZ_R, mJ_nc, mJ_ni, mJ_sm, mI_Z, iz_add, iz_sub, iz_mul, iz_neg, iz_lt, iz_le, iz_eq, iz_clamp, iz_inB, iz_div, iz_rem, shK h, shR h, inM_lit, and_self, true_and, and_true, true_or, or_true, not_true_eq_false, not_false_eq_true, Nat.reduceEqDiff, reduceCtorEq, Int.reduceNeg, Int.reduceSub, Int.reduceAdd, Int.reduceMul, Int.reduceToNat, Int.reduceEq, Int.neg_neg, Int.cast_ofNat_Int, Nat.reduceAdd, Nat.reduceMul, Nat.reduceSub, gd_t, emod_r, iz_0, Int.zero_add, Int.add_zero, wp_some, lz_add, lz_sub, lz_mul, lz_0, lz_1, lz_of, lz_nz, lz_i2l, lz_l2i, lz_rem, lz_div, is01_i, lcmp_lt, lcmp_eq, lcmp_gt]
        refine hg2 k _ M4 (by omega) ⟨p2, q2, _, _, w2, _, _, _, rfl, hk, hle, hlq, ?_, by rw [hg4]; exact hg3, ev_bin hl hbk hr hr3 (fun _ => rfl) (fun q => q) hy0 (fun _ _ => hop) (fun _ q1 q2 => by omega) B⟩
        exact ((hD.I (by unfold DEv; omega)).tr hD3).tr hD4
      rcases ho with ⟨k1, k2⟩ | ⟨k1, k2⟩
      · simp (disch := first | assumption | decide | omega) only [n_133_0, n_133_38, n_133_59, n_133_95, f_133_6, z_iconst, z_bipush, z_sipush, z_ldc, z_ldcs, z_ldcw, z_ldc2, z_lconst0, z_lconst1, z_null, z_getstatic, z_iload_0, z_iload_1, z_iload_2, z_iload_3, z_iload, z_istore_0, z_istore_1, z_istore_2, z_istore_3, z_istore, z_lload_0, z_lload_1, z_lload_2, z_lload_3, z_lload, z_lstore_0, z_lstore_1, z_lstore_2, z_lstore_3, z_lstore, z_aload_0, z_aload_1, z_aload_2, z_aload_3, z_aload, z_astore_0, z_astore_1, z_astore_2, z_astore_3, z_astore, ald_0, ald_s, z_iinc, qst1_1i, qst2_1i, qst1_1r, qst2_1r, qst1_1u, qst2_1u, qst1_1n, qst2_1n, qst1_1l, qst2_1l, qst1_0, qst2_0, qst1_s, qst2_s, z_iadd, z_isub, z_imul, z_iand, z_ior, z_ixor, z_ishl, z_ishr, z_idiv, z_irem, z_ladd, z_lsub, z_lmul, z_land, z_lor, z_ldiv, z_lrem, z_ineg, z_lshl, z_lshr, z_i2l, z_l2i, z_i2b, z_i2c, z_lcmp, z_dupi, z_dupr, z_popi, z_popr, z_dup2, z_goto, z_get0, z_get1, z_get2, z_get3, z_put0, z_put1, z_put2, z_put2n, z_put3, z_iaload, z_baload, z_laload, z_aaload, z_iastore, z_bastore, z_lastore, z_aastore, z_aastoren, z_arraylength, z_new, z_newarray, z_anewarray, z_multi, z_objinit, z_is0, z_iv0, z_ip0, z_is1, z_iv1, z_ip1, z_is2, z_iv2, z_ip2, z_is3, z_iv3, z_ip3, z_is4, z_iv4, z_ip4, z_is5, z_iv5, z_ip5, z_is6, z_iv6, z_ip6, z_is7, z_iv7, z_ip7, z_m991, z_m992, z_m993, z_m994, z_m995, z_m996, z_m998, acal_0, acal_1, acal_2, acal_3, acal_4, aK_v, aK_n, sF_c, sF_n, b_nr, b_nn, r_I, r_Z, r_L, r_A, r_V, sw_F, sw_n, gd_tt, is01_bzT, is01_0, is01_1, qrv_s, qrv_n, bi_eq_t, bi_eq_f, bi_ne_t, bi_ne_f, bi_lt_t, bi_lt_f, bi_ge_t, bi_ge_f, bi_gt_t, bi_gt_f, bi_le_t, bi_le_f, bc_eq_t, bc_eq_f, bc_ne_t, bc_ne_f, bc_lt_t, bc_lt_f, bc_ge_t, bc_ge_f, bc_gt_t, bc_gt_f, bc_le_t, bc_le_f, bb_eq_t, bb_eq_f, bb_ne_t, bb_ne_f, sc_t, sc_f, b_nr, b_nn, mI_J, mI_R, mJ_I, mJ_R, mR_I, mR_J, mK_I, mK_J, mK_R, mN_I, mN_J, mN_R, inM_I, inM_J, inM_R, mZ_nc, mZ_nk, mZ_sm, mZ_J, mZ_R, mJ_nc, mJ_ni, mJ_sm, mI_Z, iz_add, iz_sub, iz_mul, iz_neg, iz_lt, iz_le, iz_eq, iz_clamp, iz_inB, iz_div, iz_rem, shK h, shR h, inM_lit, and_self, true_and, and_true, true_or, or_true, not_true_eq_false, not_false_eq_true, Nat.reduceEqDiff, reduceCtorEq, Int.reduceNeg, Int.reduceSub, Int.reduceAdd, Int.reduceMul, Int.reduceToNat, Int.reduceEq, Int.neg_neg, Int.cast_ofNat_Int, Nat.reduceAdd, Nat.reduceMul, Nat.reduceSub, gd_t, emod_r, iz_0, Int.zero_add, Int.add_zero, wp_some, lz_add, lz_sub, lz_mul, lz_0, lz_1, lz_of, lz_nz, lz_i2l, lz_l2i, lz_rem, lz_div, is01_i, lcmp_lt, lcmp_eq, lcmp_gt, hg, qc, m_sign]
        refine wp_cL s1 (fun w M3 q3 => ?_)
        have h3 : shp M3 := (Ev_k (Ev_k hE' (Dif.rfl'.I (by unfold DEv; omega))) q3.1).1
        have hN3 := h3.1
        have rw3 := q3.2.2.1
        have rz0 := hr.2.2.1
        have rw0 := q3.2.2.2.2.1
        simp (disch := first | assumption | decide | omega) only [n_133_0, n_133_38, n_133_59, n_133_95, f_133_6, z_iconst, z_bipush, z_sipush, z_ldc, z_ldcs, z_ldcw, z_ldc2, z_lconst0, z_lconst1, z_null, z_getstatic, z_iload_0, z_iload_1, z_iload_2, z_iload_3, z_iload, z_istore_0, z_istore_1, z_istore_2, z_istore_3, z_istore, z_lload_0, z_lload_1, z_lload_2, z_lload_3, z_lload, z_lstore_0, z_lstore_1, z_lstore_2, z_lstore_3, z_lstore, z_aload_0, z_aload_1, z_aload_2, z_aload_3, z_aload, z_astore_0, z_astore_1, z_astore_2, z_astore_3, z_astore, ald_0, ald_s, z_iinc, qst1_1i, qst2_1i, qst1_1r, qst2_1r, qst1_1u, qst2_1u, qst1_1n, qst2_1n, qst1_1l, qst2_1l, qst1_0, qst2_0, qst1_s, qst2_s, z_iadd, z_isub, z_imul, z_iand, z_ior, z_ixor, z_ishl, z_ishr, z_idiv, z_irem, z_ladd, z_lsub, z_lmul, z_land, z_lor, z_ldiv, z_lrem, z_ineg, z_lshl, z_lshr, z_i2l, z_l2i, z_i2b, z_i2c, z_lcmp, z_dupi, z_dupr, z_popi, z_popr, z_dup2, z_goto, z_get0, z_get1, z_get2, z_get3, z_put0, z_put1, z_put2, z_put2n, z_put3, z_iaload, z_baload, z_laload, z_aaload, z_iastore, z_bastore, z_lastore, z_aastore, z_aastoren, z_arraylength, z_new, z_newarray, z_anewarray, z_multi, z_objinit, z_is0, z_iv0, z_ip0, z_is1, z_iv1, z_ip1, z_is2, z_iv2, z_ip2, z_is3, z_iv3, z_ip3, z_is4, z_iv4, z_ip4, z_is5, z_iv5, z_ip5, z_is6, z_iv6, z_ip6, z_is7, z_iv7, z_ip7, z_m991, z_m992, z_m993, z_m994, z_m995, z_m996, z_m998, acal_0, acal_1, acal_2, acal_3, acal_4, aK_v, aK_n, sF_c, sF_n, b_nr, b_nn, r_I, r_Z, r_L, r_A, r_V, sw_F, sw_n, gd_tt, is01_bzT, is01_0, is01_1, qrv_s, qrv_n, bi_eq_t, bi_eq_f, bi_ne_t, bi_ne_f, bi_lt_t, bi_lt_f, bi_ge_t, bi_ge_f, bi_gt_t, bi_gt_f, bi_le_t, bi_le_f, bc_eq_t, bc_eq_f, bc_ne_t, bc_ne_f, bc_lt_t, bc_lt_f, bc_ge_t, bc_ge_f, bc_gt_t, bc_gt_f, bc_le_t, bc_le_f, bb_eq_t, bb_eq_f, bb_ne_t, bb_ne_f, sc_t, sc_f, b_nr, b_nn, mI_J, mI_R, mJ_I, mJ_R, mR_I, mR_J, mK_I, mK_J, mK_R, mN_I, mN_J, mN_R, inM_I, inM_J, inM_R, mZ_nc, mZ_nk, mZ_sm, mZ_J, mZ_R, mJ_nc, mJ_ni, mJ_sm, mI_Z, iz_add, iz_sub, iz_mul, iz_neg, iz_lt, iz_le, iz_eq, iz_clamp, iz_inB, iz_div, iz_rem, shK h, shR h, inM_lit, and_self, true_and, and_true, true_or, or_true, not_true_eq_false, not_false_eq_true, Nat.reduceEqDiff, reduceCtorEq, Int.reduceNeg, Int.reduceSub, Int.reduceAdd, Int.reduceMul, Int.reduceToNat, Int.reduceEq, Int.neg_neg, Int.cast_ofNat_Int, Nat.reduceAdd, Nat.reduceMul, Nat.reduceSub, gd_t, emod_r, iz_0, Int.zero_add, Int.add_zero, wp_some, lz_add, lz_sub, lz_mul, lz_0, lz_1, lz_of, lz_nz, lz_i2l, lz_l2i, lz_rem, lz_div, is01_i, lcmp_lt, lcmp_eq, lcmp_gt, shK h3]
        exact cont w (z + w) M3 _ q3 (by omega) (fun q => by have := rz0 q; have := rw0 q; omega) (by rw [k1]; rfl)
      · simp (disch := first | assumption | decide | omega) only [n_133_0, n_133_38, n_133_59, n_133_95, f_133_6, z_iconst, z_bipush, z_sipush, z_ldc, z_ldcs, z_ldcw, z_ldc2, z_lconst0, z_lconst1, z_null, z_getstatic, z_iload_0, z_iload_1, z_iload_2, z_iload_3, z_iload, z_istore_0, z_istore_1, z_istore_2, z_istore_3, z_istore, z_lload_0, z_lload_1, z_lload_2, z_lload_3, z_lload, z_lstore_0, z_lstore_1, z_lstore_2, z_lstore_3, z_lstore, z_aload_0, z_aload_1, z_aload_2, z_aload_3, z_aload, z_astore_0, z_astore_1, z_astore_2, z_astore_3, z_astore, ald_0, ald_s, z_iinc, qst1_1i, qst2_1i, qst1_1r, qst2_1r, qst1_1u, qst2_1u, qst1_1n, qst2_1n, qst1_1l, qst2_1l, qst1_0, qst2_0, qst1_s, qst2_s, z_iadd, z_isub, z_imul, z_iand, z_ior, z_ixor, z_ishl, z_ishr, z_idiv, z_irem, z_ladd, z_lsub, z_lmul, z_land, z_lor, z_ldiv, z_lrem, z_ineg, z_lshl, z_lshr, z_i2l, z_l2i, z_i2b, z_i2c, z_lcmp, z_dupi, z_dupr, z_popi, z_popr, z_dup2, z_goto, z_get0, z_get1, z_get2, z_get3, z_put0, z_put1, z_put2, z_put2n, z_put3, z_iaload, z_baload, z_laload, z_aaload, z_iastore, z_bastore, z_lastore, z_aastore, z_aastoren, z_arraylength, z_new, z_newarray, z_anewarray, z_multi, z_objinit, z_is0, z_iv0, z_ip0, z_is1, z_iv1, z_ip1, z_is2, z_iv2, z_ip2, z_is3, z_iv3, z_ip3, z_is4, z_iv4, z_ip4, z_is5, z_iv5, z_ip5, z_is6, z_iv6, z_ip6, z_is7, z_iv7, z_ip7, z_m991, z_m992, z_m993, z_m994, z_m995, z_m996, z_m998, acal_0, acal_1, acal_2, acal_3, acal_4, aK_v, aK_n, sF_c, sF_n, b_nr, b_nn, r_I, r_Z, r_L, r_A, r_V, sw_F, sw_n, gd_tt, is01_bzT, is01_0, is01_1, qrv_s, qrv_n, bi_eq_t, bi_eq_f, bi_ne_t, bi_ne_f, bi_lt_t, bi_lt_f, bi_ge_t, bi_ge_f, bi_gt_t, bi_gt_f, bi_le_t, bi_le_f, bc_eq_t, bc_eq_f, bc_ne_t, bc_ne_f, bc_lt_t, bc_lt_f, bc_ge_t, bc_ge_f, bc_gt_t, bc_gt_f, bc_le_t, bc_le_f, bb_eq_t, bb_eq_f, bb_ne_t, bb_ne_f, sc_t, sc_f, b_nr, b_nn, mI_J, mI_R, mJ_I, mJ_R, mR_I, mR_J, mK_I, mK_J, mK_R, mN_I, mN_J, mN_R, inM_I, inM_J, inM_R, mZ_nc, mZ_nk, mZ_sm, mZ_J, mZ_R, mJ_nc, mJ_ni, mJ_sm, mI_Z, iz_add, iz_sub, iz_mul, iz_neg, iz_lt, iz_le, iz_eq, iz_clamp, iz_inB, iz_div, iz_rem, shK h, shR h, inM_lit, and_self, true_and, and_true, true_or, or_true, not_true_eq_false, not_false_eq_true, Nat.reduceEqDiff, reduceCtorEq, Int.reduceNeg, Int.reduceSub, Int.reduceAdd, Int.reduceMul, Int.reduceToNat, Int.reduceEq, Int.neg_neg, Int.cast_ofNat_Int, Nat.reduceAdd, Nat.reduceMul, Nat.reduceSub, gd_t, emod_r, iz_0, Int.zero_add, Int.add_zero, wp_some, lz_add, lz_sub, lz_mul, lz_0, lz_1, lz_of, lz_nz, lz_i2l, lz_l2i, lz_rem, lz_div, is01_i, lcmp_lt, lcmp_eq, lcmp_gt, hg, qc, m_sign]
        refine wp_cL s1 (fun w M3 q3 => ?_)
        have h3 : shp M3 := (Ev_k (Ev_k hE' (Dif.rfl'.I (by unfold DEv; omega))) q3.1).1
        have hN3 := h3.1
        have rw3 := q3.2.2.1
        have rz0 := hr.2.2.1
        have rw0 := q3.2.2.2.2.1
        simp (disch := first | assumption | decide | omega) only [n_133_0, n_133_38, n_133_59, n_133_95, f_133_6, z_iconst, z_bipush, z_sipush, z_ldc, z_ldcs, z_ldcw, z_ldc2, z_lconst0, z_lconst1, z_null, z_getstatic, z_iload_0, z_iload_1, z_iload_2, z_iload_3, z_iload, z_istore_0, z_istore_1, z_istore_2, z_istore_3, z_istore, z_lload_0, z_lload_1, z_lload_2, z_lload_3, z_lload, z_lstore_0, z_lstore_1, z_lstore_2, z_lstore_3, z_lstore, z_aload_0, z_aload_1, z_aload_2, z_aload_3, z_aload, z_astore_0, z_astore_1, z_astore_2, z_astore_3, z_astore, ald_0, ald_s, z_iinc, qst1_1i, qst2_1i, qst1_1r, qst2_1r, qst1_1u, qst2_1u, qst1_1n, qst2_1n, qst1_1l, qst2_1l, qst1_0, qst2_0, qst1_s, qst2_s, z_iadd, z_isub, z_imul, z_iand, z_ior, z_ixor, z_ishl, z_ishr, z_idiv, z_irem, z_ladd, z_lsub, z_lmul, z_land, z_lor, z_ldiv, z_lrem, z_ineg, z_lshl, z_lshr, z_i2l, z_l2i, z_i2b, z_i2c, z_lcmp, z_dupi, z_dupr, z_popi, z_popr, z_dup2, z_goto, z_get0, z_get1, z_get2, z_get3, z_put0, z_put1, z_put2, z_put2n, z_put3, z_iaload, z_baload, z_laload, z_aaload, z_iastore, z_bastore, z_lastore, z_aastore, z_aastoren, z_arraylength, z_new, z_newarray, z_anewarray, z_multi, z_objinit, z_is0, z_iv0, z_ip0, z_is1, z_iv1, z_ip1, z_is2, z_iv2, z_ip2, z_is3, z_iv3, z_ip3, z_is4, z_iv4, z_ip4, z_is5, z_iv5, z_ip5, z_is6, z_iv6, z_ip6, z_is7, z_iv7, z_ip7, z_m991, z_m992, z_m993, z_m994, z_m995, z_m996, z_m998, acal_0, acal_1, acal_2, acal_3, acal_4, aK_v, aK_n, sF_c, sF_n, b_nr, b_nn, r_I, r_Z, r_L, r_A, r_V, sw_F, sw_n, gd_tt, is01_bzT, is01_0, is01_1, qrv_s, qrv_n, bi_eq_t, bi_eq_f, bi_ne_t, bi_ne_f, bi_lt_t, bi_lt_f, bi_ge_t, bi_ge_f, bi_gt_t, bi_gt_f, bi_le_t, bi_le_f, bc_eq_t, bc_eq_f, bc_ne_t, bc_ne_f, bc_lt_t, bc_lt_f, bc_ge_t, bc_ge_f, bc_gt_t, bc_gt_f, bc_le_t, bc_le_f, bb_eq_t, bb_eq_f, bb_ne_t, bb_ne_f, sc_t, sc_f, b_nr, b_nn, mI_J, mI_R, mJ_I, mJ_R, mR_I, mR_J, mK_I, mK_J, mK_R, mN_I, mN_J, mN_R, inM_I, inM_J, inM_R, mZ_nc, mZ_nk, mZ_sm, mZ_J, mZ_R, mJ_nc, mJ_ni, mJ_sm, mI_Z, iz_add, iz_sub, iz_mul, iz_neg, iz_lt, iz_le, iz_eq, iz_clamp, iz_inB, iz_div, iz_rem, shK h, shR h, inM_lit, and_self, true_and, and_true, true_or, or_true, not_true_eq_false, not_false_eq_true, Nat.reduceEqDiff, reduceCtorEq, Int.reduceNeg, Int.reduceSub, Int.reduceAdd, Int.reduceMul, Int.reduceToNat, Int.reduceEq, Int.neg_neg, Int.cast_ofNat_Int, Nat.reduceAdd, Nat.reduceMul, Nat.reduceSub, gd_t, emod_r, iz_0, Int.zero_add, Int.add_zero, wp_some, lz_add, lz_sub, lz_mul, lz_0, lz_1, lz_of, lz_nz, lz_i2l, lz_l2i, lz_rem, lz_div, is01_i, lcmp_lt, lcmp_eq, lcmp_gt, shK h3]
        exact cont w (z - w) M3 _ q3 (by omega) (fun q => by have := rz0 q; have := rw0 q; omega) (by rw [k1]; rfl)
end

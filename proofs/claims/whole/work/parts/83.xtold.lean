/-! x's Judge asks the LAW in FORCE -/
theorem pTxt_all {c v : Nat → Int} {N : Nat} {law : Bool} (hN : ∀ p, N ≤ p → c p = 0) (hv : ∀ p, 0 ≤ v p) : ∀ (m p q a p1 q1 : Nat) (cs : List Int) (is : List Itm), p ≤ N → q ≤ 50 → pTxt c v law N m p q a = (true, p1, q1, cs, is) → (p < p1 ∧ p1 ≤ N ∧ cs.length ≤ p1 - p ∧ is.length ≤ m ∧ 1 ≤ is.length) ∧ (∀ it, it ∈ is → it.1 ≤ 3 ∧ (law = false → it.1 ≤ 2) ∧ 1 ≤ it.2.2.2 ∧ it.2.2.2 ≤ 20 ∧ (match seps law it.1 with
    | none => it.2.1 = []
    | some ss => it.2.1.length = ss.length + 1)) ∧ (∀ (cd : Nat → Int) (len nw : Nat) (e : Nat → Int), lwOf law < fwOf law + nw → (∀ k, k < nw → -1000000000 ≤ e k ∧ e k ≤ 1000000000) → At cd a cs → a + cs.length ≤ len → len ≤ 512 → ∀ it, it ∈ is → (∀ s, s ∈ it.2.1 → s.1 ≤ 512 ∧ rkv cd len nw e s.1 = s.2 e) ∧ (∀ t, it.2.2.1 = some t → t.1 ≤ 512 ∧ rkv cd len nw e t.1 = ob01 (t.2 e)))
  | 0, p, q, a, p1, q1, cs, is, _, _, h => by cases h
  | m + 1, p, q, a, p1, q1, cs, is, hp, hq, h => by
    unfold pTxt at h
    obtain ⟨p2, q2, cs2, it2, e1, e2⟩ := pThen_ok (by rw [h])
    rw [e2] at h
    have i0 := pItm_all (cd := fun _ => 0) (len := 0) (nw := 100) (e := fun _ => 0) hN hv (by cases law <;> decide) (fun _ _ => ⟨by decide, by decide⟩) hp hq e1
    obtain ⟨⟨b1, b2, b3, b4, b5⟩, b6, -⟩ := i0
    by_cases c1 : c p2 = 159
    · rw [if_pos c1] at h
      obtain ⟨p3, q3, cs3, is3, e3, e4⟩ := pThen_ok (by rw [h])
      rw [e4] at h
      simp only [Prod.mk.injEq, true_and] at h
      obtain ⟨rfl, rfl, rfl, rfl⟩ := h
      have hp2 : p2 < N := by
        rcases Nat.lt_or_ge p2 N with z | z
        · exact z
        · have := hN _ z; omega
      obtain ⟨⟨d1, d2, d3, d4, d6⟩, d5, d7⟩ := pTxt_all hN hv m (p2 + 1) q2 _ p3 q3 cs3 is3 hp2 b4 e3
      refine ⟨⟨by omega, d2, by simp only [List.length_append]; omega, by simp only [List.length_cons]; omega, by simp only [List.length_cons]; omega⟩, fun it hit => ?_, fun cd len nw e hw he hA hl h5 it hit => ?_⟩
      · rcases List.mem_cons.mp hit with rfl | hit
        · exact b6
        · exact d5 it hit
      · simp only [List.length_append] at hl
        rcases List.mem_cons.mp hit with rfl | hit
        · exact (pItm_all hN hv hw he hp hq e1).2.2 (At_l hA) (by omega) h5
        · exact d7 cd len nw e hw he (At_r hA) (by omega) h5 it hit
    · rw [if_neg c1] at h
      by_cases cN : p2 = N
      · rw [if_pos cN] at h
        simp only [Prod.mk.injEq, true_and] at h
        obtain ⟨rfl, rfl, rfl, rfl⟩ := h
        refine ⟨⟨b1, b2, b5, by simp, by simp⟩, fun it hit => ?_, fun cd len nw e hw he hA hl h5 it hit => ?_⟩
        · rw [List.mem_singleton] at hit
          subst hit
          exact b6
        · rw [List.mem_singleton] at hit
          subst hit
          exact (pItm_all hN hv hw he hp hq e1).2.2 hA hl h5
      · rw [if_neg cN] at h; cases h
def tAt (T : Option (Nat × DenB)) : Int := match T with
  | none => -1
  | some t => t.1
/-- a Text of x holds what was read -/
def TextR (M : qMe) (L Lk Ls Lt Lm Lc : Nat) (cs : List Int) (is : List Itm) : Prop :=
  (inM M L ∧ mK M L = (10, 7) ∧ mR M L 0 = some Lk ∧ mR M L 1 = some Ls ∧ mR M L 2 = some Lt ∧ mR M L 3 = some Lm ∧ mR M L 4 = some Lc) ∧
  (inM M Lk ∧ (mK M Lk).1 = 100 ∧ is.length ≤ (mK M Lk).2) ∧ (inM M Ls ∧ (mK M Ls).1 = 100 ∧ 4 * is.length ≤ (mK M Ls).2) ∧ (inM M Lt ∧ (mK M Lt).1 = 100 ∧ is.length ≤ (mK M Lt).2) ∧ (inM M Lm ∧ (mK M Lm).1 = 100 ∧ is.length ≤ (mK M Lm).2) ∧ (inM M Lc ∧ (mK M Lc).1 = 100 ∧ cs.length ≤ (mK M Lc).2) ∧
  mZ M L 5 = is.length ∧ mZ M L 6 = cs.length ∧
  (∀ (i : Nat) (it : Itm), is[i]? = some it → mZ M Lk i = it.1 ∧ mZ M Lt i = tAt it.2.2.1 ∧ mZ M Lm i = it.2.2.2 ∧ ∀ (j : Nat) (s : Nat × Den), it.2.1[j]? = some s → mZ M Ls (4 * i + j) = s.1) ∧
  (∀ (j : Nat) (x : Int), cs[j]? = some x → mZ M Lc j = x ∧ 0 ≤ x ∧ x ≤ 20000)
def cdOf (cs : List Int) (j : Nat) : Int := match cs[j]? with
  | some x => x
  | none => 0
theorem At_cd (cs : List Int) : At (cdOf cs) 0 cs := fun j x hj => by
  unfold cdOf
  rw [Nat.zero_add, hj]
theorem TextR_C {M : qMe} {L Lk Ls Lt Lm Lc : Nat} {cs : List Int} {is : List Itm} (h : TextR M L Lk Ls Lt Lm Lc cs is) (h5 : cs.length ≤ 512) : TxC M L Lc cs.length (cdOf cs) := by
  obtain ⟨⟨a1, a2, -, -, -, -, a3⟩, -, -, -, -, ⟨b1, b2, b3⟩, -, d1, -, d2⟩ := h
  refine ⟨a1, by rw [a2], a3, b1, b2, b3, d1, h5, fun j hj => ?_⟩
  have e : cs[j]? = some cs[j] := List.getElem?_eq_getElem hj
  have := d2 j _ e
  unfold cdOf
  rw [e]
  exact this
theorem tolds_snoc {k : Nat} {hi : Int} {e : Nat → Int} {i : Itm} : ∀ (is : List Itm) (w : Int), tolds k hi e (is ++ [i]) w = (if i.1 = k ∧ itest i.2.2.1 e = some true then (match isum i.1 i.2.1 e with
    | some s => clamp hi s
    | none => tolds k hi e is w) else tolds k hi e is w)
  | [], w => rfl
  | j :: is, w => by
    show tolds k hi e (is ++ [i]) _ = _
    rw [tolds_snoc is]
    rfl
theorem x_see {d : Nat} {M : qMe} {cell w sp : Int} (h : shp M) (hw : WFk M 481 0) (hR : Ra M 9 481 0) (c1 : 0 ≤ cell ∧ cell < 80) (w1 : 0 ≤ w ∧ w < mZ M 481 266) (s1 : 0 ≤ sp ∧ sp ≤ 99) : wV (cal (d + 1) 259 [.ref 73, .int (iz cell), .int (iz w), .int (iz sp)] M) (fun M1 => Dif M M1 (fun i _ => i = 74) ∧ ∀ k, k ≤ 8 → mZ M1 74 k = envL M cell w sp k) := by
  refine wV_q (fun P hP => ?_)
  rw [cal_259, gd_t (Nat.le_of_ble_eq_true rfl)]
  change wp (n_259_0 (cal _) [some (.ref 73), some (.int (iz cell)), some (.int (iz w)), some (.int (iz sp))] [] _) _
  have hN := h.1
  have hs := WFk_s hw
  obtain ⟨x2, x3, x5, x7, x8, x9, x10, x11, x12, x13, x14, x15, x16, x18, x19, xh, xs⟩ := Ra_iff.mp hR
  have e1 := x2 cell c1.1 c1.2
  have e2 := x3 cell c1.1 c1.2
  have e3 := x11 w w1.1 (by omega)
  have e4 := x12 w w1.1 (by omega)
  have e5 := xh.2 cell c1.1 c1.2
  have e6 := x16 0 (by decide) (by decide)
  have i1 : (0 : Int) + (0 + 1 * cell) = cell := by omega
  have i2 : (0 : Int) + (80 + 1 * cell) = 80 + cell := by omega
  have i3 : (0 : Int) + (204 + 3 * w) = 204 + 3 * w := by omega
  have i4 : (0 : Int) + (205 + 3 * w) = 204 + 3 * w + 1 := by omega
  rw [i1] at e1
  rw [i2] at e2
  rw [i3] at e3
  rw [i4] at e4
  simp only [Int.zero_add, Nat.reduceAdd] at e1 e2 e3 e4 e5
  have e6 : mZ M 25 0 = mZ M 481 260 := e6
  have e5 : mZ M 15 cell.toNat = hung M cell := e5
  have eb := envL_b hw c1 w1 s1
  have b2 := eb 2
  have b3 := eb 3
  have b5 := eb 5
  have b6 := eb 6
  have b7 := eb 7
  have b8 := eb 8
  have b2 : -1 ≤ mZ M 481 cell.toNat ∧ mZ M 481 cell.toNat ≤ 99 := b2
  have b3 : -1 ≤ mZ M 481 (80 + cell).toNat ∧ mZ M 481 (80 + cell).toNat ≤ 99 := b3
  have b5 : -1 ≤ mZ M 481 (204 + 3 * w).toNat ∧ mZ M 481 (204 + 3 * w).toNat ≤ 99 := b5
  have b6 : -1 ≤ mZ M 481 (204 + 3 * w + 1).toNat ∧ mZ M 481 (204 + 3 * w + 1).toNat ≤ 99 := b6
  have b7 : -1 ≤ hung M cell ∧ hung M cell ≤ 99 := b7
  have b8 : -1 ≤ mZ M 481 260 ∧ mZ M 481 260 ≤ 99 := b8
  have w8 : w < 8 := by omega
  clear eb hs x2 x3 x5 x7 x8 x9 x10 x11 x12 x13 x14 x15 x16 x18 x19 xh xs i1 i2 i3 i4
  simp (disch := first | assumption | decide | omega) only [n_259_0, z_iconst, z_bipush, z_sipush, z_ldc, z_ldcs, z_ldcw, z_ldc2, z_lconst0, z_lconst1, z_null, z_getstatic, z_iload_0, z_iload_1, z_iload_2, z_iload_3, z_iload, z_istore_0, z_istore_1, z_istore_2, z_istore_3, z_istore, z_lload_0, z_lload_1, z_lload_2, z_lload_3, z_lload, z_lstore_0, z_lstore_1, z_lstore_2, z_lstore_3, z_lstore, z_aload_0, z_aload_1, z_aload_2, z_aload_3, z_aload, z_astore_0, z_astore_1, z_astore_2, z_astore_3, z_astore, ald_0, ald_s, z_iinc, qst1_1i, qst2_1i, qst1_1r, qst2_1r, qst1_1u, qst2_1u, qst1_1n, qst2_1n, qst1_1l, qst2_1l, qst1_0, qst2_0, qst1_s, qst2_s, z_iadd, z_isub, z_imul, z_iand, z_ior, z_ixor, z_ishl, z_ishr, z_idiv, z_irem, z_ladd, z_lsub, z_lmul, z_land, z_lor, z_ldiv, z_lrem, z_ineg, z_lshl, z_lshr, z_i2l, z_l2i, z_i2b, z_i2c, z_lcmp, z_dupi, z_dupr, z_popi, z_popr, z_dup2, z_goto, z_get0, z_get1, z_get2, z_get3, z_put0, z_put1, z_put2, z_put2n, z_put3, z_iaload, z_baload, z_laload, z_aaload, z_iastore, z_bastore, z_lastore, z_aastore, z_aastoren, z_arraylength, z_new, z_newarray, z_anewarray, z_multi, z_objinit, z_is0, z_iv0, z_ip0, z_is1, z_iv1, z_ip1, z_is2, z_iv2, z_ip2, z_is3, z_iv3, z_ip3, z_is4, z_iv4, z_ip4, z_is5, z_iv5, z_ip5, z_is6, z_iv6, z_ip6, z_is7, z_iv7, z_ip7, z_m991, z_m992, z_m993, z_m994, z_m995, z_m996, z_m998, acal_0, acal_1, acal_2, acal_3, acal_4, aK_v, aK_n, sF_c, sF_n, b_nr, b_nn, r_I, r_Z, r_L, r_A, r_V, sw_F, sw_n, gd_tt, is01_bzT, is01_0, is01_1, qrv_s, qrv_n, bi_eq_t, bi_eq_f, bi_ne_t, bi_ne_f, bi_lt_t, bi_lt_f, bi_ge_t, bi_ge_f, bi_gt_t, bi_gt_f, bi_le_t, bi_le_f, bc_eq_t, bc_eq_f, bc_ne_t, bc_ne_f, bc_lt_t, bc_lt_f, bc_ge_t, bc_ge_f, bc_gt_t, bc_gt_f, bc_le_t, bc_le_f, bb_eq_t, bb_eq_f, bb_ne_t, bb_ne_f, sc_t, sc_f, b_nr, b_nn, mI_J, mI_R, mJ_I, mJ_R, mR_I, mR_J, mK_I, mK_J, mK_R, mN_I, mN_J, mN_R, inM_I, inM_J, inM_R, mZ_nc, mZ_nk, mZ_sm, mZ_J, mZ_R, mJ_nc, mJ_ni, mJ_sm, mI_Z, iz_add, iz_sub, iz_mul, iz_neg, iz_lt, iz_le, iz_eq, iz_clamp, iz_inB, iz_div, iz_rem, shK h, shR h, inM_lit, and_self, true_and, and_true, true_or, or_true, not_true_eq_false, not_false_eq_true, Nat.reduceEqDiff, reduceCtorEq, Int.reduceNeg, Int.reduceSub, Int.reduceAdd, Int.reduceMul, Int.reduceToNat, Int.reduceEq, Int.neg_neg, Int.cast_ofNat_Int, Nat.reduceAdd, Nat.reduceMul, Nat.reduceSub, gd_t, emod_r, iz_0, Int.zero_add, Int.add_zero, wp_some, e1, e2, e3, e4, e5, e6]
  refine hP _ ⟨?_, fun k hk => ?_⟩
  · repeat (first | refine Dif.I ?_ rfl | exact Dif.rfl')
  · rcases (show k = 0 ∨ k = 1 ∨ k = 2 ∨ k = 3 ∨ k = 4 ∨ k = 5 ∨ k = 6 ∨ k = 7 ∨ k = 8 by omega) with rfl | rfl | rfl | rfl | rfl | rfl | rfl | rfl | rfl
    all_goals (simp (disch := first | decide | omega) only [mZ_nc, mZ_nk, mZ_sm]; rfl)

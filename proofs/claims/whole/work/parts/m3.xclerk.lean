/-! x's Clerk -/
theorem smI_not {f : Nat → Int} : ∀ (k i : Nat) (s t : Int), (∀ j, i ≤ j → j < i + k → f j = 0 ∨ f j = 1) → smI (fun w => if f w = 0 then 1 else 0) i k s + smI f i k t = s + t + k
  | 0, i, s, t, _ => by
    rw [smI, smI]
    omega
  | k + 1, i, s, t, h => by
    have ih := smI_not (f := f) k (i + 1) (s + (if f i = 0 then 1 else 0)) (t + f i) (fun j a b => h j (by omega) (by omega))
    have := h i (by omega) (by omega)
    rw [smI, smI]
    rcases this with e | e
    · rw [e] at ih ⊢
      rw [if_pos rfl] at ih ⊢
      omega
    · rw [e] at ih ⊢
      rw [if_neg (by decide)] at ih ⊢
      omega
theorem XDr_C {M : qMe} {cs : List Int} {is : List Itm} (h : shp M) (hD : XDr M cs is) (h5 : cs.length ≤ 512) : TxC M 184 189 cs.length (cdOf cs) := by
  have hN := h.1
  have k1 : mK M 184 = (10, 7) := h.2.1 184 (by decide) (by decide)
  have k2 : mK M 189 = (100, 512) := h.2.1 189 (by decide) (by decide)
  have r1 : mR M 184 4 = some 189 := by simp only [shR h]
  refine ⟨by rw [inM_b]; omega, by rw [k1], r1, by rw [inM_b]; omega, by rw [k2], by rw [k2]; exact h5, hD.2.1, h5, fun j hj => ?_⟩
  have e : cs[j]? = some cs[j] := List.getElem?_eq_getElem hj
  have := hD.2.2.1 j _ e
  unfold cdOf
  rw [e]
  exact this
theorem RaS_of {M : qMe} (hR : Ra M 9 481 0) : mZ M 10 9 = mZ M 481 264 ∧ mZ M 10 10 = mZ M 481 265 ∧ mZ M 9 10 = mZ M 481 266 := by
  have xs := (Ra_iff.mp hR).2.2.2.2.2.2.2.2.2.2.2.2.2.2.2.2
  exact ⟨xs.1, xs.2.1, xs.2.2.1⟩
theorem Ra12 {M : qMe} (hR : Ra M 9 481 0) : ∀ j : Nat, j < 80 → mZ M 12 j = mZ M 481 (80 + j) := fun j q => by
  have a := (Ra_iff.mp hR).2.1 (j : Int) (by omega) (by omega)
  rw [show ((0 : Int) + (80 + 1 * (j : Int))).toNat = 80 + j by omega, Int.toNat_natCast] at a
  exact a
theorem Ra22 {M : qMe} (hR : Ra M 9 481 0) : ∀ j : Nat, j < 8 → mZ M 22 j = mZ M 481 (206 + 3 * j) := fun j q => by
  have a := (Ra_iff.mp hR).2.2.2.2.2.2.2.2.2.1 (j : Int) (by omega) (by omega)
  rw [show ((0 : Int) + (206 + 3 * (j : Int))).toNat = 206 + 3 * j by omega, Int.toNat_natCast] at a
  exact a
theorem Ra16 {M : qMe} (hR : Ra M 9 481 0) : ∀ j : Nat, j < 8 → mZ M 16 j = mZ M 481 (162 + 5 * j) := fun j q => by
  have a := (Ra_iff.mp hR).2.2.2.1 (j : Int) (by omega) (by omega)
  rw [show ((0 : Int) + (162 + 5 * (j : Int))).toNat = 162 + 5 * j by omega, Int.toNat_natCast] at a
  exact a
theorem Ra17 {M : qMe} (hR : Ra M 9 481 0) : ∀ j : Nat, j < 8 → mZ M 17 j = mZ M 481 (163 + 5 * j) := fun j q => by
  have a := (Ra_iff.mp hR).2.2.2.2.1 (j : Int) (by omega) (by omega)
  rw [show ((0 : Int) + (163 + 5 * (j : Int))).toNat = 163 + 5 * j by omega, Int.toNat_natCast] at a
  exact a
theorem Ra25 {M : qMe} (hR : Ra M 9 481 0) : ∀ j : Nat, j < 4 → mZ M 25 j = mZ M 481 (260 + j) := fun j q => by
  have a := (Ra_iff.mp hR).2.2.2.2.2.2.2.2.2.2.2.2.1 (j : Int) (by omega) (by omega)
  rw [show ((0 : Int) + (260 + 1 * (j : Int))).toNat = 260 + j by omega, Int.toNat_natCast] at a
  exact a
theorem W_gone {M : qMe} (hw : WFk M 481 0) : ∀ j : Nat, j < 8 → 0 ≤ mZ M 481 (206 + 3 * j) ∧ mZ M 481 (206 + 3 * j) ≤ 1 := fun j q => by
  have b := hw.2.2.2.2.2.2.2.2.1 (j : Int) (by omega) (by omega)
  rw [show ((0 : Int) + (204 + 3 * (j : Int) + 2)).toNat = 206 + 3 * j by omega] at b
  exact b
/-- where x's Clerk is -/
def CkX (M : qMe) (dn cm ls : Int) : Prop := mZ M 193 10 = dn ∧ mZ M 193 8 = cm ∧ mZ M 193 9 = ls
theorem x_gone2 {d : Nat} {M : qMe} (hW : Wo M) : ∃ gg : Int, envM M 0 0 0 1 = mZ M 9 10 - gg ∧ (0 ≤ gg ∧ gg ≤ 8) ∧ ∀ M1, Dif M M1 (fun i _ => i = 214) → cal (d + 1) 215 [.ref 9] M1 = some (some (.int (iz gg)), M1) := by
  have h := hW.1
  have s := WFk_s hW.2.1
  have r9 := (RaS_of hW.2.2.1).2.2
  have v1 := (envM_e (M := M) (dn := 0) (cm := 0) (ls := 0)).2.1
  have a := smI_not (f := fun w => mZ M 481 (206 + 3 * w)) (mZ M 481 266).toNat 0 0 0 (fun j _ q => by have := W_gone hW.2.1 j (by omega); show mZ M 481 (206 + 3 * j) = 0 ∨ mZ M 481 (206 + 3 * j) = 1; omega)
  have a : smI (fun w => if mZ M 481 (206 + 3 * w) = 0 then 1 else 0) 0 (mZ M 481 266).toNat 0 + smI (fun w => mZ M 481 (206 + 3 * w)) 0 (mZ M 481 266).toNat 0 = 0 + 0 + ((mZ M 481 266).toNat : Int) := a
  have b : smI (fun w => mZ M 22 w) 0 (mZ M 481 266).toNat 0 = smI (fun w => mZ M 481 (206 + 3 * w)) 0 (mZ M 481 266).toNat 0 := smI_congr _ _ _ (fun j _ q => Ra22 hW.2.2.1 j (by omega))
  have gb := smI_b (f := fun w => mZ M 22 w) (mZ M 481 266).toNat 0 0 (fun j _ q => by have := W_gone hW.2.1 j (by omega); have := Ra22 hW.2.2.1 j (by omega); show 0 ≤ mZ M 22 j ∧ mZ M 22 j ≤ 1; omega)
  refine ⟨smI (fun w => mZ M 22 w) 0 (mZ M 9 10).toNat 0, ?_, ?_, fun M1 D => ?_⟩
  · rw [v1, r9, b]
    omega
  · rw [r9]
    omega
  · have z := c_gone (d := d) (M := M1) (D.shp h (fun i k hi => by omega)) (by rw [D.z (by omega)]; omega)
    rw [show (fun w => mZ M1 22 w) = (fun w => mZ M 22 w) from funext (fun w => D.z (by omega)), D.z (by omega)] at z
    exact z
theorem x_fenced2 {d : Nat} {M : qMe} (hW : Wo M) : ∃ gg : Int, envM M 0 0 0 2 = gg ∧ (0 ≤ gg ∧ gg ≤ 80) ∧ ∀ M1, Dif M M1 (fun i _ => i = 214) → cal (d + 1) 264 [.ref 10] M1 = some (some (.int (iz gg)), M1) := by
  have h := hW.1
  have v2 := (envM_e (M := M) (dn := 0) (cm := 0) (ls := 0)).2.2.1
  have b : smI (fun c => if 0 < mZ M 481 (80 + c) then 1 else 0) 0 80 0 = smI (fun c => if 0 < mZ M 12 c then 1 else 0) 0 80 0 := smI_congr _ _ _ (fun j _ q => by show (if 0 < mZ M 481 (80 + j) then (1 : Int) else 0) = (if 0 < mZ M 12 j then 1 else 0); rw [Ra12 hW.2.2.1 j (by omega)])
  have gb := smI_b (f := fun c => if 0 < mZ M 12 c then (1 : Int) else 0) 80 0 0 (fun j _ _ => by show 0 ≤ (if 0 < mZ M 12 j then (1 : Int) else 0) ∧ (if 0 < mZ M 12 j then (1 : Int) else 0) ≤ 1; split <;> omega)
  have b := v2.trans b
  refine ⟨_, b, ?_, fun M1 D => ?_⟩
  · exact ⟨gb.1, gb.2⟩
  · have z := c_fenced (d := d) (M := M1) (D.shp h (fun i k hi => by omega))
    have e : (fun c => if 0 < mZ M1 12 c then (1 : Int) else 0) = (fun c => if 0 < mZ M 12 c then (1 : Int) else 0) := funext (fun c => by rw [D.z (by omega)])
    rw [e] at z
    exact z
set_option maxHeartbeats 1000000 in
theorem x_sees {d : Nat} {M : qMe} {dn cm ls : Int} (hW : Wo M) (hC : CkX M dn cm ls) (h1 : 0 ≤ dn ∧ dn ≤ 1000) (h2 : 0 ≤ cm ∧ cm ≤ 1000) (h3 : -1 ≤ ls ∧ ls ≤ 1000) : wV (cal (d + 2) 250 [.ref 193] M) (fun M1 => Dif M M1 (fun i _ => i = 214) ∧ ∀ k, k ≤ 5 → mZ M1 214 k = envM M dn cm ls k) := by
  refine wV_q (fun P hP => ?_)
  have h := hW.1
  have hN := h.1
  obtain ⟨c1, c2, c3⟩ := hC
  have s := WFk_s hW.2.1
  have r9 := (RaS_of hW.2.2.1).2.2
  have r25 : mZ M 25 0 = mZ M 481 260 := Ra25 hW.2.2.1 0 (by decide)
  obtain ⟨gg, g1, g2, g3⟩ := x_gone2 (d := d) hW
  obtain ⟨ff, f1, f2, f3⟩ := x_fenced2 (d := d) hW
  obtain ⟨v0, v1, v2, e3, e4, e5⟩ := envM_e (M := M) (dn := dn) (cm := cm) (ls := ls)
  obtain ⟨-, w1, w2, -⟩ := envM_e (M := M) (dn := 0) (cm := 0) (ls := 0)
  have e0 : envM M dn cm ls 0 = mZ M 25 0 := v0.trans r25.symm
  have e1 := (v1.trans w1.symm).trans g1
  have e2 := (v2.trans w2.symm).trans f1
  clear v0 v1 v2 w1 w2 g1 f1
  generalize envM M dn cm ls = en at *
  have g1 := g3 (qsI M 214 0 (iz (mZ M 25 0))) (Dif.I (D := fun i _ => i = 214) Dif.rfl' rfl)
  have f1 := f3 (qsI (qsI M 214 0 (iz (mZ M 25 0))) 214 1 (iz (mZ M 9 10 - gg))) (Dif.I (D := fun i _ => i = 214) (Dif.I (D := fun i _ => i = 214) Dif.rfl' rfl) rfl)
  have fin := hP (qsI (qsI (qsI (qsI (qsI (qsI M 214 0 (iz (mZ M 25 0))) 214 1 (iz (mZ M 9 10 - gg))) 214 2 (iz ff)) 214 3 (iz dn)) 214 4 (iz cm)) 214 5 (iz ls)) ⟨Dif.I (D := fun i _ => i = 214) (Dif.I (D := fun i _ => i = 214) (Dif.I (D := fun i _ => i = 214) (Dif.I (D := fun i _ => i = 214) (Dif.I (D := fun i _ => i = 214) (Dif.I (D := fun i _ => i = 214) Dif.rfl' rfl) rfl) rfl) rfl) rfl) rfl, fun k q => by
    rcases (show k = 0 ∨ k = 1 ∨ k = 2 ∨ k = 3 ∨ k = 4 ∨ k = 5 by omega) with rfl | rfl | rfl | rfl | rfl | rfl
    · rw [mZ_nk (by decide), mZ_nk (by decide), mZ_nk (by decide), mZ_nk (by decide), mZ_nk (by decide), mZ_sm rfl (by omega) (by omega)]; exact e0.symm
    · rw [mZ_nk (by decide), mZ_nk (by decide), mZ_nk (by decide), mZ_nk (by decide), mZ_sm rfl (by omega) (by omega)]; exact e1.symm
    · rw [mZ_nk (by decide), mZ_nk (by decide), mZ_nk (by decide), mZ_sm rfl (by omega) (by omega)]; exact e2.symm
    · rw [mZ_nk (by decide), mZ_nk (by decide), mZ_sm rfl (by omega) (by omega)]; exact e3.symm
    · rw [mZ_nk (by decide), mZ_sm rfl (by omega) (by omega)]; exact e4.symm
    · rw [mZ_sm rfl (by omega) (by omega)]; exact e5.symm⟩
  clear g3 f3 hP
  rw [cal_250, gd_t (Nat.le_of_ble_eq_true rfl)]
  change wp (n_250_0 (cal _) [some (.ref 193)] [] _) _
  simp (disch := first | assumption | decide | omega) only [n_250_0, z_iconst, z_bipush, z_sipush, z_ldc, z_ldcs, z_ldcw, z_ldc2, z_lconst0, z_lconst1, z_null, z_getstatic, z_iload_0, z_iload_1, z_iload_2, z_iload_3, z_iload, z_istore_0, z_istore_1, z_istore_2, z_istore_3, z_istore, z_lload_0, z_lload_1, z_lload_2, z_lload_3, z_lload, z_lstore_0, z_lstore_1, z_lstore_2, z_lstore_3, z_lstore, z_aload_0, z_aload_1, z_aload_2, z_aload_3, z_aload, z_astore_0, z_astore_1, z_astore_2, z_astore_3, z_astore, ald_0, ald_s, z_iinc, qst1_1i, qst2_1i, qst1_1r, qst2_1r, qst1_1u, qst2_1u, qst1_1n, qst2_1n, qst1_1l, qst2_1l, qst1_0, qst2_0, qst1_s, qst2_s, z_iadd, z_isub, z_imul, z_iand, z_ior, z_ixor, z_ishl, z_ishr, z_idiv, z_irem, z_ladd, z_lsub, z_lmul, z_land, z_lor, z_ldiv, z_lrem, z_ineg, z_lshl, z_lshr, z_i2l, z_l2i, z_i2b, z_i2c, z_lcmp, z_dupi, z_dupr, z_popi, z_popr, z_dup2, z_goto, z_get0, z_get1, z_get2, z_get3, z_put0, z_put1, z_put2, z_put2n, z_put3, z_iaload, z_baload, z_laload, z_aaload, z_iastore, z_bastore, z_lastore, z_aastore, z_aastoren, z_arraylength, z_new, z_newarray, z_anewarray, z_multi, z_objinit, z_is0, z_iv0, z_ip0, z_is1, z_iv1, z_ip1, z_is2, z_iv2, z_ip2, z_is3, z_iv3, z_ip3, z_is4, z_iv4, z_ip4, z_is5, z_iv5, z_ip5, z_is6, z_iv6, z_ip6, z_is7, z_iv7, z_ip7, z_m991, z_m992, z_m993, z_m994, z_m995, z_m996, z_m998, acal_0, acal_1, acal_2, acal_3, acal_4, aK_v, aK_n, sF_c, sF_n, b_nr, b_nn, r_I, r_Z, r_L, r_A, r_V, sw_F, sw_n, gd_tt, is01_bzT, is01_0, is01_1, qrv_s, qrv_n, bi_eq_t, bi_eq_f, bi_ne_t, bi_ne_f, bi_lt_t, bi_lt_f, bi_ge_t, bi_ge_f, bi_gt_t, bi_gt_f, bi_le_t, bi_le_f, bc_eq_t, bc_eq_f, bc_ne_t, bc_ne_f, bc_lt_t, bc_lt_f, bc_ge_t, bc_ge_f, bc_gt_t, bc_gt_f, bc_le_t, bc_le_f, bb_eq_t, bb_eq_f, bb_ne_t, bb_ne_f, sc_t, sc_f, b_nr, b_nn, mI_J, mI_R, mJ_I, mJ_R, mR_I, mR_J, mK_I, mK_J, mK_R, mN_I, mN_J, mN_R, inM_I, inM_J, inM_R, mZ_nc, mZ_nk, mZ_sm, mZ_J, mZ_R, mJ_nc, mJ_ni, mJ_sm, mI_Z, iz_add, iz_sub, iz_mul, iz_neg, iz_lt, iz_le, iz_eq, iz_clamp, iz_inB, iz_div, iz_rem, shK h, shR h, inM_lit, and_self, true_and, and_true, true_or, or_true, not_true_eq_false, not_false_eq_true, Nat.reduceEqDiff, reduceCtorEq, Int.reduceNeg, Int.reduceSub, Int.reduceAdd, Int.reduceMul, Int.reduceToNat, Int.reduceEq, Int.neg_neg, Int.cast_ofNat_Int, Nat.reduceAdd, Nat.reduceMul, Nat.reduceSub, gd_t, emod_r, iz_0, Int.zero_add, Int.add_zero, wp_some, c1, c2, c3, g1, f1]
  exact fin
theorem sumsV_b {e : Nat → Int} {cd : Nat → Int} {len : Nat} : ∀ (Ss : List (Nat × Den)) (zs : List Int), (∀ s, s ∈ Ss → s.1 ≤ 512 ∧ rkv cd len 6 e s.1 = s.2 e) → sumsV Ss e = some zs → zs.length = Ss.length ∧ ∀ x, x ∈ zs → -1000000000 ≤ x ∧ x ≤ 1000000000
  | [], zs, _, h => by
    have h : some [] = some zs := h
    cases h
    exact ⟨rfl, fun x q => by cases q⟩
  | s :: ss, zs, hs, h => by
    rw [sumsV] at h
    cases e1 : s.2 e with
    | none => rw [e1] at h; cases h
    | some z =>
      rw [e1] at h
      cases e2 : sumsV ss e with
      | none => rw [e2] at h; cases h
      | some ws =>
        rw [e2] at h
        have h : some (z :: ws) = some zs := h
        cases h
        obtain ⟨a1, a2⟩ := sumsV_b ss ws (fun t q => hs t (List.mem_cons_of_mem _ q)) e2
        refine ⟨by rw [List.length_cons, List.length_cons, a1], fun x q => ?_⟩
        rcases List.mem_cons.mp q with rfl | q
        · exact rkv_b ((hs s List.mem_cons_self).2.trans e1)
        · exact a2 x q
theorem sumsV_s {s : Nat × Den} {ss : List (Nat × Den)} {e : Nat → Int} {z : Int} (h : s.2 e = some z) : (∀ t, sumsV ss e = some t → sumsV (s :: ss) e = some (z :: t)) ∧ (sumsV ss e = none → sumsV (s :: ss) e = none) := by
  refine ⟨fun t q => ?_, fun q => ?_⟩
  · rw [sumsV, h, q]
  · rw [sumsV, h, q]
theorem sumsV_n {s : Nat × Den} {ss : List (Nat × Den)} {e : Nat → Int} (h : s.2 e = none) : sumsV (s :: ss) e = none := by
  rw [sumsV, h]
theorem bz_iff {p q : Prop} (h : p ↔ q) : bz p = bz q := congrArg bz (propext h)
theorem TxC_d {M M1 : qMe} {T Tc len : Nat} {cd : Nat → Int} {D : Nat → Nat → Prop} (h : TxC M T Tc len cd) (hD : Dif M M1 D) (h1 : ∀ k, ¬ D T k) (h2 : ∀ k, ¬ D Tc k) : TxC M1 T Tc len cd := by
  obtain ⟨a1, a2, a3, a4, a5, a6, a7, a8, a9⟩ := h
  exact ⟨by rw [hD.eqs.inm]; exact a1, by rw [hD.2.1]; exact a2, by rw [hD.2.2.1]; exact a3, by rw [hD.eqs.inm]; exact a4, by rw [hD.2.1]; exact a5, by rw [hD.2.1]; exact a6, by rw [hD.z (h1 _)]; exact a7, a8, fun j q => by rw [hD.z (h2 _)]; exact a9 j q⟩
/-- how many SUMS an ORDER has -/
def manyO (k : Nat) : Nat := if k = 0 then 4 else if k = 1 then 2 else 0
set_option maxHeartbeats 2000000 in
theorem x_reckonSums {d i : Nat} {M : qMe} {cs : List Int} {is : List Itm} {it : Itm} {e : Nat → Int} (hz : shp M) (hD : XDr M cs is) (h5 : cs.length ≤ 512) (hi : i < 12) (hit : is[i]? = some it) (hk : it.1 ≤ 2) (hl : it.2.1.length = manyO it.1) (hS : ∀ s, s ∈ it.2.1 → s.1 ≤ 512 ∧ rkv (cdOf cs) cs.length 6 e s.1 = s.2 e) (he : ∀ k, k < 6 → mZ M 214 k = e k ∧ -1000000000 ≤ e k ∧ e k ≤ 1000000000) : wI (cal (d + 2) 251 [.ref 193, .ref 184, .int (iz (i : Int))] M) (fun z M1 => Dif M M1 (fun i _ => i = 215 ∨ i = 216) ∧ ((z = 0 ∧ sumsV it.2.1 e = none) ∨ (z = 1 ∧ ∃ zs, sumsV it.2.1 e = some zs ∧ ∀ (j : Nat) (x : Int), zs[j]? = some x → mZ M1 216 j = x))) := by
  refine wI_q (fun P hP => ?_)
  have h := hz
  have hN := h.1
  obtain ⟨q1, q2, q3, q4⟩ := hD.2.2.2 i it hit
  have tx := XDr_C hz hD h5
  have S1 : inM M 215 ∧ mK M 215 = (100, 64) := ⟨by rw [inM_b]; omega, h.2.1 215 (by decide) (by decide)⟩
  have W1 : inM M 214 ∧ mK M 214 = (100, 6) := ⟨by rw [inM_b]; omega, h.2.1 214 (by decide) (by decide)⟩
  have iI : (i : Int) < 12 := by omega
  have i0 : 0 ≤ (i : Int) := by omega
  have bnd := fun zs q => sumsV_b (e := e) it.2.1 zs hS q
  generalize hR : sumsV it.2.1 e = R at *
  -- the loop
  have loop : ∀ m : Nat, m = manyO it.1 → wp (n_251_28 (cal (d + 1)) [some (.ref 193), some (.ref 184), some (.int (iz (i : Int))), none, none, none, none] [.int (iz (m : Int))] M) P := fun m hm => by
    have m4 : m ≤ 4 := by
      rw [hm]
      unfold manyO
      split
      · omega
      · split <;> omega
    have mI : (m : Int) ≤ 4 := by omega
    simp (disch := first | assumption | decide | omega) only [n_251_0, n_251_28, n_251_90, n_251_32, z_iconst, z_bipush, z_sipush, z_ldc, z_ldcs, z_ldcw, z_ldc2, z_lconst0, z_lconst1, z_null, z_getstatic, z_iload_0, z_iload_1, z_iload_2, z_iload_3, z_iload, z_istore_0, z_istore_1, z_istore_2, z_istore_3, z_istore, z_lload_0, z_lload_1, z_lload_2, z_lload_3, z_lload, z_lstore_0, z_lstore_1, z_lstore_2, z_lstore_3, z_lstore, z_aload_0, z_aload_1, z_aload_2, z_aload_3, z_aload, z_astore_0, z_astore_1, z_astore_2, z_astore_3, z_astore, ald_0, ald_s, z_iinc, qst1_1i, qst2_1i, qst1_1r, qst2_1r, qst1_1u, qst2_1u, qst1_1n, qst2_1n, qst1_1l, qst2_1l, qst1_0, qst2_0, qst1_s, qst2_s, z_iadd, z_isub, z_imul, z_iand, z_ior, z_ixor, z_ishl, z_ishr, z_idiv, z_irem, z_ladd, z_lsub, z_lmul, z_land, z_lor, z_ldiv, z_lrem, z_ineg, z_lshl, z_lshr, z_i2l, z_l2i, z_i2b, z_i2c, z_lcmp, z_dupi, z_dupr, z_popi, z_popr, z_dup2, z_goto, z_get0, z_get1, z_get2, z_get3, z_put0, z_put1, z_put2, z_put2n, z_put3, z_iaload, z_baload, z_laload, z_aaload, z_iastore, z_bastore, z_lastore, z_aastore, z_aastoren, z_arraylength, z_new, z_newarray, z_anewarray, z_multi, z_objinit, z_is0, z_iv0, z_ip0, z_is1, z_iv1, z_ip1, z_is2, z_iv2, z_ip2, z_is3, z_iv3, z_ip3, z_is4, z_iv4, z_ip4, z_is5, z_iv5, z_ip5, z_is6, z_iv6, z_ip6, z_is7, z_iv7, z_ip7, z_m991, z_m992, z_m993, z_m994, z_m995, z_m996, z_m998, acal_0, acal_1, acal_2, acal_3, acal_4, aK_v, aK_n, sF_c, sF_n, b_nr, b_nn, r_I, r_Z, r_L, r_A, r_V, sw_F, sw_n, gd_tt, is01_bzT, is01_0, is01_1, qrv_s, qrv_n, bi_eq_t, bi_eq_f, bi_ne_t, bi_ne_f, bi_lt_t, bi_lt_f, bi_ge_t, bi_ge_f, bi_gt_t, bi_gt_f, bi_le_t, bi_le_f, bc_eq_t, bc_eq_f, bc_ne_t, bc_ne_f, bc_lt_t, bc_lt_f, bc_ge_t, bc_ge_f, bc_gt_t, bc_gt_f, bc_le_t, bc_le_f, bb_eq_t, bb_eq_f, bb_ne_t, bb_ne_f, sc_t, sc_f, b_nr, b_nn, mI_J, mI_R, mJ_I, mJ_R, mR_I, mR_J, mK_I, mK_J, mK_R, mN_I, mN_J, mN_R, inM_I, inM_J, inM_R, mZ_nc, mZ_nk, mZ_sm, mZ_J, mZ_R, mJ_nc, mJ_ni, mJ_sm, mI_Z, iz_add, iz_sub, iz_mul, iz_neg, iz_lt, iz_le, iz_eq, iz_clamp, iz_inB, iz_div, iz_rem, shK h, shR h, inM_lit, and_self, true_and, and_true, true_or, or_true, not_true_eq_false, not_false_eq_true, Nat.reduceEqDiff, reduceCtorEq, Int.reduceNeg, Int.reduceSub, Int.reduceAdd, Int.reduceMul, Int.reduceToNat, Int.reduceEq, Int.neg_neg, Int.cast_ofNat_Int, Nat.reduceAdd, Nat.reduceMul, Nat.reduceSub, gd_t, emod_r, iz_0, Int.zero_add, Int.add_zero, wp_some]
    refine wp_lpq (fun k L M' => ∃ (j : Nat) (pre : List Int) (v5 v6 : Option Value), L = [some (.ref 193), some (.ref 184), some (.int (iz (i : Int))), some (.int (iz (m : Int))), some (.int (iz (j : Int))), v5, v6] ∧ j + k = m ∧ Dif M M' (fun i _ => i = 215 ∨ i = 216) ∧ pre.length = j ∧ (∀ t, sumsV (it.2.1.drop j) e = some t → R = some (pre ++ t)) ∧ (sumsV (it.2.1.drop j) e = none → R = none) ∧ ∀ (n : Nat) (x : Int), pre[n]? = some x → mZ M' 216 n = x) (k := m) ⟨0, [], _, _, rfl, by omega, Dif.rfl', rfl, fun t q => by rw [List.drop_zero] at q; rw [← hR, q]; rfl, fun q => by rw [List.drop_zero] at q; rw [← hR, q], fun n x q => by cases q⟩ (by omega) ?_
    rintro k L M' g ⟨j, pre, v5, v6, rfl, hjk, hD', hpl, hp1, hp2, hp3⟩ hg2
    have h := hD'.shp hz (fun i k hi => by omega)
    have hN := h.1
    by_cases ej : j = m
    · have ed : it.2.1.drop j = [] := List.drop_eq_nil_iff.mpr (by omega)
      have eR := hp1 [] (by rw [ed]; rfl)
      rw [List.append_nil] at eR
      have fin := hP 1 M' ⟨hD', Or.inr ⟨rfl, pre, eR, hp3⟩⟩
      have eI : (j : Int) = (m : Int) := by omega
      simp (disch := first | assumption | decide | omega) only [n_251_0, n_251_28, n_251_90, f_251_32, z_iconst, z_bipush, z_sipush, z_ldc, z_ldcs, z_ldcw, z_ldc2, z_lconst0, z_lconst1, z_null, z_getstatic, z_iload_0, z_iload_1, z_iload_2, z_iload_3, z_iload, z_istore_0, z_istore_1, z_istore_2, z_istore_3, z_istore, z_lload_0, z_lload_1, z_lload_2, z_lload_3, z_lload, z_lstore_0, z_lstore_1, z_lstore_2, z_lstore_3, z_lstore, z_aload_0, z_aload_1, z_aload_2, z_aload_3, z_aload, z_astore_0, z_astore_1, z_astore_2, z_astore_3, z_astore, ald_0, ald_s, z_iinc, qst1_1i, qst2_1i, qst1_1r, qst2_1r, qst1_1u, qst2_1u, qst1_1n, qst2_1n, qst1_1l, qst2_1l, qst1_0, qst2_0, qst1_s, qst2_s, z_iadd, z_isub, z_imul, z_iand, z_ior, z_ixor, z_ishl, z_ishr, z_idiv, z_irem, z_ladd, z_lsub, z_lmul, z_land, z_lor, z_ldiv, z_lrem, z_ineg, z_lshl, z_lshr, z_i2l, z_l2i, z_i2b, z_i2c, z_lcmp, z_dupi, z_dupr, z_popi, z_popr, z_dup2, z_goto, z_get0, z_get1, z_get2, z_get3, z_put0, z_put1, z_put2, z_put2n, z_put3, z_iaload, z_baload, z_laload, z_aaload, z_iastore, z_bastore, z_lastore, z_aastore, z_aastoren, z_arraylength, z_new, z_newarray, z_anewarray, z_multi, z_objinit, z_is0, z_iv0, z_ip0, z_is1, z_iv1, z_ip1, z_is2, z_iv2, z_ip2, z_is3, z_iv3, z_ip3, z_is4, z_iv4, z_ip4, z_is5, z_iv5, z_ip5, z_is6, z_iv6, z_ip6, z_is7, z_iv7, z_ip7, z_m991, z_m992, z_m993, z_m994, z_m995, z_m996, z_m998, acal_0, acal_1, acal_2, acal_3, acal_4, aK_v, aK_n, sF_c, sF_n, b_nr, b_nn, r_I, r_Z, r_L, r_A, r_V, sw_F, sw_n, gd_tt, is01_bzT, is01_0, is01_1, qrv_s, qrv_n, bi_eq_t, bi_eq_f, bi_ne_t, bi_ne_f, bi_lt_t, bi_lt_f, bi_ge_t, bi_ge_f, bi_gt_t, bi_gt_f, bi_le_t, bi_le_f, bc_eq_t, bc_eq_f, bc_ne_t, bc_ne_f, bc_lt_t, bc_lt_f, bc_ge_t, bc_ge_f, bc_gt_t, bc_gt_f, bc_le_t, bc_le_f, bb_eq_t, bb_eq_f, bb_ne_t, bb_ne_f, sc_t, sc_f, b_nr, b_nn, mI_J, mI_R, mJ_I, mJ_R, mR_I, mR_J, mK_I, mK_J, mK_R, mN_I, mN_J, mN_R, inM_I, inM_J, inM_R, mZ_nc, mZ_nk, mZ_sm, mZ_J, mZ_R, mJ_nc, mJ_ni, mJ_sm, mI_Z, iz_add, iz_sub, iz_mul, iz_neg, iz_lt, iz_le, iz_eq, iz_clamp, iz_inB, iz_div, iz_rem, shK h, shR h, inM_lit, and_self, true_and, and_true, true_or, or_true, not_true_eq_false, not_false_eq_true, Nat.reduceEqDiff, reduceCtorEq, Int.reduceNeg, Int.reduceSub, Int.reduceAdd, Int.reduceMul, Int.reduceToNat, Int.reduceEq, Int.neg_neg, Int.cast_ofNat_Int, Nat.reduceAdd, Nat.reduceMul, Nat.reduceSub, gd_t, emod_r, iz_0, Int.zero_add, Int.add_zero, wp_some, eI]
      exact fin
    · have jm : j < it.2.1.length := by omega
      have jI : (j : Int) < (m : Int) := by omega
      have es : it.2.1[j]? = some it.2.1[j] := List.getElem?_eq_getElem jm
      have ed : it.2.1.drop j = it.2.1[j] :: it.2.1.drop (j + 1) := List.drop_eq_getElem_cons jm
      obtain ⟨t1, t2⟩ := hS it.2.1[j] (List.getElem_mem jm)
      have sx := q4 j _ es
      generalize it.2.1[j] = sj at *
      have s6 : mZ M' 186 (4 * i + j) = (sj.1 : Int) := by rw [hD'.z (by omega)]; exact sx
      have e4 : ((i : Int) * 4 + (j : Int)).toNat = 4 * i + j := by omega
      have rk := c_reckon (d := d) (fr := (sj.1 : Int)) (e := e) h (TxC_d tx hD' (fun k => by omega) (fun k => by omega)) (by rw [hD'.eqs.inm, hD'.2.1]; exact S1) (by decide) (by rw [hD'.eqs.inm, hD'.2.1]; exact W1) (by decide) (by decide) (by decide) (by decide) (fun k hk => by rw [hD'.z (by omega)]; exact he k hk) ⟨by omega, by omega⟩
      rw [t2] at rk
      simp (disch := first | assumption | decide | omega) only [n_251_0, n_251_28, n_251_90, f_251_32, z_iconst, z_bipush, z_sipush, z_ldc, z_ldcs, z_ldcw, z_ldc2, z_lconst0, z_lconst1, z_null, z_getstatic, z_iload_0, z_iload_1, z_iload_2, z_iload_3, z_iload, z_istore_0, z_istore_1, z_istore_2, z_istore_3, z_istore, z_lload_0, z_lload_1, z_lload_2, z_lload_3, z_lload, z_lstore_0, z_lstore_1, z_lstore_2, z_lstore_3, z_lstore, z_aload_0, z_aload_1, z_aload_2, z_aload_3, z_aload, z_astore_0, z_astore_1, z_astore_2, z_astore_3, z_astore, ald_0, ald_s, z_iinc, qst1_1i, qst2_1i, qst1_1r, qst2_1r, qst1_1u, qst2_1u, qst1_1n, qst2_1n, qst1_1l, qst2_1l, qst1_0, qst2_0, qst1_s, qst2_s, z_iadd, z_isub, z_imul, z_iand, z_ior, z_ixor, z_ishl, z_ishr, z_idiv, z_irem, z_ladd, z_lsub, z_lmul, z_land, z_lor, z_ldiv, z_lrem, z_ineg, z_lshl, z_lshr, z_i2l, z_l2i, z_i2b, z_i2c, z_lcmp, z_dupi, z_dupr, z_popi, z_popr, z_dup2, z_goto, z_get0, z_get1, z_get2, z_get3, z_put0, z_put1, z_put2, z_put2n, z_put3, z_iaload, z_baload, z_laload, z_aaload, z_iastore, z_bastore, z_lastore, z_aastore, z_aastoren, z_arraylength, z_new, z_newarray, z_anewarray, z_multi, z_objinit, z_is0, z_iv0, z_ip0, z_is1, z_iv1, z_ip1, z_is2, z_iv2, z_ip2, z_is3, z_iv3, z_ip3, z_is4, z_iv4, z_ip4, z_is5, z_iv5, z_ip5, z_is6, z_iv6, z_ip6, z_is7, z_iv7, z_ip7, z_m991, z_m992, z_m993, z_m994, z_m995, z_m996, z_m998, acal_0, acal_1, acal_2, acal_3, acal_4, aK_v, aK_n, sF_c, sF_n, b_nr, b_nn, r_I, r_Z, r_L, r_A, r_V, sw_F, sw_n, gd_tt, is01_bzT, is01_0, is01_1, qrv_s, qrv_n, bi_eq_t, bi_eq_f, bi_ne_t, bi_ne_f, bi_lt_t, bi_lt_f, bi_ge_t, bi_ge_f, bi_gt_t, bi_gt_f, bi_le_t, bi_le_f, bc_eq_t, bc_eq_f, bc_ne_t, bc_ne_f, bc_lt_t, bc_lt_f, bc_ge_t, bc_ge_f, bc_gt_t, bc_gt_f, bc_le_t, bc_le_f, bb_eq_t, bb_eq_f, bb_ne_t, bb_ne_f, sc_t, sc_f, b_nr, b_nn, mI_J, mI_R, mJ_I, mJ_R, mR_I, mR_J, mK_I, mK_J, mK_R, mN_I, mN_J, mN_R, inM_I, inM_J, inM_R, mZ_nc, mZ_nk, mZ_sm, mZ_J, mZ_R, mJ_nc, mJ_ni, mJ_sm, mI_Z, iz_add, iz_sub, iz_mul, iz_neg, iz_lt, iz_le, iz_eq, iz_clamp, iz_inB, iz_div, iz_rem, shK h, shR h, inM_lit, and_self, true_and, and_true, true_or, or_true, not_true_eq_false, not_false_eq_true, Nat.reduceEqDiff, reduceCtorEq, Int.reduceNeg, Int.reduceSub, Int.reduceAdd, Int.reduceMul, Int.reduceToNat, Int.reduceEq, Int.neg_neg, Int.cast_ofNat_Int, Nat.reduceAdd, Nat.reduceMul, Nat.reduceSub, gd_t, emod_r, iz_0, Int.zero_add, Int.add_zero, wp_some, lz_add, lz_sub, lz_mul, lz_0, lz_1, lz_of, lz_nz, lz_i2l, lz_l2i, lz_rem, lz_div, is01_i, lcmp_lt, lcmp_eq, lcmp_gt, s6, e4]
      refine wp_cL rk (fun z M2 r => ?_)
      obtain ⟨rz, D2⟩ := r
      have D02 : Dif M M2 (fun i _ => i = 215 ∨ i = 216) := hD'.tr (D2.mono (fun i k q => Or.inl q))
      have h2 := D02.shp hz (fun i k hi => by omega)
      have hN2 := h2.1
      cases ev : sj.2 e with
      | none =>
        rw [ev] at rz
        have rz : z = -2000000000 := rz
        have fin := hP 0 M2 ⟨D02, Or.inl ⟨rfl, hp2 (by rw [ed]; exact sumsV_n ev)⟩⟩
        subst rz
        simp (disch := first | assumption | decide | omega) only [n_251_0, n_251_28, n_251_90, f_251_32, z_iconst, z_bipush, z_sipush, z_ldc, z_ldcs, z_ldcw, z_ldc2, z_lconst0, z_lconst1, z_null, z_getstatic, z_iload_0, z_iload_1, z_iload_2, z_iload_3, z_iload, z_istore_0, z_istore_1, z_istore_2, z_istore_3, z_istore, z_lload_0, z_lload_1, z_lload_2, z_lload_3, z_lload, z_lstore_0, z_lstore_1, z_lstore_2, z_lstore_3, z_lstore, z_aload_0, z_aload_1, z_aload_2, z_aload_3, z_aload, z_astore_0, z_astore_1, z_astore_2, z_astore_3, z_astore, ald_0, ald_s, z_iinc, qst1_1i, qst2_1i, qst1_1r, qst2_1r, qst1_1u, qst2_1u, qst1_1n, qst2_1n, qst1_1l, qst2_1l, qst1_0, qst2_0, qst1_s, qst2_s, z_iadd, z_isub, z_imul, z_iand, z_ior, z_ixor, z_ishl, z_ishr, z_idiv, z_irem, z_ladd, z_lsub, z_lmul, z_land, z_lor, z_ldiv, z_lrem, z_ineg, z_lshl, z_lshr, z_i2l, z_l2i, z_i2b, z_i2c, z_lcmp, z_dupi, z_dupr, z_popi, z_popr, z_dup2, z_goto, z_get0, z_get1, z_get2, z_get3, z_put0, z_put1, z_put2, z_put2n, z_put3, z_iaload, z_baload, z_laload, z_aaload, z_iastore, z_bastore, z_lastore, z_aastore, z_aastoren, z_arraylength, z_new, z_newarray, z_anewarray, z_multi, z_objinit, z_is0, z_iv0, z_ip0, z_is1, z_iv1, z_ip1, z_is2, z_iv2, z_ip2, z_is3, z_iv3, z_ip3, z_is4, z_iv4, z_ip4, z_is5, z_iv5, z_ip5, z_is6, z_iv6, z_ip6, z_is7, z_iv7, z_ip7, z_m991, z_m992, z_m993, z_m994, z_m995, z_m996, z_m998, acal_0, acal_1, acal_2, acal_3, acal_4, aK_v, aK_n, sF_c, sF_n, b_nr, b_nn, r_I, r_Z, r_L, r_A, r_V, sw_F, sw_n, gd_tt, is01_bzT, is01_0, is01_1, qrv_s, qrv_n, bi_eq_t, bi_eq_f, bi_ne_t, bi_ne_f, bi_lt_t, bi_lt_f, bi_ge_t, bi_ge_f, bi_gt_t, bi_gt_f, bi_le_t, bi_le_f, bc_eq_t, bc_eq_f, bc_ne_t, bc_ne_f, bc_lt_t, bc_lt_f, bc_ge_t, bc_ge_f, bc_gt_t, bc_gt_f, bc_le_t, bc_le_f, bb_eq_t, bb_eq_f, bb_ne_t, bb_ne_f, sc_t, sc_f, b_nr, b_nn, mI_J, mI_R, mJ_I, mJ_R, mR_I, mR_J, mK_I, mK_J, mK_R, mN_I, mN_J, mN_R, inM_I, inM_J, inM_R, mZ_nc, mZ_nk, mZ_sm, mZ_J, mZ_R, mJ_nc, mJ_ni, mJ_sm, mI_Z, iz_add, iz_sub, iz_mul, iz_neg, iz_lt, iz_le, iz_eq, iz_clamp, iz_inB, iz_div, iz_rem, shK h, shR h, inM_lit, and_self, true_and, and_true, true_or, or_true, not_true_eq_false, not_false_eq_true, Nat.reduceEqDiff, reduceCtorEq, Int.reduceNeg, Int.reduceSub, Int.reduceAdd, Int.reduceMul, Int.reduceToNat, Int.reduceEq, Int.neg_neg, Int.cast_ofNat_Int, Nat.reduceAdd, Nat.reduceMul, Nat.reduceSub, gd_t, emod_r, iz_0, Int.zero_add, Int.add_zero, wp_some, lz_add, lz_sub, lz_mul, lz_0, lz_1, lz_of, lz_nz, lz_i2l, lz_l2i, lz_rem, lz_div, is01_i, lcmp_lt, lcmp_eq, lcmp_gt]
        exact fin
      | some w =>
        rw [ev] at rz
        have rz : z = w := rz
        subst rz
        have wb := rkv_b (t2.trans ev)
        obtain ⟨v1, v2⟩ := sumsV_s (ss := it.2.1.drop (j + 1)) ev
        rw [← ed] at v1 v2
        have fin := fun v5 v6 => hg2 (k - 1) [some (.ref 193), some (.ref 184), some (.int (iz (i : Int))), some (.int (iz (m : Int))), some (.int (iz ((j + 1 : Nat) : Int))), v5, v6] (qsI M2 216 j (iz z)) (by omega) ⟨j + 1, pre ++ [z], v5, v6, rfl, by omega, D02.I (Or.inr rfl), by rw [List.length_append, hpl]; rfl, fun t q => by
          rw [List.append_assoc]
          exact hp1 _ (v1 t q), fun q => hp2 (v2 q), fun n x q => by
          by_cases nl : n < pre.length
          · rw [List.getElem?_append_left nl] at q
            rw [mZ_nk (by omega), D2.z (by omega)]
            exact hp3 n x q
          · rw [List.getElem?_append_right (by omega)] at q
            have n0 : n - pre.length = 0 := by
              have := lt_of_get q
              simp only [List.length_cons, List.length_nil] at this
              omega
            rw [n0] at q
            have q : z = x := Option.some.inj q
            rw [show n = j by omega, mZ_sm rfl (by omega) (by omega)]
            exact q⟩
        have zn : ¬ z = -2000000000 := by omega
        clear hg2 hP
        simp (disch := first | assumption | decide | omega) only [n_251_0, n_251_28, n_251_90, f_251_32, z_iconst, z_bipush, z_sipush, z_ldc, z_ldcs, z_ldcw, z_ldc2, z_lconst0, z_lconst1, z_null, z_getstatic, z_iload_0, z_iload_1, z_iload_2, z_iload_3, z_iload, z_istore_0, z_istore_1, z_istore_2, z_istore_3, z_istore, z_lload_0, z_lload_1, z_lload_2, z_lload_3, z_lload, z_lstore_0, z_lstore_1, z_lstore_2, z_lstore_3, z_lstore, z_aload_0, z_aload_1, z_aload_2, z_aload_3, z_aload, z_astore_0, z_astore_1, z_astore_2, z_astore_3, z_astore, ald_0, ald_s, z_iinc, qst1_1i, qst2_1i, qst1_1r, qst2_1r, qst1_1u, qst2_1u, qst1_1n, qst2_1n, qst1_1l, qst2_1l, qst1_0, qst2_0, qst1_s, qst2_s, z_iadd, z_isub, z_imul, z_iand, z_ior, z_ixor, z_ishl, z_ishr, z_idiv, z_irem, z_ladd, z_lsub, z_lmul, z_land, z_lor, z_ldiv, z_lrem, z_ineg, z_lshl, z_lshr, z_i2l, z_l2i, z_i2b, z_i2c, z_lcmp, z_dupi, z_dupr, z_popi, z_popr, z_dup2, z_goto, z_get0, z_get1, z_get2, z_get3, z_put0, z_put1, z_put2, z_put2n, z_put3, z_iaload, z_baload, z_laload, z_aaload, z_iastore, z_bastore, z_lastore, z_aastore, z_aastoren, z_arraylength, z_new, z_newarray, z_anewarray, z_multi, z_objinit, z_is0, z_iv0, z_ip0, z_is1, z_iv1, z_ip1, z_is2, z_iv2, z_ip2, z_is3, z_iv3, z_ip3, z_is4, z_iv4, z_ip4, z_is5, z_iv5, z_ip5, z_is6, z_iv6, z_ip6, z_is7, z_iv7, z_ip7, z_m991, z_m992, z_m993, z_m994, z_m995, z_m996, z_m998, acal_0, acal_1, acal_2, acal_3, acal_4, aK_v, aK_n, sF_c, sF_n, b_nr, b_nn, r_I, r_Z, r_L, r_A, r_V, sw_F, sw_n, gd_tt, is01_bzT, is01_0, is01_1, qrv_s, qrv_n, bi_eq_t, bi_eq_f, bi_ne_t, bi_ne_f, bi_lt_t, bi_lt_f, bi_ge_t, bi_ge_f, bi_gt_t, bi_gt_f, bi_le_t, bi_le_f, bc_eq_t, bc_eq_f, bc_ne_t, bc_ne_f, bc_lt_t, bc_lt_f, bc_ge_t, bc_ge_f, bc_gt_t, bc_gt_f, bc_le_t, bc_le_f, bb_eq_t, bb_eq_f, bb_ne_t, bb_ne_f, sc_t, sc_f, b_nr, b_nn, mI_J, mI_R, mJ_I, mJ_R, mR_I, mR_J, mK_I, mK_J, mK_R, mN_I, mN_J, mN_R, inM_I, inM_J, inM_R, mZ_nc, mZ_nk, mZ_sm, mZ_J, mZ_R, mJ_nc, mJ_ni, mJ_sm, mI_Z, iz_add, iz_sub, iz_mul, iz_neg, iz_lt, iz_le, iz_eq, iz_clamp, iz_inB, iz_div, iz_rem, shK h, shR h, inM_lit, and_self, true_and, and_true, true_or, or_true, not_true_eq_false, not_false_eq_true, Nat.reduceEqDiff, reduceCtorEq, Int.reduceNeg, Int.reduceSub, Int.reduceAdd, Int.reduceMul, Int.reduceToNat, Int.reduceEq, Int.neg_neg, Int.cast_ofNat_Int, Nat.reduceAdd, Nat.reduceMul, Nat.reduceSub, gd_t, emod_r, iz_0, Int.zero_add, Int.add_zero, wp_some, lz_add, lz_sub, lz_mul, lz_0, lz_1, lz_of, lz_nz, lz_i2l, lz_l2i, lz_rem, lz_div, is01_i, lcmp_lt, lcmp_eq, lcmp_gt, shK h2, shR h2, Int.toNat_natCast]
        exact fin _ _
  have l4 : ((4 : Nat) : Int) = 4 := rfl
  show wp (cal ((d + 1) + 1) 251 [.ref 193, .ref 184, .int (iz (i : Int))] M) P
  rw [cal_251, gd_t (Nat.le_of_ble_eq_true rfl)]
  change wp (n_251_0 (cal _) [some (.ref 193), some (.ref 184), some (.int (iz (i : Int))), none, none, none, none] [] _) _
  by_cases k0 : it.1 = 0
  · have y := loop 4 (by rw [k0]; rfl)
    have y : wp (n_251_28 (cal (d + 1)) [some (.ref 193), some (.ref 184), some (.int (iz (i : Int))), none, none, none, none] [.int (iz 4)] M) P := y
    have kI : ((it.1 : Nat) : Int) = 0 := by omega
    clear loop hP
    simp (disch := first | assumption | decide | omega) only [n_251_0, n_251_90, f_251_32, z_iconst, z_bipush, z_sipush, z_ldc, z_ldcs, z_ldcw, z_ldc2, z_lconst0, z_lconst1, z_null, z_getstatic, z_iload_0, z_iload_1, z_iload_2, z_iload_3, z_iload, z_istore_0, z_istore_1, z_istore_2, z_istore_3, z_istore, z_lload_0, z_lload_1, z_lload_2, z_lload_3, z_lload, z_lstore_0, z_lstore_1, z_lstore_2, z_lstore_3, z_lstore, z_aload_0, z_aload_1, z_aload_2, z_aload_3, z_aload, z_astore_0, z_astore_1, z_astore_2, z_astore_3, z_astore, ald_0, ald_s, z_iinc, qst1_1i, qst2_1i, qst1_1r, qst2_1r, qst1_1u, qst2_1u, qst1_1n, qst2_1n, qst1_1l, qst2_1l, qst1_0, qst2_0, qst1_s, qst2_s, z_iadd, z_isub, z_imul, z_iand, z_ior, z_ixor, z_ishl, z_ishr, z_idiv, z_irem, z_ladd, z_lsub, z_lmul, z_land, z_lor, z_ldiv, z_lrem, z_ineg, z_lshl, z_lshr, z_i2l, z_l2i, z_i2b, z_i2c, z_lcmp, z_dupi, z_dupr, z_popi, z_popr, z_dup2, z_goto, z_get0, z_get1, z_get2, z_get3, z_put0, z_put1, z_put2, z_put2n, z_put3, z_iaload, z_baload, z_laload, z_aaload, z_iastore, z_bastore, z_lastore, z_aastore, z_aastoren, z_arraylength, z_new, z_newarray, z_anewarray, z_multi, z_objinit, z_is0, z_iv0, z_ip0, z_is1, z_iv1, z_ip1, z_is2, z_iv2, z_ip2, z_is3, z_iv3, z_ip3, z_is4, z_iv4, z_ip4, z_is5, z_iv5, z_ip5, z_is6, z_iv6, z_ip6, z_is7, z_iv7, z_ip7, z_m991, z_m992, z_m993, z_m994, z_m995, z_m996, z_m998, acal_0, acal_1, acal_2, acal_3, acal_4, aK_v, aK_n, sF_c, sF_n, b_nr, b_nn, r_I, r_Z, r_L, r_A, r_V, sw_F, sw_n, gd_tt, is01_bzT, is01_0, is01_1, qrv_s, qrv_n, bi_eq_t, bi_eq_f, bi_ne_t, bi_ne_f, bi_lt_t, bi_lt_f, bi_ge_t, bi_ge_f, bi_gt_t, bi_gt_f, bi_le_t, bi_le_f, bc_eq_t, bc_eq_f, bc_ne_t, bc_ne_f, bc_lt_t, bc_lt_f, bc_ge_t, bc_ge_f, bc_gt_t, bc_gt_f, bc_le_t, bc_le_f, bb_eq_t, bb_eq_f, bb_ne_t, bb_ne_f, sc_t, sc_f, b_nr, b_nn, mI_J, mI_R, mJ_I, mJ_R, mR_I, mR_J, mK_I, mK_J, mK_R, mN_I, mN_J, mN_R, inM_I, inM_J, inM_R, mZ_nc, mZ_nk, mZ_sm, mZ_J, mZ_R, mJ_nc, mJ_ni, mJ_sm, mI_Z, iz_add, iz_sub, iz_mul, iz_neg, iz_lt, iz_le, iz_eq, iz_clamp, iz_inB, iz_div, iz_rem, shK h, shR h, inM_lit, and_self, true_and, and_true, true_or, or_true, not_true_eq_false, not_false_eq_true, Nat.reduceEqDiff, reduceCtorEq, Int.reduceNeg, Int.reduceSub, Int.reduceAdd, Int.reduceMul, Int.reduceToNat, Int.reduceEq, Int.neg_neg, Int.cast_ofNat_Int, Nat.reduceAdd, Nat.reduceMul, Nat.reduceSub, gd_t, emod_r, iz_0, Int.zero_add, Int.add_zero, wp_some, q1, kI, Int.toNat_natCast]
    exact y
  · by_cases k1 : it.1 = 1
    · have y := loop 2 (by rw [k1]; rfl)
      have y : wp (n_251_28 (cal (d + 1)) [some (.ref 193), some (.ref 184), some (.int (iz (i : Int))), none, none, none, none] [.int (iz 2)] M) P := y
      have kI : ((it.1 : Nat) : Int) = 1 := by omega
      clear loop hP
      simp (disch := first | assumption | decide | omega) only [n_251_0, n_251_90, f_251_32, z_iconst, z_bipush, z_sipush, z_ldc, z_ldcs, z_ldcw, z_ldc2, z_lconst0, z_lconst1, z_null, z_getstatic, z_iload_0, z_iload_1, z_iload_2, z_iload_3, z_iload, z_istore_0, z_istore_1, z_istore_2, z_istore_3, z_istore, z_lload_0, z_lload_1, z_lload_2, z_lload_3, z_lload, z_lstore_0, z_lstore_1, z_lstore_2, z_lstore_3, z_lstore, z_aload_0, z_aload_1, z_aload_2, z_aload_3, z_aload, z_astore_0, z_astore_1, z_astore_2, z_astore_3, z_astore, ald_0, ald_s, z_iinc, qst1_1i, qst2_1i, qst1_1r, qst2_1r, qst1_1u, qst2_1u, qst1_1n, qst2_1n, qst1_1l, qst2_1l, qst1_0, qst2_0, qst1_s, qst2_s, z_iadd, z_isub, z_imul, z_iand, z_ior, z_ixor, z_ishl, z_ishr, z_idiv, z_irem, z_ladd, z_lsub, z_lmul, z_land, z_lor, z_ldiv, z_lrem, z_ineg, z_lshl, z_lshr, z_i2l, z_l2i, z_i2b, z_i2c, z_lcmp, z_dupi, z_dupr, z_popi, z_popr, z_dup2, z_goto, z_get0, z_get1, z_get2, z_get3, z_put0, z_put1, z_put2, z_put2n, z_put3, z_iaload, z_baload, z_laload, z_aaload, z_iastore, z_bastore, z_lastore, z_aastore, z_aastoren, z_arraylength, z_new, z_newarray, z_anewarray, z_multi, z_objinit, z_is0, z_iv0, z_ip0, z_is1, z_iv1, z_ip1, z_is2, z_iv2, z_ip2, z_is3, z_iv3, z_ip3, z_is4, z_iv4, z_ip4, z_is5, z_iv5, z_ip5, z_is6, z_iv6, z_ip6, z_is7, z_iv7, z_ip7, z_m991, z_m992, z_m993, z_m994, z_m995, z_m996, z_m998, acal_0, acal_1, acal_2, acal_3, acal_4, aK_v, aK_n, sF_c, sF_n, b_nr, b_nn, r_I, r_Z, r_L, r_A, r_V, sw_F, sw_n, gd_tt, is01_bzT, is01_0, is01_1, qrv_s, qrv_n, bi_eq_t, bi_eq_f, bi_ne_t, bi_ne_f, bi_lt_t, bi_lt_f, bi_ge_t, bi_ge_f, bi_gt_t, bi_gt_f, bi_le_t, bi_le_f, bc_eq_t, bc_eq_f, bc_ne_t, bc_ne_f, bc_lt_t, bc_lt_f, bc_ge_t, bc_ge_f, bc_gt_t, bc_gt_f, bc_le_t, bc_le_f, bb_eq_t, bb_eq_f, bb_ne_t, bb_ne_f, sc_t, sc_f, b_nr, b_nn, mI_J, mI_R, mJ_I, mJ_R, mR_I, mR_J, mK_I, mK_J, mK_R, mN_I, mN_J, mN_R, inM_I, inM_J, inM_R, mZ_nc, mZ_nk, mZ_sm, mZ_J, mZ_R, mJ_nc, mJ_ni, mJ_sm, mI_Z, iz_add, iz_sub, iz_mul, iz_neg, iz_lt, iz_le, iz_eq, iz_clamp, iz_inB, iz_div, iz_rem, shK h, shR h, inM_lit, and_self, true_and, and_true, true_or, or_true, not_true_eq_false, not_false_eq_true, Nat.reduceEqDiff, reduceCtorEq, Int.reduceNeg, Int.reduceSub, Int.reduceAdd, Int.reduceMul, Int.reduceToNat, Int.reduceEq, Int.neg_neg, Int.cast_ofNat_Int, Nat.reduceAdd, Nat.reduceMul, Nat.reduceSub, gd_t, emod_r, iz_0, Int.zero_add, Int.add_zero, wp_some, q1, kI, Int.toNat_natCast]
      exact y
    · have y := loop 0 (by unfold manyO; rw [if_neg k0, if_neg k1])
      have y : wp (n_251_28 (cal (d + 1)) [some (.ref 193), some (.ref 184), some (.int (iz (i : Int))), none, none, none, none] [.int (iz 0)] M) P := y
      have kI : ((it.1 : Nat) : Int) = 2 := by omega
      clear loop hP
      simp (disch := first | assumption | decide | omega) only [n_251_0, n_251_90, f_251_32, z_iconst, z_bipush, z_sipush, z_ldc, z_ldcs, z_ldcw, z_ldc2, z_lconst0, z_lconst1, z_null, z_getstatic, z_iload_0, z_iload_1, z_iload_2, z_iload_3, z_iload, z_istore_0, z_istore_1, z_istore_2, z_istore_3, z_istore, z_lload_0, z_lload_1, z_lload_2, z_lload_3, z_lload, z_lstore_0, z_lstore_1, z_lstore_2, z_lstore_3, z_lstore, z_aload_0, z_aload_1, z_aload_2, z_aload_3, z_aload, z_astore_0, z_astore_1, z_astore_2, z_astore_3, z_astore, ald_0, ald_s, z_iinc, qst1_1i, qst2_1i, qst1_1r, qst2_1r, qst1_1u, qst2_1u, qst1_1n, qst2_1n, qst1_1l, qst2_1l, qst1_0, qst2_0, qst1_s, qst2_s, z_iadd, z_isub, z_imul, z_iand, z_ior, z_ixor, z_ishl, z_ishr, z_idiv, z_irem, z_ladd, z_lsub, z_lmul, z_land, z_lor, z_ldiv, z_lrem, z_ineg, z_lshl, z_lshr, z_i2l, z_l2i, z_i2b, z_i2c, z_lcmp, z_dupi, z_dupr, z_popi, z_popr, z_dup2, z_goto, z_get0, z_get1, z_get2, z_get3, z_put0, z_put1, z_put2, z_put2n, z_put3, z_iaload, z_baload, z_laload, z_aaload, z_iastore, z_bastore, z_lastore, z_aastore, z_aastoren, z_arraylength, z_new, z_newarray, z_anewarray, z_multi, z_objinit, z_is0, z_iv0, z_ip0, z_is1, z_iv1, z_ip1, z_is2, z_iv2, z_ip2, z_is3, z_iv3, z_ip3, z_is4, z_iv4, z_ip4, z_is5, z_iv5, z_ip5, z_is6, z_iv6, z_ip6, z_is7, z_iv7, z_ip7, z_m991, z_m992, z_m993, z_m994, z_m995, z_m996, z_m998, acal_0, acal_1, acal_2, acal_3, acal_4, aK_v, aK_n, sF_c, sF_n, b_nr, b_nn, r_I, r_Z, r_L, r_A, r_V, sw_F, sw_n, gd_tt, is01_bzT, is01_0, is01_1, qrv_s, qrv_n, bi_eq_t, bi_eq_f, bi_ne_t, bi_ne_f, bi_lt_t, bi_lt_f, bi_ge_t, bi_ge_f, bi_gt_t, bi_gt_f, bi_le_t, bi_le_f, bc_eq_t, bc_eq_f, bc_ne_t, bc_ne_f, bc_lt_t, bc_lt_f, bc_ge_t, bc_ge_f, bc_gt_t, bc_gt_f, bc_le_t, bc_le_f, bb_eq_t, bb_eq_f, bb_ne_t, bb_ne_f, sc_t, sc_f, b_nr, b_nn, mI_J, mI_R, mJ_I, mJ_R, mR_I, mR_J, mK_I, mK_J, mK_R, mN_I, mN_J, mN_R, inM_I, inM_J, inM_R, mZ_nc, mZ_nk, mZ_sm, mZ_J, mZ_R, mJ_nc, mJ_ni, mJ_sm, mI_Z, iz_add, iz_sub, iz_mul, iz_neg, iz_lt, iz_le, iz_eq, iz_clamp, iz_inB, iz_div, iz_rem, shK h, shR h, inM_lit, and_self, true_and, and_true, true_or, or_true, not_true_eq_false, not_false_eq_true, Nat.reduceEqDiff, reduceCtorEq, Int.reduceNeg, Int.reduceSub, Int.reduceAdd, Int.reduceMul, Int.reduceToNat, Int.reduceEq, Int.neg_neg, Int.cast_ofNat_Int, Nat.reduceAdd, Nat.reduceMul, Nat.reduceSub, gd_t, emod_r, iz_0, Int.zero_add, Int.add_zero, wp_some, q1, kI, Int.toNat_natCast]
      exact y
set_option maxHeartbeats 1000000 in
theorem x_canRun {d : Nat} {M : qMe} {k : Nat} {z : Nat → Int} (hW : Wo M) (hk : k ≤ 2) (hz : ∀ j, j < manyO k → mZ M 216 j = z j) (hb : ∀ j, -1000000000 ≤ z j ∧ z j ≤ 1000000000) : cal (d + 3) 252 [.ref 193, .int (iz (k : Int))] M = some (some (.int (bz (canO M k z))), M) := by
  have h := hW.1
  have hN := h.1
  have s := WFk_s hW.2.1
  obtain ⟨-, r10, r9⟩ := RaS_of hW.2.2.1
  have r25 : mZ M 25 0 = mZ M 481 260 := Ra25 hW.2.2.1 0 (by decide)
  have cw : ∀ v a b : Int, (-1000000000 ≤ v ∧ v ≤ 1000000000) → (-1000000000 ≤ a ∧ a ≤ 1000000000) → (-1000000000 ≤ b ∧ b ≤ 1000000000) → cal (d + 2) 57 [.int (iz v), .int (iz a), .int (iz b)] M = some (some (.int (bz (a ≤ v ∧ v ≤ b))), M) := fun v a b h1 h2 h3 => c_within (d := d + 1) (by omega) (by omega) (by omega) (by omega) (by omega) (by omega)
  have b0 := hb 0
  have b1 := hb 1
  have b2 := hb 2
  have b3 := hb 3
  show cal ((d + 2) + 1) 252 [.ref 193, .int (iz (k : Int))] M = _
  refine (cal_252 _ _ _).trans ((gd_t (Nat.le_of_ble_eq_true rfl)).trans ?_)
  change n_252_0 (cal _) [some (.ref 193), some (.int (iz (k : Int)))] [] _ = _
  rcases (show k = 0 ∨ k = 1 ∨ k = 2 by omega) with e | e | e
  · have kI : (k : Int) = 0 := by omega
    rw [e] at hz ⊢
    have z0 : mZ M 216 0 = z 0 := hz 0 (by decide)
    have z1 : mZ M 216 1 = z 1 := hz 1 (by decide)
    have z2 : mZ M 216 2 = z 2 := hz 2 (by decide)
    have z3 : mZ M 216 3 = z 3 := hz 3 (by decide)
    have ec : canO M 0 z ↔ (0 ≤ z 0 ∧ z 0 ≤ mZ M 481 266 - 1) ∧ (0 ≤ z 1 ∧ z 1 ≤ mZ M 481 265 - 1) ∧ (0 ≤ z 2 ∧ z 2 ≤ 3) ∧ (1 ≤ z 3 ∧ z 3 ≤ 9) ∧ mZ M 22 (z 0).toNat = 0 := by
      have e : (0 ≤ z 0 ∧ z 0 ≤ 7) → mZ M 22 (z 0).toNat = mZ M 481 (204 + 3 * (z 0) + 2).toNat := fun q => by
        rw [Ra22 hW.2.2.1 _ (by omega), show (204 + 3 * (z 0) + 2).toNat = 206 + 3 * (z 0).toNat by omega]
      unfold canO isT castZ
      constructor
      · rintro (⟨q, -⟩ | ⟨q, -⟩ | ⟨-, q1, q2, q3, q4, q5, q6, q7, q8, q9⟩)
        · omega
        · omega
        · have c1 : (160 * z 0 + 40 * z 1 + 10 * z 2 + z 3) / 160 = z 0 := by omega
          have c2 : (160 * z 0 + 40 * z 1 + 10 * z 2 + z 3) / 40 % 4 = z 1 := by omega
          rw [c1] at q7 q9
          rw [c2] at q8
          exact ⟨by omega, by omega, q3, q4, by rw [e q1]; exact q9⟩
      · rintro ⟨q1, q2, q3, q4, q5⟩
        have c1 : (160 * z 0 + 40 * z 1 + 10 * z 2 + z 3) / 160 = z 0 := by omega
        have c2 : (160 * z 0 + 40 * z 1 + 10 * z 2 + z 3) / 40 % 4 = z 1 := by omega
        refine Or.inr (Or.inr ⟨rfl, by omega, by omega, q3, q4, by omega, by omega, ?_, ?_, ?_⟩)
        · rw [c1]; omega
        · rw [c2]; omega
        · rw [c1, ← e (by omega)]; exact q5
    rw [bz_iff ec]
    by_cases y1 : 0 ≤ z 0 ∧ z 0 ≤ mZ M 481 266 - 1
    · by_cases y2 : 0 ≤ z 1 ∧ z 1 ≤ mZ M 481 265 - 1
      · by_cases y3 : 0 ≤ z 2 ∧ z 2 ≤ 3
        · by_cases y4 : 1 ≤ z 3 ∧ z 3 ≤ 9
          · obtain ⟨w0, hw0⟩ : ∃ w : Nat, z 0 = (w : Int) := ⟨(z 0).toNat, by omega⟩
            have gg := W_gone hW.2.1 w0 (by omega)
            rw [← Ra22 hW.2.2.1 w0 (by omega)] at gg
            by_cases y5 : mZ M 22 (z 0).toNat = 0
            · rw [bz_t ⟨y1, y2, y3, y4, y5⟩]
              rw [hw0, Int.toNat_natCast] at y5
              rw [hw0] at y1 z0 b0
              simp (disch := first | assumption | decide | omega) only [n_252_0, n_252_101, n_252_102, n_252_139, n_252_140, n_252_163, z_iconst, z_bipush, z_sipush, z_ldc, z_ldcs, z_ldcw, z_ldc2, z_lconst0, z_lconst1, z_null, z_getstatic, z_iload_0, z_iload_1, z_iload_2, z_iload_3, z_iload, z_istore_0, z_istore_1, z_istore_2, z_istore_3, z_istore, z_lload_0, z_lload_1, z_lload_2, z_lload_3, z_lload, z_lstore_0, z_lstore_1, z_lstore_2, z_lstore_3, z_lstore, z_aload_0, z_aload_1, z_aload_2, z_aload_3, z_aload, z_astore_0, z_astore_1, z_astore_2, z_astore_3, z_astore, ald_0, ald_s, z_iinc, qst1_1i, qst2_1i, qst1_1r, qst2_1r, qst1_1u, qst2_1u, qst1_1n, qst2_1n, qst1_1l, qst2_1l, qst1_0, qst2_0, qst1_s, qst2_s, z_iadd, z_isub, z_imul, z_iand, z_ior, z_ixor, z_ishl, z_ishr, z_idiv, z_irem, z_ladd, z_lsub, z_lmul, z_land, z_lor, z_ldiv, z_lrem, z_ineg, z_lshl, z_lshr, z_i2l, z_l2i, z_i2b, z_i2c, z_lcmp, z_dupi, z_dupr, z_popi, z_popr, z_dup2, z_goto, z_get0, z_get1, z_get2, z_get3, z_put0, z_put1, z_put2, z_put2n, z_put3, z_iaload, z_baload, z_laload, z_aaload, z_iastore, z_bastore, z_lastore, z_aastore, z_aastoren, z_arraylength, z_new, z_newarray, z_anewarray, z_multi, z_objinit, z_is0, z_iv0, z_ip0, z_is1, z_iv1, z_ip1, z_is2, z_iv2, z_ip2, z_is3, z_iv3, z_ip3, z_is4, z_iv4, z_ip4, z_is5, z_iv5, z_ip5, z_is6, z_iv6, z_ip6, z_is7, z_iv7, z_ip7, z_m991, z_m992, z_m993, z_m994, z_m995, z_m996, z_m998, acal_0, acal_1, acal_2, acal_3, acal_4, aK_v, aK_n, sF_c, sF_n, b_nr, b_nn, r_I, r_Z, r_L, r_A, r_V, sw_F, sw_n, gd_tt, is01_bzT, is01_0, is01_1, qrv_s, qrv_n, bi_eq_t, bi_eq_f, bi_ne_t, bi_ne_f, bi_lt_t, bi_lt_f, bi_ge_t, bi_ge_f, bi_gt_t, bi_gt_f, bi_le_t, bi_le_f, bc_eq_t, bc_eq_f, bc_ne_t, bc_ne_f, bc_lt_t, bc_lt_f, bc_ge_t, bc_ge_f, bc_gt_t, bc_gt_f, bc_le_t, bc_le_f, bb_eq_t, bb_eq_f, bb_ne_t, bb_ne_f, sc_t, sc_f, b_nr, b_nn, mI_J, mI_R, mJ_I, mJ_R, mR_I, mR_J, mK_I, mK_J, mK_R, mN_I, mN_J, mN_R, inM_I, inM_J, inM_R, mZ_nc, mZ_nk, mZ_sm, mZ_J, mZ_R, mJ_nc, mJ_ni, mJ_sm, mI_Z, iz_add, iz_sub, iz_mul, iz_neg, iz_lt, iz_le, iz_eq, iz_clamp, iz_inB, iz_div, iz_rem, shK h, shR h, inM_lit, and_self, true_and, and_true, true_or, or_true, not_true_eq_false, not_false_eq_true, Nat.reduceEqDiff, reduceCtorEq, Int.reduceNeg, Int.reduceSub, Int.reduceAdd, Int.reduceMul, Int.reduceToNat, Int.reduceEq, Int.neg_neg, Int.cast_ofNat_Int, Nat.reduceAdd, Nat.reduceMul, Nat.reduceSub, gd_t, emod_r, iz_0, Int.zero_add, Int.add_zero, wp_some, z0, z1, z2, z3, r9, r10, cw, y5, Int.natCast_zero, Int.toNat_natCast]
            · rw [bz_f (fun q => y5 q.2.2.2.2)]
              rw [hw0, Int.toNat_natCast] at y5
              rw [hw0] at y1 z0 b0
              simp (disch := first | assumption | decide | omega) only [n_252_0, n_252_101, n_252_102, n_252_139, n_252_140, n_252_163, z_iconst, z_bipush, z_sipush, z_ldc, z_ldcs, z_ldcw, z_ldc2, z_lconst0, z_lconst1, z_null, z_getstatic, z_iload_0, z_iload_1, z_iload_2, z_iload_3, z_iload, z_istore_0, z_istore_1, z_istore_2, z_istore_3, z_istore, z_lload_0, z_lload_1, z_lload_2, z_lload_3, z_lload, z_lstore_0, z_lstore_1, z_lstore_2, z_lstore_3, z_lstore, z_aload_0, z_aload_1, z_aload_2, z_aload_3, z_aload, z_astore_0, z_astore_1, z_astore_2, z_astore_3, z_astore, ald_0, ald_s, z_iinc, qst1_1i, qst2_1i, qst1_1r, qst2_1r, qst1_1u, qst2_1u, qst1_1n, qst2_1n, qst1_1l, qst2_1l, qst1_0, qst2_0, qst1_s, qst2_s, z_iadd, z_isub, z_imul, z_iand, z_ior, z_ixor, z_ishl, z_ishr, z_idiv, z_irem, z_ladd, z_lsub, z_lmul, z_land, z_lor, z_ldiv, z_lrem, z_ineg, z_lshl, z_lshr, z_i2l, z_l2i, z_i2b, z_i2c, z_lcmp, z_dupi, z_dupr, z_popi, z_popr, z_dup2, z_goto, z_get0, z_get1, z_get2, z_get3, z_put0, z_put1, z_put2, z_put2n, z_put3, z_iaload, z_baload, z_laload, z_aaload, z_iastore, z_bastore, z_lastore, z_aastore, z_aastoren, z_arraylength, z_new, z_newarray, z_anewarray, z_multi, z_objinit, z_is0, z_iv0, z_ip0, z_is1, z_iv1, z_ip1, z_is2, z_iv2, z_ip2, z_is3, z_iv3, z_ip3, z_is4, z_iv4, z_ip4, z_is5, z_iv5, z_ip5, z_is6, z_iv6, z_ip6, z_is7, z_iv7, z_ip7, z_m991, z_m992, z_m993, z_m994, z_m995, z_m996, z_m998, acal_0, acal_1, acal_2, acal_3, acal_4, aK_v, aK_n, sF_c, sF_n, b_nr, b_nn, r_I, r_Z, r_L, r_A, r_V, sw_F, sw_n, gd_tt, is01_bzT, is01_0, is01_1, qrv_s, qrv_n, bi_eq_t, bi_eq_f, bi_ne_t, bi_ne_f, bi_lt_t, bi_lt_f, bi_ge_t, bi_ge_f, bi_gt_t, bi_gt_f, bi_le_t, bi_le_f, bc_eq_t, bc_eq_f, bc_ne_t, bc_ne_f, bc_lt_t, bc_lt_f, bc_ge_t, bc_ge_f, bc_gt_t, bc_gt_f, bc_le_t, bc_le_f, bb_eq_t, bb_eq_f, bb_ne_t, bb_ne_f, sc_t, sc_f, b_nr, b_nn, mI_J, mI_R, mJ_I, mJ_R, mR_I, mR_J, mK_I, mK_J, mK_R, mN_I, mN_J, mN_R, inM_I, inM_J, inM_R, mZ_nc, mZ_nk, mZ_sm, mZ_J, mZ_R, mJ_nc, mJ_ni, mJ_sm, mI_Z, iz_add, iz_sub, iz_mul, iz_neg, iz_lt, iz_le, iz_eq, iz_clamp, iz_inB, iz_div, iz_rem, shK h, shR h, inM_lit, and_self, true_and, and_true, true_or, or_true, not_true_eq_false, not_false_eq_true, Nat.reduceEqDiff, reduceCtorEq, Int.reduceNeg, Int.reduceSub, Int.reduceAdd, Int.reduceMul, Int.reduceToNat, Int.reduceEq, Int.neg_neg, Int.cast_ofNat_Int, Nat.reduceAdd, Nat.reduceMul, Nat.reduceSub, gd_t, emod_r, iz_0, Int.zero_add, Int.add_zero, wp_some, z0, z1, z2, z3, r9, r10, cw, Int.natCast_zero, Int.toNat_natCast]
          · rw [bz_f (fun q => y4 q.2.2.2.1)]
            simp (disch := first | assumption | decide | omega) only [n_252_0, n_252_101, n_252_102, n_252_139, n_252_140, n_252_163, z_iconst, z_bipush, z_sipush, z_ldc, z_ldcs, z_ldcw, z_ldc2, z_lconst0, z_lconst1, z_null, z_getstatic, z_iload_0, z_iload_1, z_iload_2, z_iload_3, z_iload, z_istore_0, z_istore_1, z_istore_2, z_istore_3, z_istore, z_lload_0, z_lload_1, z_lload_2, z_lload_3, z_lload, z_lstore_0, z_lstore_1, z_lstore_2, z_lstore_3, z_lstore, z_aload_0, z_aload_1, z_aload_2, z_aload_3, z_aload, z_astore_0, z_astore_1, z_astore_2, z_astore_3, z_astore, ald_0, ald_s, z_iinc, qst1_1i, qst2_1i, qst1_1r, qst2_1r, qst1_1u, qst2_1u, qst1_1n, qst2_1n, qst1_1l, qst2_1l, qst1_0, qst2_0, qst1_s, qst2_s, z_iadd, z_isub, z_imul, z_iand, z_ior, z_ixor, z_ishl, z_ishr, z_idiv, z_irem, z_ladd, z_lsub, z_lmul, z_land, z_lor, z_ldiv, z_lrem, z_ineg, z_lshl, z_lshr, z_i2l, z_l2i, z_i2b, z_i2c, z_lcmp, z_dupi, z_dupr, z_popi, z_popr, z_dup2, z_goto, z_get0, z_get1, z_get2, z_get3, z_put0, z_put1, z_put2, z_put2n, z_put3, z_iaload, z_baload, z_laload, z_aaload, z_iastore, z_bastore, z_lastore, z_aastore, z_aastoren, z_arraylength, z_new, z_newarray, z_anewarray, z_multi, z_objinit, z_is0, z_iv0, z_ip0, z_is1, z_iv1, z_ip1, z_is2, z_iv2, z_ip2, z_is3, z_iv3, z_ip3, z_is4, z_iv4, z_ip4, z_is5, z_iv5, z_ip5, z_is6, z_iv6, z_ip6, z_is7, z_iv7, z_ip7, z_m991, z_m992, z_m993, z_m994, z_m995, z_m996, z_m998, acal_0, acal_1, acal_2, acal_3, acal_4, aK_v, aK_n, sF_c, sF_n, b_nr, b_nn, r_I, r_Z, r_L, r_A, r_V, sw_F, sw_n, gd_tt, is01_bzT, is01_0, is01_1, qrv_s, qrv_n, bi_eq_t, bi_eq_f, bi_ne_t, bi_ne_f, bi_lt_t, bi_lt_f, bi_ge_t, bi_ge_f, bi_gt_t, bi_gt_f, bi_le_t, bi_le_f, bc_eq_t, bc_eq_f, bc_ne_t, bc_ne_f, bc_lt_t, bc_lt_f, bc_ge_t, bc_ge_f, bc_gt_t, bc_gt_f, bc_le_t, bc_le_f, bb_eq_t, bb_eq_f, bb_ne_t, bb_ne_f, sc_t, sc_f, b_nr, b_nn, mI_J, mI_R, mJ_I, mJ_R, mR_I, mR_J, mK_I, mK_J, mK_R, mN_I, mN_J, mN_R, inM_I, inM_J, inM_R, mZ_nc, mZ_nk, mZ_sm, mZ_J, mZ_R, mJ_nc, mJ_ni, mJ_sm, mI_Z, iz_add, iz_sub, iz_mul, iz_neg, iz_lt, iz_le, iz_eq, iz_clamp, iz_inB, iz_div, iz_rem, shK h, shR h, inM_lit, and_self, true_and, and_true, true_or, or_true, not_true_eq_false, not_false_eq_true, Nat.reduceEqDiff, reduceCtorEq, Int.reduceNeg, Int.reduceSub, Int.reduceAdd, Int.reduceMul, Int.reduceToNat, Int.reduceEq, Int.neg_neg, Int.cast_ofNat_Int, Nat.reduceAdd, Nat.reduceMul, Nat.reduceSub, gd_t, emod_r, iz_0, Int.zero_add, Int.add_zero, wp_some, z0, z1, z2, z3, r9, r10, cw, Int.natCast_zero]
        · rw [bz_f (fun q => y3 q.2.2.1)]
          simp (disch := first | assumption | decide | omega) only [n_252_0, n_252_101, n_252_102, n_252_139, n_252_140, n_252_163, z_iconst, z_bipush, z_sipush, z_ldc, z_ldcs, z_ldcw, z_ldc2, z_lconst0, z_lconst1, z_null, z_getstatic, z_iload_0, z_iload_1, z_iload_2, z_iload_3, z_iload, z_istore_0, z_istore_1, z_istore_2, z_istore_3, z_istore, z_lload_0, z_lload_1, z_lload_2, z_lload_3, z_lload, z_lstore_0, z_lstore_1, z_lstore_2, z_lstore_3, z_lstore, z_aload_0, z_aload_1, z_aload_2, z_aload_3, z_aload, z_astore_0, z_astore_1, z_astore_2, z_astore_3, z_astore, ald_0, ald_s, z_iinc, qst1_1i, qst2_1i, qst1_1r, qst2_1r, qst1_1u, qst2_1u, qst1_1n, qst2_1n, qst1_1l, qst2_1l, qst1_0, qst2_0, qst1_s, qst2_s, z_iadd, z_isub, z_imul, z_iand, z_ior, z_ixor, z_ishl, z_ishr, z_idiv, z_irem, z_ladd, z_lsub, z_lmul, z_land, z_lor, z_ldiv, z_lrem, z_ineg, z_lshl, z_lshr, z_i2l, z_l2i, z_i2b, z_i2c, z_lcmp, z_dupi, z_dupr, z_popi, z_popr, z_dup2, z_goto, z_get0, z_get1, z_get2, z_get3, z_put0, z_put1, z_put2, z_put2n, z_put3, z_iaload, z_baload, z_laload, z_aaload, z_iastore, z_bastore, z_lastore, z_aastore, z_aastoren, z_arraylength, z_new, z_newarray, z_anewarray, z_multi, z_objinit, z_is0, z_iv0, z_ip0, z_is1, z_iv1, z_ip1, z_is2, z_iv2, z_ip2, z_is3, z_iv3, z_ip3, z_is4, z_iv4, z_ip4, z_is5, z_iv5, z_ip5, z_is6, z_iv6, z_ip6, z_is7, z_iv7, z_ip7, z_m991, z_m992, z_m993, z_m994, z_m995, z_m996, z_m998, acal_0, acal_1, acal_2, acal_3, acal_4, aK_v, aK_n, sF_c, sF_n, b_nr, b_nn, r_I, r_Z, r_L, r_A, r_V, sw_F, sw_n, gd_tt, is01_bzT, is01_0, is01_1, qrv_s, qrv_n, bi_eq_t, bi_eq_f, bi_ne_t, bi_ne_f, bi_lt_t, bi_lt_f, bi_ge_t, bi_ge_f, bi_gt_t, bi_gt_f, bi_le_t, bi_le_f, bc_eq_t, bc_eq_f, bc_ne_t, bc_ne_f, bc_lt_t, bc_lt_f, bc_ge_t, bc_ge_f, bc_gt_t, bc_gt_f, bc_le_t, bc_le_f, bb_eq_t, bb_eq_f, bb_ne_t, bb_ne_f, sc_t, sc_f, b_nr, b_nn, mI_J, mI_R, mJ_I, mJ_R, mR_I, mR_J, mK_I, mK_J, mK_R, mN_I, mN_J, mN_R, inM_I, inM_J, inM_R, mZ_nc, mZ_nk, mZ_sm, mZ_J, mZ_R, mJ_nc, mJ_ni, mJ_sm, mI_Z, iz_add, iz_sub, iz_mul, iz_neg, iz_lt, iz_le, iz_eq, iz_clamp, iz_inB, iz_div, iz_rem, shK h, shR h, inM_lit, and_self, true_and, and_true, true_or, or_true, not_true_eq_false, not_false_eq_true, Nat.reduceEqDiff, reduceCtorEq, Int.reduceNeg, Int.reduceSub, Int.reduceAdd, Int.reduceMul, Int.reduceToNat, Int.reduceEq, Int.neg_neg, Int.cast_ofNat_Int, Nat.reduceAdd, Nat.reduceMul, Nat.reduceSub, gd_t, emod_r, iz_0, Int.zero_add, Int.add_zero, wp_some, z0, z1, z2, z3, r9, r10, cw, Int.natCast_zero]
      · rw [bz_f (fun q => y2 q.2.1)]
        simp (disch := first | assumption | decide | omega) only [n_252_0, n_252_101, n_252_102, n_252_139, n_252_140, n_252_163, z_iconst, z_bipush, z_sipush, z_ldc, z_ldcs, z_ldcw, z_ldc2, z_lconst0, z_lconst1, z_null, z_getstatic, z_iload_0, z_iload_1, z_iload_2, z_iload_3, z_iload, z_istore_0, z_istore_1, z_istore_2, z_istore_3, z_istore, z_lload_0, z_lload_1, z_lload_2, z_lload_3, z_lload, z_lstore_0, z_lstore_1, z_lstore_2, z_lstore_3, z_lstore, z_aload_0, z_aload_1, z_aload_2, z_aload_3, z_aload, z_astore_0, z_astore_1, z_astore_2, z_astore_3, z_astore, ald_0, ald_s, z_iinc, qst1_1i, qst2_1i, qst1_1r, qst2_1r, qst1_1u, qst2_1u, qst1_1n, qst2_1n, qst1_1l, qst2_1l, qst1_0, qst2_0, qst1_s, qst2_s, z_iadd, z_isub, z_imul, z_iand, z_ior, z_ixor, z_ishl, z_ishr, z_idiv, z_irem, z_ladd, z_lsub, z_lmul, z_land, z_lor, z_ldiv, z_lrem, z_ineg, z_lshl, z_lshr, z_i2l, z_l2i, z_i2b, z_i2c, z_lcmp, z_dupi, z_dupr, z_popi, z_popr, z_dup2, z_goto, z_get0, z_get1, z_get2, z_get3, z_put0, z_put1, z_put2, z_put2n, z_put3, z_iaload, z_baload, z_laload, z_aaload, z_iastore, z_bastore, z_lastore, z_aastore, z_aastoren, z_arraylength, z_new, z_newarray, z_anewarray, z_multi, z_objinit, z_is0, z_iv0, z_ip0, z_is1, z_iv1, z_ip1, z_is2, z_iv2, z_ip2, z_is3, z_iv3, z_ip3, z_is4, z_iv4, z_ip4, z_is5, z_iv5, z_ip5, z_is6, z_iv6, z_ip6, z_is7, z_iv7, z_ip7, z_m991, z_m992, z_m993, z_m994, z_m995, z_m996, z_m998, acal_0, acal_1, acal_2, acal_3, acal_4, aK_v, aK_n, sF_c, sF_n, b_nr, b_nn, r_I, r_Z, r_L, r_A, r_V, sw_F, sw_n, gd_tt, is01_bzT, is01_0, is01_1, qrv_s, qrv_n, bi_eq_t, bi_eq_f, bi_ne_t, bi_ne_f, bi_lt_t, bi_lt_f, bi_ge_t, bi_ge_f, bi_gt_t, bi_gt_f, bi_le_t, bi_le_f, bc_eq_t, bc_eq_f, bc_ne_t, bc_ne_f, bc_lt_t, bc_lt_f, bc_ge_t, bc_ge_f, bc_gt_t, bc_gt_f, bc_le_t, bc_le_f, bb_eq_t, bb_eq_f, bb_ne_t, bb_ne_f, sc_t, sc_f, b_nr, b_nn, mI_J, mI_R, mJ_I, mJ_R, mR_I, mR_J, mK_I, mK_J, mK_R, mN_I, mN_J, mN_R, inM_I, inM_J, inM_R, mZ_nc, mZ_nk, mZ_sm, mZ_J, mZ_R, mJ_nc, mJ_ni, mJ_sm, mI_Z, iz_add, iz_sub, iz_mul, iz_neg, iz_lt, iz_le, iz_eq, iz_clamp, iz_inB, iz_div, iz_rem, shK h, shR h, inM_lit, and_self, true_and, and_true, true_or, or_true, not_true_eq_false, not_false_eq_true, Nat.reduceEqDiff, reduceCtorEq, Int.reduceNeg, Int.reduceSub, Int.reduceAdd, Int.reduceMul, Int.reduceToNat, Int.reduceEq, Int.neg_neg, Int.cast_ofNat_Int, Nat.reduceAdd, Nat.reduceMul, Nat.reduceSub, gd_t, emod_r, iz_0, Int.zero_add, Int.add_zero, wp_some, z0, z1, z2, z3, r9, r10, cw, Int.natCast_zero]
    · rw [bz_f (fun q => y1 q.1)]
      simp (disch := first | assumption | decide | omega) only [n_252_0, n_252_101, n_252_102, n_252_139, n_252_140, n_252_163, z_iconst, z_bipush, z_sipush, z_ldc, z_ldcs, z_ldcw, z_ldc2, z_lconst0, z_lconst1, z_null, z_getstatic, z_iload_0, z_iload_1, z_iload_2, z_iload_3, z_iload, z_istore_0, z_istore_1, z_istore_2, z_istore_3, z_istore, z_lload_0, z_lload_1, z_lload_2, z_lload_3, z_lload, z_lstore_0, z_lstore_1, z_lstore_2, z_lstore_3, z_lstore, z_aload_0, z_aload_1, z_aload_2, z_aload_3, z_aload, z_astore_0, z_astore_1, z_astore_2, z_astore_3, z_astore, ald_0, ald_s, z_iinc, qst1_1i, qst2_1i, qst1_1r, qst2_1r, qst1_1u, qst2_1u, qst1_1n, qst2_1n, qst1_1l, qst2_1l, qst1_0, qst2_0, qst1_s, qst2_s, z_iadd, z_isub, z_imul, z_iand, z_ior, z_ixor, z_ishl, z_ishr, z_idiv, z_irem, z_ladd, z_lsub, z_lmul, z_land, z_lor, z_ldiv, z_lrem, z_ineg, z_lshl, z_lshr, z_i2l, z_l2i, z_i2b, z_i2c, z_lcmp, z_dupi, z_dupr, z_popi, z_popr, z_dup2, z_goto, z_get0, z_get1, z_get2, z_get3, z_put0, z_put1, z_put2, z_put2n, z_put3, z_iaload, z_baload, z_laload, z_aaload, z_iastore, z_bastore, z_lastore, z_aastore, z_aastoren, z_arraylength, z_new, z_newarray, z_anewarray, z_multi, z_objinit, z_is0, z_iv0, z_ip0, z_is1, z_iv1, z_ip1, z_is2, z_iv2, z_ip2, z_is3, z_iv3, z_ip3, z_is4, z_iv4, z_ip4, z_is5, z_iv5, z_ip5, z_is6, z_iv6, z_ip6, z_is7, z_iv7, z_ip7, z_m991, z_m992, z_m993, z_m994, z_m995, z_m996, z_m998, acal_0, acal_1, acal_2, acal_3, acal_4, aK_v, aK_n, sF_c, sF_n, b_nr, b_nn, r_I, r_Z, r_L, r_A, r_V, sw_F, sw_n, gd_tt, is01_bzT, is01_0, is01_1, qrv_s, qrv_n, bi_eq_t, bi_eq_f, bi_ne_t, bi_ne_f, bi_lt_t, bi_lt_f, bi_ge_t, bi_ge_f, bi_gt_t, bi_gt_f, bi_le_t, bi_le_f, bc_eq_t, bc_eq_f, bc_ne_t, bc_ne_f, bc_lt_t, bc_lt_f, bc_ge_t, bc_ge_f, bc_gt_t, bc_gt_f, bc_le_t, bc_le_f, bb_eq_t, bb_eq_f, bb_ne_t, bb_ne_f, sc_t, sc_f, b_nr, b_nn, mI_J, mI_R, mJ_I, mJ_R, mR_I, mR_J, mK_I, mK_J, mK_R, mN_I, mN_J, mN_R, inM_I, inM_J, inM_R, mZ_nc, mZ_nk, mZ_sm, mZ_J, mZ_R, mJ_nc, mJ_ni, mJ_sm, mI_Z, iz_add, iz_sub, iz_mul, iz_neg, iz_lt, iz_le, iz_eq, iz_clamp, iz_inB, iz_div, iz_rem, shK h, shR h, inM_lit, and_self, true_and, and_true, true_or, or_true, not_true_eq_false, not_false_eq_true, Nat.reduceEqDiff, reduceCtorEq, Int.reduceNeg, Int.reduceSub, Int.reduceAdd, Int.reduceMul, Int.reduceToNat, Int.reduceEq, Int.neg_neg, Int.cast_ofNat_Int, Nat.reduceAdd, Nat.reduceMul, Nat.reduceSub, gd_t, emod_r, iz_0, Int.zero_add, Int.add_zero, wp_some, z0, z1, z2, z3, r9, r10, cw, Int.natCast_zero]
  · rw [e] at hz ⊢
    have z0 : mZ M 216 0 = z 0 := hz 0 (by decide)
    have z1 : mZ M 216 1 = z 1 := hz 1 (by decide)
    have ic := c_isCell (d := d) (v := z 0) (M := M) (by omega) (by omega)
    have ec : canO M 1 z ↔ (0 ≤ z 0 ∧ z 0 ≤ 79) ∧ 0 ≤ z 1 ∧ z 1 ≤ 9 := by
      unfold canO
      constructor
      · rintro (⟨q, -⟩ | ⟨-, q⟩ | ⟨q, -⟩)
        · omega
        · exact q
        · omega
      · exact fun q => Or.inr (Or.inl ⟨rfl, q⟩)
    rw [bz_iff ec]
    by_cases y1 : 0 ≤ z 0 ∧ z 0 ≤ 79
    · by_cases y2 : 0 ≤ z 1 ∧ z 1 ≤ 9
      · rw [bz_t ⟨y1, y2⟩]
        simp (disch := first | assumption | decide | omega) only [n_252_0, n_252_101, n_252_102, n_252_139, n_252_140, n_252_163, z_iconst, z_bipush, z_sipush, z_ldc, z_ldcs, z_ldcw, z_ldc2, z_lconst0, z_lconst1, z_null, z_getstatic, z_iload_0, z_iload_1, z_iload_2, z_iload_3, z_iload, z_istore_0, z_istore_1, z_istore_2, z_istore_3, z_istore, z_lload_0, z_lload_1, z_lload_2, z_lload_3, z_lload, z_lstore_0, z_lstore_1, z_lstore_2, z_lstore_3, z_lstore, z_aload_0, z_aload_1, z_aload_2, z_aload_3, z_aload, z_astore_0, z_astore_1, z_astore_2, z_astore_3, z_astore, ald_0, ald_s, z_iinc, qst1_1i, qst2_1i, qst1_1r, qst2_1r, qst1_1u, qst2_1u, qst1_1n, qst2_1n, qst1_1l, qst2_1l, qst1_0, qst2_0, qst1_s, qst2_s, z_iadd, z_isub, z_imul, z_iand, z_ior, z_ixor, z_ishl, z_ishr, z_idiv, z_irem, z_ladd, z_lsub, z_lmul, z_land, z_lor, z_ldiv, z_lrem, z_ineg, z_lshl, z_lshr, z_i2l, z_l2i, z_i2b, z_i2c, z_lcmp, z_dupi, z_dupr, z_popi, z_popr, z_dup2, z_goto, z_get0, z_get1, z_get2, z_get3, z_put0, z_put1, z_put2, z_put2n, z_put3, z_iaload, z_baload, z_laload, z_aaload, z_iastore, z_bastore, z_lastore, z_aastore, z_aastoren, z_arraylength, z_new, z_newarray, z_anewarray, z_multi, z_objinit, z_is0, z_iv0, z_ip0, z_is1, z_iv1, z_ip1, z_is2, z_iv2, z_ip2, z_is3, z_iv3, z_ip3, z_is4, z_iv4, z_ip4, z_is5, z_iv5, z_ip5, z_is6, z_iv6, z_ip6, z_is7, z_iv7, z_ip7, z_m991, z_m992, z_m993, z_m994, z_m995, z_m996, z_m998, acal_0, acal_1, acal_2, acal_3, acal_4, aK_v, aK_n, sF_c, sF_n, b_nr, b_nn, r_I, r_Z, r_L, r_A, r_V, sw_F, sw_n, gd_tt, is01_bzT, is01_0, is01_1, qrv_s, qrv_n, bi_eq_t, bi_eq_f, bi_ne_t, bi_ne_f, bi_lt_t, bi_lt_f, bi_ge_t, bi_ge_f, bi_gt_t, bi_gt_f, bi_le_t, bi_le_f, bc_eq_t, bc_eq_f, bc_ne_t, bc_ne_f, bc_lt_t, bc_lt_f, bc_ge_t, bc_ge_f, bc_gt_t, bc_gt_f, bc_le_t, bc_le_f, bb_eq_t, bb_eq_f, bb_ne_t, bb_ne_f, sc_t, sc_f, b_nr, b_nn, mI_J, mI_R, mJ_I, mJ_R, mR_I, mR_J, mK_I, mK_J, mK_R, mN_I, mN_J, mN_R, inM_I, inM_J, inM_R, mZ_nc, mZ_nk, mZ_sm, mZ_J, mZ_R, mJ_nc, mJ_ni, mJ_sm, mI_Z, iz_add, iz_sub, iz_mul, iz_neg, iz_lt, iz_le, iz_eq, iz_clamp, iz_inB, iz_div, iz_rem, shK h, shR h, inM_lit, and_self, true_and, and_true, true_or, or_true, not_true_eq_false, not_false_eq_true, Nat.reduceEqDiff, reduceCtorEq, Int.reduceNeg, Int.reduceSub, Int.reduceAdd, Int.reduceMul, Int.reduceToNat, Int.reduceEq, Int.neg_neg, Int.cast_ofNat_Int, Nat.reduceAdd, Nat.reduceMul, Nat.reduceSub, gd_t, emod_r, iz_0, Int.zero_add, Int.add_zero, wp_some, z0, z1, ic, cw, Int.natCast_one]
      · rw [bz_f (fun q => y2 q.2)]
        simp (disch := first | assumption | decide | omega) only [n_252_0, n_252_101, n_252_102, n_252_139, n_252_140, n_252_163, z_iconst, z_bipush, z_sipush, z_ldc, z_ldcs, z_ldcw, z_ldc2, z_lconst0, z_lconst1, z_null, z_getstatic, z_iload_0, z_iload_1, z_iload_2, z_iload_3, z_iload, z_istore_0, z_istore_1, z_istore_2, z_istore_3, z_istore, z_lload_0, z_lload_1, z_lload_2, z_lload_3, z_lload, z_lstore_0, z_lstore_1, z_lstore_2, z_lstore_3, z_lstore, z_aload_0, z_aload_1, z_aload_2, z_aload_3, z_aload, z_astore_0, z_astore_1, z_astore_2, z_astore_3, z_astore, ald_0, ald_s, z_iinc, qst1_1i, qst2_1i, qst1_1r, qst2_1r, qst1_1u, qst2_1u, qst1_1n, qst2_1n, qst1_1l, qst2_1l, qst1_0, qst2_0, qst1_s, qst2_s, z_iadd, z_isub, z_imul, z_iand, z_ior, z_ixor, z_ishl, z_ishr, z_idiv, z_irem, z_ladd, z_lsub, z_lmul, z_land, z_lor, z_ldiv, z_lrem, z_ineg, z_lshl, z_lshr, z_i2l, z_l2i, z_i2b, z_i2c, z_lcmp, z_dupi, z_dupr, z_popi, z_popr, z_dup2, z_goto, z_get0, z_get1, z_get2, z_get3, z_put0, z_put1, z_put2, z_put2n, z_put3, z_iaload, z_baload, z_laload, z_aaload, z_iastore, z_bastore, z_lastore, z_aastore, z_aastoren, z_arraylength, z_new, z_newarray, z_anewarray, z_multi, z_objinit, z_is0, z_iv0, z_ip0, z_is1, z_iv1, z_ip1, z_is2, z_iv2, z_ip2, z_is3, z_iv3, z_ip3, z_is4, z_iv4, z_ip4, z_is5, z_iv5, z_ip5, z_is6, z_iv6, z_ip6, z_is7, z_iv7, z_ip7, z_m991, z_m992, z_m993, z_m994, z_m995, z_m996, z_m998, acal_0, acal_1, acal_2, acal_3, acal_4, aK_v, aK_n, sF_c, sF_n, b_nr, b_nn, r_I, r_Z, r_L, r_A, r_V, sw_F, sw_n, gd_tt, is01_bzT, is01_0, is01_1, qrv_s, qrv_n, bi_eq_t, bi_eq_f, bi_ne_t, bi_ne_f, bi_lt_t, bi_lt_f, bi_ge_t, bi_ge_f, bi_gt_t, bi_gt_f, bi_le_t, bi_le_f, bc_eq_t, bc_eq_f, bc_ne_t, bc_ne_f, bc_lt_t, bc_lt_f, bc_ge_t, bc_ge_f, bc_gt_t, bc_gt_f, bc_le_t, bc_le_f, bb_eq_t, bb_eq_f, bb_ne_t, bb_ne_f, sc_t, sc_f, b_nr, b_nn, mI_J, mI_R, mJ_I, mJ_R, mR_I, mR_J, mK_I, mK_J, mK_R, mN_I, mN_J, mN_R, inM_I, inM_J, inM_R, mZ_nc, mZ_nk, mZ_sm, mZ_J, mZ_R, mJ_nc, mJ_ni, mJ_sm, mI_Z, iz_add, iz_sub, iz_mul, iz_neg, iz_lt, iz_le, iz_eq, iz_clamp, iz_inB, iz_div, iz_rem, shK h, shR h, inM_lit, and_self, true_and, and_true, true_or, or_true, not_true_eq_false, not_false_eq_true, Nat.reduceEqDiff, reduceCtorEq, Int.reduceNeg, Int.reduceSub, Int.reduceAdd, Int.reduceMul, Int.reduceToNat, Int.reduceEq, Int.neg_neg, Int.cast_ofNat_Int, Nat.reduceAdd, Nat.reduceMul, Nat.reduceSub, gd_t, emod_r, iz_0, Int.zero_add, Int.add_zero, wp_some, z0, z1, ic, cw, Int.natCast_one]
    · rw [bz_f (fun q => y1 q.1)]
      simp (disch := first | assumption | decide | omega) only [n_252_0, n_252_101, n_252_102, n_252_139, n_252_140, n_252_163, z_iconst, z_bipush, z_sipush, z_ldc, z_ldcs, z_ldcw, z_ldc2, z_lconst0, z_lconst1, z_null, z_getstatic, z_iload_0, z_iload_1, z_iload_2, z_iload_3, z_iload, z_istore_0, z_istore_1, z_istore_2, z_istore_3, z_istore, z_lload_0, z_lload_1, z_lload_2, z_lload_3, z_lload, z_lstore_0, z_lstore_1, z_lstore_2, z_lstore_3, z_lstore, z_aload_0, z_aload_1, z_aload_2, z_aload_3, z_aload, z_astore_0, z_astore_1, z_astore_2, z_astore_3, z_astore, ald_0, ald_s, z_iinc, qst1_1i, qst2_1i, qst1_1r, qst2_1r, qst1_1u, qst2_1u, qst1_1n, qst2_1n, qst1_1l, qst2_1l, qst1_0, qst2_0, qst1_s, qst2_s, z_iadd, z_isub, z_imul, z_iand, z_ior, z_ixor, z_ishl, z_ishr, z_idiv, z_irem, z_ladd, z_lsub, z_lmul, z_land, z_lor, z_ldiv, z_lrem, z_ineg, z_lshl, z_lshr, z_i2l, z_l2i, z_i2b, z_i2c, z_lcmp, z_dupi, z_dupr, z_popi, z_popr, z_dup2, z_goto, z_get0, z_get1, z_get2, z_get3, z_put0, z_put1, z_put2, z_put2n, z_put3, z_iaload, z_baload, z_laload, z_aaload, z_iastore, z_bastore, z_lastore, z_aastore, z_aastoren, z_arraylength, z_new, z_newarray, z_anewarray, z_multi, z_objinit, z_is0, z_iv0, z_ip0, z_is1, z_iv1, z_ip1, z_is2, z_iv2, z_ip2, z_is3, z_iv3, z_ip3, z_is4, z_iv4, z_ip4, z_is5, z_iv5, z_ip5, z_is6, z_iv6, z_ip6, z_is7, z_iv7, z_ip7, z_m991, z_m992, z_m993, z_m994, z_m995, z_m996, z_m998, acal_0, acal_1, acal_2, acal_3, acal_4, aK_v, aK_n, sF_c, sF_n, b_nr, b_nn, r_I, r_Z, r_L, r_A, r_V, sw_F, sw_n, gd_tt, is01_bzT, is01_0, is01_1, qrv_s, qrv_n, bi_eq_t, bi_eq_f, bi_ne_t, bi_ne_f, bi_lt_t, bi_lt_f, bi_ge_t, bi_ge_f, bi_gt_t, bi_gt_f, bi_le_t, bi_le_f, bc_eq_t, bc_eq_f, bc_ne_t, bc_ne_f, bc_lt_t, bc_lt_f, bc_ge_t, bc_ge_f, bc_gt_t, bc_gt_f, bc_le_t, bc_le_f, bb_eq_t, bb_eq_f, bb_ne_t, bb_ne_f, sc_t, sc_f, b_nr, b_nn, mI_J, mI_R, mJ_I, mJ_R, mR_I, mR_J, mK_I, mK_J, mK_R, mN_I, mN_J, mN_R, inM_I, inM_J, inM_R, mZ_nc, mZ_nk, mZ_sm, mZ_J, mZ_R, mJ_nc, mJ_ni, mJ_sm, mI_Z, iz_add, iz_sub, iz_mul, iz_neg, iz_lt, iz_le, iz_eq, iz_clamp, iz_inB, iz_div, iz_rem, shK h, shR h, inM_lit, and_self, true_and, and_true, true_or, or_true, not_true_eq_false, not_false_eq_true, Nat.reduceEqDiff, reduceCtorEq, Int.reduceNeg, Int.reduceSub, Int.reduceAdd, Int.reduceMul, Int.reduceToNat, Int.reduceEq, Int.neg_neg, Int.cast_ofNat_Int, Nat.reduceAdd, Nat.reduceMul, Nat.reduceSub, gd_t, emod_r, iz_0, Int.zero_add, Int.add_zero, wp_some, z0, z1, ic, cw, Int.natCast_one]
  · have kI : ((k : Nat) : Int) = 2 := by omega
    have ec : canO M k z ↔ mZ M 481 260 < 99 := by
      rw [e]
      unfold canO
      constructor
      · rintro (⟨-, q⟩ | ⟨q, -⟩ | ⟨q, -⟩)
        · exact q
        · omega
        · omega
      · exact fun q => Or.inl ⟨rfl, q⟩
    rw [bz_iff ec]
    have k2 := h.2.2.2.1.2.1
    have e2 : mZ M 2 0 = 99 := congrArg Int32.toInt (h.2.2.2.2.2.1 0 (by decide) : mI M 2 0 = iz 99)
    by_cases y : mZ M 481 260 < 99
    · rw [bz_t y]
      simp (disch := first | assumption | decide | omega) only [n_252_0, n_252_101, n_252_102, n_252_139, n_252_140, n_252_163, z_iconst, z_bipush, z_sipush, z_ldc, z_ldcs, z_ldcw, z_ldc2, z_lconst0, z_lconst1, z_null, z_getstatic, z_iload_0, z_iload_1, z_iload_2, z_iload_3, z_iload, z_istore_0, z_istore_1, z_istore_2, z_istore_3, z_istore, z_lload_0, z_lload_1, z_lload_2, z_lload_3, z_lload, z_lstore_0, z_lstore_1, z_lstore_2, z_lstore_3, z_lstore, z_aload_0, z_aload_1, z_aload_2, z_aload_3, z_aload, z_astore_0, z_astore_1, z_astore_2, z_astore_3, z_astore, ald_0, ald_s, z_iinc, qst1_1i, qst2_1i, qst1_1r, qst2_1r, qst1_1u, qst2_1u, qst1_1n, qst2_1n, qst1_1l, qst2_1l, qst1_0, qst2_0, qst1_s, qst2_s, z_iadd, z_isub, z_imul, z_iand, z_ior, z_ixor, z_ishl, z_ishr, z_idiv, z_irem, z_ladd, z_lsub, z_lmul, z_land, z_lor, z_ldiv, z_lrem, z_ineg, z_lshl, z_lshr, z_i2l, z_l2i, z_i2b, z_i2c, z_lcmp, z_dupi, z_dupr, z_popi, z_popr, z_dup2, z_goto, z_get0, z_get1, z_get2, z_get3, z_put0, z_put1, z_put2, z_put2n, z_put3, z_iaload, z_baload, z_laload, z_aaload, z_iastore, z_bastore, z_lastore, z_aastore, z_aastoren, z_arraylength, z_new, z_newarray, z_anewarray, z_multi, z_objinit, z_is0, z_iv0, z_ip0, z_is1, z_iv1, z_ip1, z_is2, z_iv2, z_ip2, z_is3, z_iv3, z_ip3, z_is4, z_iv4, z_ip4, z_is5, z_iv5, z_ip5, z_is6, z_iv6, z_ip6, z_is7, z_iv7, z_ip7, z_m991, z_m992, z_m993, z_m994, z_m995, z_m996, z_m998, acal_0, acal_1, acal_2, acal_3, acal_4, aK_v, aK_n, sF_c, sF_n, b_nr, b_nn, r_I, r_Z, r_L, r_A, r_V, sw_F, sw_n, gd_tt, is01_bzT, is01_0, is01_1, qrv_s, qrv_n, bi_eq_t, bi_eq_f, bi_ne_t, bi_ne_f, bi_lt_t, bi_lt_f, bi_ge_t, bi_ge_f, bi_gt_t, bi_gt_f, bi_le_t, bi_le_f, bc_eq_t, bc_eq_f, bc_ne_t, bc_ne_f, bc_lt_t, bc_lt_f, bc_ge_t, bc_ge_f, bc_gt_t, bc_gt_f, bc_le_t, bc_le_f, bb_eq_t, bb_eq_f, bb_ne_t, bb_ne_f, sc_t, sc_f, b_nr, b_nn, mI_J, mI_R, mJ_I, mJ_R, mR_I, mR_J, mK_I, mK_J, mK_R, mN_I, mN_J, mN_R, inM_I, inM_J, inM_R, mZ_nc, mZ_nk, mZ_sm, mZ_J, mZ_R, mJ_nc, mJ_ni, mJ_sm, mI_Z, iz_add, iz_sub, iz_mul, iz_neg, iz_lt, iz_le, iz_eq, iz_clamp, iz_inB, iz_div, iz_rem, shK h, shR h, inM_lit, and_self, true_and, and_true, true_or, or_true, not_true_eq_false, not_false_eq_true, Nat.reduceEqDiff, reduceCtorEq, Int.reduceNeg, Int.reduceSub, Int.reduceAdd, Int.reduceMul, Int.reduceToNat, Int.reduceEq, Int.neg_neg, Int.cast_ofNat_Int, Nat.reduceAdd, Nat.reduceMul, Nat.reduceSub, gd_t, emod_r, iz_0, Int.zero_add, Int.add_zero, wp_some, kI, r25, k2, e2, Nat.reduceLT]
    · rw [bz_f y]
      simp (disch := first | assumption | decide | omega) only [n_252_0, n_252_101, n_252_102, n_252_139, n_252_140, n_252_163, z_iconst, z_bipush, z_sipush, z_ldc, z_ldcs, z_ldcw, z_ldc2, z_lconst0, z_lconst1, z_null, z_getstatic, z_iload_0, z_iload_1, z_iload_2, z_iload_3, z_iload, z_istore_0, z_istore_1, z_istore_2, z_istore_3, z_istore, z_lload_0, z_lload_1, z_lload_2, z_lload_3, z_lload, z_lstore_0, z_lstore_1, z_lstore_2, z_lstore_3, z_lstore, z_aload_0, z_aload_1, z_aload_2, z_aload_3, z_aload, z_astore_0, z_astore_1, z_astore_2, z_astore_3, z_astore, ald_0, ald_s, z_iinc, qst1_1i, qst2_1i, qst1_1r, qst2_1r, qst1_1u, qst2_1u, qst1_1n, qst2_1n, qst1_1l, qst2_1l, qst1_0, qst2_0, qst1_s, qst2_s, z_iadd, z_isub, z_imul, z_iand, z_ior, z_ixor, z_ishl, z_ishr, z_idiv, z_irem, z_ladd, z_lsub, z_lmul, z_land, z_lor, z_ldiv, z_lrem, z_ineg, z_lshl, z_lshr, z_i2l, z_l2i, z_i2b, z_i2c, z_lcmp, z_dupi, z_dupr, z_popi, z_popr, z_dup2, z_goto, z_get0, z_get1, z_get2, z_get3, z_put0, z_put1, z_put2, z_put2n, z_put3, z_iaload, z_baload, z_laload, z_aaload, z_iastore, z_bastore, z_lastore, z_aastore, z_aastoren, z_arraylength, z_new, z_newarray, z_anewarray, z_multi, z_objinit, z_is0, z_iv0, z_ip0, z_is1, z_iv1, z_ip1, z_is2, z_iv2, z_ip2, z_is3, z_iv3, z_ip3, z_is4, z_iv4, z_ip4, z_is5, z_iv5, z_ip5, z_is6, z_iv6, z_ip6, z_is7, z_iv7, z_ip7, z_m991, z_m992, z_m993, z_m994, z_m995, z_m996, z_m998, acal_0, acal_1, acal_2, acal_3, acal_4, aK_v, aK_n, sF_c, sF_n, b_nr, b_nn, r_I, r_Z, r_L, r_A, r_V, sw_F, sw_n, gd_tt, is01_bzT, is01_0, is01_1, qrv_s, qrv_n, bi_eq_t, bi_eq_f, bi_ne_t, bi_ne_f, bi_lt_t, bi_lt_f, bi_ge_t, bi_ge_f, bi_gt_t, bi_gt_f, bi_le_t, bi_le_f, bc_eq_t, bc_eq_f, bc_ne_t, bc_ne_f, bc_lt_t, bc_lt_f, bc_ge_t, bc_ge_f, bc_gt_t, bc_gt_f, bc_le_t, bc_le_f, bb_eq_t, bb_eq_f, bb_ne_t, bb_ne_f, sc_t, sc_f, b_nr, b_nn, mI_J, mI_R, mJ_I, mJ_R, mR_I, mR_J, mK_I, mK_J, mK_R, mN_I, mN_J, mN_R, inM_I, inM_J, inM_R, mZ_nc, mZ_nk, mZ_sm, mZ_J, mZ_R, mJ_nc, mJ_ni, mJ_sm, mI_Z, iz_add, iz_sub, iz_mul, iz_neg, iz_lt, iz_le, iz_eq, iz_clamp, iz_inB, iz_div, iz_rem, shK h, shR h, inM_lit, and_self, true_and, and_true, true_or, or_true, not_true_eq_false, not_false_eq_true, Nat.reduceEqDiff, reduceCtorEq, Int.reduceNeg, Int.reduceSub, Int.reduceAdd, Int.reduceMul, Int.reduceToNat, Int.reduceEq, Int.neg_neg, Int.cast_ofNat_Int, Nat.reduceAdd, Nat.reduceMul, Nat.reduceSub, gd_t, emod_r, iz_0, Int.zero_add, Int.add_zero, wp_some, kI, r25, k2, e2, Nat.reduceLT]

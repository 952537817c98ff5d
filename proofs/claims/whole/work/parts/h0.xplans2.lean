theorem loadN_k {M M1 : qMe} (h : ∀ k, mZ M1 481 k = mZ M 481 k) {S : Nat} : ∀ n : Nat, loadN M1 S n = loadN M S n
  | 0 => by rw [loadN, loadN]
  | n + 1 => by
    by_cases b : bt S n
    · rw [loadN_t b, loadN_t b, loadN_k h n, hwt_k h]
    · rw [loadN_f b, loadN_f b, loadN_k h n]
theorem wayS_k {M M1 : qMe} {f : Int} (h : ∀ k, mZ M1 481 k = mZ M 481 k) {S : Nat} : wayS M1 f S = wayS M f S := by
  unfold wayS
  simp only [tourP_k h, hcl_k h]
theorem okT_k {M M1 : qMe} (h : ∀ k, mZ M1 481 k = mZ M 481 k) {S : Nat} : okT M1 S = okT M S := funext (fun t => by
  unfold okT
  rw [loadN_k h, h])
theorem planP_k {M M1 : qMe} {f : Int} (h : ∀ k, mZ M1 481 k = mZ M 481 k) {S : Nat} : planP M1 f S = planP M f S := by
  have e : ∀ n S, planQ M1 f n S = planQ M f n S := by
    intro n
    induction n with
    | zero => intro S; rfl
    | succ n ih => intro S; rw [planQ, planQ, okT_k h]; simp only [ih, wayS_k h]
  exact e _ _
theorem gT_k {M M1 : qMe} {f : Int} (h : ∀ k, mZ M1 481 k = mZ M 481 k) {S t : Nat} : gT M1 f S t = gT M f S t := by
  unfold gT
  rw [wayS_k h, planP_k h]
/-- the HOUSES with REPLIES, of the first n -/
noncomputable def allN (M : qMe) : Nat → Nat
  | 0 => 0
  | h + 1 => @ite _ (0 < hwt M h) (Classical.propDecidable _) (allN M h ||| 2 ^ h) (allN M h)
theorem allN_t {M : qMe} {h : Nat} (b : 0 < hwt M h) : allN M (h + 1) = allN M h ||| 2 ^ h := by rw [allN]; exact if_pos b
theorem allN_f {M : qMe} {h : Nat} (b : ¬ 0 < hwt M h) : allN M (h + 1) = allN M h := by rw [allN]; exact if_neg b
theorem allN_lt {M : qMe} : ∀ h : Nat, allN M h < 2 ^ h
  | 0 => by rw [allN]; decide
  | h + 1 => by
    have ih := allN_lt (M := M) h
    have p : 2 ^ h < 2 ^ (h + 1) := Nat.pow_lt_pow_right (by decide) (by omega)
    by_cases b : 0 < hwt M h
    · rw [allN_t b]
      exact Nat.or_lt_two_pow (by omega) p
    · rw [allN_f b]; omega
theorem allN_k {M M1 : qMe} (h : ∀ k, mZ M1 481 k = mZ M 481 k) : ∀ n : Nat, allN M1 n = allN M n
  | 0 => by rw [allN, allN]
  | n + 1 => by
    by_cases b : 0 < hwt M n
    · rw [allN_t b, allN_t (by rw [hwt_k h]; exact b), allN_k h n]
    · rw [allN_f b, allN_f (by rw [hwt_k h]; exact b), allN_k h n]
theorem pow8 {n : Nat} (h : n ≤ 8) : 2 ^ n ≤ 256 := Nat.pow_le_pow_right (n := 2) (by decide) h
noncomputable def allH (M : qMe) : Nat := allN M (mZ M 481 264).toNat
theorem allH_b {M : qMe} (hw : WFk M 481 0) : allH M < 256 ∧ inH M (allH M) := by
  have s := (WFk_s hw).1
  have a := allN_lt (M := M) (mZ M 481 264).toNat
  have p := pow8 (n := (mZ M 481 264).toNat) (by omega)
  refine ⟨Nat.lt_of_lt_of_le a p, fun h hh hb => ?_⟩
  rcases Nat.lt_or_ge h (mZ M 481 264).toNat with q | q
  · omega
  · exfalso
    unfold bt allH at hb
    rw [Nat.div_eq_of_lt (Nat.lt_of_lt_of_le a (Nat.pow_le_pow_right (by decide) q))] at hb
    omega
def DPl (i k : Nat) : Prop := (i = 217 ∧ k = 5) ∨ (218 ≤ i ∧ i ≤ 220) ∨ (222 ≤ i ∧ i ≤ 477)
theorem DPl_a {i k : Nat} (h : DPl i k) : aside i := by unfold DPl at h; unfold aside; omega
/-- what the Carrier knows of the sets below n -/
def CwK (M M1 : qMe) (f : Int) (A n : Nat) : Prop := ∀ t : Nat, t < n → t < 256 → t &&& A = t → ¬ t = 0 → mZ M1 218 t = loadN M t 8 ∧ mZ M1 219 t = wayS M f t ∧ ∀ h : Nat, h < 8 → bt t h → mZ M1 (222 + t) h = tourP M f t h
def CpK (M M1 : qMe) (f : Int) (A n : Nat) : Prop := ∀ t : Nat, t < n → t < 256 → t &&& A = t → mZ M1 220 t = planP M f t
theorem sub_tr : ∀ A : Nat, A < 256 → ∀ S : Nat, S < 256 → S &&& A = S → ∀ h : Nat, h < 8 → S / 2 ^ h % 2 = 1 → andn S (2 ^ h) &&& A = andn S (2 ^ h) := by decide +kernel
theorem sub_and {A S t : Nat} (h1 : S &&& A = S) (h2 : t &&& S = t) : t &&& A = t := by
  rw [← h2, Nat.and_assoc, h1]
theorem x_plans96 {d A : Nat} {M M0 : qMe} {f : Int} {P : Option Value → qMe → Prop} (hW : Wo M) (hA : A < 256) (hi : inH M A) (hf : 0 ≤ f ∧ f < 80) (hD0 : Dif M M0 DPl) (ha : mZ M0 217 5 = A) (h0 : mZ M0 220 0 = 0) (hC : CwK M M0 f A 256) (hP : ∀ z M1, Dif M M1 DPl → mZ M1 217 5 = A → CwK M M1 f A 256 → CpK M M1 f A 256 → ((z = 1 ∧ planP M f A < 1000000) ∨ (z = 0 ∧ ¬ planP M f A < 1000000)) → P (some (.int (iz z))) M1) : wp (n_218_94 (cal (d + 2)) [some (.ref 217), some (.int (iz f)), some (.int (iz (A + 1 : Int)))] [] M0) P := by
  have h := hW.1
  have hN := h.1
  have hw := hW.2.1
  have hz := hD0.shp h (fun i k hi => by unfold DPl; omega)
  simp (disch := first | assumption | decide | omega) only [n_218_0, n_218_48, n_218_54, n_218_88, n_218_94, n_218_126, n_218_132, n_218_151, f_218_7, f_218_63, n_218_96, z_iconst, z_bipush, z_sipush, z_ldc, z_ldcs, z_ldcw, z_ldc2, z_lconst0, z_lconst1, z_null, z_getstatic, z_iload_0, z_iload_1, z_iload_2, z_iload_3, z_iload, z_istore_0, z_istore_1, z_istore_2, z_istore_3, z_istore, z_lload_0, z_lload_1, z_lload_2, z_lload_3, z_lload, z_lstore_0, z_lstore_1, z_lstore_2, z_lstore_3, z_lstore, z_aload_0, z_aload_1, z_aload_2, z_aload_3, z_aload, z_astore_0, z_astore_1, z_astore_2, z_astore_3, z_astore, ald_0, ald_s, z_iinc, qst1_1i, qst2_1i, qst1_1r, qst2_1r, qst1_1u, qst2_1u, qst1_1n, qst2_1n, qst1_1l, qst2_1l, qst1_0, qst2_0, qst1_s, qst2_s, z_iadd, z_isub, z_imul, z_iand, z_ior, z_ixor, z_ishl, z_ishr, z_idiv, z_irem, z_ladd, z_lsub, z_lmul, z_land, z_lor, z_ldiv, z_lrem, z_ineg, z_lshl, z_lshr, z_i2l, z_l2i, z_i2b, z_i2c, z_lcmp, z_dupi, z_dupr, z_popi, z_popr, z_dup2, z_goto, z_get0, z_get1, z_get2, z_get3, z_put0, z_put1, z_put2, z_put2n, z_put3, z_iaload, z_baload, z_laload, z_aaload, z_iastore, z_bastore, z_lastore, z_aastore, z_aastoren, z_arraylength, z_new, z_newarray, z_anewarray, z_multi, z_objinit, z_is0, z_iv0, z_ip0, z_is1, z_iv1, z_ip1, z_is2, z_iv2, z_ip2, z_is3, z_iv3, z_ip3, z_is4, z_iv4, z_ip4, z_is5, z_iv5, z_ip5, z_is6, z_iv6, z_ip6, z_is7, z_iv7, z_ip7, z_m991, z_m992, z_m993, z_m994, z_m995, z_m996, z_m998, acal_0, acal_1, acal_2, acal_3, acal_4, aK_v, aK_n, sF_c, sF_n, b_nr, b_nn, r_I, r_Z, r_L, r_A, r_V, sw_F, sw_n, gd_tt, is01_bzT, is01_0, is01_1, qrv_s, qrv_n, bi_eq_t, bi_eq_f, bi_ne_t, bi_ne_f, bi_lt_t, bi_lt_f, bi_ge_t, bi_ge_f, bi_gt_t, bi_gt_f, bi_le_t, bi_le_f, bc_eq_t, bc_eq_f, bc_ne_t, bc_ne_f, bc_lt_t, bc_lt_f, bc_ge_t, bc_ge_f, bc_gt_t, bc_gt_f, bc_le_t, bc_le_f, bb_eq_t, bb_eq_f, bb_ne_t, bb_ne_f, sc_t, sc_f, b_nr, b_nn, mI_J, mI_R, mJ_I, mJ_R, mR_I, mR_J, mK_I, mK_J, mK_R, mN_I, mN_J, mN_R, inM_I, inM_J, inM_R, mZ_nc, mZ_nk, mZ_sm, mZ_J, mZ_R, mJ_nc, mJ_ni, mJ_sm, mI_Z, iz_add, iz_sub, iz_mul, iz_neg, iz_lt, iz_le, iz_eq, iz_clamp, iz_inB, iz_div, iz_rem, shK h, shR h, inM_lit, and_self, true_and, and_true, true_or, or_true, not_true_eq_false, not_false_eq_true, Nat.reduceEqDiff, reduceCtorEq, Int.reduceNeg, Int.reduceSub, Int.reduceAdd, Int.reduceMul, Int.reduceToNat, Int.reduceEq, Int.neg_neg, Int.cast_ofNat_Int, Nat.reduceAdd, Nat.reduceMul, Nat.reduceSub, gd_t, emod_r, iz_0, Int.zero_add, Int.add_zero, wp_some, shK hz]
  refine wp_lpq (fun k L M' => ∃ S : Nat, L = [some (.ref 217), some (.int (iz f)), some (.int (iz (S : Int)))] ∧ S + k = A + 1 ∧ 1 ≤ S ∧ Dif M M' DPl ∧ mZ M' 217 5 = A ∧ CwK M M' f A 256 ∧ CpK M M' f A S) (k := A) ⟨1, rfl, by omega, by omega, hD0, ha, hC, fun t t1 _ _ => by
    obtain rfl : t = 0 := by omega
    rw [planP_0]; exact h0⟩ (by omega) ?_
  rintro k L M' g ⟨S, rfl, hSk, S1, hD, hal, hCw, hCp⟩ hg2
  have hW' := Wo_k hW (Frm.of hD) (fun i k q => DPl_a q)
  have h := hW'.1
  have hN := h.1
  have q481 : ∀ k, mZ M' 481 k = mZ M 481 k := fun k => hD.z (by unfold DPl; omega)
  by_cases eS : S = A + 1
  · have eA := hCp A (by omega) hA (Nat.and_self A)
    have pk := planP_ok hw hf 8 A pc_le hA hi
    have pb : 0 ≤ planP M f A ∧ planP M f A ≤ 1000000 := by
      rcases pk with q | ⟨k, w, q1, q2, q3, q4, q5⟩
      · omega
      · have := pc_le (s := A)
        omega
    have hCp' : CpK M M' f A 256 := fun t t1 t2 t3 => hCp t (by have := sub_le A hA t t2 t3; omega) t2 t3
    by_cases c : planP M f A < 1000000
    · have fin := hP 1 M' hD hal hCw hCp' (Or.inl ⟨rfl, c⟩)
      generalize planP M f A = pp at *
      simp (disch := first | assumption | decide | omega) only [n_218_0, n_218_48, n_218_54, n_218_88, n_218_94, n_218_126, n_218_132, n_218_151, f_218_7, f_218_63, f_218_96, z_iconst, z_bipush, z_sipush, z_ldc, z_ldcs, z_ldcw, z_ldc2, z_lconst0, z_lconst1, z_null, z_getstatic, z_iload_0, z_iload_1, z_iload_2, z_iload_3, z_iload, z_istore_0, z_istore_1, z_istore_2, z_istore_3, z_istore, z_lload_0, z_lload_1, z_lload_2, z_lload_3, z_lload, z_lstore_0, z_lstore_1, z_lstore_2, z_lstore_3, z_lstore, z_aload_0, z_aload_1, z_aload_2, z_aload_3, z_aload, z_astore_0, z_astore_1, z_astore_2, z_astore_3, z_astore, ald_0, ald_s, z_iinc, qst1_1i, qst2_1i, qst1_1r, qst2_1r, qst1_1u, qst2_1u, qst1_1n, qst2_1n, qst1_1l, qst2_1l, qst1_0, qst2_0, qst1_s, qst2_s, z_iadd, z_isub, z_imul, z_iand, z_ior, z_ixor, z_ishl, z_ishr, z_idiv, z_irem, z_ladd, z_lsub, z_lmul, z_land, z_lor, z_ldiv, z_lrem, z_ineg, z_lshl, z_lshr, z_i2l, z_l2i, z_i2b, z_i2c, z_lcmp, z_dupi, z_dupr, z_popi, z_popr, z_dup2, z_goto, z_get0, z_get1, z_get2, z_get3, z_put0, z_put1, z_put2, z_put2n, z_put3, z_iaload, z_baload, z_laload, z_aaload, z_iastore, z_bastore, z_lastore, z_aastore, z_aastoren, z_arraylength, z_new, z_newarray, z_anewarray, z_multi, z_objinit, z_is0, z_iv0, z_ip0, z_is1, z_iv1, z_ip1, z_is2, z_iv2, z_ip2, z_is3, z_iv3, z_ip3, z_is4, z_iv4, z_ip4, z_is5, z_iv5, z_ip5, z_is6, z_iv6, z_ip6, z_is7, z_iv7, z_ip7, z_m991, z_m992, z_m993, z_m994, z_m995, z_m996, z_m998, acal_0, acal_1, acal_2, acal_3, acal_4, aK_v, aK_n, sF_c, sF_n, b_nr, b_nn, r_I, r_Z, r_L, r_A, r_V, sw_F, sw_n, gd_tt, is01_bzT, is01_0, is01_1, qrv_s, qrv_n, bi_eq_t, bi_eq_f, bi_ne_t, bi_ne_f, bi_lt_t, bi_lt_f, bi_ge_t, bi_ge_f, bi_gt_t, bi_gt_f, bi_le_t, bi_le_f, bc_eq_t, bc_eq_f, bc_ne_t, bc_ne_f, bc_lt_t, bc_lt_f, bc_ge_t, bc_ge_f, bc_gt_t, bc_gt_f, bc_le_t, bc_le_f, bb_eq_t, bb_eq_f, bb_ne_t, bb_ne_f, sc_t, sc_f, b_nr, b_nn, mI_J, mI_R, mJ_I, mJ_R, mR_I, mR_J, mK_I, mK_J, mK_R, mN_I, mN_J, mN_R, inM_I, inM_J, inM_R, mZ_nc, mZ_nk, mZ_sm, mZ_J, mZ_R, mJ_nc, mJ_ni, mJ_sm, mI_Z, iz_add, iz_sub, iz_mul, iz_neg, iz_lt, iz_le, iz_eq, iz_clamp, iz_inB, iz_div, iz_rem, shK h, shR h, inM_lit, and_self, true_and, and_true, true_or, or_true, not_true_eq_false, not_false_eq_true, Nat.reduceEqDiff, reduceCtorEq, Int.reduceNeg, Int.reduceSub, Int.reduceAdd, Int.reduceMul, Int.reduceToNat, Int.reduceEq, Int.neg_neg, Int.cast_ofNat_Int, Nat.reduceAdd, Nat.reduceMul, Nat.reduceSub, gd_t, emod_r, iz_0, Int.zero_add, Int.add_zero, wp_some, hal, eA, Int.toNat_natCast]
      exact fin
    · have fin := hP 0 M' hD hal hCw hCp' (Or.inr ⟨rfl, c⟩)
      generalize planP M f A = pp at *
      simp (disch := first | assumption | decide | omega) only [n_218_0, n_218_48, n_218_54, n_218_88, n_218_94, n_218_126, n_218_132, n_218_151, f_218_7, f_218_63, f_218_96, z_iconst, z_bipush, z_sipush, z_ldc, z_ldcs, z_ldcw, z_ldc2, z_lconst0, z_lconst1, z_null, z_getstatic, z_iload_0, z_iload_1, z_iload_2, z_iload_3, z_iload, z_istore_0, z_istore_1, z_istore_2, z_istore_3, z_istore, z_lload_0, z_lload_1, z_lload_2, z_lload_3, z_lload, z_lstore_0, z_lstore_1, z_lstore_2, z_lstore_3, z_lstore, z_aload_0, z_aload_1, z_aload_2, z_aload_3, z_aload, z_astore_0, z_astore_1, z_astore_2, z_astore_3, z_astore, ald_0, ald_s, z_iinc, qst1_1i, qst2_1i, qst1_1r, qst2_1r, qst1_1u, qst2_1u, qst1_1n, qst2_1n, qst1_1l, qst2_1l, qst1_0, qst2_0, qst1_s, qst2_s, z_iadd, z_isub, z_imul, z_iand, z_ior, z_ixor, z_ishl, z_ishr, z_idiv, z_irem, z_ladd, z_lsub, z_lmul, z_land, z_lor, z_ldiv, z_lrem, z_ineg, z_lshl, z_lshr, z_i2l, z_l2i, z_i2b, z_i2c, z_lcmp, z_dupi, z_dupr, z_popi, z_popr, z_dup2, z_goto, z_get0, z_get1, z_get2, z_get3, z_put0, z_put1, z_put2, z_put2n, z_put3, z_iaload, z_baload, z_laload, z_aaload, z_iastore, z_bastore, z_lastore, z_aastore, z_aastoren, z_arraylength, z_new, z_newarray, z_anewarray, z_multi, z_objinit, z_is0, z_iv0, z_ip0, z_is1, z_iv1, z_ip1, z_is2, z_iv2, z_ip2, z_is3, z_iv3, z_ip3, z_is4, z_iv4, z_ip4, z_is5, z_iv5, z_ip5, z_is6, z_iv6, z_ip6, z_is7, z_iv7, z_ip7, z_m991, z_m992, z_m993, z_m994, z_m995, z_m996, z_m998, acal_0, acal_1, acal_2, acal_3, acal_4, aK_v, aK_n, sF_c, sF_n, b_nr, b_nn, r_I, r_Z, r_L, r_A, r_V, sw_F, sw_n, gd_tt, is01_bzT, is01_0, is01_1, qrv_s, qrv_n, bi_eq_t, bi_eq_f, bi_ne_t, bi_ne_f, bi_lt_t, bi_lt_f, bi_ge_t, bi_ge_f, bi_gt_t, bi_gt_f, bi_le_t, bi_le_f, bc_eq_t, bc_eq_f, bc_ne_t, bc_ne_f, bc_lt_t, bc_lt_f, bc_ge_t, bc_ge_f, bc_gt_t, bc_gt_f, bc_le_t, bc_le_f, bb_eq_t, bb_eq_f, bb_ne_t, bb_ne_f, sc_t, sc_f, b_nr, b_nn, mI_J, mI_R, mJ_I, mJ_R, mR_I, mR_J, mK_I, mK_J, mK_R, mN_I, mN_J, mN_R, inM_I, inM_J, inM_R, mZ_nc, mZ_nk, mZ_sm, mZ_J, mZ_R, mJ_nc, mJ_ni, mJ_sm, mI_Z, iz_add, iz_sub, iz_mul, iz_neg, iz_lt, iz_le, iz_eq, iz_clamp, iz_inB, iz_div, iz_rem, shK h, shR h, inM_lit, and_self, true_and, and_true, true_or, or_true, not_true_eq_false, not_false_eq_true, Nat.reduceEqDiff, reduceCtorEq, Int.reduceNeg, Int.reduceSub, Int.reduceAdd, Int.reduceMul, Int.reduceToNat, Int.reduceEq, Int.neg_neg, Int.cast_ofNat_Int, Nat.reduceAdd, Nat.reduceMul, Nat.reduceSub, gd_t, emod_r, iz_0, Int.zero_add, Int.add_zero, wp_some, hal, eA, Int.toNat_natCast]
      exact fin
  · have an := nz_andn (s := S) (t := A) (by omega) hA
    have si := sub_iff A hA S (by omega)
    have nx : ∀ M2, Dif M M2 DPl → mZ M2 217 5 = A → CwK M M2 f A 256 → CpK M M2 f A (S + 1) → wp (g [some (.ref 217), some (.int (iz f)), some (.int (iz ((S : Int) + 1)))] [] M2) P := fun M2 a1 a2 a3 a4 => hg2 (k - 1) _ M2 (by omega) ⟨S + 1, rfl, by omega, by omega, a1, a2, a3, a4⟩
    by_cases c : S &&& A = S
    · have z1 := si.mpr c
      simp (disch := first | assumption | decide | omega) only [n_218_0, n_218_48, n_218_54, n_218_88, n_218_94, n_218_126, n_218_151, f_218_7, f_218_63, f_218_96, z_iconst, z_bipush, z_sipush, z_ldc, z_ldcs, z_ldcw, z_ldc2, z_lconst0, z_lconst1, z_null, z_getstatic, z_iload_0, z_iload_1, z_iload_2, z_iload_3, z_iload, z_istore_0, z_istore_1, z_istore_2, z_istore_3, z_istore, z_lload_0, z_lload_1, z_lload_2, z_lload_3, z_lload, z_lstore_0, z_lstore_1, z_lstore_2, z_lstore_3, z_lstore, z_aload_0, z_aload_1, z_aload_2, z_aload_3, z_aload, z_astore_0, z_astore_1, z_astore_2, z_astore_3, z_astore, ald_0, ald_s, z_iinc, qst1_1i, qst2_1i, qst1_1r, qst2_1r, qst1_1u, qst2_1u, qst1_1n, qst2_1n, qst1_1l, qst2_1l, qst1_0, qst2_0, qst1_s, qst2_s, z_iadd, z_isub, z_imul, z_iand, z_ior, z_ixor, z_ishl, z_ishr, z_idiv, z_irem, z_ladd, z_lsub, z_lmul, z_land, z_lor, z_ldiv, z_lrem, z_ineg, z_lshl, z_lshr, z_i2l, z_l2i, z_i2b, z_i2c, z_lcmp, z_dupi, z_dupr, z_popi, z_popr, z_dup2, z_goto, z_get0, z_get1, z_get2, z_get3, z_put0, z_put1, z_put2, z_put2n, z_put3, z_iaload, z_baload, z_laload, z_aaload, z_iastore, z_bastore, z_lastore, z_aastore, z_aastoren, z_arraylength, z_new, z_newarray, z_anewarray, z_multi, z_objinit, z_is0, z_iv0, z_ip0, z_is1, z_iv1, z_ip1, z_is2, z_iv2, z_ip2, z_is3, z_iv3, z_ip3, z_is4, z_iv4, z_ip4, z_is5, z_iv5, z_ip5, z_is6, z_iv6, z_ip6, z_is7, z_iv7, z_ip7, z_m991, z_m992, z_m993, z_m994, z_m995, z_m996, z_m998, acal_0, acal_1, acal_2, acal_3, acal_4, aK_v, aK_n, sF_c, sF_n, b_nr, b_nn, r_I, r_Z, r_L, r_A, r_V, sw_F, sw_n, gd_tt, is01_bzT, is01_0, is01_1, qrv_s, qrv_n, bi_eq_t, bi_eq_f, bi_ne_t, bi_ne_f, bi_lt_t, bi_lt_f, bi_ge_t, bi_ge_f, bi_gt_t, bi_gt_f, bi_le_t, bi_le_f, bc_eq_t, bc_eq_f, bc_ne_t, bc_ne_f, bc_lt_t, bc_lt_f, bc_ge_t, bc_ge_f, bc_gt_t, bc_gt_f, bc_le_t, bc_le_f, bb_eq_t, bb_eq_f, bb_ne_t, bb_ne_f, sc_t, sc_f, b_nr, b_nn, mI_J, mI_R, mJ_I, mJ_R, mR_I, mR_J, mK_I, mK_J, mK_R, mN_I, mN_J, mN_R, inM_I, inM_J, inM_R, mZ_nc, mZ_nk, mZ_sm, mZ_J, mZ_R, mJ_nc, mJ_ni, mJ_sm, mI_Z, iz_add, iz_sub, iz_mul, iz_neg, iz_lt, iz_le, iz_eq, iz_clamp, iz_inB, iz_div, iz_rem, shK h, shR h, inM_lit, and_self, true_and, and_true, true_or, or_true, not_true_eq_false, not_false_eq_true, Nat.reduceEqDiff, reduceCtorEq, Int.reduceNeg, Int.reduceSub, Int.reduceAdd, Int.reduceMul, Int.reduceToNat, Int.reduceEq, Int.neg_neg, Int.cast_ofNat_Int, Nat.reduceAdd, Nat.reduceMul, Nat.reduceSub, gd_t, emod_r, iz_0, Int.zero_add, Int.add_zero, wp_some, hal, an, z1, Int.natCast_zero, Int.ofNat_zero]
      refine wp_cI (x_planOf (d := d) (S := S) (f := f) hW' (by omega) (by omega) (inH_k q481 (inH_t hA (by omega) c hi)) hf (fun t t1 t2 t3 => ?_) (fun t t1 t2 t3 => ?_)) (fun z M1 q => ?_)
      · have := hCw t t1 t1 (sub_and c t2) t3
        rw [loadN_k q481, wayS_k q481]
        exact ⟨this.1, this.2.1⟩
      · have sp := sub_pc S (by omega) t t1 t2 t3
        rw [planP_k q481]
        exact hCp _ sp.2.1 (by omega) (sub_and c (andn_sub S (by omega) t t1))
      · obtain ⟨rfl, hz⟩ := q
        rw [planP_k q481] at hz
        have pk := planP_ok hw hf 8 S pc_le (by omega) (inH_t hA (by omega) c hi)
        have pb : 0 ≤ planP M f S ∧ planP M f S ≤ 1000000 := by
          rcases pk with q | ⟨k, w, q1, q2, q3, q4, q5⟩
          · omega
          · have := pc_le (s := S)
            omega
        have fin := nx (qsI M1 220 S (iz z)) (hD.I (Or.inr (Or.inl (by decide)))) (by rw [mZ_nc (by decide)]; exact hal) (fun t t1 t2 t3 t4 => by
          have := hCw t t1 t2 t3 t4
          rw [mZ_nc (by decide), mZ_nc (by decide)]
          exact ⟨this.1, this.2.1, fun h h1 h2 => by rw [mZ_nc (by omega)]; exact this.2.2 h h1 h2⟩) (fun t t1 t2 t3 => by
          by_cases e : t = S
          · rw [e, mZ_sm rfl (by omega) (by omega)]; exact hz
          · rw [mZ_nk e]; exact hCp t (by omega) t2 t3)
        simp (disch := first | assumption | decide | omega) only [n_218_0, n_218_48, n_218_54, n_218_88, n_218_94, n_218_126, n_218_151, f_218_7, f_218_63, f_218_96, z_iconst, z_bipush, z_sipush, z_ldc, z_ldcs, z_ldcw, z_ldc2, z_lconst0, z_lconst1, z_null, z_getstatic, z_iload_0, z_iload_1, z_iload_2, z_iload_3, z_iload, z_istore_0, z_istore_1, z_istore_2, z_istore_3, z_istore, z_lload_0, z_lload_1, z_lload_2, z_lload_3, z_lload, z_lstore_0, z_lstore_1, z_lstore_2, z_lstore_3, z_lstore, z_aload_0, z_aload_1, z_aload_2, z_aload_3, z_aload, z_astore_0, z_astore_1, z_astore_2, z_astore_3, z_astore, ald_0, ald_s, z_iinc, qst1_1i, qst2_1i, qst1_1r, qst2_1r, qst1_1u, qst2_1u, qst1_1n, qst2_1n, qst1_1l, qst2_1l, qst1_0, qst2_0, qst1_s, qst2_s, z_iadd, z_isub, z_imul, z_iand, z_ior, z_ixor, z_ishl, z_ishr, z_idiv, z_irem, z_ladd, z_lsub, z_lmul, z_land, z_lor, z_ldiv, z_lrem, z_ineg, z_lshl, z_lshr, z_i2l, z_l2i, z_i2b, z_i2c, z_lcmp, z_dupi, z_dupr, z_popi, z_popr, z_dup2, z_goto, z_get0, z_get1, z_get2, z_get3, z_put0, z_put1, z_put2, z_put2n, z_put3, z_iaload, z_baload, z_laload, z_aaload, z_iastore, z_bastore, z_lastore, z_aastore, z_aastoren, z_arraylength, z_new, z_newarray, z_anewarray, z_multi, z_objinit, z_is0, z_iv0, z_ip0, z_is1, z_iv1, z_ip1, z_is2, z_iv2, z_ip2, z_is3, z_iv3, z_ip3, z_is4, z_iv4, z_ip4, z_is5, z_iv5, z_ip5, z_is6, z_iv6, z_ip6, z_is7, z_iv7, z_ip7, z_m991, z_m992, z_m993, z_m994, z_m995, z_m996, z_m998, acal_0, acal_1, acal_2, acal_3, acal_4, aK_v, aK_n, sF_c, sF_n, b_nr, b_nn, r_I, r_Z, r_L, r_A, r_V, sw_F, sw_n, gd_tt, is01_bzT, is01_0, is01_1, qrv_s, qrv_n, bi_eq_t, bi_eq_f, bi_ne_t, bi_ne_f, bi_lt_t, bi_lt_f, bi_ge_t, bi_ge_f, bi_gt_t, bi_gt_f, bi_le_t, bi_le_f, bc_eq_t, bc_eq_f, bc_ne_t, bc_ne_f, bc_lt_t, bc_lt_f, bc_ge_t, bc_ge_f, bc_gt_t, bc_gt_f, bc_le_t, bc_le_f, bb_eq_t, bb_eq_f, bb_ne_t, bb_ne_f, sc_t, sc_f, b_nr, b_nn, mI_J, mI_R, mJ_I, mJ_R, mR_I, mR_J, mK_I, mK_J, mK_R, mN_I, mN_J, mN_R, inM_I, inM_J, inM_R, mZ_nc, mZ_nk, mZ_sm, mZ_J, mZ_R, mJ_nc, mJ_ni, mJ_sm, mI_Z, iz_add, iz_sub, iz_mul, iz_neg, iz_lt, iz_le, iz_eq, iz_clamp, iz_inB, iz_div, iz_rem, shK h, shR h, inM_lit, and_self, true_and, and_true, true_or, or_true, not_true_eq_false, not_false_eq_true, Nat.reduceEqDiff, reduceCtorEq, Int.reduceNeg, Int.reduceSub, Int.reduceAdd, Int.reduceMul, Int.reduceToNat, Int.reduceEq, Int.neg_neg, Int.cast_ofNat_Int, Nat.reduceAdd, Nat.reduceMul, Nat.reduceSub, gd_t, emod_r, iz_0, Int.zero_add, Int.add_zero, wp_some, Int.toNat_natCast]
        exact fin
    · have z1 : ¬ andn S A = 0 := fun q => c (si.mp q)
      have z2 : ¬ ((andn S A : Nat) : Int) = 0 := by omega
      have bb := (andn_le S (by omega) A hA).1
      have fin := nx M' hD hal hCw (fun t t1 t2 t3 => by
        by_cases e : t = S
        · rw [e] at t3; exact absurd t3 c
        · exact hCp t (by omega) t2 t3)
      generalize andn S A = aa at *
      simp (disch := first | assumption | decide | omega) only [n_218_0, n_218_48, n_218_54, n_218_88, n_218_94, n_218_126, n_218_151, f_218_7, f_218_63, f_218_96, z_iconst, z_bipush, z_sipush, z_ldc, z_ldcs, z_ldcw, z_ldc2, z_lconst0, z_lconst1, z_null, z_getstatic, z_iload_0, z_iload_1, z_iload_2, z_iload_3, z_iload, z_istore_0, z_istore_1, z_istore_2, z_istore_3, z_istore, z_lload_0, z_lload_1, z_lload_2, z_lload_3, z_lload, z_lstore_0, z_lstore_1, z_lstore_2, z_lstore_3, z_lstore, z_aload_0, z_aload_1, z_aload_2, z_aload_3, z_aload, z_astore_0, z_astore_1, z_astore_2, z_astore_3, z_astore, ald_0, ald_s, z_iinc, qst1_1i, qst2_1i, qst1_1r, qst2_1r, qst1_1u, qst2_1u, qst1_1n, qst2_1n, qst1_1l, qst2_1l, qst1_0, qst2_0, qst1_s, qst2_s, z_iadd, z_isub, z_imul, z_iand, z_ior, z_ixor, z_ishl, z_ishr, z_idiv, z_irem, z_ladd, z_lsub, z_lmul, z_land, z_lor, z_ldiv, z_lrem, z_ineg, z_lshl, z_lshr, z_i2l, z_l2i, z_i2b, z_i2c, z_lcmp, z_dupi, z_dupr, z_popi, z_popr, z_dup2, z_goto, z_get0, z_get1, z_get2, z_get3, z_put0, z_put1, z_put2, z_put2n, z_put3, z_iaload, z_baload, z_laload, z_aaload, z_iastore, z_bastore, z_lastore, z_aastore, z_aastoren, z_arraylength, z_new, z_newarray, z_anewarray, z_multi, z_objinit, z_is0, z_iv0, z_ip0, z_is1, z_iv1, z_ip1, z_is2, z_iv2, z_ip2, z_is3, z_iv3, z_ip3, z_is4, z_iv4, z_ip4, z_is5, z_iv5, z_ip5, z_is6, z_iv6, z_ip6, z_is7, z_iv7, z_ip7, z_m991, z_m992, z_m993, z_m994, z_m995, z_m996, z_m998, acal_0, acal_1, acal_2, acal_3, acal_4, aK_v, aK_n, sF_c, sF_n, b_nr, b_nn, r_I, r_Z, r_L, r_A, r_V, sw_F, sw_n, gd_tt, is01_bzT, is01_0, is01_1, qrv_s, qrv_n, bi_eq_t, bi_eq_f, bi_ne_t, bi_ne_f, bi_lt_t, bi_lt_f, bi_ge_t, bi_ge_f, bi_gt_t, bi_gt_f, bi_le_t, bi_le_f, bc_eq_t, bc_eq_f, bc_ne_t, bc_ne_f, bc_lt_t, bc_lt_f, bc_ge_t, bc_ge_f, bc_gt_t, bc_gt_f, bc_le_t, bc_le_f, bb_eq_t, bb_eq_f, bb_ne_t, bb_ne_f, sc_t, sc_f, b_nr, b_nn, mI_J, mI_R, mJ_I, mJ_R, mR_I, mR_J, mK_I, mK_J, mK_R, mN_I, mN_J, mN_R, inM_I, inM_J, inM_R, mZ_nc, mZ_nk, mZ_sm, mZ_J, mZ_R, mJ_nc, mJ_ni, mJ_sm, mI_Z, iz_add, iz_sub, iz_mul, iz_neg, iz_lt, iz_le, iz_eq, iz_clamp, iz_inB, iz_div, iz_rem, shK h, shR h, inM_lit, and_self, true_and, and_true, true_or, or_true, not_true_eq_false, not_false_eq_true, Nat.reduceEqDiff, reduceCtorEq, Int.reduceNeg, Int.reduceSub, Int.reduceAdd, Int.reduceMul, Int.reduceToNat, Int.reduceEq, Int.neg_neg, Int.cast_ofNat_Int, Nat.reduceAdd, Nat.reduceMul, Nat.reduceSub, gd_t, emod_r, iz_0, Int.zero_add, Int.add_zero, wp_some, hal, an]
      exact fin

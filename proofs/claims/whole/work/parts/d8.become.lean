/-! Alps become others -/
def isAlps (a : Nat) : Prop := a = 9 ∨ a = 30 ∨ a = 50 ∨ a = 194
theorem mZ_cpn {M : qMe} {a p b q n i j : Nat} (h : ¬ i = b) : mZ (qcpI M a p b q n) i j = mZ M i j := by
  unfold mZ
  show (if i = b ∧ q ≤ j ∧ j < q + n then _ else mI M i j).toInt = _
  rw [if_neg (fun z => h z.1)]
theorem mZ_cps {M : qMe} {a b n j : Nat} (h : j < n) : mZ (qcpI M a 0 b 0 n) b j = mZ M a j := by
  unfold mZ
  show (if b = b ∧ 0 ≤ j ∧ j < 0 + n then mI M a (0 + (j - 0)) else mI M b j).toInt = _
  rw [if_pos ⟨rfl, Nat.zero_le _, by omega⟩, Nat.zero_add, Nat.sub_zero]
theorem mK_cp {M : qMe} {a p b q n i : Nat} : mK (qcpI M a p b q n) i = mK M i := nr rfl
theorem mN_cp {M : qMe} {a p b q n : Nat} : mN (qcpI M a p b q n) = mN M := nr rfl
theorem mR_cp {M : qMe} {a p b q n i k : Nat} : mR (qcpI M a p b q n) i k = mR M i k := nr rfl
theorem mJ_cp {M : qMe} {a p b q n i k : Nat} : mJ (qcpI M a p b q n) i k = mJ M i k := nr rfl
theorem inM_cp {M : qMe} {a p b q n i : Nat} : inM (qcpI M a p b q n) i = inM M i := nr rfl
theorem mI_cpZ {M : qMe} {a p b q n i j : Nat} : mI (qcpI M a p b q n) i j = iz (mZ (qcpI M a p b q n) i j) := mI_Z _ _ _
def AS (M : qMe) (a : Nat) : Prop := (mK M a = (1, 15) ∧ inM M a) ∧ (mK M (a + 1) = (6, 11) ∧ inM M (a + 1)) ∧ (mR M a 0 = some (a + 1)) ∧ (mR M a 1 = some (a + 11)) ∧ (mR M a 2 = some (a + 12)) ∧ (mR M a 3 = some (a + 13)) ∧ (mR M a 4 = some (a + 14)) ∧ (mR M a 5 = some (a + 15)) ∧ (mR M a 6 = some (a + 16)) ∧ (mR M a 7 = some (a + 17)) ∧ (mR M a 8 = some (a + 18)) ∧ (mR M a 9 = some (a + 19)) ∧ (mR M (a + 1) 0 = some (a + 2) ∧ mK M (a + 2) = (100, 80) ∧ inM M (a + 2)) ∧ (mR M (a + 1) 1 = some (a + 3) ∧ mK M (a + 3) = (100, 80) ∧ inM M (a + 3)) ∧ (mR M (a + 1) 2 = some (a + 4) ∧ mK M (a + 4) = (100, 80) ∧ inM M (a + 4)) ∧ (mR M (a + 1) 3 = some (a + 5) ∧ mK M (a + 5) = (100, 8) ∧ inM M (a + 5)) ∧ (mR M (a + 1) 4 = some (a + 6) ∧ mK M (a + 6) = (100, 80) ∧ inM M (a + 6)) ∧ (mR M (a + 1) 5 = some (a + 7) ∧ mK M (a + 7) = (100, 8) ∧ inM M (a + 7)) ∧ (mR M (a + 1) 6 = some (a + 8) ∧ mK M (a + 8) = (100, 8) ∧ inM M (a + 8)) ∧ (mR M (a + 1) 7 = some (a + 9) ∧ mK M (a + 9) = (100, 8) ∧ inM M (a + 9)) ∧ (mR M (a + 1) 8 = some (a + 10) ∧ mK M (a + 10) = (100, 4) ∧ inM M (a + 10)) ∧ (mK M (a + 11) = (100, 8) ∧ inM M (a + 11)) ∧ (mK M (a + 12) = (100, 8) ∧ inM M (a + 12)) ∧ (mK M (a + 13) = (100, 8) ∧ inM M (a + 13)) ∧ (mK M (a + 14) = (100, 8) ∧ inM M (a + 14)) ∧ (mK M (a + 15) = (100, 8) ∧ inM M (a + 15)) ∧ (mK M (a + 16) = (100, 4) ∧ inM M (a + 16)) ∧ (mK M (a + 18) = (100, 8) ∧ inM M (a + 18)) ∧ (mK M (a + 19) = (100, 8) ∧ inM M (a + 19)) ∧ (mK M (a + 17) = (105, 6) ∧ inM M (a + 17))
theorem alpsS {M : qMe} {a : Nat} (h : shp M) (ha : isAlps a) : AS M a := by
  have hN := h.1
  have im : ∀ i, 8 ≤ i → i < 513 → inM M i := fun i g1 g2 => of_eq_true (inM_lit hN g1 g2)
  rcases ha with rfl | rfl | rfl | rfl
  · unfold AS
    simp (disch := decide) only [shK h, shR h, Nat.reduceAdd, inM_lit hN, and_self]
  · unfold AS
    simp (disch := decide) only [shK h, shR h, Nat.reduceAdd, inM_lit hN, and_self]
  · unfold AS
    simp (disch := decide) only [shK h, shR h, Nat.reduceAdd, inM_lit hN, and_self]
  · unfold AS
    simp (disch := decide) only [shK h, shR h, Nat.reduceAdd, inM_lit hN, and_self]
/-- ints of other cells, all references but the laws, all longs stay -/
def FrA (M M1 : qMe) (a : Nat) : Prop := mN M1 = mN M ∧ (∀ i, mK M1 i = mK M i) ∧ (∀ i k, ¬ i = a + 17 → mR M1 i k = mR M i k) ∧ (∀ i k, mJ M1 i k = mJ M i k) ∧ (∀ i k, ¬ (a ≤ i ∧ i ≤ a + 19) → mZ M1 i k = mZ M i k)
def Cp (M M1 : qMe) (b a : Nat) : Prop := (∀ k : Nat, k < 80 → mZ M1 (a + 2) k = mZ M (b + 2) k) ∧ (∀ k : Nat, k < 80 → mZ M1 (a + 3) k = mZ M (b + 3) k) ∧ (∀ k : Nat, k < 80 → mZ M1 (a + 4) k = mZ M (b + 4) k) ∧ (∀ k : Nat, k < 8 → mZ M1 (a + 5) k = mZ M (b + 5) k) ∧ (∀ k : Nat, k < 80 → mZ M1 (a + 6) k = mZ M (b + 6) k) ∧ (∀ k : Nat, k < 8 → mZ M1 (a + 7) k = mZ M (b + 7) k) ∧ (∀ k : Nat, k < 8 → mZ M1 (a + 8) k = mZ M (b + 8) k) ∧ (∀ k : Nat, k < 8 → mZ M1 (a + 9) k = mZ M (b + 9) k) ∧ (∀ k : Nat, k < 4 → mZ M1 (a + 10) k = mZ M (b + 10) k) ∧ (∀ k : Nat, k < 8 → mZ M1 (a + 11) k = mZ M (b + 11) k) ∧ (∀ k : Nat, k < 8 → mZ M1 (a + 12) k = mZ M (b + 12) k) ∧ (∀ k : Nat, k < 8 → mZ M1 (a + 13) k = mZ M (b + 13) k) ∧ (∀ k : Nat, k < 8 → mZ M1 (a + 14) k = mZ M (b + 14) k) ∧ (∀ k : Nat, k < 8 → mZ M1 (a + 15) k = mZ M (b + 15) k) ∧ (∀ k : Nat, k < 4 → mZ M1 (a + 16) k = mZ M (b + 16) k) ∧ (∀ k : Nat, k < 8 → mZ M1 (a + 18) k = mZ M (b + 18) k) ∧ (∀ k : Nat, k < 8 → mZ M1 (a + 19) k = mZ M (b + 19) k) ∧ (mZ M1 (a + 1) 9 = mZ M (b + 1) 9 ∧ mZ M1 (a + 1) 10 = mZ M (b + 1) 10 ∧ mZ M1 a 10 = mZ M b 10 ∧ mZ M1 a 11 = mZ M b 11 ∧ mZ M1 a 12 = mZ M b 12 ∧ mZ M1 a 13 = mZ M b 13 ∧ mZ M1 a 14 = mZ M b 14) ∧ (∀ k : Nat, k < 6 → mR M1 (a + 17) k = mR M (b + 17) k)
theorem x_mbecome {d a b : Nat} {M : qMe} (h : shp M) (ha : isAlps a) (hb : isAlps b) (ne : ¬ a = b) : wV (cal (d + 1) 265 [.ref (a + 1), .ref (b + 1)] M) (fun M1 => mN M1 = mN M ∧ (∀ i, mK M1 i = mK M i) ∧ (∀ i k, mR M1 i k = mR M i k) ∧ (∀ i k, mJ M1 i k = mJ M i k) ∧ (∀ i k, ¬ (a + 1 ≤ i ∧ i ≤ a + 10) → mZ M1 i k = mZ M i k) ∧ (∀ k : Nat, k < 80 → mZ M1 (a + 2) k = mZ M (b + 2) k) ∧ (∀ k : Nat, k < 80 → mZ M1 (a + 3) k = mZ M (b + 3) k) ∧ (∀ k : Nat, k < 80 → mZ M1 (a + 4) k = mZ M (b + 4) k) ∧ (∀ k : Nat, k < 8 → mZ M1 (a + 5) k = mZ M (b + 5) k) ∧ (∀ k : Nat, k < 80 → mZ M1 (a + 6) k = mZ M (b + 6) k) ∧ (∀ k : Nat, k < 8 → mZ M1 (a + 7) k = mZ M (b + 7) k) ∧ (∀ k : Nat, k < 8 → mZ M1 (a + 8) k = mZ M (b + 8) k) ∧ (∀ k : Nat, k < 8 → mZ M1 (a + 9) k = mZ M (b + 9) k) ∧ (∀ k : Nat, k < 4 → mZ M1 (a + 10) k = mZ M (b + 10) k) ∧ mZ M1 (a + 1) 9 = mZ M (b + 1) 9 ∧ mZ M1 (a + 1) 10 = mZ M (b + 1) 10) := by
  refine wV_q (fun P hP => ?_)
  have hN := h.1
  have ab : a + 20 ≤ b ∨ b + 20 ≤ a := by unfold isAlps at ha hb; omega
  have ne2 : ¬ b = a := fun q => ne q.symm
  obtain ⟨⟨a0, a0i⟩, ⟨a1, a1i⟩, af0, af1, af2, af3, af4, af5, af6, af7, af8, af9, ⟨am0, ak2, ai2⟩, ⟨am1, ak3, ai3⟩, ⟨am2, ak4, ai4⟩, ⟨am3, ak5, ai5⟩, ⟨am4, ak6, ai6⟩, ⟨am5, ak7, ai7⟩, ⟨am6, ak8, ai8⟩, ⟨am7, ak9, ai9⟩, ⟨am8, ak10, ai10⟩, ⟨ak11, ai11⟩, ⟨ak12, ai12⟩, ⟨ak13, ai13⟩, ⟨ak14, ai14⟩, ⟨ak15, ai15⟩, ⟨ak16, ai16⟩, ⟨ak18, ai18⟩, ⟨ak19, ai19⟩, ak17, ai17⟩ := alpsS h ha
  obtain ⟨⟨b0, b0i⟩, ⟨b1, b1i⟩, bf0, bf1, bf2, bf3, bf4, bf5, bf6, bf7, bf8, bf9, ⟨bm0, bk2, bi2⟩, ⟨bm1, bk3, bi3⟩, ⟨bm2, bk4, bi4⟩, ⟨bm3, bk5, bi5⟩, ⟨bm4, bk6, bi6⟩, ⟨bm5, bk7, bi7⟩, ⟨bm6, bk8, bi8⟩, ⟨bm7, bk9, bi9⟩, ⟨bm8, bk10, bi10⟩, ⟨bk11, bi11⟩, ⟨bk12, bi12⟩, ⟨bk13, bi13⟩, ⟨bk14, bi14⟩, ⟨bk15, bi15⟩, ⟨bk16, bi16⟩, ⟨bk18, bi18⟩, ⟨bk19, bi19⟩, bk17, bi17⟩ := alpsS h hb
  have v1 := mZ_ge M (b + 1) 9
  have v2 := mZ_lt M (b + 1) 9
  have v3 := mZ_ge M (b + 1) 10
  have v4 := mZ_lt M (b + 1) 10
  rw [cal_265, gd_t (Nat.le_of_ble_eq_true rfl)]
  change wp (n_265_0 (cal _) [some (.ref (a + 1)), some (.ref (b + 1))] [] _) _
  simp (disch := first | assumption | decide | omega) only [n_265_0, z_iconst, z_bipush, z_sipush, z_ldc, z_ldcs, z_ldcw, z_ldc2, z_lconst0, z_lconst1, z_null, z_getstatic, z_iload_0, z_iload_1, z_iload_2, z_iload_3, z_iload, z_istore_0, z_istore_1, z_istore_2, z_istore_3, z_istore, z_lload_0, z_lload_1, z_lload_2, z_lload_3, z_lload, z_lstore_0, z_lstore_1, z_lstore_2, z_lstore_3, z_lstore, z_aload_0, z_aload_1, z_aload_2, z_aload_3, z_aload, z_astore_0, z_astore_1, z_astore_2, z_astore_3, z_astore, ald_0, ald_s, z_iinc, qst1_1i, qst2_1i, qst1_1r, qst2_1r, qst1_1u, qst2_1u, qst1_1n, qst2_1n, qst1_1l, qst2_1l, qst1_0, qst2_0, qst1_s, qst2_s, z_iadd, z_isub, z_imul, z_iand, z_ior, z_ixor, z_ishl, z_ishr, z_idiv, z_irem, z_ladd, z_lsub, z_lmul, z_land, z_lor, z_ldiv, z_lrem, z_ineg, z_lshl, z_lshr, z_i2l, z_l2i, z_i2b, z_i2c, z_lcmp, z_dupi, z_dupr, z_popi, z_popr, z_dup2, z_goto, z_get0, z_get1, z_get2, z_get3, z_put0, z_put1, z_put2, z_put2n, z_put3, z_iaload, z_baload, z_laload, z_aaload, z_iastore, z_bastore, z_lastore, z_aastore, z_aastoren, z_arraylength, z_new, z_newarray, z_anewarray, z_multi, z_objinit, z_is0, z_iv0, z_ip0, z_is1, z_iv1, z_ip1, z_is2, z_iv2, z_ip2, z_is3, z_iv3, z_ip3, z_is4, z_iv4, z_ip4, z_is5, z_iv5, z_ip5, z_is6, z_iv6, z_ip6, z_is7, z_iv7, z_ip7, z_m991, z_m992, z_m993, z_m994, z_m995, z_m996, z_m998, acal_0, acal_1, acal_2, acal_3, acal_4, aK_v, aK_n, sF_c, sF_n, b_nr, b_nn, r_I, r_Z, r_L, r_A, r_V, sw_F, sw_n, gd_tt, is01_bzT, is01_0, is01_1, qrv_s, qrv_n, bi_eq_t, bi_eq_f, bi_ne_t, bi_ne_f, bi_lt_t, bi_lt_f, bi_ge_t, bi_ge_f, bi_gt_t, bi_gt_f, bi_le_t, bi_le_f, bc_eq_t, bc_eq_f, bc_ne_t, bc_ne_f, bc_lt_t, bc_lt_f, bc_ge_t, bc_ge_f, bc_gt_t, bc_gt_f, bc_le_t, bc_le_f, bb_eq_t, bb_eq_f, bb_ne_t, bb_ne_f, sc_t, sc_f, b_nr, b_nn, mI_J, mI_R, mJ_I, mJ_R, mR_I, mR_J, mK_I, mK_J, mK_R, mN_I, mN_J, mN_R, inM_I, inM_J, inM_R, mZ_nc, mZ_nk, mZ_sm, mZ_J, mZ_R, mJ_nc, mJ_ni, mJ_sm, mI_Z, iz_add, iz_sub, iz_mul, iz_neg, iz_lt, iz_le, iz_eq, iz_clamp, iz_inB, iz_div, iz_rem, inM_lit, and_self, true_and, and_true, true_or, or_true, not_true_eq_false, not_false_eq_true, Nat.reduceEqDiff, reduceCtorEq, Int.reduceNeg, Int.reduceSub, Int.reduceAdd, Int.reduceMul, Int.reduceToNat, Int.reduceEq, Int.neg_neg, Int.cast_ofNat_Int, Nat.reduceAdd, Nat.reduceMul, Nat.reduceSub, gd_t, emod_r, iz_0, Int.zero_add, Int.add_zero, wp_some, mK_cp, mR_cp, inM_cp, mI_cpZ, mZ_cpn, Int.reduceLE, List.length_nil, Nat.zero_le, Nat.le_refl, ne2, a0, a0i, a1, a1i, af0, af1, af2, af3, af4, af5, af6, af7, af8, af9, am0, ak2, ai2, am1, ak3, ai3, am2, ak4, ai4, am3, ak5, ai5, am4, ak6, ai6, am5, ak7, ai7, am6, ak8, ai8, am7, ak9, ai9, am8, ak10, ai10, ak11, ai11, ak12, ai12, ak13, ai13, ak14, ai14, ak15, ai15, ak16, ai16, ak18, ai18, ak19, ai19, ak17, ai17, b0, b0i, b1, b1i, bf0, bf1, bf2, bf3, bf4, bf5, bf6, bf7, bf8, bf9, bm0, bk2, bi2, bm1, bk3, bi3, bm2, bk4, bi4, bm3, bk5, bi5, bm4, bk6, bi6, bm5, bk7, bi7, bm6, bk8, bi8, bm7, bk9, bi9, bm8, bk10, bi10, bk11, bi11, bk12, bi12, bk13, bi13, bk14, bi14, bk15, bi15, bk16, bi16, bk18, bi18, bk19, bi19, bk17, bi17]
  clear a0 a0i a1 a1i af0 af1 af2 af3 af4 af5 af6 af7 af8 af9 am0 ak2 ai2 am1 ak3 ai3 am2 ak4 ai4 am3 ak5 ai5 am4 ak6 ai6 am5 ak7 ai7 am6 ak8 ai8 am7 ak9 ai9 am8 ak10 ai10 ak11 ai11 ak12 ai12 ak13 ai13 ak14 ai14 ak15 ai15 ak16 ai16 ak18 ai18 ak19 ai19 ak17 ai17 b0 b0i b1 b1i bf0 bf1 bf2 bf3 bf4 bf5 bf6 bf7 bf8 bf9 bm0 bk2 bi2 bm1 bk3 bi3 bm2 bk4 bi4 bm3 bk5 bi5 bm4 bk6 bi6 bm5 bk7 bi7 bm6 bk8 bi8 bm7 bk9 bi9 bm8 bk10 bi10 bk11 bi11 bk12 bi12 bk13 bi13 bk14 bi14 bk15 bi15 bk16 bi16 bk18 bi18 bk19 bi19 bk17 bi17
  refine hP _ ⟨?_, fun i => ?_, fun i k => ?_, fun i k => ?_, fun i k q => ?_, fun k q => ?_, fun k q => ?_, fun k q => ?_, fun k q => ?_, fun k q => ?_, fun k q => ?_, fun k q => ?_, fun k q => ?_, fun k q => ?_, ?_, ?_⟩
  · simp only [mN_I, mN_cp]
  · simp only [mK_I, mK_cp]
  · simp only [mR_I, mR_cp]
  · simp only [mJ_I, mJ_cp]
  · simp (disch := omega) only [mZ_nc, mZ_cpn]

  · simp (disch := omega) only [mZ_nc, mZ_cpn, mZ_cps]
  · simp (disch := omega) only [mZ_nc, mZ_cpn, mZ_cps]
  · simp (disch := omega) only [mZ_nc, mZ_cpn, mZ_cps]
  · simp (disch := omega) only [mZ_nc, mZ_cpn, mZ_cps]
  · simp (disch := omega) only [mZ_nc, mZ_cpn, mZ_cps]
  · simp (disch := omega) only [mZ_nc, mZ_cpn, mZ_cps]
  · simp (disch := omega) only [mZ_nc, mZ_cpn, mZ_cps]
  · simp (disch := omega) only [mZ_nc, mZ_cpn, mZ_cps]
  · simp (disch := omega) only [mZ_nc, mZ_cpn, mZ_cps]
  · simp (disch := first | decide | omega) only [mZ_nk, mZ_sm]
  · simp (disch := first | decide | omega) only [mZ_nk, mZ_sm]

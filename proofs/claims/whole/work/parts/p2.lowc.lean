theorem qbo_low (y : Nat) {A : Nat → Prop} {I : WI A} {g : Nat → Nat → Int32} {c : qV} (hc : LowV A I g c) : Low A I g (qbo y c) := (cond_low (cond_low (cond_low (cond_low (cond_low (cond_low (cond_low (cond_low (lo_0_0 hc) (lo_1_0 hc)) (cond_low (lo_2_0 hc) (lo_3_0 hc))) (cond_low (cond_low (lo_4_0 hc) (lo_5_0 hc)) (cond_low (lo_6_0 hc) (cond_low (lo_7_0 hc) (lo_8_0 hc))))) (cond_low (cond_low (cond_low (lo_9_0 hc) (lo_10_0 hc)) (cond_low (lo_11_0 hc) (cond_low (lo_12_0 hc) (lo_13_0 hc)))) (cond_low (cond_low (lo_14_0 hc) (lo_15_0 hc)) (cond_low (lo_16_0 hc) (cond_low (lo_17_0 hc) (lo_18_0 hc)))))) (cond_low (cond_low (cond_low (cond_low (lo_19_0 hc) (lo_20_0 hc)) (cond_low (lo_21_0 hc) (cond_low (lo_22_0 hc) (lo_23_0 hc)))) (cond_low (cond_low (lo_24_0 hc) (lo_25_0 hc)) (cond_low (lo_26_0 hc) (cond_low (lo_27_0 hc) (lo_28_0 hc))))) (cond_low (cond_low (cond_low (lo_29_0 hc) (lo_30_0 hc)) (cond_low (lo_31_0 hc) (cond_low (lo_32_0 hc) (lo_33_0 hc)))) (cond_low (cond_low (lo_34_0 hc) (lo_35_0 hc)) (cond_low (lo_36_0 hc) (cond_low (lo_37_0 hc) (lo_38_0 hc))))))) (cond_low (cond_low (cond_low (cond_low (cond_low (lo_39_0 hc) (lo_40_0 hc)) (cond_low (lo_41_0 hc) (cond_low (lo_42_0 hc) (lo_43_0 hc)))) (cond_low (cond_low (lo_44_0 hc) (lo_45_0 hc)) (cond_low (lo_46_0 hc) (cond_low (lo_47_0 hc) (lo_48_0 hc))))) (cond_low (cond_low (cond_low (lo_49_0 hc) (lo_50_0 hc)) (cond_low (lo_51_0 hc) (cond_low (lo_52_0 hc) (lo_53_0 hc)))) (cond_low (cond_low (lo_54_0 hc) (lo_55_0 hc)) (cond_low (lo_56_0 hc) (cond_low (lo_57_0 hc) (lo_58_0 hc)))))) (cond_low (cond_low (cond_low (cond_low (lo_59_0 hc) (lo_60_0 hc)) (cond_low (lo_61_0 hc) (cond_low (lo_62_0 hc) (lo_63_0 hc)))) (cond_low (cond_low (lo_64_0 hc) (lo_65_0 hc)) (cond_low (lo_66_0 hc) (cond_low (lo_67_0 hc) (lo_68_0 hc))))) (cond_low (cond_low (cond_low (lo_69_0 hc) (lo_70_0 hc)) (cond_low (lo_71_0 hc) (cond_low (lo_72_0 hc) (lo_73_0 hc)))) (cond_low (cond_low (lo_74_0 hc) (lo_75_0 hc)) (cond_low (lo_76_0 hc) (cond_low (lo_77_0 hc) (lo_78_0 hc)))))))) (cond_low (cond_low (cond_low (cond_low (cond_low (cond_low (lo_79_0 hc) (lo_80_0 hc)) (cond_low (lo_81_0 hc) (lo_82_0 hc))) (cond_low (cond_low (lo_83_0 hc) (lo_84_0 hc)) (cond_low (lo_85_0 hc) (cond_low (lo_86_0 hc) (lo_87_0 hc))))) (cond_low (cond_low (cond_low (lo_88_0 hc) (lo_89_0 hc)) (cond_low (lo_90_0 hc) (cond_low (lo_91_0 hc) (lo_92_0 hc)))) (cond_low (cond_low (lo_93_0 hc) (lo_94_0 hc)) (cond_low (lo_95_0 hc) (cond_low (lo_96_0 hc) (lo_97_0 hc)))))) (cond_low (cond_low (cond_low (cond_low (lo_98_0 hc) (lo_99_0 hc)) (cond_low (lo_100_0 hc) (cond_low (lo_101_0 hc) (lo_102_0 hc)))) (cond_low (cond_low (lo_103_0 hc) (lo_104_0 hc)) (cond_low (lo_105_0 hc) (cond_low (lo_106_0 hc) (lo_107_0 hc))))) (cond_low (cond_low (cond_low (lo_108_0 hc) (lo_109_0 hc)) (cond_low (lo_110_0 hc) (cond_low (lo_111_0 hc) (lo_112_0 hc)))) (cond_low (cond_low (lo_113_0 hc) (lo_114_0 hc)) (cond_low (lo_115_0 hc) (cond_low (lo_116_0 hc) (lo_117_0 hc))))))) (cond_low (cond_low (cond_low (cond_low (cond_low (lo_118_0 hc) (lo_119_0 hc)) (cond_low (lo_120_0 hc) (cond_low (lo_121_0 hc) (lo_122_0 hc)))) (cond_low (cond_low (lo_123_0 hc) (lo_124_0 hc)) (cond_low (lo_125_0 hc) (cond_low (lo_126_0 hc) (lo_127_0 hc))))) (cond_low (cond_low (cond_low (lo_128_0 hc) (lo_129_0 hc)) (cond_low (lo_130_0 hc) (cond_low (lo_131_0 hc) (lo_132_0 hc)))) (cond_low (cond_low (lo_133_0 hc) (lo_134_0 hc)) (cond_low (lo_135_0 hc) (cond_low (lo_136_0 hc) (lo_137_0 hc)))))) (cond_low (cond_low (cond_low (cond_low (lo_138_0 hc) (lo_139_0 hc)) (cond_low (lo_140_0 hc) (cond_low (lo_141_0 hc) (lo_142_0 hc)))) (cond_low (cond_low (lo_143_0 hc) (lo_144_0 hc)) (cond_low (lo_145_0 hc) (cond_low (lo_146_0 hc) (lo_147_0 hc))))) (cond_low (cond_low (cond_low (lo_148_0 hc) (lo_149_0 hc)) (cond_low (lo_150_0 hc) (cond_low (lo_151_0 hc) (lo_152_0 hc)))) (cond_low (cond_low (lo_153_0 hc) (lo_154_0 hc)) (cond_low (lo_155_0 hc) (cond_low (lo_156_0 hc) (lo_157_0 hc))))))))) (cond_low (cond_low (cond_low (cond_low (cond_low (cond_low (cond_low (lo_158_0 hc) (lo_159_0 hc)) (cond_low (lo_160_0 hc) (lo_161_0 hc))) (cond_low (cond_low (lo_162_0 hc) (lo_163_0 hc)) (cond_low (lo_164_0 hc) (cond_low (lo_165_0 hc) (lo_166_0 hc))))) (cond_low (cond_low (cond_low (lo_167_0 hc) (lo_168_0 hc)) (cond_low (lo_169_0 hc) (cond_low (lo_170_0 hc) (lo_171_0 hc)))) (cond_low (cond_low (lo_172_0 hc) (lo_173_0 hc)) (cond_low (lo_174_0 hc) (cond_low (lo_175_0 hc) (lo_176_0 hc)))))) (cond_low (cond_low (cond_low (cond_low (lo_177_0 hc) (lo_178_0 hc)) (cond_low (lo_179_0 hc) (cond_low (lo_180_0 hc) (lo_181_0 hc)))) (cond_low (cond_low (lo_182_0 hc) (lo_183_0 hc)) (cond_low (lo_184_0 hc) (cond_low (lo_185_0 hc) (lo_186_0 hc))))) (cond_low (cond_low (cond_low (lo_187_0 hc) (lo_188_0 hc)) (cond_low (lo_189_0 hc) (cond_low (lo_190_0 hc) (lo_191_0 hc)))) (cond_low (cond_low (lo_192_0 hc) (lo_193_0 hc)) (cond_low (lo_194_0 hc) (cond_low (lo_195_0 hc) (lo_196_0 hc))))))) (cond_low (cond_low (cond_low (cond_low (cond_low (lo_197_0 hc) (lo_198_0 hc)) (cond_low (lo_199_0 hc) (cond_low (lo_200_0 hc) (lo_201_0 hc)))) (cond_low (cond_low (lo_202_0 hc) (lo_203_0 hc)) (cond_low (lo_204_0 hc) (cond_low (lo_205_0 hc) (lo_206_0 hc))))) (cond_low (cond_low (cond_low (lo_207_0 hc) (lo_208_0 hc)) (cond_low (lo_209_0 hc) (cond_low (lo_210_0 hc) (lo_211_0 hc)))) (cond_low (cond_low (lo_212_0 hc) (lo_213_0 hc)) (cond_low (lo_214_0 hc) (cond_low (lo_215_0 hc) (lo_216_0 hc)))))) (cond_low (cond_low (cond_low (cond_low (lo_217_0 hc) (lo_218_0 hc)) (cond_low (lo_219_0 hc) (cond_low (lo_220_0 hc) (lo_221_0 hc)))) (cond_low (cond_low (lo_222_0 hc) (lo_223_0 hc)) (cond_low (lo_224_0 hc) (cond_low (lo_225_0 hc) (lo_226_0 hc))))) (cond_low (cond_low (cond_low (lo_227_0 hc) (lo_228_0 hc)) (cond_low (lo_229_0 hc) (cond_low (lo_230_0 hc) (lo_231_0 hc)))) (cond_low (cond_low (lo_232_0 hc) (lo_233_0 hc)) (cond_low (lo_234_0 hc) (cond_low (lo_235_0 hc) (lo_236_0 hc)))))))) (cond_low (cond_low (cond_low (cond_low (cond_low (cond_low (lo_237_0 hc) (lo_238_0 hc)) (cond_low (lo_239_0 hc) (lo_240_0 hc))) (cond_low (cond_low (lo_241_0 hc) (lo_242_0 hc)) (cond_low (lo_243_0 hc) (cond_low (lo_244_0 hc) (lo_245_0 hc))))) (cond_low (cond_low (cond_low (lo_246_0 hc) (lo_247_0 hc)) (cond_low (lo_248_0 hc) (cond_low (lo_249_0 hc) (lo_250_0 hc)))) (cond_low (cond_low (lo_251_0 hc) (lo_252_0 hc)) (cond_low (lo_253_0 hc) (cond_low (lo_254_0 hc) (lo_255_0 hc)))))) (cond_low (cond_low (cond_low (cond_low (lo_256_0 hc) (lo_257_0 hc)) (cond_low (lo_258_0 hc) (cond_low (lo_259_0 hc) (lo_260_0 hc)))) (cond_low (cond_low (lo_261_0 hc) (lo_262_0 hc)) (cond_low (lo_263_0 hc) (cond_low (lo_264_0 hc) (lo_265_0 hc))))) (cond_low (cond_low (cond_low (lo_266_0 hc) (lo_267_0 hc)) (cond_low (lo_268_0 hc) (cond_low (lo_269_0 hc) (lo_270_0 hc)))) (cond_low (cond_low (lo_271_0 hc) (lo_272_0 hc)) (cond_low (lo_273_0 hc) (cond_low (lo_274_0 hc) (lo_275_0 hc))))))) (cond_low (cond_low (cond_low (cond_low (cond_low (lo_276_0 hc) (lo_277_0 hc)) (cond_low (lo_278_0 hc) (cond_low (lo_279_0 hc) (lo_280_0 hc)))) (cond_low (cond_low (lo_281_0 hc) (lo_282_0 hc)) (cond_low (lo_283_0 hc) (cond_low (lo_284_0 hc) (lo_285_0 hc))))) (cond_low (cond_low (cond_low (lo_286_0 hc) (lo_287_0 hc)) (cond_low (lo_288_0 hc) (cond_low (lo_289_0 hc) (lo_290_0 hc)))) (cond_low (cond_low (lo_291_0 hc) (lo_292_0 hc)) (cond_low (lo_293_0 hc) (cond_low (lo_294_0 hc) (lo_295_0 hc)))))) (cond_low (cond_low (cond_low (cond_low (lo_296_0 hc) (lo_297_0 hc)) (cond_low (lo_298_0 hc) (cond_low (lo_299_0 hc) (lo_300_0 hc)))) (cond_low (cond_low (lo_301_0 hc) (lo_302_0 hc)) (cond_low (lo_303_0 hc) (cond_low (lo_304_0 hc) (lo_305_0 hc))))) (cond_low (cond_low (cond_low (lo_306_0 hc) (lo_307_0 hc)) (cond_low (lo_308_0 hc) (cond_low (lo_309_0 hc) (lo_310_0 hc)))) (cond_low (cond_low (lo_311_0 hc) (lo_312_0 hc)) (cond_low (lo_313_0 hc) (cond_low (lo_314_0 hc) (lo_329_0 hc))))))))))
theorem cal_low {A : Nat → Prop} {I : WI A} {g : Nat → Nat → Int32} : ∀ d, LowV A I g (cal d)
  | 0 => fun y As M r h => by cases h
  | d + 1 => fun y As M r h hS hM => by
    unfold cal at h ⊢
    obtain ⟨hb, h⟩ := gd_e h
    exact LowR_gd hb (qbo_low y (cal_low d) _ _ _ _ h (okL_0 hS) (fun i q => by cases q) hM)
/-! what a run changes against its beginning: nothing outside A, and new cells are counted -/
def tot (f : Nat → Nat) (a : Nat) : Nat → Nat
  | 0 => 0
  | k + 1 => tot f a k + f (a + k)
theorem tot_c {f g : Nat → Nat} {a : Nat} : ∀ k, (∀ j, a ≤ j → j < a + k → f j = g j) → tot f a k = tot g a k
  | 0, _ => rfl
  | k + 1, h => by
    rw [tot, tot, tot_c k (fun j p q => h j p (by omega)), h (a + k) (by omega) (by omega)]
theorem tot_b {f : Nat → Nat} {a B : Nat} : ∀ k, (∀ j, a ≤ j → j < a + k → f j ≤ B) → tot f a k ≤ B * k
  | 0, _ => Nat.zero_le _
  | k + 1, h => by
    have := tot_b k (fun j p q => h j p (by omega))
    have := h (a + k) (by omega) (by omega)
    rw [tot, Nat.mul_succ]
    omega
def Wr (A : Nat → Prop) (M M' : qMe) : Prop := (∀ i k, (¬ A i ∨ i < 8) → mR M' i k = mR M i k) ∧ (∀ i k, i < 8 → mI M' i k = mI M i k) ∧ (∀ i k, mN M' ≤ i → mR M' i k = mR M i k) ∧ mN M ≤ mN M' ∧ (∀ i, i < mN M → mK M' i = mK M i) ∧ M'.2.1 = M.2.1 + tot (fun i => (mK M' i).2) (mN M) (mN M' - mN M)
theorem Wr_rf {A : Nat → Prop} {M : qMe} : Wr A M M := ⟨fun _ _ _ => rfl, fun _ _ _ => rfl, fun _ _ _ => rfl, Nat.le_refl _, fun _ _ => rfl, by rw [Nat.sub_self]; rfl⟩
def wrI (A : Nat → Prop) (M : qMe) (h8 : 8 ≤ mN M) : WI A := ⟨fun M' => Wr A M M', fun M' i j x i8 h => ⟨h.1, fun i2 k2 q => by
  rw [mI_nc (by omega)]
  exact h.2.1 i2 k2 q, h.2.2⟩, fun _ _ _ _ h => h, fun M' a p b q n b8 h => ⟨h.1, fun i2 k2 z => by
  have e : mI (qcpI M' a p b q n) i2 k2 = mI M' i2 k2 := by
    show (if i2 = b ∧ q ≤ k2 ∧ k2 < q + n then M'.2.2.2.1 a (p + (k2 - q)) else M'.2.2.2.1 i2 k2) = _
    exact if_neg (by omega)
  rw [e]
  exact h.2.1 i2 k2 z, h.2.2⟩, fun M' i j x a i8 n h => ⟨fun i2 k2 q => by
  rw [mR_R, if_neg (fun e => by
    rcases q with q | q
    · exact q (e ▸ a)
    · omega)]
  exact h.1 i2 k2 q, h.2.1, fun i2 k2 q => by
  have q : mN M' ≤ i2 := q
  rw [mR_R, if_neg (by omega)]
  exact h.2.2.1 i2 k2 q, h.2.2.2⟩, fun M' kd n o h => by
  obtain ⟨h1, h0, h2, h3, h4, h5⟩ := h
  have an := okN o
  have n8 : 8 ≤ mN M' := Nat.le_trans h8 h3
  have hi : ∀ i k, ¬ i = mN M' → mI (qnew M' kd n) i k = mI M' i k := fun i k e => by
    show (if i = M'.1 then 0 else M'.2.2.2.1 i k) = _
    exact if_neg e
  have hk : ∀ i, ¬ i = mN M' → mK (qnew M' kd n) i = mK M' i := fun i e => by
    show (if i = M'.1 then (kd, n) else M'.2.2.1 i) = _
    exact if_neg e
  have hr : ∀ i k, ¬ i = mN M' → mR (qnew M' kd n) i k = mR M' i k := fun i k e => by
    show (if i = M'.1 then none else M'.2.2.2.2.2 i k) = _
    exact if_neg e
  refine ⟨fun i k q => (hr i k (fun e => by
    rcases q with q | q
    · exact q (e ▸ an)
    · omega)).trans (h1 i k q), fun i k q => (hi i k (by omega)).trans (h0 i k q), fun i k q => ?_, ?_, fun i q => (hk i (by omega)).trans (h4 i q), ?_⟩
  · have q : mN M' + 1 ≤ i := q
    exact (hr i k (by omega)).trans (h2 i k (by omega))
  · show mN M ≤ mN M' + 1
    omega
  · show M'.2.1 + n = M.2.1 + tot (fun i => (mK (qnew M' kd n) i).2) (mN M) (mN M' + 1 - mN M)
    rw [show mN M' + 1 - mN M = (mN M' - mN M) + 1 by omega, tot, tot_c (g := fun i => (mK M' i).2) (mN M' - mN M) (fun j p q => by
      show (mK (qnew M' kd n) j).2 = _
      rw [hk j (by omega)]), h5, show mN M + (mN M' - mN M) = mN M' by omega]
    have e : (mK (qnew M' kd n) (mN M')).2 = n := by rw [nwK]
    show _ = M.2.1 + (_ + (mK (qnew M' kd n) (mN M')).2)
    rw [e]
    omega, fun M' h => Nat.le_trans h8 h.2.2.2.1⟩
theorem cal_out {A : Nat → Prop} {d y : Nat} {As : List Value} {M : qMe} {r : qR} (h : cal d y As M = some r) (hS : okS A As) (hM : okM A M) : ∀ i k, ¬ A i → mI r.2 i k = mI M i k := by
  have e : sw A (mI M) M = M := by
    unfold sw
    refine congrArg (fun f => (M.1, M.2.1, M.2.2.1, f, M.2.2.2.2.1, M.2.2.2.2.2)) (funext (fun i => funext (fun k => ?_)))
    by_cases a : A i
    · exact ifA_t a
    · exact ifA_f a
  have z := (cal_loc (A := A) (g := mI M) d y As M r h hS hM).1
  rw [e, h] at z
  have z2 := congrArg Prod.snd (Option.some.inj z)
  intro i k a
  rw [z2]
  exact sw_In a
theorem cal_wr {A : Nat → Prop} {d y : Nat} {As : List Value} {M : qMe} {r : qR} (h : cal d y As M = some r) (hS : okS A As) (hM : okM A M) (h8 : 8 ≤ mN M) : Wr A M r.2 := (cal_low (I := wrI A M h8) (g := fun _ _ => 0) d y As M r h hS ⟨hM, Wr_rf⟩).2.1.2

/-! calls -/
noncomputable def qbo (y : Nat) (c : qV) : qF := (bif Nat.blt y 158 then (bif Nat.blt y 79 then (bif Nat.blt y 39 then (bif Nat.blt y 19 then (bif Nat.blt y 9 then (bif Nat.blt y 4 then (bif Nat.blt y 2 then (bif Nat.blt y 1 then n_0_0 c else n_1_0 c) else (bif Nat.blt y 3 then n_2_0 c else n_3_0 c)) else (bif Nat.blt y 6 then (bif Nat.blt y 5 then n_4_0 c else n_5_0 c) else (bif Nat.blt y 7 then n_6_0 c else (bif Nat.blt y 8 then n_7_0 c else n_8_0 c)))) else (bif Nat.blt y 14 then (bif Nat.blt y 11 then (bif Nat.blt y 10 then n_9_0 c else n_10_0 c) else (bif Nat.blt y 12 then n_11_0 c else (bif Nat.blt y 13 then n_12_0 c else n_13_0 c))) else (bif Nat.blt y 16 then (bif Nat.blt y 15 then n_14_0 c else n_15_0 c) else (bif Nat.blt y 17 then n_16_0 c else (bif Nat.blt y 18 then n_17_0 c else n_18_0 c))))) else (bif Nat.blt y 29 then (bif Nat.blt y 24 then (bif Nat.blt y 21 then (bif Nat.blt y 20 then n_19_0 c else n_20_0 c) else (bif Nat.blt y 22 then n_21_0 c else (bif Nat.blt y 23 then n_22_0 c else n_23_0 c))) else (bif Nat.blt y 26 then (bif Nat.blt y 25 then n_24_0 c else n_25_0 c) else (bif Nat.blt y 27 then n_26_0 c else (bif Nat.blt y 28 then n_27_0 c else n_28_0 c)))) else (bif Nat.blt y 34 then (bif Nat.blt y 31 then (bif Nat.blt y 30 then n_29_0 c else n_30_0 c) else (bif Nat.blt y 32 then n_31_0 c else (bif Nat.blt y 33 then n_32_0 c else n_33_0 c))) else (bif Nat.blt y 36 then (bif Nat.blt y 35 then n_34_0 c else n_35_0 c) else (bif Nat.blt y 37 then n_36_0 c else (bif Nat.blt y 38 then n_37_0 c else n_38_0 c)))))) else (bif Nat.blt y 59 then (bif Nat.blt y 49 then (bif Nat.blt y 44 then (bif Nat.blt y 41 then (bif Nat.blt y 40 then n_39_0 c else n_40_0 c) else (bif Nat.blt y 42 then n_41_0 c else (bif Nat.blt y 43 then n_42_0 c else n_43_0 c))) else (bif Nat.blt y 46 then (bif Nat.blt y 45 then n_44_0 c else n_45_0 c) else (bif Nat.blt y 47 then n_46_0 c else (bif Nat.blt y 48 then n_47_0 c else n_48_0 c)))) else (bif Nat.blt y 54 then (bif Nat.blt y 51 then (bif Nat.blt y 50 then n_49_0 c else n_50_0 c) else (bif Nat.blt y 52 then n_51_0 c else (bif Nat.blt y 53 then n_52_0 c else n_53_0 c))) else (bif Nat.blt y 56 then (bif Nat.blt y 55 then n_54_0 c else n_55_0 c) else (bif Nat.blt y 57 then n_56_0 c else (bif Nat.blt y 58 then n_57_0 c else n_58_0 c))))) else (bif Nat.blt y 69 then (bif Nat.blt y 64 then (bif Nat.blt y 61 then (bif Nat.blt y 60 then n_59_0 c else n_60_0 c) else (bif Nat.blt y 62 then n_61_0 c else (bif Nat.blt y 63 then n_62_0 c else n_63_0 c))) else (bif Nat.blt y 66 then (bif Nat.blt y 65 then n_64_0 c else n_65_0 c) else (bif Nat.blt y 67 then n_66_0 c else (bif Nat.blt y 68 then n_67_0 c else n_68_0 c)))) else (bif Nat.blt y 74 then (bif Nat.blt y 71 then (bif Nat.blt y 70 then n_69_0 c else n_70_0 c) else (bif Nat.blt y 72 then n_71_0 c else (bif Nat.blt y 73 then n_72_0 c else n_73_0 c))) else (bif Nat.blt y 76 then (bif Nat.blt y 75 then n_74_0 c else n_75_0 c) else (bif Nat.blt y 77 then n_76_0 c else (bif Nat.blt y 78 then n_77_0 c else n_78_0 c))))))) else (bif Nat.blt y 118 then (bif Nat.blt y 98 then (bif Nat.blt y 88 then (bif Nat.blt y 83 then (bif Nat.blt y 81 then (bif Nat.blt y 80 then n_79_0 c else n_80_0 c) else (bif Nat.blt y 82 then n_81_0 c else n_82_0 c)) else (bif Nat.blt y 85 then (bif Nat.blt y 84 then n_83_0 c else n_84_0 c) else (bif Nat.blt y 86 then n_85_0 c else (bif Nat.blt y 87 then n_86_0 c else n_87_0 c)))) else (bif Nat.blt y 93 then (bif Nat.blt y 90 then (bif Nat.blt y 89 then n_88_0 c else n_89_0 c) else (bif Nat.blt y 91 then n_90_0 c else (bif Nat.blt y 92 then n_91_0 c else n_92_0 c))) else (bif Nat.blt y 95 then (bif Nat.blt y 94 then n_93_0 c else n_94_0 c) else (bif Nat.blt y 96 then n_95_0 c else (bif Nat.blt y 97 then n_96_0 c else n_97_0 c))))) else (bif Nat.blt y 108 then (bif Nat.blt y 103 then (bif Nat.blt y 100 then (bif Nat.blt y 99 then n_98_0 c else n_99_0 c) else (bif Nat.blt y 101 then n_100_0 c else (bif Nat.blt y 102 then n_101_0 c else n_102_0 c))) else (bif Nat.blt y 105 then (bif Nat.blt y 104 then n_103_0 c else n_104_0 c) else (bif Nat.blt y 106 then n_105_0 c else (bif Nat.blt y 107 then n_106_0 c else n_107_0 c)))) else (bif Nat.blt y 113 then (bif Nat.blt y 110 then (bif Nat.blt y 109 then n_108_0 c else n_109_0 c) else (bif Nat.blt y 111 then n_110_0 c else (bif Nat.blt y 112 then n_111_0 c else n_112_0 c))) else (bif Nat.blt y 115 then (bif Nat.blt y 114 then n_113_0 c else n_114_0 c) else (bif Nat.blt y 116 then n_115_0 c else (bif Nat.blt y 117 then n_116_0 c else n_117_0 c)))))) else (bif Nat.blt y 138 then (bif Nat.blt y 128 then (bif Nat.blt y 123 then (bif Nat.blt y 120 then (bif Nat.blt y 119 then n_118_0 c else n_119_0 c) else (bif Nat.blt y 121 then n_120_0 c else (bif Nat.blt y 122 then n_121_0 c else n_122_0 c))) else (bif Nat.blt y 125 then (bif Nat.blt y 124 then n_123_0 c else n_124_0 c) else (bif Nat.blt y 126 then n_125_0 c else (bif Nat.blt y 127 then n_126_0 c else n_127_0 c)))) else (bif Nat.blt y 133 then (bif Nat.blt y 130 then (bif Nat.blt y 129 then n_128_0 c else n_129_0 c) else (bif Nat.blt y 131 then n_130_0 c else (bif Nat.blt y 132 then n_131_0 c else n_132_0 c))) else (bif Nat.blt y 135 then (bif Nat.blt y 134 then n_133_0 c else n_134_0 c) else (bif Nat.blt y 136 then n_135_0 c else (bif Nat.blt y 137 then n_136_0 c else n_137_0 c))))) else (bif Nat.blt y 148 then (bif Nat.blt y 143 then (bif Nat.blt y 140 then (bif Nat.blt y 139 then n_138_0 c else n_139_0 c) else (bif Nat.blt y 141 then n_140_0 c else (bif Nat.blt y 142 then n_141_0 c else n_142_0 c))) else (bif Nat.blt y 145 then (bif Nat.blt y 144 then n_143_0 c else n_144_0 c) else (bif Nat.blt y 146 then n_145_0 c else (bif Nat.blt y 147 then n_146_0 c else n_147_0 c)))) else (bif Nat.blt y 153 then (bif Nat.blt y 150 then (bif Nat.blt y 149 then n_148_0 c else n_149_0 c) else (bif Nat.blt y 151 then n_150_0 c else (bif Nat.blt y 152 then n_151_0 c else n_152_0 c))) else (bif Nat.blt y 155 then (bif Nat.blt y 154 then n_153_0 c else n_154_0 c) else (bif Nat.blt y 156 then n_155_0 c else (bif Nat.blt y 157 then n_156_0 c else n_157_0 c)))))))) else (bif Nat.blt y 237 then (bif Nat.blt y 197 then (bif Nat.blt y 177 then (bif Nat.blt y 167 then (bif Nat.blt y 162 then (bif Nat.blt y 160 then (bif Nat.blt y 159 then n_158_0 c else n_159_0 c) else (bif Nat.blt y 161 then n_160_0 c else n_161_0 c)) else (bif Nat.blt y 164 then (bif Nat.blt y 163 then n_162_0 c else n_163_0 c) else (bif Nat.blt y 165 then n_164_0 c else (bif Nat.blt y 166 then n_165_0 c else n_166_0 c)))) else (bif Nat.blt y 172 then (bif Nat.blt y 169 then (bif Nat.blt y 168 then n_167_0 c else n_168_0 c) else (bif Nat.blt y 170 then n_169_0 c else (bif Nat.blt y 171 then n_170_0 c else n_171_0 c))) else (bif Nat.blt y 174 then (bif Nat.blt y 173 then n_172_0 c else n_173_0 c) else (bif Nat.blt y 175 then n_174_0 c else (bif Nat.blt y 176 then n_175_0 c else n_176_0 c))))) else (bif Nat.blt y 187 then (bif Nat.blt y 182 then (bif Nat.blt y 179 then (bif Nat.blt y 178 then n_177_0 c else n_178_0 c) else (bif Nat.blt y 180 then n_179_0 c else (bif Nat.blt y 181 then n_180_0 c else n_181_0 c))) else (bif Nat.blt y 184 then (bif Nat.blt y 183 then n_182_0 c else n_183_0 c) else (bif Nat.blt y 185 then n_184_0 c else (bif Nat.blt y 186 then n_185_0 c else n_186_0 c)))) else (bif Nat.blt y 192 then (bif Nat.blt y 189 then (bif Nat.blt y 188 then n_187_0 c else n_188_0 c) else (bif Nat.blt y 190 then n_189_0 c else (bif Nat.blt y 191 then n_190_0 c else n_191_0 c))) else (bif Nat.blt y 194 then (bif Nat.blt y 193 then n_192_0 c else n_193_0 c) else (bif Nat.blt y 195 then n_194_0 c else (bif Nat.blt y 196 then n_195_0 c else n_196_0 c)))))) else (bif Nat.blt y 217 then (bif Nat.blt y 207 then (bif Nat.blt y 202 then (bif Nat.blt y 199 then (bif Nat.blt y 198 then n_197_0 c else n_198_0 c) else (bif Nat.blt y 200 then n_199_0 c else (bif Nat.blt y 201 then n_200_0 c else n_201_0 c))) else (bif Nat.blt y 204 then (bif Nat.blt y 203 then n_202_0 c else n_203_0 c) else (bif Nat.blt y 205 then n_204_0 c else (bif Nat.blt y 206 then n_205_0 c else n_206_0 c)))) else (bif Nat.blt y 212 then (bif Nat.blt y 209 then (bif Nat.blt y 208 then n_207_0 c else n_208_0 c) else (bif Nat.blt y 210 then n_209_0 c else (bif Nat.blt y 211 then n_210_0 c else n_211_0 c))) else (bif Nat.blt y 214 then (bif Nat.blt y 213 then n_212_0 c else n_213_0 c) else (bif Nat.blt y 215 then n_214_0 c else (bif Nat.blt y 216 then n_215_0 c else n_216_0 c))))) else (bif Nat.blt y 227 then (bif Nat.blt y 222 then (bif Nat.blt y 219 then (bif Nat.blt y 218 then n_217_0 c else n_218_0 c) else (bif Nat.blt y 220 then n_219_0 c else (bif Nat.blt y 221 then n_220_0 c else n_221_0 c))) else (bif Nat.blt y 224 then (bif Nat.blt y 223 then n_222_0 c else n_223_0 c) else (bif Nat.blt y 225 then n_224_0 c else (bif Nat.blt y 226 then n_225_0 c else n_226_0 c)))) else (bif Nat.blt y 232 then (bif Nat.blt y 229 then (bif Nat.blt y 228 then n_227_0 c else n_228_0 c) else (bif Nat.blt y 230 then n_229_0 c else (bif Nat.blt y 231 then n_230_0 c else n_231_0 c))) else (bif Nat.blt y 234 then (bif Nat.blt y 233 then n_232_0 c else n_233_0 c) else (bif Nat.blt y 235 then n_234_0 c else (bif Nat.blt y 236 then n_235_0 c else n_236_0 c))))))) else (bif Nat.blt y 276 then (bif Nat.blt y 256 then (bif Nat.blt y 246 then (bif Nat.blt y 241 then (bif Nat.blt y 239 then (bif Nat.blt y 238 then n_237_0 c else n_238_0 c) else (bif Nat.blt y 240 then n_239_0 c else n_240_0 c)) else (bif Nat.blt y 243 then (bif Nat.blt y 242 then n_241_0 c else n_242_0 c) else (bif Nat.blt y 244 then n_243_0 c else (bif Nat.blt y 245 then n_244_0 c else n_245_0 c)))) else (bif Nat.blt y 251 then (bif Nat.blt y 248 then (bif Nat.blt y 247 then n_246_0 c else n_247_0 c) else (bif Nat.blt y 249 then n_248_0 c else (bif Nat.blt y 250 then n_249_0 c else n_250_0 c))) else (bif Nat.blt y 253 then (bif Nat.blt y 252 then n_251_0 c else n_252_0 c) else (bif Nat.blt y 254 then n_253_0 c else (bif Nat.blt y 255 then n_254_0 c else n_255_0 c))))) else (bif Nat.blt y 266 then (bif Nat.blt y 261 then (bif Nat.blt y 258 then (bif Nat.blt y 257 then n_256_0 c else n_257_0 c) else (bif Nat.blt y 259 then n_258_0 c else (bif Nat.blt y 260 then n_259_0 c else n_260_0 c))) else (bif Nat.blt y 263 then (bif Nat.blt y 262 then n_261_0 c else n_262_0 c) else (bif Nat.blt y 264 then n_263_0 c else (bif Nat.blt y 265 then n_264_0 c else n_265_0 c)))) else (bif Nat.blt y 271 then (bif Nat.blt y 268 then (bif Nat.blt y 267 then n_266_0 c else n_267_0 c) else (bif Nat.blt y 269 then n_268_0 c else (bif Nat.blt y 270 then n_269_0 c else n_270_0 c))) else (bif Nat.blt y 273 then (bif Nat.blt y 272 then n_271_0 c else n_272_0 c) else (bif Nat.blt y 274 then n_273_0 c else (bif Nat.blt y 275 then n_274_0 c else n_275_0 c)))))) else (bif Nat.blt y 296 then (bif Nat.blt y 286 then (bif Nat.blt y 281 then (bif Nat.blt y 278 then (bif Nat.blt y 277 then n_276_0 c else n_277_0 c) else (bif Nat.blt y 279 then n_278_0 c else (bif Nat.blt y 280 then n_279_0 c else n_280_0 c))) else (bif Nat.blt y 283 then (bif Nat.blt y 282 then n_281_0 c else n_282_0 c) else (bif Nat.blt y 284 then n_283_0 c else (bif Nat.blt y 285 then n_284_0 c else n_285_0 c)))) else (bif Nat.blt y 291 then (bif Nat.blt y 288 then (bif Nat.blt y 287 then n_286_0 c else n_287_0 c) else (bif Nat.blt y 289 then n_288_0 c else (bif Nat.blt y 290 then n_289_0 c else n_290_0 c))) else (bif Nat.blt y 293 then (bif Nat.blt y 292 then n_291_0 c else n_292_0 c) else (bif Nat.blt y 294 then n_293_0 c else (bif Nat.blt y 295 then n_294_0 c else n_295_0 c))))) else (bif Nat.blt y 306 then (bif Nat.blt y 301 then (bif Nat.blt y 298 then (bif Nat.blt y 297 then n_296_0 c else n_297_0 c) else (bif Nat.blt y 299 then n_298_0 c else (bif Nat.blt y 300 then n_299_0 c else n_300_0 c))) else (bif Nat.blt y 303 then (bif Nat.blt y 302 then n_301_0 c else n_302_0 c) else (bif Nat.blt y 304 then n_303_0 c else (bif Nat.blt y 305 then n_304_0 c else n_305_0 c)))) else (bif Nat.blt y 311 then (bif Nat.blt y 308 then (bif Nat.blt y 307 then n_306_0 c else n_307_0 c) else (bif Nat.blt y 309 then n_308_0 c else (bif Nat.blt y 310 then n_309_0 c else n_310_0 c))) else (bif Nat.blt y 313 then (bif Nat.blt y 312 then n_311_0 c else n_312_0 c) else (bif Nat.blt y 314 then n_313_0 c else (bif Nat.blt y 329 then n_314_0 c else n_329_0 c)))))))))
noncomputable def cal (d : Nat) : qV := match d with
  | 0 => fun _ _ _ => none
  | d + 1 => fun y As M => gd (qcats As ≤ qml y) (qbo y (cal d) (qL0 As (qml y)) [] M)
theorem qbo_0 {G : qG} {d : Nat} {c : qV} (hc : qvok G d c) : ∀ y ∈ qys_0, Snd G (d + 1) y 0 (qbo y c) := (List.forall_mem_cons.mpr ⟨s_1_0 hc, (List.forall_mem_cons.mpr ⟨s_2_0 hc, (List.forall_mem_cons.mpr ⟨s_3_0 hc, (List.forall_mem_cons.mpr ⟨s_4_0 hc, (List.forall_mem_cons.mpr ⟨s_5_0 hc, (List.forall_mem_cons.mpr ⟨s_6_0 hc, (List.forall_mem_cons.mpr ⟨s_7_0 hc, (List.forall_mem_cons.mpr ⟨s_8_0 hc, (List.forall_mem_cons.mpr ⟨s_9_0 hc, (List.forall_mem_cons.mpr ⟨s_10_0 hc, (List.forall_mem_cons.mpr ⟨s_11_0 hc, (List.forall_mem_cons.mpr ⟨s_12_0 hc, (List.forall_mem_cons.mpr ⟨s_13_0 hc, (List.forall_mem_cons.mpr ⟨s_14_0 hc, (List.forall_mem_cons.mpr ⟨s_15_0 hc, (List.forall_mem_cons.mpr ⟨s_16_0 hc, (List.forall_mem_cons.mpr ⟨s_17_0 hc, (List.forall_mem_cons.mpr ⟨s_18_0 hc, (List.forall_mem_cons.mpr ⟨s_19_0 hc, (List.forall_mem_cons.mpr ⟨s_20_0 hc, (List.forall_mem_cons.mpr ⟨s_21_0 hc, (List.forall_mem_cons.mpr ⟨s_22_0 hc, (List.forall_mem_cons.mpr ⟨s_23_0 hc, (List.forall_mem_cons.mpr ⟨s_24_0 hc, (List.forall_mem_cons.mpr ⟨s_25_0 hc, (List.forall_mem_cons.mpr ⟨s_26_0 hc, (List.forall_mem_cons.mpr ⟨s_27_0 hc, (List.forall_mem_cons.mpr ⟨s_28_0 hc, (List.forall_mem_cons.mpr ⟨s_29_0 hc, (List.forall_mem_cons.mpr ⟨s_30_0 hc, (List.forall_mem_cons.mpr ⟨s_31_0 hc, (List.forall_mem_cons.mpr ⟨s_32_0 hc, (List.forall_mem_cons.mpr ⟨s_33_0 hc, (List.forall_mem_cons.mpr ⟨s_34_0 hc, (List.forall_mem_cons.mpr ⟨s_35_0 hc, (List.forall_mem_cons.mpr ⟨s_36_0 hc, (List.forall_mem_cons.mpr ⟨s_37_0 hc, (List.forall_mem_cons.mpr ⟨s_38_0 hc, (List.forall_mem_cons.mpr ⟨s_39_0 hc, (List.forall_mem_cons.mpr ⟨s_40_0 hc, (fun _ h => absurd h List.not_mem_nil)⟩)⟩)⟩)⟩)⟩)⟩)⟩)⟩)⟩)⟩)⟩)⟩)⟩)⟩)⟩)⟩)⟩)⟩)⟩)⟩)⟩)⟩)⟩)⟩)⟩)⟩)⟩)⟩)⟩)⟩)⟩)⟩)⟩)⟩)⟩)⟩)⟩)⟩)⟩)⟩)
theorem qbo_1 {G : qG} {d : Nat} {c : qV} (hc : qvok G d c) : ∀ y ∈ qys_1, Snd G (d + 1) y 0 (qbo y c) := (List.forall_mem_cons.mpr ⟨s_41_0 hc, (List.forall_mem_cons.mpr ⟨s_42_0 hc, (List.forall_mem_cons.mpr ⟨s_43_0 hc, (List.forall_mem_cons.mpr ⟨s_44_0 hc, (List.forall_mem_cons.mpr ⟨s_45_0 hc, (List.forall_mem_cons.mpr ⟨s_46_0 hc, (List.forall_mem_cons.mpr ⟨s_47_0 hc, (List.forall_mem_cons.mpr ⟨s_48_0 hc, (List.forall_mem_cons.mpr ⟨s_49_0 hc, (List.forall_mem_cons.mpr ⟨s_50_0 hc, (List.forall_mem_cons.mpr ⟨s_51_0 hc, (List.forall_mem_cons.mpr ⟨s_52_0 hc, (List.forall_mem_cons.mpr ⟨s_53_0 hc, (List.forall_mem_cons.mpr ⟨s_54_0 hc, (List.forall_mem_cons.mpr ⟨s_55_0 hc, (List.forall_mem_cons.mpr ⟨s_56_0 hc, (List.forall_mem_cons.mpr ⟨s_57_0 hc, (List.forall_mem_cons.mpr ⟨s_58_0 hc, (List.forall_mem_cons.mpr ⟨s_59_0 hc, (List.forall_mem_cons.mpr ⟨s_60_0 hc, (List.forall_mem_cons.mpr ⟨s_61_0 hc, (List.forall_mem_cons.mpr ⟨s_62_0 hc, (List.forall_mem_cons.mpr ⟨s_63_0 hc, (List.forall_mem_cons.mpr ⟨s_64_0 hc, (List.forall_mem_cons.mpr ⟨s_65_0 hc, (List.forall_mem_cons.mpr ⟨s_66_0 hc, (List.forall_mem_cons.mpr ⟨s_67_0 hc, (List.forall_mem_cons.mpr ⟨s_68_0 hc, (List.forall_mem_cons.mpr ⟨s_69_0 hc, (List.forall_mem_cons.mpr ⟨s_70_0 hc, (List.forall_mem_cons.mpr ⟨s_71_0 hc, (List.forall_mem_cons.mpr ⟨s_72_0 hc, (List.forall_mem_cons.mpr ⟨s_73_0 hc, (List.forall_mem_cons.mpr ⟨s_74_0 hc, (List.forall_mem_cons.mpr ⟨s_75_0 hc, (List.forall_mem_cons.mpr ⟨s_76_0 hc, (List.forall_mem_cons.mpr ⟨s_77_0 hc, (List.forall_mem_cons.mpr ⟨s_78_0 hc, (List.forall_mem_cons.mpr ⟨s_79_0 hc, (List.forall_mem_cons.mpr ⟨s_80_0 hc, (fun _ h => absurd h List.not_mem_nil)⟩)⟩)⟩)⟩)⟩)⟩)⟩)⟩)⟩)⟩)⟩)⟩)⟩)⟩)⟩)⟩)⟩)⟩)⟩)⟩)⟩)⟩)⟩)⟩)⟩)⟩)⟩)⟩)⟩)⟩)⟩)⟩)⟩)⟩)⟩)⟩)⟩)⟩)⟩)⟩)
theorem qbo_2 {G : qG} {d : Nat} {c : qV} (hc : qvok G d c) : ∀ y ∈ qys_2, Snd G (d + 1) y 0 (qbo y c) := (List.forall_mem_cons.mpr ⟨s_81_0 hc, (List.forall_mem_cons.mpr ⟨s_82_0 hc, (List.forall_mem_cons.mpr ⟨s_83_0 hc, (List.forall_mem_cons.mpr ⟨s_84_0 hc, (List.forall_mem_cons.mpr ⟨s_85_0 hc, (List.forall_mem_cons.mpr ⟨s_86_0 hc, (List.forall_mem_cons.mpr ⟨s_87_0 hc, (List.forall_mem_cons.mpr ⟨s_88_0 hc, (List.forall_mem_cons.mpr ⟨s_89_0 hc, (List.forall_mem_cons.mpr ⟨s_90_0 hc, (List.forall_mem_cons.mpr ⟨s_91_0 hc, (List.forall_mem_cons.mpr ⟨s_92_0 hc, (List.forall_mem_cons.mpr ⟨s_93_0 hc, (List.forall_mem_cons.mpr ⟨s_94_0 hc, (List.forall_mem_cons.mpr ⟨s_95_0 hc, (List.forall_mem_cons.mpr ⟨s_96_0 hc, (List.forall_mem_cons.mpr ⟨s_97_0 hc, (List.forall_mem_cons.mpr ⟨s_98_0 hc, (List.forall_mem_cons.mpr ⟨s_99_0 hc, (List.forall_mem_cons.mpr ⟨s_100_0 hc, (List.forall_mem_cons.mpr ⟨s_101_0 hc, (List.forall_mem_cons.mpr ⟨s_102_0 hc, (List.forall_mem_cons.mpr ⟨s_103_0 hc, (List.forall_mem_cons.mpr ⟨s_104_0 hc, (List.forall_mem_cons.mpr ⟨s_105_0 hc, (List.forall_mem_cons.mpr ⟨s_106_0 hc, (List.forall_mem_cons.mpr ⟨s_107_0 hc, (List.forall_mem_cons.mpr ⟨s_108_0 hc, (List.forall_mem_cons.mpr ⟨s_109_0 hc, (List.forall_mem_cons.mpr ⟨s_110_0 hc, (List.forall_mem_cons.mpr ⟨s_111_0 hc, (List.forall_mem_cons.mpr ⟨s_112_0 hc, (List.forall_mem_cons.mpr ⟨s_113_0 hc, (List.forall_mem_cons.mpr ⟨s_114_0 hc, (List.forall_mem_cons.mpr ⟨s_115_0 hc, (List.forall_mem_cons.mpr ⟨s_116_0 hc, (List.forall_mem_cons.mpr ⟨s_117_0 hc, (List.forall_mem_cons.mpr ⟨s_118_0 hc, (List.forall_mem_cons.mpr ⟨s_119_0 hc, (List.forall_mem_cons.mpr ⟨s_120_0 hc, (fun _ h => absurd h List.not_mem_nil)⟩)⟩)⟩)⟩)⟩)⟩)⟩)⟩)⟩)⟩)⟩)⟩)⟩)⟩)⟩)⟩)⟩)⟩)⟩)⟩)⟩)⟩)⟩)⟩)⟩)⟩)⟩)⟩)⟩)⟩)⟩)⟩)⟩)⟩)⟩)⟩)⟩)⟩)⟩)⟩)
theorem qbo_3 {G : qG} {d : Nat} {c : qV} (hc : qvok G d c) : ∀ y ∈ qys_3, Snd G (d + 1) y 0 (qbo y c) := (List.forall_mem_cons.mpr ⟨s_121_0 hc, (List.forall_mem_cons.mpr ⟨s_122_0 hc, (List.forall_mem_cons.mpr ⟨s_123_0 hc, (List.forall_mem_cons.mpr ⟨s_124_0 hc, (List.forall_mem_cons.mpr ⟨s_125_0 hc, (List.forall_mem_cons.mpr ⟨s_126_0 hc, (List.forall_mem_cons.mpr ⟨s_127_0 hc, (List.forall_mem_cons.mpr ⟨s_128_0 hc, (List.forall_mem_cons.mpr ⟨s_129_0 hc, (List.forall_mem_cons.mpr ⟨s_130_0 hc, (List.forall_mem_cons.mpr ⟨s_131_0 hc, (List.forall_mem_cons.mpr ⟨s_132_0 hc, (List.forall_mem_cons.mpr ⟨s_133_0 hc, (List.forall_mem_cons.mpr ⟨s_134_0 hc, (List.forall_mem_cons.mpr ⟨s_135_0 hc, (List.forall_mem_cons.mpr ⟨s_136_0 hc, (List.forall_mem_cons.mpr ⟨s_137_0 hc, (List.forall_mem_cons.mpr ⟨s_138_0 hc, (List.forall_mem_cons.mpr ⟨s_139_0 hc, (List.forall_mem_cons.mpr ⟨s_140_0 hc, (List.forall_mem_cons.mpr ⟨s_141_0 hc, (List.forall_mem_cons.mpr ⟨s_142_0 hc, (List.forall_mem_cons.mpr ⟨s_143_0 hc, (List.forall_mem_cons.mpr ⟨s_144_0 hc, (List.forall_mem_cons.mpr ⟨s_145_0 hc, (List.forall_mem_cons.mpr ⟨s_146_0 hc, (List.forall_mem_cons.mpr ⟨s_147_0 hc, (List.forall_mem_cons.mpr ⟨s_148_0 hc, (List.forall_mem_cons.mpr ⟨s_149_0 hc, (List.forall_mem_cons.mpr ⟨s_150_0 hc, (List.forall_mem_cons.mpr ⟨s_151_0 hc, (List.forall_mem_cons.mpr ⟨s_152_0 hc, (List.forall_mem_cons.mpr ⟨s_153_0 hc, (List.forall_mem_cons.mpr ⟨s_154_0 hc, (List.forall_mem_cons.mpr ⟨s_155_0 hc, (List.forall_mem_cons.mpr ⟨s_156_0 hc, (List.forall_mem_cons.mpr ⟨s_157_0 hc, (List.forall_mem_cons.mpr ⟨s_158_0 hc, (List.forall_mem_cons.mpr ⟨s_159_0 hc, (List.forall_mem_cons.mpr ⟨s_160_0 hc, (fun _ h => absurd h List.not_mem_nil)⟩)⟩)⟩)⟩)⟩)⟩)⟩)⟩)⟩)⟩)⟩)⟩)⟩)⟩)⟩)⟩)⟩)⟩)⟩)⟩)⟩)⟩)⟩)⟩)⟩)⟩)⟩)⟩)⟩)⟩)⟩)⟩)⟩)⟩)⟩)⟩)⟩)⟩)⟩)⟩)
theorem qbo_4 {G : qG} {d : Nat} {c : qV} (hc : qvok G d c) : ∀ y ∈ qys_4, Snd G (d + 1) y 0 (qbo y c) := (List.forall_mem_cons.mpr ⟨s_161_0 hc, (List.forall_mem_cons.mpr ⟨s_162_0 hc, (List.forall_mem_cons.mpr ⟨s_163_0 hc, (List.forall_mem_cons.mpr ⟨s_164_0 hc, (List.forall_mem_cons.mpr ⟨s_165_0 hc, (List.forall_mem_cons.mpr ⟨s_166_0 hc, (List.forall_mem_cons.mpr ⟨s_167_0 hc, (List.forall_mem_cons.mpr ⟨s_168_0 hc, (List.forall_mem_cons.mpr ⟨s_169_0 hc, (List.forall_mem_cons.mpr ⟨s_170_0 hc, (List.forall_mem_cons.mpr ⟨s_171_0 hc, (List.forall_mem_cons.mpr ⟨s_172_0 hc, (List.forall_mem_cons.mpr ⟨s_173_0 hc, (List.forall_mem_cons.mpr ⟨s_174_0 hc, (List.forall_mem_cons.mpr ⟨s_175_0 hc, (List.forall_mem_cons.mpr ⟨s_176_0 hc, (List.forall_mem_cons.mpr ⟨s_177_0 hc, (List.forall_mem_cons.mpr ⟨s_178_0 hc, (List.forall_mem_cons.mpr ⟨s_179_0 hc, (List.forall_mem_cons.mpr ⟨s_180_0 hc, (List.forall_mem_cons.mpr ⟨s_181_0 hc, (List.forall_mem_cons.mpr ⟨s_182_0 hc, (List.forall_mem_cons.mpr ⟨s_183_0 hc, (List.forall_mem_cons.mpr ⟨s_184_0 hc, (List.forall_mem_cons.mpr ⟨s_185_0 hc, (List.forall_mem_cons.mpr ⟨s_186_0 hc, (List.forall_mem_cons.mpr ⟨s_187_0 hc, (List.forall_mem_cons.mpr ⟨s_188_0 hc, (List.forall_mem_cons.mpr ⟨s_189_0 hc, (List.forall_mem_cons.mpr ⟨s_190_0 hc, (List.forall_mem_cons.mpr ⟨s_191_0 hc, (List.forall_mem_cons.mpr ⟨s_192_0 hc, (List.forall_mem_cons.mpr ⟨s_193_0 hc, (List.forall_mem_cons.mpr ⟨s_194_0 hc, (List.forall_mem_cons.mpr ⟨s_195_0 hc, (List.forall_mem_cons.mpr ⟨s_196_0 hc, (List.forall_mem_cons.mpr ⟨s_197_0 hc, (List.forall_mem_cons.mpr ⟨s_198_0 hc, (List.forall_mem_cons.mpr ⟨s_199_0 hc, (List.forall_mem_cons.mpr ⟨s_200_0 hc, (fun _ h => absurd h List.not_mem_nil)⟩)⟩)⟩)⟩)⟩)⟩)⟩)⟩)⟩)⟩)⟩)⟩)⟩)⟩)⟩)⟩)⟩)⟩)⟩)⟩)⟩)⟩)⟩)⟩)⟩)⟩)⟩)⟩)⟩)⟩)⟩)⟩)⟩)⟩)⟩)⟩)⟩)⟩)⟩)⟩)
theorem qbo_5 {G : qG} {d : Nat} {c : qV} (hc : qvok G d c) : ∀ y ∈ qys_5, Snd G (d + 1) y 0 (qbo y c) := (List.forall_mem_cons.mpr ⟨s_201_0 hc, (List.forall_mem_cons.mpr ⟨s_202_0 hc, (List.forall_mem_cons.mpr ⟨s_203_0 hc, (List.forall_mem_cons.mpr ⟨s_204_0 hc, (List.forall_mem_cons.mpr ⟨s_205_0 hc, (List.forall_mem_cons.mpr ⟨s_206_0 hc, (List.forall_mem_cons.mpr ⟨s_207_0 hc, (List.forall_mem_cons.mpr ⟨s_208_0 hc, (List.forall_mem_cons.mpr ⟨s_209_0 hc, (List.forall_mem_cons.mpr ⟨s_210_0 hc, (List.forall_mem_cons.mpr ⟨s_211_0 hc, (List.forall_mem_cons.mpr ⟨s_212_0 hc, (List.forall_mem_cons.mpr ⟨s_213_0 hc, (List.forall_mem_cons.mpr ⟨s_214_0 hc, (List.forall_mem_cons.mpr ⟨s_215_0 hc, (List.forall_mem_cons.mpr ⟨s_216_0 hc, (List.forall_mem_cons.mpr ⟨s_217_0 hc, (List.forall_mem_cons.mpr ⟨s_218_0 hc, (List.forall_mem_cons.mpr ⟨s_219_0 hc, (List.forall_mem_cons.mpr ⟨s_220_0 hc, (List.forall_mem_cons.mpr ⟨s_221_0 hc, (List.forall_mem_cons.mpr ⟨s_222_0 hc, (List.forall_mem_cons.mpr ⟨s_223_0 hc, (List.forall_mem_cons.mpr ⟨s_224_0 hc, (List.forall_mem_cons.mpr ⟨s_225_0 hc, (List.forall_mem_cons.mpr ⟨s_226_0 hc, (List.forall_mem_cons.mpr ⟨s_227_0 hc, (List.forall_mem_cons.mpr ⟨s_228_0 hc, (List.forall_mem_cons.mpr ⟨s_229_0 hc, (List.forall_mem_cons.mpr ⟨s_230_0 hc, (List.forall_mem_cons.mpr ⟨s_231_0 hc, (List.forall_mem_cons.mpr ⟨s_232_0 hc, (List.forall_mem_cons.mpr ⟨s_233_0 hc, (List.forall_mem_cons.mpr ⟨s_234_0 hc, (List.forall_mem_cons.mpr ⟨s_235_0 hc, (List.forall_mem_cons.mpr ⟨s_236_0 hc, (List.forall_mem_cons.mpr ⟨s_237_0 hc, (List.forall_mem_cons.mpr ⟨s_238_0 hc, (List.forall_mem_cons.mpr ⟨s_239_0 hc, (List.forall_mem_cons.mpr ⟨s_240_0 hc, (fun _ h => absurd h List.not_mem_nil)⟩)⟩)⟩)⟩)⟩)⟩)⟩)⟩)⟩)⟩)⟩)⟩)⟩)⟩)⟩)⟩)⟩)⟩)⟩)⟩)⟩)⟩)⟩)⟩)⟩)⟩)⟩)⟩)⟩)⟩)⟩)⟩)⟩)⟩)⟩)⟩)⟩)⟩)⟩)⟩)
theorem qbo_6 {G : qG} {d : Nat} {c : qV} (hc : qvok G d c) : ∀ y ∈ qys_6, Snd G (d + 1) y 0 (qbo y c) := (List.forall_mem_cons.mpr ⟨s_241_0 hc, (List.forall_mem_cons.mpr ⟨s_242_0 hc, (List.forall_mem_cons.mpr ⟨s_243_0 hc, (List.forall_mem_cons.mpr ⟨s_244_0 hc, (List.forall_mem_cons.mpr ⟨s_245_0 hc, (List.forall_mem_cons.mpr ⟨s_246_0 hc, (List.forall_mem_cons.mpr ⟨s_247_0 hc, (List.forall_mem_cons.mpr ⟨s_248_0 hc, (List.forall_mem_cons.mpr ⟨s_249_0 hc, (List.forall_mem_cons.mpr ⟨s_250_0 hc, (List.forall_mem_cons.mpr ⟨s_251_0 hc, (List.forall_mem_cons.mpr ⟨s_252_0 hc, (List.forall_mem_cons.mpr ⟨s_253_0 hc, (List.forall_mem_cons.mpr ⟨s_254_0 hc, (List.forall_mem_cons.mpr ⟨s_255_0 hc, (List.forall_mem_cons.mpr ⟨s_256_0 hc, (List.forall_mem_cons.mpr ⟨s_257_0 hc, (List.forall_mem_cons.mpr ⟨s_258_0 hc, (List.forall_mem_cons.mpr ⟨s_259_0 hc, (List.forall_mem_cons.mpr ⟨s_260_0 hc, (List.forall_mem_cons.mpr ⟨s_261_0 hc, (List.forall_mem_cons.mpr ⟨s_262_0 hc, (List.forall_mem_cons.mpr ⟨s_263_0 hc, (List.forall_mem_cons.mpr ⟨s_264_0 hc, (List.forall_mem_cons.mpr ⟨s_265_0 hc, (List.forall_mem_cons.mpr ⟨s_266_0 hc, (List.forall_mem_cons.mpr ⟨s_267_0 hc, (List.forall_mem_cons.mpr ⟨s_268_0 hc, (List.forall_mem_cons.mpr ⟨s_269_0 hc, (List.forall_mem_cons.mpr ⟨s_270_0 hc, (List.forall_mem_cons.mpr ⟨s_271_0 hc, (List.forall_mem_cons.mpr ⟨s_272_0 hc, (List.forall_mem_cons.mpr ⟨s_273_0 hc, (List.forall_mem_cons.mpr ⟨s_274_0 hc, (List.forall_mem_cons.mpr ⟨s_275_0 hc, (List.forall_mem_cons.mpr ⟨s_276_0 hc, (List.forall_mem_cons.mpr ⟨s_277_0 hc, (List.forall_mem_cons.mpr ⟨s_278_0 hc, (List.forall_mem_cons.mpr ⟨s_279_0 hc, (List.forall_mem_cons.mpr ⟨s_280_0 hc, (fun _ h => absurd h List.not_mem_nil)⟩)⟩)⟩)⟩)⟩)⟩)⟩)⟩)⟩)⟩)⟩)⟩)⟩)⟩)⟩)⟩)⟩)⟩)⟩)⟩)⟩)⟩)⟩)⟩)⟩)⟩)⟩)⟩)⟩)⟩)⟩)⟩)⟩)⟩)⟩)⟩)⟩)⟩)⟩)⟩)
theorem qbo_7 {G : qG} {d : Nat} {c : qV} (hc : qvok G d c) : ∀ y ∈ qys_7, Snd G (d + 1) y 0 (qbo y c) := (List.forall_mem_cons.mpr ⟨s_281_0 hc, (List.forall_mem_cons.mpr ⟨s_282_0 hc, (List.forall_mem_cons.mpr ⟨s_283_0 hc, (List.forall_mem_cons.mpr ⟨s_284_0 hc, (List.forall_mem_cons.mpr ⟨s_285_0 hc, (List.forall_mem_cons.mpr ⟨s_286_0 hc, (List.forall_mem_cons.mpr ⟨s_287_0 hc, (List.forall_mem_cons.mpr ⟨s_288_0 hc, (List.forall_mem_cons.mpr ⟨s_289_0 hc, (List.forall_mem_cons.mpr ⟨s_290_0 hc, (List.forall_mem_cons.mpr ⟨s_291_0 hc, (List.forall_mem_cons.mpr ⟨s_292_0 hc, (List.forall_mem_cons.mpr ⟨s_293_0 hc, (List.forall_mem_cons.mpr ⟨s_294_0 hc, (List.forall_mem_cons.mpr ⟨s_295_0 hc, (List.forall_mem_cons.mpr ⟨s_296_0 hc, (List.forall_mem_cons.mpr ⟨s_297_0 hc, (List.forall_mem_cons.mpr ⟨s_298_0 hc, (List.forall_mem_cons.mpr ⟨s_299_0 hc, (List.forall_mem_cons.mpr ⟨s_300_0 hc, (List.forall_mem_cons.mpr ⟨s_301_0 hc, (List.forall_mem_cons.mpr ⟨s_302_0 hc, (List.forall_mem_cons.mpr ⟨s_303_0 hc, (List.forall_mem_cons.mpr ⟨s_304_0 hc, (List.forall_mem_cons.mpr ⟨s_305_0 hc, (List.forall_mem_cons.mpr ⟨s_306_0 hc, (List.forall_mem_cons.mpr ⟨s_307_0 hc, (List.forall_mem_cons.mpr ⟨s_308_0 hc, (List.forall_mem_cons.mpr ⟨s_309_0 hc, (List.forall_mem_cons.mpr ⟨s_310_0 hc, (List.forall_mem_cons.mpr ⟨s_311_0 hc, (List.forall_mem_cons.mpr ⟨s_312_0 hc, (List.forall_mem_cons.mpr ⟨s_313_0 hc, (List.forall_mem_cons.mpr ⟨s_314_0 hc, (List.forall_mem_cons.mpr ⟨s_329_0 hc, (fun _ h => absurd h List.not_mem_nil)⟩)⟩)⟩)⟩)⟩)⟩)⟩)⟩)⟩)⟩)⟩)⟩)⟩)⟩)⟩)⟩)⟩)⟩)⟩)⟩)⟩)⟩)⟩)⟩)⟩)⟩)⟩)⟩)⟩)⟩)⟩)⟩)⟩)⟩)⟩)
theorem qbo_snd {G : qG} {d : Nat} {c : qV} (hc : qvok G d c) (y : Nat) (h : y ∈ qys) : Snd G (d + 1) y 0 (qbo y c) := (List.mem_append.mp h).elim (qbo_0 hc _) (fun h => (List.mem_append.mp h).elim (qbo_1 hc _) (fun h => (List.mem_append.mp h).elim (qbo_2 hc _) (fun h => (List.mem_append.mp h).elim (qbo_3 hc _) (fun h => (List.mem_append.mp h).elim (qbo_4 hc _) (fun h => (List.mem_append.mp h).elim (qbo_5 hc _) (fun h => (List.mem_append.mp h).elim (qbo_6 hc _) (fun h => qbo_7 hc _ h)))))))
theorem cal_snd {G : qG} : ∀ d, qvok G d (cal d)
  | 0 => fun y As M r h => by cases h
  | d + 1 => fun y As M r h hy => by
    unfold cal at h
    obtain ⟨h1, h2⟩ := gd_e h
    exact ⟨h1, qbo_snd (cal_snd d) y hy _ _ _ _ h2⟩
set_option maxRecDepth 20000 in
theorem cal_0 (d : Nat) (As : List Value) (M : qMe) : cal (d + 1) 0 As M = gd (qcats As ≤ 4) (n_0_0 (cal d) (qL0 As 4) [] M) := rfl
set_option maxRecDepth 20000 in
theorem cal_1 (d : Nat) (As : List Value) (M : qMe) : cal (d + 1) 1 As M = gd (qcats As ≤ 1) (n_1_0 (cal d) (qL0 As 1) [] M) := rfl
set_option maxRecDepth 20000 in
theorem cal_2 (d : Nat) (As : List Value) (M : qMe) : cal (d + 1) 2 As M = gd (qcats As ≤ 4) (n_2_0 (cal d) (qL0 As 4) [] M) := rfl
set_option maxRecDepth 20000 in
theorem cal_3 (d : Nat) (As : List Value) (M : qMe) : cal (d + 1) 3 As M = gd (qcats As ≤ 4) (n_3_0 (cal d) (qL0 As 4) [] M) := rfl
set_option maxRecDepth 20000 in
theorem cal_4 (d : Nat) (As : List Value) (M : qMe) : cal (d + 1) 4 As M = gd (qcats As ≤ 3) (n_4_0 (cal d) (qL0 As 3) [] M) := rfl
set_option maxRecDepth 20000 in
theorem cal_5 (d : Nat) (As : List Value) (M : qMe) : cal (d + 1) 5 As M = gd (qcats As ≤ 3) (n_5_0 (cal d) (qL0 As 3) [] M) := rfl
set_option maxRecDepth 20000 in
theorem cal_6 (d : Nat) (As : List Value) (M : qMe) : cal (d + 1) 6 As M = gd (qcats As ≤ 3) (n_6_0 (cal d) (qL0 As 3) [] M) := rfl
set_option maxRecDepth 20000 in
theorem cal_7 (d : Nat) (As : List Value) (M : qMe) : cal (d + 1) 7 As M = gd (qcats As ≤ 3) (n_7_0 (cal d) (qL0 As 3) [] M) := rfl
set_option maxRecDepth 20000 in
theorem cal_8 (d : Nat) (As : List Value) (M : qMe) : cal (d + 1) 8 As M = gd (qcats As ≤ 2) (n_8_0 (cal d) (qL0 As 2) [] M) := rfl
set_option maxRecDepth 20000 in
theorem cal_9 (d : Nat) (As : List Value) (M : qMe) : cal (d + 1) 9 As M = gd (qcats As ≤ 4) (n_9_0 (cal d) (qL0 As 4) [] M) := rfl
set_option maxRecDepth 20000 in
theorem cal_10 (d : Nat) (As : List Value) (M : qMe) : cal (d + 1) 10 As M = gd (qcats As ≤ 3) (n_10_0 (cal d) (qL0 As 3) [] M) := rfl
set_option maxRecDepth 20000 in
theorem cal_11 (d : Nat) (As : List Value) (M : qMe) : cal (d + 1) 11 As M = gd (qcats As ≤ 4) (n_11_0 (cal d) (qL0 As 4) [] M) := rfl
set_option maxRecDepth 20000 in
theorem cal_12 (d : Nat) (As : List Value) (M : qMe) : cal (d + 1) 12 As M = gd (qcats As ≤ 6) (n_12_0 (cal d) (qL0 As 6) [] M) := rfl
set_option maxRecDepth 20000 in
theorem cal_13 (d : Nat) (As : List Value) (M : qMe) : cal (d + 1) 13 As M = gd (qcats As ≤ 2) (n_13_0 (cal d) (qL0 As 2) [] M) := rfl
set_option maxRecDepth 20000 in
theorem cal_14 (d : Nat) (As : List Value) (M : qMe) : cal (d + 1) 14 As M = gd (qcats As ≤ 5) (n_14_0 (cal d) (qL0 As 5) [] M) := rfl
set_option maxRecDepth 20000 in
theorem cal_15 (d : Nat) (As : List Value) (M : qMe) : cal (d + 1) 15 As M = gd (qcats As ≤ 1) (n_15_0 (cal d) (qL0 As 1) [] M) := rfl
set_option maxRecDepth 20000 in
theorem cal_16 (d : Nat) (As : List Value) (M : qMe) : cal (d + 1) 16 As M = gd (qcats As ≤ 2) (n_16_0 (cal d) (qL0 As 2) [] M) := rfl
set_option maxRecDepth 20000 in
theorem cal_17 (d : Nat) (As : List Value) (M : qMe) : cal (d + 1) 17 As M = gd (qcats As ≤ 5) (n_17_0 (cal d) (qL0 As 5) [] M) := rfl
set_option maxRecDepth 20000 in
theorem cal_18 (d : Nat) (As : List Value) (M : qMe) : cal (d + 1) 18 As M = gd (qcats As ≤ 1) (n_18_0 (cal d) (qL0 As 1) [] M) := rfl
set_option maxRecDepth 20000 in
theorem cal_19 (d : Nat) (As : List Value) (M : qMe) : cal (d + 1) 19 As M = gd (qcats As ≤ 1) (n_19_0 (cal d) (qL0 As 1) [] M) := rfl
set_option maxRecDepth 20000 in
theorem cal_20 (d : Nat) (As : List Value) (M : qMe) : cal (d + 1) 20 As M = gd (qcats As ≤ 3) (n_20_0 (cal d) (qL0 As 3) [] M) := rfl
set_option maxRecDepth 20000 in
theorem cal_21 (d : Nat) (As : List Value) (M : qMe) : cal (d + 1) 21 As M = gd (qcats As ≤ 5) (n_21_0 (cal d) (qL0 As 5) [] M) := rfl
set_option maxRecDepth 20000 in
theorem cal_22 (d : Nat) (As : List Value) (M : qMe) : cal (d + 1) 22 As M = gd (qcats As ≤ 6) (n_22_0 (cal d) (qL0 As 6) [] M) := rfl
set_option maxRecDepth 20000 in
theorem cal_23 (d : Nat) (As : List Value) (M : qMe) : cal (d + 1) 23 As M = gd (qcats As ≤ 6) (n_23_0 (cal d) (qL0 As 6) [] M) := rfl
set_option maxRecDepth 20000 in
theorem cal_24 (d : Nat) (As : List Value) (M : qMe) : cal (d + 1) 24 As M = gd (qcats As ≤ 6) (n_24_0 (cal d) (qL0 As 6) [] M) := rfl
set_option maxRecDepth 20000 in
theorem cal_25 (d : Nat) (As : List Value) (M : qMe) : cal (d + 1) 25 As M = gd (qcats As ≤ 4) (n_25_0 (cal d) (qL0 As 4) [] M) := rfl
set_option maxRecDepth 20000 in
theorem cal_26 (d : Nat) (As : List Value) (M : qMe) : cal (d + 1) 26 As M = gd (qcats As ≤ 4) (n_26_0 (cal d) (qL0 As 4) [] M) := rfl
set_option maxRecDepth 20000 in
theorem cal_27 (d : Nat) (As : List Value) (M : qMe) : cal (d + 1) 27 As M = gd (qcats As ≤ 2) (n_27_0 (cal d) (qL0 As 2) [] M) := rfl
set_option maxRecDepth 20000 in
theorem cal_28 (d : Nat) (As : List Value) (M : qMe) : cal (d + 1) 28 As M = gd (qcats As ≤ 1) (n_28_0 (cal d) (qL0 As 1) [] M) := rfl
set_option maxRecDepth 20000 in
theorem cal_29 (d : Nat) (As : List Value) (M : qMe) : cal (d + 1) 29 As M = gd (qcats As ≤ 3) (n_29_0 (cal d) (qL0 As 3) [] M) := rfl
set_option maxRecDepth 20000 in
theorem cal_30 (d : Nat) (As : List Value) (M : qMe) : cal (d + 1) 30 As M = gd (qcats As ≤ 3) (n_30_0 (cal d) (qL0 As 3) [] M) := rfl
set_option maxRecDepth 20000 in
theorem cal_31 (d : Nat) (As : List Value) (M : qMe) : cal (d + 1) 31 As M = gd (qcats As ≤ 4) (n_31_0 (cal d) (qL0 As 4) [] M) := rfl
set_option maxRecDepth 20000 in
theorem cal_32 (d : Nat) (As : List Value) (M : qMe) : cal (d + 1) 32 As M = gd (qcats As ≤ 2) (n_32_0 (cal d) (qL0 As 2) [] M) := rfl
set_option maxRecDepth 20000 in
theorem cal_33 (d : Nat) (As : List Value) (M : qMe) : cal (d + 1) 33 As M = gd (qcats As ≤ 3) (n_33_0 (cal d) (qL0 As 3) [] M) := rfl
set_option maxRecDepth 20000 in
theorem cal_34 (d : Nat) (As : List Value) (M : qMe) : cal (d + 1) 34 As M = gd (qcats As ≤ 2) (n_34_0 (cal d) (qL0 As 2) [] M) := rfl
set_option maxRecDepth 20000 in
theorem cal_35 (d : Nat) (As : List Value) (M : qMe) : cal (d + 1) 35 As M = gd (qcats As ≤ 4) (n_35_0 (cal d) (qL0 As 4) [] M) := rfl
set_option maxRecDepth 20000 in
theorem cal_36 (d : Nat) (As : List Value) (M : qMe) : cal (d + 1) 36 As M = gd (qcats As ≤ 6) (n_36_0 (cal d) (qL0 As 6) [] M) := rfl
set_option maxRecDepth 20000 in
theorem cal_37 (d : Nat) (As : List Value) (M : qMe) : cal (d + 1) 37 As M = gd (qcats As ≤ 5) (n_37_0 (cal d) (qL0 As 5) [] M) := rfl
set_option maxRecDepth 20000 in
theorem cal_38 (d : Nat) (As : List Value) (M : qMe) : cal (d + 1) 38 As M = gd (qcats As ≤ 7) (n_38_0 (cal d) (qL0 As 7) [] M) := rfl
set_option maxRecDepth 20000 in
theorem cal_39 (d : Nat) (As : List Value) (M : qMe) : cal (d + 1) 39 As M = gd (qcats As ≤ 8) (n_39_0 (cal d) (qL0 As 8) [] M) := rfl
set_option maxRecDepth 20000 in
theorem cal_40 (d : Nat) (As : List Value) (M : qMe) : cal (d + 1) 40 As M = gd (qcats As ≤ 4) (n_40_0 (cal d) (qL0 As 4) [] M) := rfl
set_option maxRecDepth 20000 in
theorem cal_41 (d : Nat) (As : List Value) (M : qMe) : cal (d + 1) 41 As M = gd (qcats As ≤ 3) (n_41_0 (cal d) (qL0 As 3) [] M) := rfl
set_option maxRecDepth 20000 in
theorem cal_42 (d : Nat) (As : List Value) (M : qMe) : cal (d + 1) 42 As M = gd (qcats As ≤ 5) (n_42_0 (cal d) (qL0 As 5) [] M) := rfl
set_option maxRecDepth 20000 in
theorem cal_43 (d : Nat) (As : List Value) (M : qMe) : cal (d + 1) 43 As M = gd (qcats As ≤ 2) (n_43_0 (cal d) (qL0 As 2) [] M) := rfl
set_option maxRecDepth 20000 in
theorem cal_44 (d : Nat) (As : List Value) (M : qMe) : cal (d + 1) 44 As M = gd (qcats As ≤ 2) (n_44_0 (cal d) (qL0 As 2) [] M) := rfl
set_option maxRecDepth 20000 in
theorem cal_45 (d : Nat) (As : List Value) (M : qMe) : cal (d + 1) 45 As M = gd (qcats As ≤ 2) (n_45_0 (cal d) (qL0 As 2) [] M) := rfl
set_option maxRecDepth 20000 in
theorem cal_46 (d : Nat) (As : List Value) (M : qMe) : cal (d + 1) 46 As M = gd (qcats As ≤ 2) (n_46_0 (cal d) (qL0 As 2) [] M) := rfl
set_option maxRecDepth 20000 in
theorem cal_47 (d : Nat) (As : List Value) (M : qMe) : cal (d + 1) 47 As M = gd (qcats As ≤ 1) (n_47_0 (cal d) (qL0 As 1) [] M) := rfl
set_option maxRecDepth 20000 in
theorem cal_48 (d : Nat) (As : List Value) (M : qMe) : cal (d + 1) 48 As M = gd (qcats As ≤ 2) (n_48_0 (cal d) (qL0 As 2) [] M) := rfl
set_option maxRecDepth 20000 in
theorem cal_49 (d : Nat) (As : List Value) (M : qMe) : cal (d + 1) 49 As M = gd (qcats As ≤ 2) (n_49_0 (cal d) (qL0 As 2) [] M) := rfl
set_option maxRecDepth 20000 in
theorem cal_50 (d : Nat) (As : List Value) (M : qMe) : cal (d + 1) 50 As M = gd (qcats As ≤ 3) (n_50_0 (cal d) (qL0 As 3) [] M) := rfl
set_option maxRecDepth 20000 in
theorem cal_51 (d : Nat) (As : List Value) (M : qMe) : cal (d + 1) 51 As M = gd (qcats As ≤ 5) (n_51_0 (cal d) (qL0 As 5) [] M) := rfl
set_option maxRecDepth 20000 in
theorem cal_52 (d : Nat) (As : List Value) (M : qMe) : cal (d + 1) 52 As M = gd (qcats As ≤ 7) (n_52_0 (cal d) (qL0 As 7) [] M) := rfl
set_option maxRecDepth 20000 in
theorem cal_53 (d : Nat) (As : List Value) (M : qMe) : cal (d + 1) 53 As M = gd (qcats As ≤ 2) (n_53_0 (cal d) (qL0 As 2) [] M) := rfl
set_option maxRecDepth 20000 in
theorem cal_54 (d : Nat) (As : List Value) (M : qMe) : cal (d + 1) 54 As M = gd (qcats As ≤ 2) (n_54_0 (cal d) (qL0 As 2) [] M) := rfl
set_option maxRecDepth 20000 in
theorem cal_55 (d : Nat) (As : List Value) (M : qMe) : cal (d + 1) 55 As M = gd (qcats As ≤ 2) (n_55_0 (cal d) (qL0 As 2) [] M) := rfl
set_option maxRecDepth 20000 in
theorem cal_56 (d : Nat) (As : List Value) (M : qMe) : cal (d + 1) 56 As M = gd (qcats As ≤ 2) (n_56_0 (cal d) (qL0 As 2) [] M) := rfl
set_option maxRecDepth 20000 in
theorem cal_57 (d : Nat) (As : List Value) (M : qMe) : cal (d + 1) 57 As M = gd (qcats As ≤ 3) (n_57_0 (cal d) (qL0 As 3) [] M) := rfl
set_option maxRecDepth 20000 in
theorem cal_58 (d : Nat) (As : List Value) (M : qMe) : cal (d + 1) 58 As M = gd (qcats As ≤ 1) (n_58_0 (cal d) (qL0 As 1) [] M) := rfl
set_option maxRecDepth 20000 in
theorem cal_59 (d : Nat) (As : List Value) (M : qMe) : cal (d + 1) 59 As M = gd (qcats As ≤ 1) (n_59_0 (cal d) (qL0 As 1) [] M) := rfl
set_option maxRecDepth 20000 in
theorem cal_60 (d : Nat) (As : List Value) (M : qMe) : cal (d + 1) 60 As M = gd (qcats As ≤ 1) (n_60_0 (cal d) (qL0 As 1) [] M) := rfl
set_option maxRecDepth 20000 in
theorem cal_61 (d : Nat) (As : List Value) (M : qMe) : cal (d + 1) 61 As M = gd (qcats As ≤ 1) (n_61_0 (cal d) (qL0 As 1) [] M) := rfl
set_option maxRecDepth 20000 in
theorem cal_62 (d : Nat) (As : List Value) (M : qMe) : cal (d + 1) 62 As M = gd (qcats As ≤ 1) (n_62_0 (cal d) (qL0 As 1) [] M) := rfl
set_option maxRecDepth 20000 in
theorem cal_63 (d : Nat) (As : List Value) (M : qMe) : cal (d + 1) 63 As M = gd (qcats As ≤ 1) (n_63_0 (cal d) (qL0 As 1) [] M) := rfl
set_option maxRecDepth 20000 in
theorem cal_64 (d : Nat) (As : List Value) (M : qMe) : cal (d + 1) 64 As M = gd (qcats As ≤ 1) (n_64_0 (cal d) (qL0 As 1) [] M) := rfl
set_option maxRecDepth 20000 in
theorem cal_65 (d : Nat) (As : List Value) (M : qMe) : cal (d + 1) 65 As M = gd (qcats As ≤ 1) (n_65_0 (cal d) (qL0 As 1) [] M) := rfl
set_option maxRecDepth 20000 in
theorem cal_66 (d : Nat) (As : List Value) (M : qMe) : cal (d + 1) 66 As M = gd (qcats As ≤ 4) (n_66_0 (cal d) (qL0 As 4) [] M) := rfl
set_option maxRecDepth 20000 in
theorem cal_67 (d : Nat) (As : List Value) (M : qMe) : cal (d + 1) 67 As M = gd (qcats As ≤ 6) (n_67_0 (cal d) (qL0 As 6) [] M) := rfl
set_option maxRecDepth 20000 in
theorem cal_68 (d : Nat) (As : List Value) (M : qMe) : cal (d + 1) 68 As M = gd (qcats As ≤ 8) (n_68_0 (cal d) (qL0 As 8) [] M) := rfl
set_option maxRecDepth 20000 in
theorem cal_69 (d : Nat) (As : List Value) (M : qMe) : cal (d + 1) 69 As M = gd (qcats As ≤ 6) (n_69_0 (cal d) (qL0 As 6) [] M) := rfl
set_option maxRecDepth 20000 in
theorem cal_70 (d : Nat) (As : List Value) (M : qMe) : cal (d + 1) 70 As M = gd (qcats As ≤ 2) (n_70_0 (cal d) (qL0 As 2) [] M) := rfl
set_option maxRecDepth 20000 in
theorem cal_71 (d : Nat) (As : List Value) (M : qMe) : cal (d + 1) 71 As M = gd (qcats As ≤ 3) (n_71_0 (cal d) (qL0 As 3) [] M) := rfl
set_option maxRecDepth 20000 in
theorem cal_72 (d : Nat) (As : List Value) (M : qMe) : cal (d + 1) 72 As M = gd (qcats As ≤ 2) (n_72_0 (cal d) (qL0 As 2) [] M) := rfl
set_option maxRecDepth 20000 in
theorem cal_73 (d : Nat) (As : List Value) (M : qMe) : cal (d + 1) 73 As M = gd (qcats As ≤ 2) (n_73_0 (cal d) (qL0 As 2) [] M) := rfl
set_option maxRecDepth 20000 in
theorem cal_74 (d : Nat) (As : List Value) (M : qMe) : cal (d + 1) 74 As M = gd (qcats As ≤ 2) (n_74_0 (cal d) (qL0 As 2) [] M) := rfl
set_option maxRecDepth 20000 in
theorem cal_75 (d : Nat) (As : List Value) (M : qMe) : cal (d + 1) 75 As M = gd (qcats As ≤ 1) (n_75_0 (cal d) (qL0 As 1) [] M) := rfl
set_option maxRecDepth 20000 in
theorem cal_76 (d : Nat) (As : List Value) (M : qMe) : cal (d + 1) 76 As M = gd (qcats As ≤ 2) (n_76_0 (cal d) (qL0 As 2) [] M) := rfl
set_option maxRecDepth 20000 in
theorem cal_77 (d : Nat) (As : List Value) (M : qMe) : cal (d + 1) 77 As M = gd (qcats As ≤ 3) (n_77_0 (cal d) (qL0 As 3) [] M) := rfl
set_option maxRecDepth 20000 in
theorem cal_78 (d : Nat) (As : List Value) (M : qMe) : cal (d + 1) 78 As M = gd (qcats As ≤ 3) (n_78_0 (cal d) (qL0 As 3) [] M) := rfl
set_option maxRecDepth 20000 in
theorem cal_79 (d : Nat) (As : List Value) (M : qMe) : cal (d + 1) 79 As M = gd (qcats As ≤ 1) (n_79_0 (cal d) (qL0 As 1) [] M) := rfl
set_option maxRecDepth 20000 in
theorem cal_80 (d : Nat) (As : List Value) (M : qMe) : cal (d + 1) 80 As M = gd (qcats As ≤ 1) (n_80_0 (cal d) (qL0 As 1) [] M) := rfl
set_option maxRecDepth 20000 in
theorem cal_81 (d : Nat) (As : List Value) (M : qMe) : cal (d + 1) 81 As M = gd (qcats As ≤ 2) (n_81_0 (cal d) (qL0 As 2) [] M) := rfl
set_option maxRecDepth 20000 in
theorem cal_82 (d : Nat) (As : List Value) (M : qMe) : cal (d + 1) 82 As M = gd (qcats As ≤ 2) (n_82_0 (cal d) (qL0 As 2) [] M) := rfl
set_option maxRecDepth 20000 in
theorem cal_83 (d : Nat) (As : List Value) (M : qMe) : cal (d + 1) 83 As M = gd (qcats As ≤ 2) (n_83_0 (cal d) (qL0 As 2) [] M) := rfl
set_option maxRecDepth 20000 in
theorem cal_84 (d : Nat) (As : List Value) (M : qMe) : cal (d + 1) 84 As M = gd (qcats As ≤ 3) (n_84_0 (cal d) (qL0 As 3) [] M) := rfl
set_option maxRecDepth 20000 in
theorem cal_85 (d : Nat) (As : List Value) (M : qMe) : cal (d + 1) 85 As M = gd (qcats As ≤ 2) (n_85_0 (cal d) (qL0 As 2) [] M) := rfl
set_option maxRecDepth 20000 in
theorem cal_86 (d : Nat) (As : List Value) (M : qMe) : cal (d + 1) 86 As M = gd (qcats As ≤ 4) (n_86_0 (cal d) (qL0 As 4) [] M) := rfl
set_option maxRecDepth 20000 in
theorem cal_87 (d : Nat) (As : List Value) (M : qMe) : cal (d + 1) 87 As M = gd (qcats As ≤ 3) (n_87_0 (cal d) (qL0 As 3) [] M) := rfl
set_option maxRecDepth 20000 in
theorem cal_88 (d : Nat) (As : List Value) (M : qMe) : cal (d + 1) 88 As M = gd (qcats As ≤ 3) (n_88_0 (cal d) (qL0 As 3) [] M) := rfl
set_option maxRecDepth 20000 in
theorem cal_89 (d : Nat) (As : List Value) (M : qMe) : cal (d + 1) 89 As M = gd (qcats As ≤ 5) (n_89_0 (cal d) (qL0 As 5) [] M) := rfl
set_option maxRecDepth 20000 in
theorem cal_90 (d : Nat) (As : List Value) (M : qMe) : cal (d + 1) 90 As M = gd (qcats As ≤ 3) (n_90_0 (cal d) (qL0 As 3) [] M) := rfl
set_option maxRecDepth 20000 in
theorem cal_91 (d : Nat) (As : List Value) (M : qMe) : cal (d + 1) 91 As M = gd (qcats As ≤ 4) (n_91_0 (cal d) (qL0 As 4) [] M) := rfl
set_option maxRecDepth 20000 in
theorem cal_92 (d : Nat) (As : List Value) (M : qMe) : cal (d + 1) 92 As M = gd (qcats As ≤ 4) (n_92_0 (cal d) (qL0 As 4) [] M) := rfl
set_option maxRecDepth 20000 in
theorem cal_93 (d : Nat) (As : List Value) (M : qMe) : cal (d + 1) 93 As M = gd (qcats As ≤ 3) (n_93_0 (cal d) (qL0 As 3) [] M) := rfl
set_option maxRecDepth 20000 in
theorem cal_94 (d : Nat) (As : List Value) (M : qMe) : cal (d + 1) 94 As M = gd (qcats As ≤ 1) (n_94_0 (cal d) (qL0 As 1) [] M) := rfl
set_option maxRecDepth 20000 in
theorem cal_95 (d : Nat) (As : List Value) (M : qMe) : cal (d + 1) 95 As M = gd (qcats As ≤ 3) (n_95_0 (cal d) (qL0 As 3) [] M) := rfl
set_option maxRecDepth 20000 in
theorem cal_96 (d : Nat) (As : List Value) (M : qMe) : cal (d + 1) 96 As M = gd (qcats As ≤ 2) (n_96_0 (cal d) (qL0 As 2) [] M) := rfl
set_option maxRecDepth 20000 in
theorem cal_97 (d : Nat) (As : List Value) (M : qMe) : cal (d + 1) 97 As M = gd (qcats As ≤ 3) (n_97_0 (cal d) (qL0 As 3) [] M) := rfl
set_option maxRecDepth 20000 in
theorem cal_98 (d : Nat) (As : List Value) (M : qMe) : cal (d + 1) 98 As M = gd (qcats As ≤ 3) (n_98_0 (cal d) (qL0 As 3) [] M) := rfl
set_option maxRecDepth 20000 in
theorem cal_99 (d : Nat) (As : List Value) (M : qMe) : cal (d + 1) 99 As M = gd (qcats As ≤ 2) (n_99_0 (cal d) (qL0 As 2) [] M) := rfl
set_option maxRecDepth 20000 in
theorem cal_100 (d : Nat) (As : List Value) (M : qMe) : cal (d + 1) 100 As M = gd (qcats As ≤ 3) (n_100_0 (cal d) (qL0 As 3) [] M) := rfl
set_option maxRecDepth 20000 in
theorem cal_101 (d : Nat) (As : List Value) (M : qMe) : cal (d + 1) 101 As M = gd (qcats As ≤ 4) (n_101_0 (cal d) (qL0 As 4) [] M) := rfl
set_option maxRecDepth 20000 in
theorem cal_102 (d : Nat) (As : List Value) (M : qMe) : cal (d + 1) 102 As M = gd (qcats As ≤ 1) (n_102_0 (cal d) (qL0 As 1) [] M) := rfl
set_option maxRecDepth 20000 in
theorem cal_103 (d : Nat) (As : List Value) (M : qMe) : cal (d + 1) 103 As M = gd (qcats As ≤ 7) (n_103_0 (cal d) (qL0 As 7) [] M) := rfl
set_option maxRecDepth 20000 in
theorem cal_104 (d : Nat) (As : List Value) (M : qMe) : cal (d + 1) 104 As M = gd (qcats As ≤ 2) (n_104_0 (cal d) (qL0 As 2) [] M) := rfl
set_option maxRecDepth 20000 in
theorem cal_105 (d : Nat) (As : List Value) (M : qMe) : cal (d + 1) 105 As M = gd (qcats As ≤ 1) (n_105_0 (cal d) (qL0 As 1) [] M) := rfl
set_option maxRecDepth 20000 in
theorem cal_106 (d : Nat) (As : List Value) (M : qMe) : cal (d + 1) 106 As M = gd (qcats As ≤ 1) (n_106_0 (cal d) (qL0 As 1) [] M) := rfl
set_option maxRecDepth 20000 in
theorem cal_107 (d : Nat) (As : List Value) (M : qMe) : cal (d + 1) 107 As M = gd (qcats As ≤ 8) (n_107_0 (cal d) (qL0 As 8) [] M) := rfl
set_option maxRecDepth 20000 in
theorem cal_108 (d : Nat) (As : List Value) (M : qMe) : cal (d + 1) 108 As M = gd (qcats As ≤ 6) (n_108_0 (cal d) (qL0 As 6) [] M) := rfl
set_option maxRecDepth 20000 in
theorem cal_109 (d : Nat) (As : List Value) (M : qMe) : cal (d + 1) 109 As M = gd (qcats As ≤ 1) (n_109_0 (cal d) (qL0 As 1) [] M) := rfl
set_option maxRecDepth 20000 in
theorem cal_110 (d : Nat) (As : List Value) (M : qMe) : cal (d + 1) 110 As M = gd (qcats As ≤ 1) (n_110_0 (cal d) (qL0 As 1) [] M) := rfl
set_option maxRecDepth 20000 in
theorem cal_111 (d : Nat) (As : List Value) (M : qMe) : cal (d + 1) 111 As M = gd (qcats As ≤ 3) (n_111_0 (cal d) (qL0 As 3) [] M) := rfl
set_option maxRecDepth 20000 in
theorem cal_112 (d : Nat) (As : List Value) (M : qMe) : cal (d + 1) 112 As M = gd (qcats As ≤ 2) (n_112_0 (cal d) (qL0 As 2) [] M) := rfl
set_option maxRecDepth 20000 in
theorem cal_113 (d : Nat) (As : List Value) (M : qMe) : cal (d + 1) 113 As M = gd (qcats As ≤ 1) (n_113_0 (cal d) (qL0 As 1) [] M) := rfl
set_option maxRecDepth 20000 in
theorem cal_114 (d : Nat) (As : List Value) (M : qMe) : cal (d + 1) 114 As M = gd (qcats As ≤ 1) (n_114_0 (cal d) (qL0 As 1) [] M) := rfl
set_option maxRecDepth 20000 in
theorem cal_115 (d : Nat) (As : List Value) (M : qMe) : cal (d + 1) 115 As M = gd (qcats As ≤ 1) (n_115_0 (cal d) (qL0 As 1) [] M) := rfl
set_option maxRecDepth 20000 in
theorem cal_116 (d : Nat) (As : List Value) (M : qMe) : cal (d + 1) 116 As M = gd (qcats As ≤ 1) (n_116_0 (cal d) (qL0 As 1) [] M) := rfl
set_option maxRecDepth 20000 in
theorem cal_117 (d : Nat) (As : List Value) (M : qMe) : cal (d + 1) 117 As M = gd (qcats As ≤ 1) (n_117_0 (cal d) (qL0 As 1) [] M) := rfl
set_option maxRecDepth 20000 in
theorem cal_118 (d : Nat) (As : List Value) (M : qMe) : cal (d + 1) 118 As M = gd (qcats As ≤ 2) (n_118_0 (cal d) (qL0 As 2) [] M) := rfl
set_option maxRecDepth 20000 in
theorem cal_119 (d : Nat) (As : List Value) (M : qMe) : cal (d + 1) 119 As M = gd (qcats As ≤ 2) (n_119_0 (cal d) (qL0 As 2) [] M) := rfl
set_option maxRecDepth 20000 in
theorem cal_120 (d : Nat) (As : List Value) (M : qMe) : cal (d + 1) 120 As M = gd (qcats As ≤ 4) (n_120_0 (cal d) (qL0 As 4) [] M) := rfl
set_option maxRecDepth 20000 in
theorem cal_121 (d : Nat) (As : List Value) (M : qMe) : cal (d + 1) 121 As M = gd (qcats As ≤ 2) (n_121_0 (cal d) (qL0 As 2) [] M) := rfl
set_option maxRecDepth 20000 in
theorem cal_122 (d : Nat) (As : List Value) (M : qMe) : cal (d + 1) 122 As M = gd (qcats As ≤ 2) (n_122_0 (cal d) (qL0 As 2) [] M) := rfl
set_option maxRecDepth 20000 in
theorem cal_123 (d : Nat) (As : List Value) (M : qMe) : cal (d + 1) 123 As M = gd (qcats As ≤ 3) (n_123_0 (cal d) (qL0 As 3) [] M) := rfl
set_option maxRecDepth 20000 in
theorem cal_124 (d : Nat) (As : List Value) (M : qMe) : cal (d + 1) 124 As M = gd (qcats As ≤ 2) (n_124_0 (cal d) (qL0 As 2) [] M) := rfl
set_option maxRecDepth 20000 in
theorem cal_125 (d : Nat) (As : List Value) (M : qMe) : cal (d + 1) 125 As M = gd (qcats As ≤ 2) (n_125_0 (cal d) (qL0 As 2) [] M) := rfl
set_option maxRecDepth 20000 in
theorem cal_126 (d : Nat) (As : List Value) (M : qMe) : cal (d + 1) 126 As M = gd (qcats As ≤ 3) (n_126_0 (cal d) (qL0 As 3) [] M) := rfl
set_option maxRecDepth 20000 in
theorem cal_127 (d : Nat) (As : List Value) (M : qMe) : cal (d + 1) 127 As M = gd (qcats As ≤ 1) (n_127_0 (cal d) (qL0 As 1) [] M) := rfl
set_option maxRecDepth 20000 in
theorem cal_128 (d : Nat) (As : List Value) (M : qMe) : cal (d + 1) 128 As M = gd (qcats As ≤ 1) (n_128_0 (cal d) (qL0 As 1) [] M) := rfl
set_option maxRecDepth 20000 in
theorem cal_129 (d : Nat) (As : List Value) (M : qMe) : cal (d + 1) 129 As M = gd (qcats As ≤ 2) (n_129_0 (cal d) (qL0 As 2) [] M) := rfl
set_option maxRecDepth 20000 in
theorem cal_130 (d : Nat) (As : List Value) (M : qMe) : cal (d + 1) 130 As M = gd (qcats As ≤ 2) (n_130_0 (cal d) (qL0 As 2) [] M) := rfl
set_option maxRecDepth 20000 in
theorem cal_131 (d : Nat) (As : List Value) (M : qMe) : cal (d + 1) 131 As M = gd (qcats As ≤ 3) (n_131_0 (cal d) (qL0 As 3) [] M) := rfl
set_option maxRecDepth 20000 in
theorem cal_132 (d : Nat) (As : List Value) (M : qMe) : cal (d + 1) 132 As M = gd (qcats As ≤ 4) (n_132_0 (cal d) (qL0 As 4) [] M) := rfl
set_option maxRecDepth 20000 in
theorem cal_133 (d : Nat) (As : List Value) (M : qMe) : cal (d + 1) 133 As M = gd (qcats As ≤ 7) (n_133_0 (cal d) (qL0 As 7) [] M) := rfl
set_option maxRecDepth 20000 in
theorem cal_134 (d : Nat) (As : List Value) (M : qMe) : cal (d + 1) 134 As M = gd (qcats As ≤ 7) (n_134_0 (cal d) (qL0 As 7) [] M) := rfl
set_option maxRecDepth 20000 in
theorem cal_135 (d : Nat) (As : List Value) (M : qMe) : cal (d + 1) 135 As M = gd (qcats As ≤ 4) (n_135_0 (cal d) (qL0 As 4) [] M) := rfl
set_option maxRecDepth 20000 in
theorem cal_136 (d : Nat) (As : List Value) (M : qMe) : cal (d + 1) 136 As M = gd (qcats As ≤ 4) (n_136_0 (cal d) (qL0 As 4) [] M) := rfl
set_option maxRecDepth 20000 in
theorem cal_137 (d : Nat) (As : List Value) (M : qMe) : cal (d + 1) 137 As M = gd (qcats As ≤ 4) (n_137_0 (cal d) (qL0 As 4) [] M) := rfl
set_option maxRecDepth 20000 in
theorem cal_138 (d : Nat) (As : List Value) (M : qMe) : cal (d + 1) 138 As M = gd (qcats As ≤ 3) (n_138_0 (cal d) (qL0 As 3) [] M) := rfl
set_option maxRecDepth 20000 in
theorem cal_139 (d : Nat) (As : List Value) (M : qMe) : cal (d + 1) 139 As M = gd (qcats As ≤ 7) (n_139_0 (cal d) (qL0 As 7) [] M) := rfl
set_option maxRecDepth 20000 in
theorem cal_140 (d : Nat) (As : List Value) (M : qMe) : cal (d + 1) 140 As M = gd (qcats As ≤ 14) (n_140_0 (cal d) (qL0 As 14) [] M) := rfl
set_option maxRecDepth 20000 in
theorem cal_141 (d : Nat) (As : List Value) (M : qMe) : cal (d + 1) 141 As M = gd (qcats As ≤ 4) (n_141_0 (cal d) (qL0 As 4) [] M) := rfl
set_option maxRecDepth 20000 in
theorem cal_142 (d : Nat) (As : List Value) (M : qMe) : cal (d + 1) 142 As M = gd (qcats As ≤ 4) (n_142_0 (cal d) (qL0 As 4) [] M) := rfl
set_option maxRecDepth 20000 in
theorem cal_143 (d : Nat) (As : List Value) (M : qMe) : cal (d + 1) 143 As M = gd (qcats As ≤ 4) (n_143_0 (cal d) (qL0 As 4) [] M) := rfl
set_option maxRecDepth 20000 in
theorem cal_144 (d : Nat) (As : List Value) (M : qMe) : cal (d + 1) 144 As M = gd (qcats As ≤ 4) (n_144_0 (cal d) (qL0 As 4) [] M) := rfl
set_option maxRecDepth 20000 in
theorem cal_145 (d : Nat) (As : List Value) (M : qMe) : cal (d + 1) 145 As M = gd (qcats As ≤ 5) (n_145_0 (cal d) (qL0 As 5) [] M) := rfl
set_option maxRecDepth 20000 in
theorem cal_146 (d : Nat) (As : List Value) (M : qMe) : cal (d + 1) 146 As M = gd (qcats As ≤ 4) (n_146_0 (cal d) (qL0 As 4) [] M) := rfl
set_option maxRecDepth 20000 in
theorem cal_147 (d : Nat) (As : List Value) (M : qMe) : cal (d + 1) 147 As M = gd (qcats As ≤ 2) (n_147_0 (cal d) (qL0 As 2) [] M) := rfl
set_option maxRecDepth 20000 in
theorem cal_148 (d : Nat) (As : List Value) (M : qMe) : cal (d + 1) 148 As M = gd (qcats As ≤ 2) (n_148_0 (cal d) (qL0 As 2) [] M) := rfl
set_option maxRecDepth 20000 in
theorem cal_149 (d : Nat) (As : List Value) (M : qMe) : cal (d + 1) 149 As M = gd (qcats As ≤ 5) (n_149_0 (cal d) (qL0 As 5) [] M) := rfl
set_option maxRecDepth 20000 in
theorem cal_150 (d : Nat) (As : List Value) (M : qMe) : cal (d + 1) 150 As M = gd (qcats As ≤ 5) (n_150_0 (cal d) (qL0 As 5) [] M) := rfl
set_option maxRecDepth 20000 in
theorem cal_151 (d : Nat) (As : List Value) (M : qMe) : cal (d + 1) 151 As M = gd (qcats As ≤ 7) (n_151_0 (cal d) (qL0 As 7) [] M) := rfl
set_option maxRecDepth 20000 in
theorem cal_152 (d : Nat) (As : List Value) (M : qMe) : cal (d + 1) 152 As M = gd (qcats As ≤ 7) (n_152_0 (cal d) (qL0 As 7) [] M) := rfl
set_option maxRecDepth 20000 in
theorem cal_153 (d : Nat) (As : List Value) (M : qMe) : cal (d + 1) 153 As M = gd (qcats As ≤ 5) (n_153_0 (cal d) (qL0 As 5) [] M) := rfl
set_option maxRecDepth 20000 in
theorem cal_154 (d : Nat) (As : List Value) (M : qMe) : cal (d + 1) 154 As M = gd (qcats As ≤ 6) (n_154_0 (cal d) (qL0 As 6) [] M) := rfl
set_option maxRecDepth 20000 in
theorem cal_155 (d : Nat) (As : List Value) (M : qMe) : cal (d + 1) 155 As M = gd (qcats As ≤ 6) (n_155_0 (cal d) (qL0 As 6) [] M) := rfl
set_option maxRecDepth 20000 in
theorem cal_156 (d : Nat) (As : List Value) (M : qMe) : cal (d + 1) 156 As M = gd (qcats As ≤ 6) (n_156_0 (cal d) (qL0 As 6) [] M) := rfl
set_option maxRecDepth 20000 in
theorem cal_157 (d : Nat) (As : List Value) (M : qMe) : cal (d + 1) 157 As M = gd (qcats As ≤ 1) (n_157_0 (cal d) (qL0 As 1) [] M) := rfl
set_option maxRecDepth 20000 in
theorem cal_158 (d : Nat) (As : List Value) (M : qMe) : cal (d + 1) 158 As M = gd (qcats As ≤ 2) (n_158_0 (cal d) (qL0 As 2) [] M) := rfl
set_option maxRecDepth 20000 in
theorem cal_159 (d : Nat) (As : List Value) (M : qMe) : cal (d + 1) 159 As M = gd (qcats As ≤ 1) (n_159_0 (cal d) (qL0 As 1) [] M) := rfl
set_option maxRecDepth 20000 in
theorem cal_160 (d : Nat) (As : List Value) (M : qMe) : cal (d + 1) 160 As M = gd (qcats As ≤ 2) (n_160_0 (cal d) (qL0 As 2) [] M) := rfl
set_option maxRecDepth 20000 in
theorem cal_161 (d : Nat) (As : List Value) (M : qMe) : cal (d + 1) 161 As M = gd (qcats As ≤ 4) (n_161_0 (cal d) (qL0 As 4) [] M) := rfl
set_option maxRecDepth 20000 in
theorem cal_162 (d : Nat) (As : List Value) (M : qMe) : cal (d + 1) 162 As M = gd (qcats As ≤ 1) (n_162_0 (cal d) (qL0 As 1) [] M) := rfl
set_option maxRecDepth 20000 in
theorem cal_163 (d : Nat) (As : List Value) (M : qMe) : cal (d + 1) 163 As M = gd (qcats As ≤ 7) (n_163_0 (cal d) (qL0 As 7) [] M) := rfl
set_option maxRecDepth 20000 in
theorem cal_164 (d : Nat) (As : List Value) (M : qMe) : cal (d + 1) 164 As M = gd (qcats As ≤ 7) (n_164_0 (cal d) (qL0 As 7) [] M) := rfl
set_option maxRecDepth 20000 in
theorem cal_165 (d : Nat) (As : List Value) (M : qMe) : cal (d + 1) 165 As M = gd (qcats As ≤ 4) (n_165_0 (cal d) (qL0 As 4) [] M) := rfl
set_option maxRecDepth 20000 in
theorem cal_166 (d : Nat) (As : List Value) (M : qMe) : cal (d + 1) 166 As M = gd (qcats As ≤ 4) (n_166_0 (cal d) (qL0 As 4) [] M) := rfl
set_option maxRecDepth 20000 in
theorem cal_167 (d : Nat) (As : List Value) (M : qMe) : cal (d + 1) 167 As M = gd (qcats As ≤ 4) (n_167_0 (cal d) (qL0 As 4) [] M) := rfl
set_option maxRecDepth 20000 in
theorem cal_168 (d : Nat) (As : List Value) (M : qMe) : cal (d + 1) 168 As M = gd (qcats As ≤ 2) (n_168_0 (cal d) (qL0 As 2) [] M) := rfl
set_option maxRecDepth 20000 in
theorem cal_169 (d : Nat) (As : List Value) (M : qMe) : cal (d + 1) 169 As M = gd (qcats As ≤ 3) (n_169_0 (cal d) (qL0 As 3) [] M) := rfl
set_option maxRecDepth 20000 in
theorem cal_170 (d : Nat) (As : List Value) (M : qMe) : cal (d + 1) 170 As M = gd (qcats As ≤ 3) (n_170_0 (cal d) (qL0 As 3) [] M) := rfl
set_option maxRecDepth 20000 in
theorem cal_171 (d : Nat) (As : List Value) (M : qMe) : cal (d + 1) 171 As M = gd (qcats As ≤ 3) (n_171_0 (cal d) (qL0 As 3) [] M) := rfl
set_option maxRecDepth 20000 in
theorem cal_172 (d : Nat) (As : List Value) (M : qMe) : cal (d + 1) 172 As M = gd (qcats As ≤ 2) (n_172_0 (cal d) (qL0 As 2) [] M) := rfl
set_option maxRecDepth 20000 in
theorem cal_173 (d : Nat) (As : List Value) (M : qMe) : cal (d + 1) 173 As M = gd (qcats As ≤ 10) (n_173_0 (cal d) (qL0 As 10) [] M) := rfl
set_option maxRecDepth 20000 in
theorem cal_174 (d : Nat) (As : List Value) (M : qMe) : cal (d + 1) 174 As M = gd (qcats As ≤ 9) (n_174_0 (cal d) (qL0 As 9) [] M) := rfl
set_option maxRecDepth 20000 in
theorem cal_175 (d : Nat) (As : List Value) (M : qMe) : cal (d + 1) 175 As M = gd (qcats As ≤ 6) (n_175_0 (cal d) (qL0 As 6) [] M) := rfl
set_option maxRecDepth 20000 in
theorem cal_176 (d : Nat) (As : List Value) (M : qMe) : cal (d + 1) 176 As M = gd (qcats As ≤ 4) (n_176_0 (cal d) (qL0 As 4) [] M) := rfl
set_option maxRecDepth 20000 in
theorem cal_177 (d : Nat) (As : List Value) (M : qMe) : cal (d + 1) 177 As M = gd (qcats As ≤ 4) (n_177_0 (cal d) (qL0 As 4) [] M) := rfl
set_option maxRecDepth 20000 in
theorem cal_178 (d : Nat) (As : List Value) (M : qMe) : cal (d + 1) 178 As M = gd (qcats As ≤ 4) (n_178_0 (cal d) (qL0 As 4) [] M) := rfl
set_option maxRecDepth 20000 in
theorem cal_179 (d : Nat) (As : List Value) (M : qMe) : cal (d + 1) 179 As M = gd (qcats As ≤ 7) (n_179_0 (cal d) (qL0 As 7) [] M) := rfl
set_option maxRecDepth 20000 in
theorem cal_180 (d : Nat) (As : List Value) (M : qMe) : cal (d + 1) 180 As M = gd (qcats As ≤ 5) (n_180_0 (cal d) (qL0 As 5) [] M) := rfl
set_option maxRecDepth 20000 in
theorem cal_181 (d : Nat) (As : List Value) (M : qMe) : cal (d + 1) 181 As M = gd (qcats As ≤ 4) (n_181_0 (cal d) (qL0 As 4) [] M) := rfl
set_option maxRecDepth 20000 in
theorem cal_182 (d : Nat) (As : List Value) (M : qMe) : cal (d + 1) 182 As M = gd (qcats As ≤ 4) (n_182_0 (cal d) (qL0 As 4) [] M) := rfl
set_option maxRecDepth 20000 in
theorem cal_183 (d : Nat) (As : List Value) (M : qMe) : cal (d + 1) 183 As M = gd (qcats As ≤ 1) (n_183_0 (cal d) (qL0 As 1) [] M) := rfl
set_option maxRecDepth 20000 in
theorem cal_184 (d : Nat) (As : List Value) (M : qMe) : cal (d + 1) 184 As M = gd (qcats As ≤ 3) (n_184_0 (cal d) (qL0 As 3) [] M) := rfl
set_option maxRecDepth 20000 in
theorem cal_185 (d : Nat) (As : List Value) (M : qMe) : cal (d + 1) 185 As M = gd (qcats As ≤ 4) (n_185_0 (cal d) (qL0 As 4) [] M) := rfl
set_option maxRecDepth 20000 in
theorem cal_186 (d : Nat) (As : List Value) (M : qMe) : cal (d + 1) 186 As M = gd (qcats As ≤ 7) (n_186_0 (cal d) (qL0 As 7) [] M) := rfl
set_option maxRecDepth 20000 in
theorem cal_187 (d : Nat) (As : List Value) (M : qMe) : cal (d + 1) 187 As M = gd (qcats As ≤ 1) (n_187_0 (cal d) (qL0 As 1) [] M) := rfl
set_option maxRecDepth 20000 in
theorem cal_188 (d : Nat) (As : List Value) (M : qMe) : cal (d + 1) 188 As M = gd (qcats As ≤ 4) (n_188_0 (cal d) (qL0 As 4) [] M) := rfl
set_option maxRecDepth 20000 in
theorem cal_189 (d : Nat) (As : List Value) (M : qMe) : cal (d + 1) 189 As M = gd (qcats As ≤ 5) (n_189_0 (cal d) (qL0 As 5) [] M) := rfl
set_option maxRecDepth 20000 in
theorem cal_190 (d : Nat) (As : List Value) (M : qMe) : cal (d + 1) 190 As M = gd (qcats As ≤ 2) (n_190_0 (cal d) (qL0 As 2) [] M) := rfl
set_option maxRecDepth 20000 in
theorem cal_191 (d : Nat) (As : List Value) (M : qMe) : cal (d + 1) 191 As M = gd (qcats As ≤ 10) (n_191_0 (cal d) (qL0 As 10) [] M) := rfl
set_option maxRecDepth 20000 in
theorem cal_192 (d : Nat) (As : List Value) (M : qMe) : cal (d + 1) 192 As M = gd (qcats As ≤ 7) (n_192_0 (cal d) (qL0 As 7) [] M) := rfl
set_option maxRecDepth 20000 in
theorem cal_193 (d : Nat) (As : List Value) (M : qMe) : cal (d + 1) 193 As M = gd (qcats As ≤ 6) (n_193_0 (cal d) (qL0 As 6) [] M) := rfl
set_option maxRecDepth 20000 in
theorem cal_194 (d : Nat) (As : List Value) (M : qMe) : cal (d + 1) 194 As M = gd (qcats As ≤ 7) (n_194_0 (cal d) (qL0 As 7) [] M) := rfl
set_option maxRecDepth 20000 in
theorem cal_195 (d : Nat) (As : List Value) (M : qMe) : cal (d + 1) 195 As M = gd (qcats As ≤ 3) (n_195_0 (cal d) (qL0 As 3) [] M) := rfl
set_option maxRecDepth 20000 in
theorem cal_196 (d : Nat) (As : List Value) (M : qMe) : cal (d + 1) 196 As M = gd (qcats As ≤ 3) (n_196_0 (cal d) (qL0 As 3) [] M) := rfl
set_option maxRecDepth 20000 in
theorem cal_197 (d : Nat) (As : List Value) (M : qMe) : cal (d + 1) 197 As M = gd (qcats As ≤ 9) (n_197_0 (cal d) (qL0 As 9) [] M) := rfl
set_option maxRecDepth 20000 in
theorem cal_198 (d : Nat) (As : List Value) (M : qMe) : cal (d + 1) 198 As M = gd (qcats As ≤ 2) (n_198_0 (cal d) (qL0 As 2) [] M) := rfl
set_option maxRecDepth 20000 in
theorem cal_199 (d : Nat) (As : List Value) (M : qMe) : cal (d + 1) 199 As M = gd (qcats As ≤ 2) (n_199_0 (cal d) (qL0 As 2) [] M) := rfl
set_option maxRecDepth 20000 in
theorem cal_200 (d : Nat) (As : List Value) (M : qMe) : cal (d + 1) 200 As M = gd (qcats As ≤ 5) (n_200_0 (cal d) (qL0 As 5) [] M) := rfl
set_option maxRecDepth 20000 in
theorem cal_201 (d : Nat) (As : List Value) (M : qMe) : cal (d + 1) 201 As M = gd (qcats As ≤ 5) (n_201_0 (cal d) (qL0 As 5) [] M) := rfl
set_option maxRecDepth 20000 in
theorem cal_202 (d : Nat) (As : List Value) (M : qMe) : cal (d + 1) 202 As M = gd (qcats As ≤ 1) (n_202_0 (cal d) (qL0 As 1) [] M) := rfl
set_option maxRecDepth 20000 in
theorem cal_203 (d : Nat) (As : List Value) (M : qMe) : cal (d + 1) 203 As M = gd (qcats As ≤ 5) (n_203_0 (cal d) (qL0 As 5) [] M) := rfl
set_option maxRecDepth 20000 in
theorem cal_204 (d : Nat) (As : List Value) (M : qMe) : cal (d + 1) 204 As M = gd (qcats As ≤ 5) (n_204_0 (cal d) (qL0 As 5) [] M) := rfl
set_option maxRecDepth 20000 in
theorem cal_205 (d : Nat) (As : List Value) (M : qMe) : cal (d + 1) 205 As M = gd (qcats As ≤ 5) (n_205_0 (cal d) (qL0 As 5) [] M) := rfl
set_option maxRecDepth 20000 in
theorem cal_206 (d : Nat) (As : List Value) (M : qMe) : cal (d + 1) 206 As M = gd (qcats As ≤ 5) (n_206_0 (cal d) (qL0 As 5) [] M) := rfl
set_option maxRecDepth 20000 in
theorem cal_207 (d : Nat) (As : List Value) (M : qMe) : cal (d + 1) 207 As M = gd (qcats As ≤ 4) (n_207_0 (cal d) (qL0 As 4) [] M) := rfl
set_option maxRecDepth 20000 in
theorem cal_208 (d : Nat) (As : List Value) (M : qMe) : cal (d + 1) 208 As M = gd (qcats As ≤ 2) (n_208_0 (cal d) (qL0 As 2) [] M) := rfl
set_option maxRecDepth 20000 in
theorem cal_209 (d : Nat) (As : List Value) (M : qMe) : cal (d + 1) 209 As M = gd (qcats As ≤ 2) (n_209_0 (cal d) (qL0 As 2) [] M) := rfl
set_option maxRecDepth 20000 in
theorem cal_210 (d : Nat) (As : List Value) (M : qMe) : cal (d + 1) 210 As M = gd (qcats As ≤ 9) (n_210_0 (cal d) (qL0 As 9) [] M) := rfl
set_option maxRecDepth 20000 in
theorem cal_211 (d : Nat) (As : List Value) (M : qMe) : cal (d + 1) 211 As M = gd (qcats As ≤ 2) (n_211_0 (cal d) (qL0 As 2) [] M) := rfl
set_option maxRecDepth 20000 in
theorem cal_212 (d : Nat) (As : List Value) (M : qMe) : cal (d + 1) 212 As M = gd (qcats As ≤ 5) (n_212_0 (cal d) (qL0 As 5) [] M) := rfl
set_option maxRecDepth 20000 in
theorem cal_213 (d : Nat) (As : List Value) (M : qMe) : cal (d + 1) 213 As M = gd (qcats As ≤ 1) (n_213_0 (cal d) (qL0 As 1) [] M) := rfl
set_option maxRecDepth 20000 in
theorem cal_214 (d : Nat) (As : List Value) (M : qMe) : cal (d + 1) 214 As M = gd (qcats As ≤ 1) (n_214_0 (cal d) (qL0 As 1) [] M) := rfl
set_option maxRecDepth 20000 in
theorem cal_215 (d : Nat) (As : List Value) (M : qMe) : cal (d + 1) 215 As M = gd (qcats As ≤ 3) (n_215_0 (cal d) (qL0 As 3) [] M) := rfl
set_option maxRecDepth 20000 in
theorem cal_216 (d : Nat) (As : List Value) (M : qMe) : cal (d + 1) 216 As M = gd (qcats As ≤ 3) (n_216_0 (cal d) (qL0 As 3) [] M) := rfl
set_option maxRecDepth 20000 in
theorem cal_217 (d : Nat) (As : List Value) (M : qMe) : cal (d + 1) 217 As M = gd (qcats As ≤ 2) (n_217_0 (cal d) (qL0 As 2) [] M) := rfl
set_option maxRecDepth 20000 in
theorem cal_218 (d : Nat) (As : List Value) (M : qMe) : cal (d + 1) 218 As M = gd (qcats As ≤ 3) (n_218_0 (cal d) (qL0 As 3) [] M) := rfl
set_option maxRecDepth 20000 in
theorem cal_219 (d : Nat) (As : List Value) (M : qMe) : cal (d + 1) 219 As M = gd (qcats As ≤ 1) (n_219_0 (cal d) (qL0 As 1) [] M) := rfl
set_option maxRecDepth 20000 in
theorem cal_220 (d : Nat) (As : List Value) (M : qMe) : cal (d + 1) 220 As M = gd (qcats As ≤ 1) (n_220_0 (cal d) (qL0 As 1) [] M) := rfl
set_option maxRecDepth 20000 in
theorem cal_221 (d : Nat) (As : List Value) (M : qMe) : cal (d + 1) 221 As M = gd (qcats As ≤ 2) (n_221_0 (cal d) (qL0 As 2) [] M) := rfl
set_option maxRecDepth 20000 in
theorem cal_222 (d : Nat) (As : List Value) (M : qMe) : cal (d + 1) 222 As M = gd (qcats As ≤ 4) (n_222_0 (cal d) (qL0 As 4) [] M) := rfl
set_option maxRecDepth 20000 in
theorem cal_223 (d : Nat) (As : List Value) (M : qMe) : cal (d + 1) 223 As M = gd (qcats As ≤ 7) (n_223_0 (cal d) (qL0 As 7) [] M) := rfl
set_option maxRecDepth 20000 in
theorem cal_224 (d : Nat) (As : List Value) (M : qMe) : cal (d + 1) 224 As M = gd (qcats As ≤ 4) (n_224_0 (cal d) (qL0 As 4) [] M) := rfl
set_option maxRecDepth 20000 in
theorem cal_225 (d : Nat) (As : List Value) (M : qMe) : cal (d + 1) 225 As M = gd (qcats As ≤ 3) (n_225_0 (cal d) (qL0 As 3) [] M) := rfl
set_option maxRecDepth 20000 in
theorem cal_226 (d : Nat) (As : List Value) (M : qMe) : cal (d + 1) 226 As M = gd (qcats As ≤ 3) (n_226_0 (cal d) (qL0 As 3) [] M) := rfl
set_option maxRecDepth 20000 in
theorem cal_227 (d : Nat) (As : List Value) (M : qMe) : cal (d + 1) 227 As M = gd (qcats As ≤ 2) (n_227_0 (cal d) (qL0 As 2) [] M) := rfl
set_option maxRecDepth 20000 in
theorem cal_228 (d : Nat) (As : List Value) (M : qMe) : cal (d + 1) 228 As M = gd (qcats As ≤ 4) (n_228_0 (cal d) (qL0 As 4) [] M) := rfl
set_option maxRecDepth 20000 in
theorem cal_229 (d : Nat) (As : List Value) (M : qMe) : cal (d + 1) 229 As M = gd (qcats As ≤ 2) (n_229_0 (cal d) (qL0 As 2) [] M) := rfl
set_option maxRecDepth 20000 in
theorem cal_230 (d : Nat) (As : List Value) (M : qMe) : cal (d + 1) 230 As M = gd (qcats As ≤ 2) (n_230_0 (cal d) (qL0 As 2) [] M) := rfl
set_option maxRecDepth 20000 in
theorem cal_231 (d : Nat) (As : List Value) (M : qMe) : cal (d + 1) 231 As M = gd (qcats As ≤ 3) (n_231_0 (cal d) (qL0 As 3) [] M) := rfl
set_option maxRecDepth 20000 in
theorem cal_232 (d : Nat) (As : List Value) (M : qMe) : cal (d + 1) 232 As M = gd (qcats As ≤ 5) (n_232_0 (cal d) (qL0 As 5) [] M) := rfl
set_option maxRecDepth 20000 in
theorem cal_233 (d : Nat) (As : List Value) (M : qMe) : cal (d + 1) 233 As M = gd (qcats As ≤ 3) (n_233_0 (cal d) (qL0 As 3) [] M) := rfl
set_option maxRecDepth 20000 in
theorem cal_234 (d : Nat) (As : List Value) (M : qMe) : cal (d + 1) 234 As M = gd (qcats As ≤ 4) (n_234_0 (cal d) (qL0 As 4) [] M) := rfl
set_option maxRecDepth 20000 in
theorem cal_235 (d : Nat) (As : List Value) (M : qMe) : cal (d + 1) 235 As M = gd (qcats As ≤ 4) (n_235_0 (cal d) (qL0 As 4) [] M) := rfl
set_option maxRecDepth 20000 in
theorem cal_236 (d : Nat) (As : List Value) (M : qMe) : cal (d + 1) 236 As M = gd (qcats As ≤ 3) (n_236_0 (cal d) (qL0 As 3) [] M) := rfl
set_option maxRecDepth 20000 in
theorem cal_237 (d : Nat) (As : List Value) (M : qMe) : cal (d + 1) 237 As M = gd (qcats As ≤ 4) (n_237_0 (cal d) (qL0 As 4) [] M) := rfl
set_option maxRecDepth 20000 in
theorem cal_238 (d : Nat) (As : List Value) (M : qMe) : cal (d + 1) 238 As M = gd (qcats As ≤ 5) (n_238_0 (cal d) (qL0 As 5) [] M) := rfl
set_option maxRecDepth 20000 in
theorem cal_239 (d : Nat) (As : List Value) (M : qMe) : cal (d + 1) 239 As M = gd (qcats As ≤ 4) (n_239_0 (cal d) (qL0 As 4) [] M) := rfl
set_option maxRecDepth 20000 in
theorem cal_240 (d : Nat) (As : List Value) (M : qMe) : cal (d + 1) 240 As M = gd (qcats As ≤ 5) (n_240_0 (cal d) (qL0 As 5) [] M) := rfl
set_option maxRecDepth 20000 in
theorem cal_241 (d : Nat) (As : List Value) (M : qMe) : cal (d + 1) 241 As M = gd (qcats As ≤ 4) (n_241_0 (cal d) (qL0 As 4) [] M) := rfl
set_option maxRecDepth 20000 in
theorem cal_242 (d : Nat) (As : List Value) (M : qMe) : cal (d + 1) 242 As M = gd (qcats As ≤ 5) (n_242_0 (cal d) (qL0 As 5) [] M) := rfl
set_option maxRecDepth 20000 in
theorem cal_243 (d : Nat) (As : List Value) (M : qMe) : cal (d + 1) 243 As M = gd (qcats As ≤ 5) (n_243_0 (cal d) (qL0 As 5) [] M) := rfl
set_option maxRecDepth 20000 in
theorem cal_244 (d : Nat) (As : List Value) (M : qMe) : cal (d + 1) 244 As M = gd (qcats As ≤ 4) (n_244_0 (cal d) (qL0 As 4) [] M) := rfl
set_option maxRecDepth 20000 in
theorem cal_245 (d : Nat) (As : List Value) (M : qMe) : cal (d + 1) 245 As M = gd (qcats As ≤ 5) (n_245_0 (cal d) (qL0 As 5) [] M) := rfl
set_option maxRecDepth 20000 in
theorem cal_246 (d : Nat) (As : List Value) (M : qMe) : cal (d + 1) 246 As M = gd (qcats As ≤ 3) (n_246_0 (cal d) (qL0 As 3) [] M) := rfl
set_option maxRecDepth 20000 in
theorem cal_247 (d : Nat) (As : List Value) (M : qMe) : cal (d + 1) 247 As M = gd (qcats As ≤ 1) (n_247_0 (cal d) (qL0 As 1) [] M) := rfl
set_option maxRecDepth 20000 in
theorem cal_248 (d : Nat) (As : List Value) (M : qMe) : cal (d + 1) 248 As M = gd (qcats As ≤ 1) (n_248_0 (cal d) (qL0 As 1) [] M) := rfl
set_option maxRecDepth 20000 in
theorem cal_249 (d : Nat) (As : List Value) (M : qMe) : cal (d + 1) 249 As M = gd (qcats As ≤ 4) (n_249_0 (cal d) (qL0 As 4) [] M) := rfl
set_option maxRecDepth 20000 in
theorem cal_250 (d : Nat) (As : List Value) (M : qMe) : cal (d + 1) 250 As M = gd (qcats As ≤ 1) (n_250_0 (cal d) (qL0 As 1) [] M) := rfl
set_option maxRecDepth 20000 in
theorem cal_251 (d : Nat) (As : List Value) (M : qMe) : cal (d + 1) 251 As M = gd (qcats As ≤ 7) (n_251_0 (cal d) (qL0 As 7) [] M) := rfl
set_option maxRecDepth 20000 in
theorem cal_252 (d : Nat) (As : List Value) (M : qMe) : cal (d + 1) 252 As M = gd (qcats As ≤ 2) (n_252_0 (cal d) (qL0 As 2) [] M) := rfl
set_option maxRecDepth 20000 in
theorem cal_253 (d : Nat) (As : List Value) (M : qMe) : cal (d + 1) 253 As M = gd (qcats As ≤ 1) (n_253_0 (cal d) (qL0 As 1) [] M) := rfl
set_option maxRecDepth 20000 in
theorem cal_254 (d : Nat) (As : List Value) (M : qMe) : cal (d + 1) 254 As M = gd (qcats As ≤ 2) (n_254_0 (cal d) (qL0 As 2) [] M) := rfl
set_option maxRecDepth 20000 in
theorem cal_255 (d : Nat) (As : List Value) (M : qMe) : cal (d + 1) 255 As M = gd (qcats As ≤ 1) (n_255_0 (cal d) (qL0 As 1) [] M) := rfl
set_option maxRecDepth 20000 in
theorem cal_256 (d : Nat) (As : List Value) (M : qMe) : cal (d + 1) 256 As M = gd (qcats As ≤ 5) (n_256_0 (cal d) (qL0 As 5) [] M) := rfl
set_option maxRecDepth 20000 in
theorem cal_257 (d : Nat) (As : List Value) (M : qMe) : cal (d + 1) 257 As M = gd (qcats As ≤ 5) (n_257_0 (cal d) (qL0 As 5) [] M) := rfl
set_option maxRecDepth 20000 in
theorem cal_258 (d : Nat) (As : List Value) (M : qMe) : cal (d + 1) 258 As M = gd (qcats As ≤ 9) (n_258_0 (cal d) (qL0 As 9) [] M) := rfl
set_option maxRecDepth 20000 in
theorem cal_259 (d : Nat) (As : List Value) (M : qMe) : cal (d + 1) 259 As M = gd (qcats As ≤ 4) (n_259_0 (cal d) (qL0 As 4) [] M) := rfl
set_option maxRecDepth 20000 in
theorem cal_260 (d : Nat) (As : List Value) (M : qMe) : cal (d + 1) 260 As M = gd (qcats As ≤ 2) (n_260_0 (cal d) (qL0 As 2) [] M) := rfl
set_option maxRecDepth 20000 in
theorem cal_261 (d : Nat) (As : List Value) (M : qMe) : cal (d + 1) 261 As M = gd (qcats As ≤ 4) (n_261_0 (cal d) (qL0 As 4) [] M) := rfl
set_option maxRecDepth 20000 in
theorem cal_262 (d : Nat) (As : List Value) (M : qMe) : cal (d + 1) 262 As M = gd (qcats As ≤ 3) (n_262_0 (cal d) (qL0 As 3) [] M) := rfl
set_option maxRecDepth 20000 in
theorem cal_263 (d : Nat) (As : List Value) (M : qMe) : cal (d + 1) 263 As M = gd (qcats As ≤ 2) (n_263_0 (cal d) (qL0 As 2) [] M) := rfl
set_option maxRecDepth 20000 in
theorem cal_264 (d : Nat) (As : List Value) (M : qMe) : cal (d + 1) 264 As M = gd (qcats As ≤ 3) (n_264_0 (cal d) (qL0 As 3) [] M) := rfl
set_option maxRecDepth 20000 in
theorem cal_265 (d : Nat) (As : List Value) (M : qMe) : cal (d + 1) 265 As M = gd (qcats As ≤ 2) (n_265_0 (cal d) (qL0 As 2) [] M) := rfl
set_option maxRecDepth 20000 in
theorem cal_266 (d : Nat) (As : List Value) (M : qMe) : cal (d + 1) 266 As M = gd (qcats As ≤ 1) (n_266_0 (cal d) (qL0 As 1) [] M) := rfl
set_option maxRecDepth 20000 in
theorem cal_267 (d : Nat) (As : List Value) (M : qMe) : cal (d + 1) 267 As M = gd (qcats As ≤ 6) (n_267_0 (cal d) (qL0 As 6) [] M) := rfl
set_option maxRecDepth 20000 in
theorem cal_268 (d : Nat) (As : List Value) (M : qMe) : cal (d + 1) 268 As M = gd (qcats As ≤ 6) (n_268_0 (cal d) (qL0 As 6) [] M) := rfl
set_option maxRecDepth 20000 in
theorem cal_269 (d : Nat) (As : List Value) (M : qMe) : cal (d + 1) 269 As M = gd (qcats As ≤ 1) (n_269_0 (cal d) (qL0 As 1) [] M) := rfl
set_option maxRecDepth 20000 in
theorem cal_270 (d : Nat) (As : List Value) (M : qMe) : cal (d + 1) 270 As M = gd (qcats As ≤ 5) (n_270_0 (cal d) (qL0 As 5) [] M) := rfl
set_option maxRecDepth 20000 in
theorem cal_271 (d : Nat) (As : List Value) (M : qMe) : cal (d + 1) 271 As M = gd (qcats As ≤ 6) (n_271_0 (cal d) (qL0 As 6) [] M) := rfl
set_option maxRecDepth 20000 in
theorem cal_272 (d : Nat) (As : List Value) (M : qMe) : cal (d + 1) 272 As M = gd (qcats As ≤ 5) (n_272_0 (cal d) (qL0 As 5) [] M) := rfl
set_option maxRecDepth 20000 in
theorem cal_273 (d : Nat) (As : List Value) (M : qMe) : cal (d + 1) 273 As M = gd (qcats As ≤ 2) (n_273_0 (cal d) (qL0 As 2) [] M) := rfl
set_option maxRecDepth 20000 in
theorem cal_274 (d : Nat) (As : List Value) (M : qMe) : cal (d + 1) 274 As M = gd (qcats As ≤ 2) (n_274_0 (cal d) (qL0 As 2) [] M) := rfl
set_option maxRecDepth 20000 in
theorem cal_275 (d : Nat) (As : List Value) (M : qMe) : cal (d + 1) 275 As M = gd (qcats As ≤ 2) (n_275_0 (cal d) (qL0 As 2) [] M) := rfl
set_option maxRecDepth 20000 in
theorem cal_276 (d : Nat) (As : List Value) (M : qMe) : cal (d + 1) 276 As M = gd (qcats As ≤ 4) (n_276_0 (cal d) (qL0 As 4) [] M) := rfl
set_option maxRecDepth 20000 in
theorem cal_277 (d : Nat) (As : List Value) (M : qMe) : cal (d + 1) 277 As M = gd (qcats As ≤ 1) (n_277_0 (cal d) (qL0 As 1) [] M) := rfl
set_option maxRecDepth 20000 in
theorem cal_278 (d : Nat) (As : List Value) (M : qMe) : cal (d + 1) 278 As M = gd (qcats As ≤ 1) (n_278_0 (cal d) (qL0 As 1) [] M) := rfl
set_option maxRecDepth 20000 in
theorem cal_279 (d : Nat) (As : List Value) (M : qMe) : cal (d + 1) 279 As M = gd (qcats As ≤ 6) (n_279_0 (cal d) (qL0 As 6) [] M) := rfl
set_option maxRecDepth 20000 in
theorem cal_280 (d : Nat) (As : List Value) (M : qMe) : cal (d + 1) 280 As M = gd (qcats As ≤ 3) (n_280_0 (cal d) (qL0 As 3) [] M) := rfl
set_option maxRecDepth 20000 in
theorem cal_281 (d : Nat) (As : List Value) (M : qMe) : cal (d + 1) 281 As M = gd (qcats As ≤ 5) (n_281_0 (cal d) (qL0 As 5) [] M) := rfl
set_option maxRecDepth 20000 in
theorem cal_282 (d : Nat) (As : List Value) (M : qMe) : cal (d + 1) 282 As M = gd (qcats As ≤ 1) (n_282_0 (cal d) (qL0 As 1) [] M) := rfl
set_option maxRecDepth 20000 in
theorem cal_283 (d : Nat) (As : List Value) (M : qMe) : cal (d + 1) 283 As M = gd (qcats As ≤ 1) (n_283_0 (cal d) (qL0 As 1) [] M) := rfl
set_option maxRecDepth 20000 in
theorem cal_284 (d : Nat) (As : List Value) (M : qMe) : cal (d + 1) 284 As M = gd (qcats As ≤ 1) (n_284_0 (cal d) (qL0 As 1) [] M) := rfl
set_option maxRecDepth 20000 in
theorem cal_285 (d : Nat) (As : List Value) (M : qMe) : cal (d + 1) 285 As M = gd (qcats As ≤ 4) (n_285_0 (cal d) (qL0 As 4) [] M) := rfl
set_option maxRecDepth 20000 in
theorem cal_286 (d : Nat) (As : List Value) (M : qMe) : cal (d + 1) 286 As M = gd (qcats As ≤ 1) (n_286_0 (cal d) (qL0 As 1) [] M) := rfl
set_option maxRecDepth 20000 in
theorem cal_287 (d : Nat) (As : List Value) (M : qMe) : cal (d + 1) 287 As M = gd (qcats As ≤ 2) (n_287_0 (cal d) (qL0 As 2) [] M) := rfl
set_option maxRecDepth 20000 in
theorem cal_288 (d : Nat) (As : List Value) (M : qMe) : cal (d + 1) 288 As M = gd (qcats As ≤ 3) (n_288_0 (cal d) (qL0 As 3) [] M) := rfl
set_option maxRecDepth 20000 in
theorem cal_289 (d : Nat) (As : List Value) (M : qMe) : cal (d + 1) 289 As M = gd (qcats As ≤ 1) (n_289_0 (cal d) (qL0 As 1) [] M) := rfl
set_option maxRecDepth 20000 in
theorem cal_290 (d : Nat) (As : List Value) (M : qMe) : cal (d + 1) 290 As M = gd (qcats As ≤ 5) (n_290_0 (cal d) (qL0 As 5) [] M) := rfl
set_option maxRecDepth 20000 in
theorem cal_291 (d : Nat) (As : List Value) (M : qMe) : cal (d + 1) 291 As M = gd (qcats As ≤ 2) (n_291_0 (cal d) (qL0 As 2) [] M) := rfl
set_option maxRecDepth 20000 in
theorem cal_292 (d : Nat) (As : List Value) (M : qMe) : cal (d + 1) 292 As M = gd (qcats As ≤ 2) (n_292_0 (cal d) (qL0 As 2) [] M) := rfl
set_option maxRecDepth 20000 in
theorem cal_293 (d : Nat) (As : List Value) (M : qMe) : cal (d + 1) 293 As M = gd (qcats As ≤ 2) (n_293_0 (cal d) (qL0 As 2) [] M) := rfl
set_option maxRecDepth 20000 in
theorem cal_294 (d : Nat) (As : List Value) (M : qMe) : cal (d + 1) 294 As M = gd (qcats As ≤ 6) (n_294_0 (cal d) (qL0 As 6) [] M) := rfl
set_option maxRecDepth 20000 in
theorem cal_295 (d : Nat) (As : List Value) (M : qMe) : cal (d + 1) 295 As M = gd (qcats As ≤ 5) (n_295_0 (cal d) (qL0 As 5) [] M) := rfl
set_option maxRecDepth 20000 in
theorem cal_296 (d : Nat) (As : List Value) (M : qMe) : cal (d + 1) 296 As M = gd (qcats As ≤ 2) (n_296_0 (cal d) (qL0 As 2) [] M) := rfl
set_option maxRecDepth 20000 in
theorem cal_297 (d : Nat) (As : List Value) (M : qMe) : cal (d + 1) 297 As M = gd (qcats As ≤ 1) (n_297_0 (cal d) (qL0 As 1) [] M) := rfl
set_option maxRecDepth 20000 in
theorem cal_298 (d : Nat) (As : List Value) (M : qMe) : cal (d + 1) 298 As M = gd (qcats As ≤ 2) (n_298_0 (cal d) (qL0 As 2) [] M) := rfl
set_option maxRecDepth 20000 in
theorem cal_299 (d : Nat) (As : List Value) (M : qMe) : cal (d + 1) 299 As M = gd (qcats As ≤ 2) (n_299_0 (cal d) (qL0 As 2) [] M) := rfl
set_option maxRecDepth 20000 in
theorem cal_300 (d : Nat) (As : List Value) (M : qMe) : cal (d + 1) 300 As M = gd (qcats As ≤ 2) (n_300_0 (cal d) (qL0 As 2) [] M) := rfl
set_option maxRecDepth 20000 in
theorem cal_301 (d : Nat) (As : List Value) (M : qMe) : cal (d + 1) 301 As M = gd (qcats As ≤ 2) (n_301_0 (cal d) (qL0 As 2) [] M) := rfl
set_option maxRecDepth 20000 in
theorem cal_302 (d : Nat) (As : List Value) (M : qMe) : cal (d + 1) 302 As M = gd (qcats As ≤ 3) (n_302_0 (cal d) (qL0 As 3) [] M) := rfl
set_option maxRecDepth 20000 in
theorem cal_303 (d : Nat) (As : List Value) (M : qMe) : cal (d + 1) 303 As M = gd (qcats As ≤ 5) (n_303_0 (cal d) (qL0 As 5) [] M) := rfl
set_option maxRecDepth 20000 in
theorem cal_304 (d : Nat) (As : List Value) (M : qMe) : cal (d + 1) 304 As M = gd (qcats As ≤ 1) (n_304_0 (cal d) (qL0 As 1) [] M) := rfl
set_option maxRecDepth 20000 in
theorem cal_305 (d : Nat) (As : List Value) (M : qMe) : cal (d + 1) 305 As M = gd (qcats As ≤ 1) (n_305_0 (cal d) (qL0 As 1) [] M) := rfl
set_option maxRecDepth 20000 in
theorem cal_306 (d : Nat) (As : List Value) (M : qMe) : cal (d + 1) 306 As M = gd (qcats As ≤ 2) (n_306_0 (cal d) (qL0 As 2) [] M) := rfl
set_option maxRecDepth 20000 in
theorem cal_307 (d : Nat) (As : List Value) (M : qMe) : cal (d + 1) 307 As M = gd (qcats As ≤ 3) (n_307_0 (cal d) (qL0 As 3) [] M) := rfl
set_option maxRecDepth 20000 in
theorem cal_308 (d : Nat) (As : List Value) (M : qMe) : cal (d + 1) 308 As M = gd (qcats As ≤ 1) (n_308_0 (cal d) (qL0 As 1) [] M) := rfl
set_option maxRecDepth 20000 in
theorem cal_309 (d : Nat) (As : List Value) (M : qMe) : cal (d + 1) 309 As M = gd (qcats As ≤ 2) (n_309_0 (cal d) (qL0 As 2) [] M) := rfl
set_option maxRecDepth 20000 in
theorem cal_310 (d : Nat) (As : List Value) (M : qMe) : cal (d + 1) 310 As M = gd (qcats As ≤ 3) (n_310_0 (cal d) (qL0 As 3) [] M) := rfl
set_option maxRecDepth 20000 in
theorem cal_311 (d : Nat) (As : List Value) (M : qMe) : cal (d + 1) 311 As M = gd (qcats As ≤ 2) (n_311_0 (cal d) (qL0 As 2) [] M) := rfl
set_option maxRecDepth 20000 in
theorem cal_312 (d : Nat) (As : List Value) (M : qMe) : cal (d + 1) 312 As M = gd (qcats As ≤ 2) (n_312_0 (cal d) (qL0 As 2) [] M) := rfl
set_option maxRecDepth 20000 in
theorem cal_313 (d : Nat) (As : List Value) (M : qMe) : cal (d + 1) 313 As M = gd (qcats As ≤ 3) (n_313_0 (cal d) (qL0 As 3) [] M) := rfl
set_option maxRecDepth 20000 in
theorem cal_314 (d : Nat) (As : List Value) (M : qMe) : cal (d + 1) 314 As M = gd (qcats As ≤ 14) (n_314_0 (cal d) (qL0 As 14) [] M) := rfl
set_option maxRecDepth 20000 in
theorem cal_329 (d : Nat) (As : List Value) (M : qMe) : cal (d + 1) 329 As M = gd (qcats As ≤ 4) (n_329_0 (cal d) (qL0 As 4) [] M) := rfl

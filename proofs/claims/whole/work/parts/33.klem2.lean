/-! what each setter keeps: printed by wip/whole/klem.py -/
/-- a letter told on both sides -/
theorem K_letter {M : qMe} {a b : Int} (hw : WFk M 481 0) (hR : Ra M 9 481 0) (h1 : 0 ≤ a) (h2 : a < mZ M 481 264) (h3 : 1 ≤ b) (h4 : b ≤ 99) (h5 : mZ M 481 267 < 8) : Ra (qsI (qsI (qsI (qsI (qsI (qsI M 23 (mZ M 481 267).toNat (iz a)) 24 (mZ M 481 267).toNat (iz b)) 9 11 (iz (mZ M 481 267 + 1))) 481 (228 + 2 * mZ M 481 267).toNat (iz a)) 481 (228 + 2 * mZ M 481 267 + 1).toNat (iz b)) 481 267 (iz (mZ M 481 267 + 1))) 9 481 0 ∧ WFk (qsI (qsI (qsI (qsI (qsI (qsI M 23 (mZ M 481 267).toNat (iz a)) 24 (mZ M 481 267).toNat (iz b)) 9 11 (iz (mZ M 481 267 + 1))) 481 (228 + 2 * mZ M 481 267).toNat (iz a)) 481 (228 + 2 * mZ M 481 267 + 1).toNat (iz b)) 481 267 (iz (mZ M 481 267 + 1))) 481 0 := by
  obtain ⟨hs4, hs5, hs6, hs7, hs8, hs9, hs10, -⟩ := WFk_s hw
  generalize hM2 : qsI (qsI (qsI (qsI (qsI (qsI M 23 (mZ M 481 267).toNat (iz a)) 24 (mZ M 481 267).toNat (iz b)) 9 11 (iz (mZ M 481 267 + 1))) 481 (228 + 2 * mZ M 481 267).toNat (iz a)) 481 (228 + 2 * mZ M 481 267 + 1).toNat (iz b)) 481 267 (iz (mZ M 481 267 + 1)) = M2
  have q0 : reg M M2 481 0 0 80 := fun k g1 g2 => by rw [← hM2]; simp (disch := omega) only [mZ_nc, mZ_ni, Int.zero_add, Int.reduceToNat, Int.reduceAdd, Nat.reduceAdd]
  have q80 : reg M M2 481 0 80 160 := fun k g1 g2 => by rw [← hM2]; simp (disch := omega) only [mZ_nc, mZ_ni, Int.zero_add, Int.reduceToNat, Int.reduceAdd, Nat.reduceAdd]
  have q160 : reg M M2 481 0 160 200 := fun k g1 g2 => by rw [← hM2]; simp (disch := omega) only [mZ_nc, mZ_ni, Int.zero_add, Int.reduceToNat, Int.reduceAdd, Nat.reduceAdd]
  have q200 : reg M M2 481 0 200 204 := fun k g1 g2 => by rw [← hM2]; simp (disch := omega) only [mZ_nc, mZ_ni, Int.zero_add, Int.reduceToNat, Int.reduceAdd, Nat.reduceAdd]
  have q204 : reg M M2 481 0 204 228 := fun k g1 g2 => by rw [← hM2]; simp (disch := omega) only [mZ_nc, mZ_ni, Int.zero_add, Int.reduceToNat, Int.reduceAdd, Nat.reduceAdd]
  have q244 : reg M M2 481 0 244 260 := fun k g1 g2 => by rw [← hM2]; simp (disch := omega) only [mZ_nc, mZ_ni, Int.zero_add, Int.reduceToNat, Int.reduceAdd, Nat.reduceAdd]
  have q260 : reg M M2 481 0 260 264 := fun k g1 g2 => by rw [← hM2]; simp (disch := omega) only [mZ_nc, mZ_ni, Int.zero_add, Int.reduceToNat, Int.reduceAdd, Nat.reduceAdd]
  have t264 : mZ M2 481 ((0 : Int) + 264).toNat = mZ M 481 ((0 : Int) + 264).toNat := by rw [← hM2]; simp (disch := omega) only [mZ_nc, mZ_ni, Int.zero_add, Int.reduceToNat, Int.reduceAdd, Nat.reduceAdd]
  have t265 : mZ M2 481 ((0 : Int) + 265).toNat = mZ M 481 ((0 : Int) + 265).toNat := by rw [← hM2]; simp (disch := omega) only [mZ_nc, mZ_ni, Int.zero_add, Int.reduceToNat, Int.reduceAdd, Nat.reduceAdd]
  have t266 : mZ M2 481 ((0 : Int) + 266).toNat = mZ M 481 ((0 : Int) + 266).toNat := by rw [← hM2]; simp (disch := omega) only [mZ_nc, mZ_ni, Int.zero_add, Int.reduceToNat, Int.reduceAdd, Nat.reduceAdd]
  have t268 : mZ M2 481 ((0 : Int) + 268).toNat = mZ M 481 ((0 : Int) + 268).toNat := by rw [← hM2]; simp (disch := omega) only [mZ_nc, mZ_ni, Int.zero_add, Int.reduceToNat, Int.reduceAdd, Nat.reduceAdd]
  have t269 : mZ M2 481 ((0 : Int) + 269).toNat = mZ M 481 ((0 : Int) + 269).toNat := by rw [← hM2]; simp (disch := omega) only [mZ_nc, mZ_ni, Int.zero_add, Int.reduceToNat, Int.reduceAdd, Nat.reduceAdd]
  have t270 : mZ M2 481 ((0 : Int) + 270).toNat = mZ M 481 ((0 : Int) + 270).toNat := by rw [← hM2]; simp (disch := omega) only [mZ_nc, mZ_ni, Int.zero_add, Int.reduceToNat, Int.reduceAdd, Nat.reduceAdd]
  have s2 : same M M2 (9 + 2) := fun k => by rw [← hM2]; simp (disch := omega) only [mZ_nc, Nat.reduceAdd]
  have s3 : same M M2 (9 + 3) := fun k => by rw [← hM2]; simp (disch := omega) only [mZ_nc, Nat.reduceAdd]
  have s5 : same M M2 (9 + 5) := fun k => by rw [← hM2]; simp (disch := omega) only [mZ_nc, Nat.reduceAdd]
  have s7 : same M M2 (9 + 7) := fun k => by rw [← hM2]; simp (disch := omega) only [mZ_nc, Nat.reduceAdd]
  have s8 : same M M2 (9 + 8) := fun k => by rw [← hM2]; simp (disch := omega) only [mZ_nc, Nat.reduceAdd]
  have s9 : same M M2 (9 + 9) := fun k => by rw [← hM2]; simp (disch := omega) only [mZ_nc, Nat.reduceAdd]
  have s10 : same M M2 (9 + 10) := fun k => by rw [← hM2]; simp (disch := omega) only [mZ_nc, Nat.reduceAdd]
  have s11 : same M M2 (9 + 11) := fun k => by rw [← hM2]; simp (disch := omega) only [mZ_nc, Nat.reduceAdd]
  have s12 : same M M2 (9 + 12) := fun k => by rw [← hM2]; simp (disch := omega) only [mZ_nc, Nat.reduceAdd]
  have s13 : same M M2 (9 + 13) := fun k => by rw [← hM2]; simp (disch := omega) only [mZ_nc, Nat.reduceAdd]
  have s16 : same M M2 (9 + 16) := fun k => by rw [← hM2]; simp (disch := omega) only [mZ_nc, Nat.reduceAdd]
  have s18 : same M M2 (9 + 18) := fun k => by rw [← hM2]; simp (disch := omega) only [mZ_nc, Nat.reduceAdd]
  have s19 : same M M2 (9 + 19) := fun k => by rw [← hM2]; simp (disch := omega) only [mZ_nc, Nat.reduceAdd]
  have s4 : same M M2 (9 + 4) := fun k => by rw [← hM2]; simp (disch := omega) only [mZ_nc, Nat.reduceAdd]
  have s6 : same M M2 (9 + 6) := fun k => by rw [← hM2]; simp (disch := omega) only [mZ_nc, Nat.reduceAdd]
  constructor
  · obtain ⟨x2, x3, x5, x7, x8, x9, x10, x11, x12, x13, x14, x15, x16, x18, x19, xh, xs⟩ := Ra_iff.mp hR
    refine Ra_iff.mpr ⟨?_, ?_, ?_, ?_, ?_, ?_, ?_, ?_, ?_, ?_, ?_, ?_, ?_, ?_, ?_, ?_, ?_⟩
    · exact RaX_k x2 s2 q0 (fun c g1 g2 => by omega)
    · exact RaX_k x3 s3 q80 (fun c g1 g2 => by omega)
    · exact RaX_k x5 s5 q160 (fun c g1 g2 => by omega)
    · exact RaX_k x7 s7 q160 (fun c g1 g2 => by omega)
    · exact RaX_k x8 s8 q160 (fun c g1 g2 => by omega)
    · exact RaX_k x9 s9 q160 (fun c g1 g2 => by omega)
    · exact RaX_k x10 s10 q200 (fun c g1 g2 => by omega)
    · exact RaX_k x11 s11 q204 (fun c g1 g2 => by omega)
    · exact RaX_k x12 s12 q204 (fun c g1 g2 => by omega)
    · exact RaX_k x13 s13 q204 (fun c g1 g2 => by omega)
    · intro c g1 g2
      have this := x14 c g1 g2
      by_cases e : c = mZ M 481 267
      · rw [e, ← hM2]; simp (disch := omega) only [mZ_nc, mZ_ni, mZ_eq, Int.zero_add, Int.reduceToNat, Int.reduceAdd, Nat.reduceAdd]
      · rw [← hM2]; simp only [Int.zero_add, Nat.reduceAdd] at this; simp (disch := omega) only [mZ_nc, mZ_ni, Int.zero_add, Int.reduceToNat, Int.reduceAdd, Nat.reduceAdd]; exact this
    · intro c g1 g2
      have this := x15 c g1 g2
      by_cases e : c = mZ M 481 267
      · rw [e, ← hM2]; simp (disch := omega) only [mZ_nc, mZ_ni, mZ_eq, Int.zero_add, Int.reduceToNat, Int.reduceAdd, Nat.reduceAdd]
      · rw [← hM2]; simp only [Int.zero_add, Nat.reduceAdd] at this; simp (disch := omega) only [mZ_nc, mZ_ni, Int.zero_add, Int.reduceToNat, Int.reduceAdd, Nat.reduceAdd]; exact this
    · exact RaX_k x16 s16 q260 (fun c g1 g2 => by omega)
    · exact RaX_k x18 s18 q244 (fun c g1 g2 => by omega)
    · exact RaX_k x19 s19 q244 (fun c g1 g2 => by omega)
    · exact RaH_k xh hs4 s4 s6 q160 t264
    · refine ⟨?_, ?_, ?_, ?_, ?_, ?_, ?_⟩
      · exact (show mZ M2 (9 + 1) 9 = mZ M (9 + 1) 9 by rw [← hM2]; simp (disch := omega) only [mZ_nc, mZ_ni, Nat.reduceAdd]).trans (xs.1.trans t264.symm)
      · exact (show mZ M2 (9 + 1) 10 = mZ M (9 + 1) 10 by rw [← hM2]; simp (disch := omega) only [mZ_nc, mZ_ni, Nat.reduceAdd]).trans (xs.2.1.trans t265.symm)
      · exact (show mZ M2 9 10 = mZ M 9 10 by rw [← hM2]; simp (disch := omega) only [mZ_nc, mZ_ni, Nat.reduceAdd]).trans (xs.2.2.1.trans t266.symm)
      · rw [← hM2]; simp (disch := omega) only [mZ_nc, mZ_ni, mZ_eq, Int.zero_add, Int.reduceToNat, Int.reduceAdd, Nat.reduceAdd]
      · exact (show mZ M2 9 14 = mZ M 9 14 by rw [← hM2]; simp (disch := omega) only [mZ_nc, mZ_ni, Nat.reduceAdd]).trans (xs.2.2.2.2.1.trans t268.symm)
      · exact (show mZ M2 9 12 = mZ M 9 12 by rw [← hM2]; simp (disch := omega) only [mZ_nc, mZ_ni, Nat.reduceAdd]).trans (xs.2.2.2.2.2.1.trans t269.symm)
      · exact (show mZ M2 9 13 = mZ M 9 13 by rw [← hM2]; simp (disch := omega) only [mZ_nc, mZ_ni, Nat.reduceAdd]).trans (xs.2.2.2.2.2.2.trans t270.symm)
  · obtain ⟨w1, w2, w3, w4, w7, w8, w10, w11⟩ := WFk_iff.mp hw
    refine WFk_iff.mpr ⟨?_, ?_, ?_, ?_, ?_, ?_, ?_, ?_⟩
    · obtain ⟨v4, v5, v6, v7, v8, v9, v10, u0, u1, u2, u3⟩ := w1
      refine ⟨?_, ?_, ?_, ?_, ?_, ?_, ?_, ?_, ?_, ?_, ?_⟩
      · rw [t264]; exact v4
      · rw [t265]; exact v5
      · rw [t266]; exact v6
      · rw [← hM2]; simp (disch := omega) only [mZ_nc, mZ_ni, mZ_eq, Int.zero_add, Int.reduceToNat, Int.reduceAdd, Nat.reduceAdd]; omega
      · rw [t268]; exact v8
      · rw [t269]; exact v9
      · rw [t270, t269]; exact v10
      · rw [q260 260 (by decide) (by decide)]; exact u0
      · rw [q260 261 (by decide) (by decide)]; exact u1
      · rw [q260 262 (by decide) (by decide)]; exact u2
      · rw [q260 263 (by decide) (by decide)]; exact u3
    · exact W2_k w2 q0
    · exact W3_k w3 q80
    · exact W4_k w4 hs4.2 q160 t264
    · exact W7_k w7 hs5.2 q200 t265
    · exact W8_k w8 hs6.2 q204 t266
    · intro c g1 g2
      rw [← hM2] at g2; simp (disch := omega) only [mZ_nc, mZ_ni, mZ_eq, Int.zero_add, Int.reduceToNat, Int.reduceAdd, Nat.reduceAdd] at g2
      by_cases e : c = mZ M 481 267
      · rw [e, ← hM2]; simp (disch := omega) only [mZ_nc, mZ_ni, mZ_eq, Int.zero_add, Int.reduceToNat, Int.reduceAdd, Nat.reduceAdd]; omega
      · have this := w10 c g1 (by first | omega | (simp only [Int.zero_add, Int.reduceToNat]; omega))
        rw [← hM2]; simp only [Int.zero_add, Int.reduceToNat] at this; simp (disch := omega) only [mZ_nc, mZ_ni, Int.zero_add, Int.reduceToNat, Int.reduceAdd, Nat.reduceAdd]; exact this
    · exact W11_k w11 hs8.2 q244 t268
/-- a trace told on both sides -/
theorem K_trace {M : qMe} {a b : Int} (hw : WFk M 481 0) (hR : Ra M 9 481 0) (h1 : 0 ≤ a) (h2 : a < 80) (h3 : 0 ≤ b) (h4 : b ≤ 1) (h5 : mZ M 481 268 < 8) : Ra (qsI (qsI (qsI (qsI (qsI (qsI M 27 (mZ M 481 268).toNat (iz a)) 28 (mZ M 481 268).toNat (iz b)) 9 14 (iz (mZ M 481 268 + 1))) 481 (244 + 2 * mZ M 481 268).toNat (iz a)) 481 (244 + 2 * mZ M 481 268 + 1).toNat (iz b)) 481 268 (iz (mZ M 481 268 + 1))) 9 481 0 ∧ WFk (qsI (qsI (qsI (qsI (qsI (qsI M 27 (mZ M 481 268).toNat (iz a)) 28 (mZ M 481 268).toNat (iz b)) 9 14 (iz (mZ M 481 268 + 1))) 481 (244 + 2 * mZ M 481 268).toNat (iz a)) 481 (244 + 2 * mZ M 481 268 + 1).toNat (iz b)) 481 268 (iz (mZ M 481 268 + 1))) 481 0 := by
  obtain ⟨hs4, hs5, hs6, hs7, hs8, hs9, hs10, -⟩ := WFk_s hw
  generalize hM2 : qsI (qsI (qsI (qsI (qsI (qsI M 27 (mZ M 481 268).toNat (iz a)) 28 (mZ M 481 268).toNat (iz b)) 9 14 (iz (mZ M 481 268 + 1))) 481 (244 + 2 * mZ M 481 268).toNat (iz a)) 481 (244 + 2 * mZ M 481 268 + 1).toNat (iz b)) 481 268 (iz (mZ M 481 268 + 1)) = M2
  have q0 : reg M M2 481 0 0 80 := fun k g1 g2 => by rw [← hM2]; simp (disch := omega) only [mZ_nc, mZ_ni, Int.zero_add, Int.reduceToNat, Int.reduceAdd, Nat.reduceAdd]
  have q80 : reg M M2 481 0 80 160 := fun k g1 g2 => by rw [← hM2]; simp (disch := omega) only [mZ_nc, mZ_ni, Int.zero_add, Int.reduceToNat, Int.reduceAdd, Nat.reduceAdd]
  have q160 : reg M M2 481 0 160 200 := fun k g1 g2 => by rw [← hM2]; simp (disch := omega) only [mZ_nc, mZ_ni, Int.zero_add, Int.reduceToNat, Int.reduceAdd, Nat.reduceAdd]
  have q200 : reg M M2 481 0 200 204 := fun k g1 g2 => by rw [← hM2]; simp (disch := omega) only [mZ_nc, mZ_ni, Int.zero_add, Int.reduceToNat, Int.reduceAdd, Nat.reduceAdd]
  have q204 : reg M M2 481 0 204 228 := fun k g1 g2 => by rw [← hM2]; simp (disch := omega) only [mZ_nc, mZ_ni, Int.zero_add, Int.reduceToNat, Int.reduceAdd, Nat.reduceAdd]
  have q228 : reg M M2 481 0 228 244 := fun k g1 g2 => by rw [← hM2]; simp (disch := omega) only [mZ_nc, mZ_ni, Int.zero_add, Int.reduceToNat, Int.reduceAdd, Nat.reduceAdd]
  have q260 : reg M M2 481 0 260 264 := fun k g1 g2 => by rw [← hM2]; simp (disch := omega) only [mZ_nc, mZ_ni, Int.zero_add, Int.reduceToNat, Int.reduceAdd, Nat.reduceAdd]
  have t264 : mZ M2 481 ((0 : Int) + 264).toNat = mZ M 481 ((0 : Int) + 264).toNat := by rw [← hM2]; simp (disch := omega) only [mZ_nc, mZ_ni, Int.zero_add, Int.reduceToNat, Int.reduceAdd, Nat.reduceAdd]
  have t265 : mZ M2 481 ((0 : Int) + 265).toNat = mZ M 481 ((0 : Int) + 265).toNat := by rw [← hM2]; simp (disch := omega) only [mZ_nc, mZ_ni, Int.zero_add, Int.reduceToNat, Int.reduceAdd, Nat.reduceAdd]
  have t266 : mZ M2 481 ((0 : Int) + 266).toNat = mZ M 481 ((0 : Int) + 266).toNat := by rw [← hM2]; simp (disch := omega) only [mZ_nc, mZ_ni, Int.zero_add, Int.reduceToNat, Int.reduceAdd, Nat.reduceAdd]
  have t267 : mZ M2 481 ((0 : Int) + 267).toNat = mZ M 481 ((0 : Int) + 267).toNat := by rw [← hM2]; simp (disch := omega) only [mZ_nc, mZ_ni, Int.zero_add, Int.reduceToNat, Int.reduceAdd, Nat.reduceAdd]
  have t269 : mZ M2 481 ((0 : Int) + 269).toNat = mZ M 481 ((0 : Int) + 269).toNat := by rw [← hM2]; simp (disch := omega) only [mZ_nc, mZ_ni, Int.zero_add, Int.reduceToNat, Int.reduceAdd, Nat.reduceAdd]
  have t270 : mZ M2 481 ((0 : Int) + 270).toNat = mZ M 481 ((0 : Int) + 270).toNat := by rw [← hM2]; simp (disch := omega) only [mZ_nc, mZ_ni, Int.zero_add, Int.reduceToNat, Int.reduceAdd, Nat.reduceAdd]
  have s2 : same M M2 (9 + 2) := fun k => by rw [← hM2]; simp (disch := omega) only [mZ_nc, Nat.reduceAdd]
  have s3 : same M M2 (9 + 3) := fun k => by rw [← hM2]; simp (disch := omega) only [mZ_nc, Nat.reduceAdd]
  have s5 : same M M2 (9 + 5) := fun k => by rw [← hM2]; simp (disch := omega) only [mZ_nc, Nat.reduceAdd]
  have s7 : same M M2 (9 + 7) := fun k => by rw [← hM2]; simp (disch := omega) only [mZ_nc, Nat.reduceAdd]
  have s8 : same M M2 (9 + 8) := fun k => by rw [← hM2]; simp (disch := omega) only [mZ_nc, Nat.reduceAdd]
  have s9 : same M M2 (9 + 9) := fun k => by rw [← hM2]; simp (disch := omega) only [mZ_nc, Nat.reduceAdd]
  have s10 : same M M2 (9 + 10) := fun k => by rw [← hM2]; simp (disch := omega) only [mZ_nc, Nat.reduceAdd]
  have s11 : same M M2 (9 + 11) := fun k => by rw [← hM2]; simp (disch := omega) only [mZ_nc, Nat.reduceAdd]
  have s12 : same M M2 (9 + 12) := fun k => by rw [← hM2]; simp (disch := omega) only [mZ_nc, Nat.reduceAdd]
  have s13 : same M M2 (9 + 13) := fun k => by rw [← hM2]; simp (disch := omega) only [mZ_nc, Nat.reduceAdd]
  have s14 : same M M2 (9 + 14) := fun k => by rw [← hM2]; simp (disch := omega) only [mZ_nc, Nat.reduceAdd]
  have s15 : same M M2 (9 + 15) := fun k => by rw [← hM2]; simp (disch := omega) only [mZ_nc, Nat.reduceAdd]
  have s16 : same M M2 (9 + 16) := fun k => by rw [← hM2]; simp (disch := omega) only [mZ_nc, Nat.reduceAdd]
  have s4 : same M M2 (9 + 4) := fun k => by rw [← hM2]; simp (disch := omega) only [mZ_nc, Nat.reduceAdd]
  have s6 : same M M2 (9 + 6) := fun k => by rw [← hM2]; simp (disch := omega) only [mZ_nc, Nat.reduceAdd]
  constructor
  · obtain ⟨x2, x3, x5, x7, x8, x9, x10, x11, x12, x13, x14, x15, x16, x18, x19, xh, xs⟩ := Ra_iff.mp hR
    refine Ra_iff.mpr ⟨?_, ?_, ?_, ?_, ?_, ?_, ?_, ?_, ?_, ?_, ?_, ?_, ?_, ?_, ?_, ?_, ?_⟩
    · exact RaX_k x2 s2 q0 (fun c g1 g2 => by omega)
    · exact RaX_k x3 s3 q80 (fun c g1 g2 => by omega)
    · exact RaX_k x5 s5 q160 (fun c g1 g2 => by omega)
    · exact RaX_k x7 s7 q160 (fun c g1 g2 => by omega)
    · exact RaX_k x8 s8 q160 (fun c g1 g2 => by omega)
    · exact RaX_k x9 s9 q160 (fun c g1 g2 => by omega)
    · exact RaX_k x10 s10 q200 (fun c g1 g2 => by omega)
    · exact RaX_k x11 s11 q204 (fun c g1 g2 => by omega)
    · exact RaX_k x12 s12 q204 (fun c g1 g2 => by omega)
    · exact RaX_k x13 s13 q204 (fun c g1 g2 => by omega)
    · exact RaX_k x14 s14 q228 (fun c g1 g2 => by omega)
    · exact RaX_k x15 s15 q228 (fun c g1 g2 => by omega)
    · exact RaX_k x16 s16 q260 (fun c g1 g2 => by omega)
    · intro c g1 g2
      have this := x18 c g1 g2
      by_cases e : c = mZ M 481 268
      · rw [e, ← hM2]; simp (disch := omega) only [mZ_nc, mZ_ni, mZ_eq, Int.zero_add, Int.reduceToNat, Int.reduceAdd, Nat.reduceAdd]
      · rw [← hM2]; simp only [Int.zero_add, Nat.reduceAdd] at this; simp (disch := omega) only [mZ_nc, mZ_ni, Int.zero_add, Int.reduceToNat, Int.reduceAdd, Nat.reduceAdd]; exact this
    · intro c g1 g2
      have this := x19 c g1 g2
      by_cases e : c = mZ M 481 268
      · rw [e, ← hM2]; simp (disch := omega) only [mZ_nc, mZ_ni, mZ_eq, Int.zero_add, Int.reduceToNat, Int.reduceAdd, Nat.reduceAdd]
      · rw [← hM2]; simp only [Int.zero_add, Nat.reduceAdd] at this; simp (disch := omega) only [mZ_nc, mZ_ni, Int.zero_add, Int.reduceToNat, Int.reduceAdd, Nat.reduceAdd]; exact this
    · exact RaH_k xh hs4 s4 s6 q160 t264
    · refine ⟨?_, ?_, ?_, ?_, ?_, ?_, ?_⟩
      · exact (show mZ M2 (9 + 1) 9 = mZ M (9 + 1) 9 by rw [← hM2]; simp (disch := omega) only [mZ_nc, mZ_ni, Nat.reduceAdd]).trans (xs.1.trans t264.symm)
      · exact (show mZ M2 (9 + 1) 10 = mZ M (9 + 1) 10 by rw [← hM2]; simp (disch := omega) only [mZ_nc, mZ_ni, Nat.reduceAdd]).trans (xs.2.1.trans t265.symm)
      · exact (show mZ M2 9 10 = mZ M 9 10 by rw [← hM2]; simp (disch := omega) only [mZ_nc, mZ_ni, Nat.reduceAdd]).trans (xs.2.2.1.trans t266.symm)
      · exact (show mZ M2 9 11 = mZ M 9 11 by rw [← hM2]; simp (disch := omega) only [mZ_nc, mZ_ni, Nat.reduceAdd]).trans (xs.2.2.2.1.trans t267.symm)
      · rw [← hM2]; simp (disch := omega) only [mZ_nc, mZ_ni, mZ_eq, Int.zero_add, Int.reduceToNat, Int.reduceAdd, Nat.reduceAdd]
      · exact (show mZ M2 9 12 = mZ M 9 12 by rw [← hM2]; simp (disch := omega) only [mZ_nc, mZ_ni, Nat.reduceAdd]).trans (xs.2.2.2.2.2.1.trans t269.symm)
      · exact (show mZ M2 9 13 = mZ M 9 13 by rw [← hM2]; simp (disch := omega) only [mZ_nc, mZ_ni, Nat.reduceAdd]).trans (xs.2.2.2.2.2.2.trans t270.symm)
  · obtain ⟨w1, w2, w3, w4, w7, w8, w10, w11⟩ := WFk_iff.mp hw
    refine WFk_iff.mpr ⟨?_, ?_, ?_, ?_, ?_, ?_, ?_, ?_⟩
    · obtain ⟨v4, v5, v6, v7, v8, v9, v10, u0, u1, u2, u3⟩ := w1
      refine ⟨?_, ?_, ?_, ?_, ?_, ?_, ?_, ?_, ?_, ?_, ?_⟩
      · rw [t264]; exact v4
      · rw [t265]; exact v5
      · rw [t266]; exact v6
      · rw [t267]; exact v7
      · rw [← hM2]; simp (disch := omega) only [mZ_nc, mZ_ni, mZ_eq, Int.zero_add, Int.reduceToNat, Int.reduceAdd, Nat.reduceAdd]; omega
      · rw [t269]; exact v9
      · rw [t270, t269]; exact v10
      · rw [q260 260 (by decide) (by decide)]; exact u0
      · rw [q260 261 (by decide) (by decide)]; exact u1
      · rw [q260 262 (by decide) (by decide)]; exact u2
      · rw [q260 263 (by decide) (by decide)]; exact u3
    · exact W2_k w2 q0
    · exact W3_k w3 q80
    · exact W4_k w4 hs4.2 q160 t264
    · exact W7_k w7 hs5.2 q200 t265
    · exact W8_k w8 hs6.2 q204 t266
    · exact W10_k w10 hs7.2 q228 t267 (Int.le_of_eq t264.symm)
    · intro c g1 g2
      rw [← hM2] at g2; simp (disch := omega) only [mZ_nc, mZ_ni, mZ_eq, Int.zero_add, Int.reduceToNat, Int.reduceAdd, Nat.reduceAdd] at g2
      by_cases e : c = mZ M 481 268
      · rw [e, ← hM2]; simp (disch := omega) only [mZ_nc, mZ_ni, mZ_eq, Int.zero_add, Int.reduceToNat, Int.reduceAdd, Nat.reduceAdd]; omega
      · have this := w11 c g1 (by first | omega | (simp only [Int.zero_add, Int.reduceToNat]; omega))
        rw [← hM2]; simp only [Int.zero_add, Int.reduceToNat] at this; simp (disch := omega) only [mZ_nc, mZ_ni, Int.zero_add, Int.reduceToNat, Int.reduceAdd, Nat.reduceAdd]; exact this

/-! what each setter keeps: printed by wip/whole/klem.py -/
/-- a house told on both sides -/
theorem K_house {M : qMe} {a b : Int} (hw : WFk M 481 0) (hR : Ra M 9 481 0) (h1 : 0 ≤ a) (h2 : a < 80) (h3 : 0 ≤ b) (h4 : b ≤ 9) (h5 : mZ M 481 264 < 8) (h6 : hAt M 481 0 a = -1) : Ra (qsI (qsI (qsI (qsI (qsI (qsI (qsI (qsI (qsI (qsI (qsI (qsI (qsI M 13 a.toNat (iz (mZ M 481 264))) 14 (mZ M 481 264).toNat (iz a)) 15 a.toNat (iz b)) 16 (mZ M 481 264).toNat (iz 0)) 17 (mZ M 481 264).toNat (iz 0)) 18 (mZ M 481 264).toNat (iz 0)) 10 9 (iz (mZ M 481 264 + 1))) 481 (160 + 5 * mZ M 481 264).toNat (iz a)) 481 (160 + 5 * mZ M 481 264 + 1).toNat (iz b)) 481 (160 + 5 * mZ M 481 264 + 2).toNat (iz 0)) 481 (160 + 5 * mZ M 481 264 + 3).toNat (iz 0)) 481 (160 + 5 * mZ M 481 264 + 4).toNat (iz 0)) 481 264 (iz (mZ M 481 264 + 1))) 9 481 0 ∧ WFk (qsI (qsI (qsI (qsI (qsI (qsI (qsI (qsI (qsI (qsI (qsI (qsI (qsI M 13 a.toNat (iz (mZ M 481 264))) 14 (mZ M 481 264).toNat (iz a)) 15 a.toNat (iz b)) 16 (mZ M 481 264).toNat (iz 0)) 17 (mZ M 481 264).toNat (iz 0)) 18 (mZ M 481 264).toNat (iz 0)) 10 9 (iz (mZ M 481 264 + 1))) 481 (160 + 5 * mZ M 481 264).toNat (iz a)) 481 (160 + 5 * mZ M 481 264 + 1).toNat (iz b)) 481 (160 + 5 * mZ M 481 264 + 2).toNat (iz 0)) 481 (160 + 5 * mZ M 481 264 + 3).toNat (iz 0)) 481 (160 + 5 * mZ M 481 264 + 4).toNat (iz 0)) 481 264 (iz (mZ M 481 264 + 1))) 481 0 := by
  obtain ⟨hs4, hs5, hs6, hs7, hs8, hs9, hs10, -⟩ := WFk_s hw
  generalize hM2 : qsI (qsI (qsI (qsI (qsI (qsI (qsI (qsI (qsI (qsI (qsI (qsI (qsI M 13 a.toNat (iz (mZ M 481 264))) 14 (mZ M 481 264).toNat (iz a)) 15 a.toNat (iz b)) 16 (mZ M 481 264).toNat (iz 0)) 17 (mZ M 481 264).toNat (iz 0)) 18 (mZ M 481 264).toNat (iz 0)) 10 9 (iz (mZ M 481 264 + 1))) 481 (160 + 5 * mZ M 481 264).toNat (iz a)) 481 (160 + 5 * mZ M 481 264 + 1).toNat (iz b)) 481 (160 + 5 * mZ M 481 264 + 2).toNat (iz 0)) 481 (160 + 5 * mZ M 481 264 + 3).toNat (iz 0)) 481 (160 + 5 * mZ M 481 264 + 4).toNat (iz 0)) 481 264 (iz (mZ M 481 264 + 1)) = M2
  have q0 : reg M M2 481 0 0 80 := fun k g1 g2 => by rw [← hM2]; simp (disch := omega) only [mZ_nc, mZ_ni, Int.zero_add, Int.reduceToNat, Int.reduceAdd, Nat.reduceAdd]
  have q80 : reg M M2 481 0 80 160 := fun k g1 g2 => by rw [← hM2]; simp (disch := omega) only [mZ_nc, mZ_ni, Int.zero_add, Int.reduceToNat, Int.reduceAdd, Nat.reduceAdd]
  have q200 : reg M M2 481 0 200 204 := fun k g1 g2 => by rw [← hM2]; simp (disch := omega) only [mZ_nc, mZ_ni, Int.zero_add, Int.reduceToNat, Int.reduceAdd, Nat.reduceAdd]
  have q204 : reg M M2 481 0 204 228 := fun k g1 g2 => by rw [← hM2]; simp (disch := omega) only [mZ_nc, mZ_ni, Int.zero_add, Int.reduceToNat, Int.reduceAdd, Nat.reduceAdd]
  have q228 : reg M M2 481 0 228 244 := fun k g1 g2 => by rw [← hM2]; simp (disch := omega) only [mZ_nc, mZ_ni, Int.zero_add, Int.reduceToNat, Int.reduceAdd, Nat.reduceAdd]
  have q244 : reg M M2 481 0 244 260 := fun k g1 g2 => by rw [← hM2]; simp (disch := omega) only [mZ_nc, mZ_ni, Int.zero_add, Int.reduceToNat, Int.reduceAdd, Nat.reduceAdd]
  have q260 : reg M M2 481 0 260 264 := fun k g1 g2 => by rw [← hM2]; simp (disch := omega) only [mZ_nc, mZ_ni, Int.zero_add, Int.reduceToNat, Int.reduceAdd, Nat.reduceAdd]
  have t265 : mZ M2 481 ((0 : Int) + 265).toNat = mZ M 481 ((0 : Int) + 265).toNat := by rw [← hM2]; simp (disch := omega) only [mZ_nc, mZ_ni, Int.zero_add, Int.reduceToNat, Int.reduceAdd, Nat.reduceAdd]
  have t266 : mZ M2 481 ((0 : Int) + 266).toNat = mZ M 481 ((0 : Int) + 266).toNat := by rw [← hM2]; simp (disch := omega) only [mZ_nc, mZ_ni, Int.zero_add, Int.reduceToNat, Int.reduceAdd, Nat.reduceAdd]
  have t267 : mZ M2 481 ((0 : Int) + 267).toNat = mZ M 481 ((0 : Int) + 267).toNat := by rw [← hM2]; simp (disch := omega) only [mZ_nc, mZ_ni, Int.zero_add, Int.reduceToNat, Int.reduceAdd, Nat.reduceAdd]
  have t268 : mZ M2 481 ((0 : Int) + 268).toNat = mZ M 481 ((0 : Int) + 268).toNat := by rw [← hM2]; simp (disch := omega) only [mZ_nc, mZ_ni, Int.zero_add, Int.reduceToNat, Int.reduceAdd, Nat.reduceAdd]
  have t269 : mZ M2 481 ((0 : Int) + 269).toNat = mZ M 481 ((0 : Int) + 269).toNat := by rw [← hM2]; simp (disch := omega) only [mZ_nc, mZ_ni, Int.zero_add, Int.reduceToNat, Int.reduceAdd, Nat.reduceAdd]
  have t270 : mZ M2 481 ((0 : Int) + 270).toNat = mZ M 481 ((0 : Int) + 270).toNat := by rw [← hM2]; simp (disch := omega) only [mZ_nc, mZ_ni, Int.zero_add, Int.reduceToNat, Int.reduceAdd, Nat.reduceAdd]
  have s2 : same M M2 (9 + 2) := fun k => by rw [← hM2]; simp (disch := omega) only [mZ_nc, Nat.reduceAdd]
  have s3 : same M M2 (9 + 3) := fun k => by rw [← hM2]; simp (disch := omega) only [mZ_nc, Nat.reduceAdd]
  have s10 : same M M2 (9 + 10) := fun k => by rw [← hM2]; simp (disch := omega) only [mZ_nc, Nat.reduceAdd]
  have s11 : same M M2 (9 + 11) := fun k => by rw [← hM2]; simp (disch := omega) only [mZ_nc, Nat.reduceAdd]
  have s12 : same M M2 (9 + 12) := fun k => by rw [← hM2]; simp (disch := omega) only [mZ_nc, Nat.reduceAdd]
  have s13 : same M M2 (9 + 13) := fun k => by rw [← hM2]; simp (disch := omega) only [mZ_nc, Nat.reduceAdd]
  have s14 : same M M2 (9 + 14) := fun k => by rw [← hM2]; simp (disch := omega) only [mZ_nc, Nat.reduceAdd]
  have s15 : same M M2 (9 + 15) := fun k => by rw [← hM2]; simp (disch := omega) only [mZ_nc, Nat.reduceAdd]
  have s16 : same M M2 (9 + 16) := fun k => by rw [← hM2]; simp (disch := omega) only [mZ_nc, Nat.reduceAdd]
  have s18 : same M M2 (9 + 18) := fun k => by rw [← hM2]; simp (disch := omega) only [mZ_nc, Nat.reduceAdd]
  have s19 : same M M2 (9 + 19) := fun k => by rw [← hM2]; simp (disch := omega) only [mZ_nc, Nat.reduceAdd]
  have hK : ∀ j : Int, 0 ≤ j → j < mZ M 481 264 → mZ M2 481 ((0 : Int) + (160 + 5 * j)).toNat = mZ M 481 ((0 : Int) + (160 + 5 * j)).toNat := fun j g1 g2 => by rw [← hM2]; simp (disch := omega) only [mZ_nc, mZ_ni, Int.zero_add, Int.reduceToNat, Int.reduceAdd, Nat.reduceAdd]
  have hK1 : ∀ j : Int, 0 ≤ j → j < mZ M 481 264 → mZ M2 481 ((0 : Int) + (160 + 5 * j + 1)).toNat = mZ M 481 ((0 : Int) + (160 + 5 * j + 1)).toNat := fun j g1 g2 => by rw [← hM2]; simp (disch := omega) only [mZ_nc, mZ_ni, Int.zero_add, Int.reduceToNat, Int.reduceAdd, Nat.reduceAdd]
  have hKn : mZ M2 481 ((0 : Int) + (160 + 5 * mZ M 481 264)).toNat = a := by rw [← hM2]; simp (disch := omega) only [mZ_nc, mZ_ni, mZ_eq, Int.zero_add, Int.reduceToNat, Int.reduceAdd, Nat.reduceAdd]
  have hKn1 : mZ M2 481 ((0 : Int) + (160 + 5 * mZ M 481 264 + 1)).toNat = b := by rw [← hM2]; simp (disch := omega) only [mZ_nc, mZ_ni, mZ_eq, Int.zero_add, Int.reduceToNat, Int.reduceAdd, Nat.reduceAdd]
  have hK4 : mZ M2 481 ((0 : Int) + 264).toNat = mZ M 481 264 + 1 := by rw [← hM2]; simp (disch := omega) only [mZ_nc, mZ_ni, mZ_eq, Int.zero_add, Int.reduceToNat, Int.reduceAdd, Nat.reduceAdd]
  have hno : ∀ j : Nat, (j : Int) < mZ M 481 264 → ¬ mZ M 481 ((0 : Int) + (160 + 5 * (j : Int))).toNat = a := by
    intro j hj
    have q := h6
    unfold hAt at q
    rcases ffr_cases (p := fun h : Nat => mZ M 481 ((0 : Int) + (160 + 5 * (h : Int))).toNat = a) (mZ M 481 ((0 : Int) + 264).toNat).toNat 0 with ⟨-, g⟩ | ⟨j2, g1, g2, g3, g4, g5⟩
    · exact g j (Nat.zero_le _) (by simp only [Int.zero_add, Int.reduceToNat]; omega)
    · rw [g4] at q; omega
  have hA : ∀ c, hAt M2 481 0 c = if c = a then mZ M 481 264 else hAt M 481 0 c := by
    intro c
    have e1 : ((mZ M 481 264).toNat : Int) = mZ M 481 264 := by omega
    by_cases e : c = a
    · rw [if_pos e, e]
      unfold hAt
      rw [hK4, ffr_unique (j := (mZ M 481 264).toNat) (Nat.zero_le _) (by omega) (by rw [e1]; exact hKn) (fun j g1 g2 => by rw [hK j (by omega) (by omega)]; exact hno j (by omega)), e1]
    · rw [if_neg e]
      rcases ffr_cases (p := fun h : Nat => mZ M 481 ((0 : Int) + (160 + 5 * (h : Int))).toNat = c) (mZ M 481 ((0 : Int) + 264).toNat).toNat 0 with ⟨g0, g⟩ | ⟨j2, g1, g2, g3, g4, g5⟩
      · simp only [Int.reduceToNat, Int.zero_add] at g0 g
        unfold hAt
        simp only [Int.reduceToNat, Int.zero_add] at hK4 hK hKn ⊢
        rw [g0, hK4]
        refine ffr_none (fun j q1 q2 => ?_)
        by_cases ej : (j : Int) = mZ M 481 264
        · rw [ej, hKn]; exact fun z => e z.symm
        · rw [hK j (by omega) (by omega)]; exact g j q1 (by omega)
      · simp only [Int.reduceToNat, Int.zero_add] at g2 g3 g4 g5
        unfold hAt
        simp only [Int.reduceToNat, Int.zero_add] at hK4 hK ⊢
        rw [g4, hK4]
        exact ffr_unique g1 (by omega) (by rw [hK j2 (by omega) (by omega)]; exact g3) (fun j q1 q2 => by rw [hK j (by omega) (by omega)]; exact g5 j q1 q2)
  constructor
  · obtain ⟨x2, x3, x5, x7, x8, x9, x10, x11, x12, x13, x14, x15, x16, x18, x19, xh, xs⟩ := Ra_iff.mp hR
    refine Ra_iff.mpr ⟨?_, ?_, ?_, ?_, ?_, ?_, ?_, ?_, ?_, ?_, ?_, ?_, ?_, ?_, ?_, ?_, ?_⟩
    · exact RaX_k x2 s2 q0 (fun c g1 g2 => by omega)
    · exact RaX_k x3 s3 q80 (fun c g1 g2 => by omega)
    · intro c g1 g2
      have this := x5 c g1 g2
      by_cases e : c = mZ M 481 264
      · rw [e, ← hM2]; simp (disch := omega) only [mZ_nc, mZ_ni, mZ_eq, Int.zero_add, Int.reduceToNat, Int.reduceAdd, Nat.reduceAdd]
      · rw [← hM2]; simp only [Int.zero_add, Nat.reduceAdd] at this; simp (disch := omega) only [mZ_nc, mZ_ni, Int.zero_add, Int.reduceToNat, Int.reduceAdd, Nat.reduceAdd]; exact this
    · intro c g1 g2
      have this := x7 c g1 g2
      by_cases e : c = mZ M 481 264
      · rw [e, ← hM2]; simp (disch := omega) only [mZ_nc, mZ_ni, mZ_eq, Int.zero_add, Int.reduceToNat, Int.reduceAdd, Nat.reduceAdd]
      · rw [← hM2]; simp only [Int.zero_add, Nat.reduceAdd] at this; simp (disch := omega) only [mZ_nc, mZ_ni, Int.zero_add, Int.reduceToNat, Int.reduceAdd, Nat.reduceAdd]; exact this
    · intro c g1 g2
      have this := x8 c g1 g2
      by_cases e : c = mZ M 481 264
      · rw [e, ← hM2]; simp (disch := omega) only [mZ_nc, mZ_ni, mZ_eq, Int.zero_add, Int.reduceToNat, Int.reduceAdd, Nat.reduceAdd]
      · rw [← hM2]; simp only [Int.zero_add, Nat.reduceAdd] at this; simp (disch := omega) only [mZ_nc, mZ_ni, Int.zero_add, Int.reduceToNat, Int.reduceAdd, Nat.reduceAdd]; exact this
    · intro c g1 g2
      have this := x9 c g1 g2
      by_cases e : c = mZ M 481 264
      · rw [e, ← hM2]; simp (disch := omega) only [mZ_nc, mZ_ni, mZ_eq, Int.zero_add, Int.reduceToNat, Int.reduceAdd, Nat.reduceAdd]
      · rw [← hM2]; simp only [Int.zero_add, Nat.reduceAdd] at this; simp (disch := omega) only [mZ_nc, mZ_ni, Int.zero_add, Int.reduceToNat, Int.reduceAdd, Nat.reduceAdd]; exact this
    · exact RaX_k x10 s10 q200 (fun c g1 g2 => by omega)
    · exact RaX_k x11 s11 q204 (fun c g1 g2 => by omega)
    · exact RaX_k x12 s12 q204 (fun c g1 g2 => by omega)
    · exact RaX_k x13 s13 q204 (fun c g1 g2 => by omega)
    · exact RaX_k x14 s14 q228 (fun c g1 g2 => by omega)
    · exact RaX_k x15 s15 q228 (fun c g1 g2 => by omega)
    · exact RaX_k x16 s16 q260 (fun c g1 g2 => by omega)
    · exact RaX_k x18 s18 q244 (fun c g1 g2 => by omega)
    · exact RaX_k x19 s19 q244 (fun c g1 g2 => by omega)
    · refine ⟨fun c g1 g2 => ?_, fun c g1 g2 => ?_⟩
      · rw [hA]
        have this := xh.1 c g1 g2
        by_cases e : c = a
        · rw [if_pos e, e, ← hM2]; simp (disch := omega) only [mZ_nc, mZ_ni, mZ_eq, Int.zero_add, Int.reduceToNat, Int.reduceAdd, Nat.reduceAdd]
        · rw [if_neg e, ← this, ← hM2]; simp (disch := omega) only [mZ_nc, mZ_ni, Int.zero_add, Int.reduceToNat, Int.reduceAdd, Nat.reduceAdd]
      · rw [hA]
        have this := xh.2 c g1 g2
        have hz := hAt_b (M := M) (arr := 481) (off := 0) (c := c)
        by_cases e : c = a
        · rw [if_pos e, if_neg (by omega), hKn1, e, ← hM2]; simp (disch := omega) only [mZ_nc, mZ_ni, mZ_eq, Int.zero_add, Int.reduceToNat, Int.reduceAdd, Nat.reduceAdd]
        · rw [if_neg e]
          have e15 : mZ M2 (9 + 6) c.toNat = mZ M (9 + 6) c.toNat := by rw [← hM2]; simp (disch := omega) only [mZ_nc, mZ_ni, Int.zero_add, Int.reduceToNat, Int.reduceAdd, Nat.reduceAdd]
          rw [e15, this]
          by_cases e0 : hAt M 481 0 c = -1
          · rw [if_pos e0, if_pos e0]
          · rw [if_neg e0, if_neg e0, hK1 _ (by omega) (by have := hz.2.2 hs4.1; simp only [Int.zero_add, Int.reduceToNat] at this; omega)]
    · refine ⟨?_, ?_, ?_, ?_, ?_, ?_, ?_⟩
      · rw [← hM2]; simp (disch := omega) only [mZ_nc, mZ_ni, mZ_eq, Int.zero_add, Int.reduceToNat, Int.reduceAdd, Nat.reduceAdd]
      · exact (show mZ M2 (9 + 1) 10 = mZ M (9 + 1) 10 by rw [← hM2]; simp (disch := omega) only [mZ_nc, mZ_ni, Nat.reduceAdd]).trans (xs.2.1.trans t265.symm)
      · exact (show mZ M2 9 10 = mZ M 9 10 by rw [← hM2]; simp (disch := omega) only [mZ_nc, mZ_ni, Nat.reduceAdd]).trans (xs.2.2.1.trans t266.symm)
      · exact (show mZ M2 9 11 = mZ M 9 11 by rw [← hM2]; simp (disch := omega) only [mZ_nc, mZ_ni, Nat.reduceAdd]).trans (xs.2.2.2.1.trans t267.symm)
      · exact (show mZ M2 9 14 = mZ M 9 14 by rw [← hM2]; simp (disch := omega) only [mZ_nc, mZ_ni, Nat.reduceAdd]).trans (xs.2.2.2.2.1.trans t268.symm)
      · exact (show mZ M2 9 12 = mZ M 9 12 by rw [← hM2]; simp (disch := omega) only [mZ_nc, mZ_ni, Nat.reduceAdd]).trans (xs.2.2.2.2.2.1.trans t269.symm)
      · exact (show mZ M2 9 13 = mZ M 9 13 by rw [← hM2]; simp (disch := omega) only [mZ_nc, mZ_ni, Nat.reduceAdd]).trans (xs.2.2.2.2.2.2.trans t270.symm)
  · obtain ⟨w1, w2, w3, w4, w7, w8, w10, w11⟩ := WFk_iff.mp hw
    refine WFk_iff.mpr ⟨?_, ?_, ?_, ?_, ?_, ?_, ?_, ?_⟩
    · obtain ⟨v4, v5, v6, v7, v8, v9, v10, u0, u1, u2, u3⟩ := w1
      refine ⟨?_, ?_, ?_, ?_, ?_, ?_, ?_, ?_, ?_, ?_, ?_⟩
      · rw [← hM2]; simp (disch := omega) only [mZ_nc, mZ_ni, mZ_eq, Int.zero_add, Int.reduceToNat, Int.reduceAdd, Nat.reduceAdd]; omega
      · rw [t265]; exact v5
      · rw [t266]; exact v6
      · rw [t267]; exact v7
      · rw [t268]; exact v8
      · rw [t269]; exact v9
      · rw [t270, t269]; exact v10
      · rw [q260 260 (by decide) (by decide)]; exact u0
      · rw [q260 261 (by decide) (by decide)]; exact u1
      · rw [q260 262 (by decide) (by decide)]; exact u2
      · rw [q260 263 (by decide) (by decide)]; exact u3
    · exact W2_k w2 q0
    · exact W3_k w3 q80
    · obtain ⟨a1, a2, a3⟩ := w4
      refine ⟨fun c g1 g2 => ?_, fun c g1 g2 => ?_, fun c k g1 g2 g3 => ?_⟩
      · rw [hK4] at g2
        by_cases e : c = mZ M 481 264
        · rw [e, hKn, hKn1]; omega
        · rw [hK c g1 (by omega), hK1 c g1 (by omega)]; exact a1 c g1 (by simp only [Int.zero_add, Int.reduceToNat]; omega)
      · by_cases e : c = mZ M 481 264
        · rw [e, ← hM2]; simp (disch := omega) only [mZ_nc, mZ_ni, mZ_eq, Int.zero_add, Int.reduceToNat, Int.reduceAdd, Nat.reduceAdd]; omega
        · have this := a2 c g1 g2
          simp only [Int.zero_add] at this
          rw [← hM2]; simp (disch := omega) only [mZ_nc, mZ_ni, Int.zero_add, Int.reduceToNat, Int.reduceAdd, Nat.reduceAdd]; exact this
      · rw [hK4] at g3
        by_cases e : k = mZ M 481 264
        · rw [e, hKn, hK c g1 (by omega)]
          have := hno c.toNat (by omega)
          rw [show ((c.toNat : Nat) : Int) = c by omega] at this
          exact this
        · rw [hK c g1 (by omega), hK k (by omega) (by omega)]; exact a3 c k g1 g2 (by simp only [Int.zero_add, Int.reduceToNat]; omega)
    · exact W7_k w7 hs5.2 q200 t265
    · exact W8_k w8 hs6.2 q204 t266
    · exact W10_k w10 hs7.2 q228 t267 (by rw [hK4]; simp only [Int.zero_add, Int.reduceToNat]; omega)
    · exact W11_k w11 hs8.2 q244 t268

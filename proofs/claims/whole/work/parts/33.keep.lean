/-! what a change of some cells keeps -/
theorem hAt_of {M M2 : qMe} {arr : Nat} {off c : Int} (h0 : mZ M2 arr (off + 264).toNat = mZ M arr (off + 264).toNat) (hb : mZ M arr (off + 264).toNat ≤ 8) (h : ∀ k : Int, 0 ≤ k → k < 8 → mZ M2 arr (off + (160 + 5 * k)).toNat = mZ M arr (off + (160 + 5 * k)).toNat) : hAt M2 arr off c = hAt M arr off c := by
  unfold hAt
  rw [h0]
  refine ffr_congr _ _ (fun j g1 g2 => ?_)
  rw [h (j : Int) (by omega) (by omega)]
theorem WFk_of {M M2 : qMe} {arr : Nat} {off : Int} (hw : WFk M arr off) (h : ∀ k, mZ M2 arr k = mZ M arr k) : WFk M2 arr off := by
  unfold WFk at *
  simp only [h]
  exact hw
theorem hAt_eq {M M2 : qMe} {arr : Nat} {off c : Int} (h : ∀ k, mZ M2 arr k = mZ M arr k) : hAt M2 arr off c = hAt M arr off c := by
  unfold hAt
  simp only [h]
theorem Ra_of {M M2 : qMe} {a arr : Nat} {off : Int} (hR : Ra M a arr off) (h : ∀ k, mZ M2 arr k = mZ M arr k) (h2 : ∀ i, a ≤ i → i < a + 20 → ∀ k, mZ M2 i k = mZ M i k) : Ra M2 a arr off := by
  unfold Ra at *
  simp only [h, hAt_eq h, h2 (a + 2) (by omega) (by omega), h2 (a + 3) (by omega) (by omega), h2 (a + 4) (by omega) (by omega), h2 (a + 5) (by omega) (by omega), h2 (a + 6) (by omega) (by omega), h2 (a + 7) (by omega) (by omega), h2 (a + 8) (by omega) (by omega), h2 (a + 9) (by omega) (by omega), h2 (a + 10) (by omega) (by omega), h2 (a + 11) (by omega) (by omega), h2 (a + 12) (by omega) (by omega), h2 (a + 13) (by omega) (by omega), h2 (a + 14) (by omega) (by omega), h2 (a + 15) (by omega) (by omega), h2 (a + 16) (by omega) (by omega), h2 (a + 18) (by omega) (by omega), h2 (a + 19) (by omega) (by omega), h2 (a + 1) (by omega) (by omega), h2 a (by omega) (by omega)]
  exact hR
theorem WFk_I {M : qMe} {arr i k : Nat} {x : Int32} {off : Int} (hw : WFk M arr off) (hi : ¬ arr = i) : WFk (qsI M i k x) arr off := WFk_of hw (fun k => by rw [mZ_I, if_neg hi])
theorem Ra_I {M : qMe} {a arr i k : Nat} {x : Int32} {off : Int} (hR : Ra M a arr off) (hi : ¬ arr = i) (h2 : i < a ∨ a + 20 ≤ i) : Ra (qsI M i k x) a arr off := Ra_of hR (fun k => by rw [mZ_I, if_neg hi]) (fun j g1 g2 k => by rw [mZ_I, if_neg (by omega)])
/-- a height told on both sides -/
theorem K_height {M : qMe} {a b : Int} (hw : WFk M 481 0) (hR : Ra M 9 481 0) (h1 : 0 ≤ a) (h2 : a < 80) (h3 : 0 ≤ b) (h4 : b ≤ 99) : Ra (qsI (qsI M 11 a.toNat (iz b)) 481 a.toNat (iz b)) 9 481 0 ∧ WFk (qsI (qsI M 11 a.toNat (iz b)) 481 a.toNat (iz b)) 481 0 := by
  have hs := WFk_s hw
  have hA : ∀ c, hAt (qsI (qsI M 11 a.toNat (iz b)) 481 a.toNat (iz b)) 481 0 c = hAt M 481 0 c := by
    intro c
    refine hAt_of ?_ (by simp only [Int.zero_add, Int.reduceToNat]; omega) (fun k g1 g2 => ?_) <;> simp (disch := omega) only [mZ_Iz, if_neg, if_pos, Nat.reduceEqDiff, if_true, if_false, reduceIte]
  obtain ⟨r1, r2, r3, r4, r5, r6, r7, r8, r9, r10, r11, r12, r13, r14, r15, r16, r17, r18⟩ := hR
  obtain ⟨w1, w2, w3, w4, w5, w6, w7, w8, w9, w10, w11⟩ := hw
  constructor
  · refine ⟨fun c g1 g2 => ?_, fun c g1 g2 => ?_, fun c g1 g2 => ?_, fun c g1 g2 => ?_, fun c g1 g2 => ?_, fun c g1 g2 => ?_, fun c g1 g2 => ?_, fun c g1 g2 => ?_, fun c g1 g2 => ?_, fun c g1 g2 => ?_, fun c g1 g2 => ?_, fun c g1 g2 => ?_, fun c g1 g2 => ?_, fun c g1 g2 => ?_, fun c g1 g2 => ?_, fun c g1 g2 => ?_, fun c g1 g2 => ?_, ?_⟩
    · have this := r1 c g1 g2
      simp only [Int.zero_add, Nat.reduceAdd] at this
      by_cases e : c = a
      · rw [e]; simp (disch := omega) only [mZ_Iz, mZ_ge, mZ_lt, Int.zero_add, if_neg, if_pos, Nat.reduceAdd, Nat.reduceEqDiff, if_true, if_false, reduceIte, hA]
      · simp (disch := omega) only [mZ_Iz, mZ_ge, mZ_lt, Int.zero_add, if_neg, if_pos, Nat.reduceAdd, Nat.reduceEqDiff, if_true, if_false, reduceIte, hA]; exact this
    · have this := r2 c g1 g2
      simp only [Int.zero_add, Nat.reduceAdd] at this
      simp (disch := omega) only [mZ_Iz, mZ_ge, mZ_lt, Int.zero_add, if_neg, if_pos, Nat.reduceAdd, Nat.reduceEqDiff, if_true, if_false, reduceIte, hA]; exact this
    · have this := r3 c g1 g2
      simp only [Int.zero_add, Nat.reduceAdd] at this
      simp (disch := omega) only [mZ_Iz, mZ_ge, mZ_lt, Int.zero_add, if_neg, if_pos, Nat.reduceAdd, Nat.reduceEqDiff, if_true, if_false, reduceIte, hA]; exact this
    · have this := r4 c g1 g2
      simp only [Int.zero_add, Nat.reduceAdd] at this
      simp (disch := omega) only [mZ_Iz, mZ_ge, mZ_lt, Int.zero_add, if_neg, if_pos, Nat.reduceAdd, Nat.reduceEqDiff, if_true, if_false, reduceIte, hA]; exact this
    · have this := r5 c g1 g2
      simp only [Int.zero_add, Nat.reduceAdd] at this
      have hb := hAt_b (M := M) (arr := 481) (off := 0) (c := c)
      simp only [Int.zero_add, Int.reduceToNat] at hb
      by_cases e0 : hAt M 481 0 c = -1
      · simp (disch := omega) only [mZ_Iz, mZ_ge, mZ_lt, Int.zero_add, if_neg, if_pos, Nat.reduceAdd, Nat.reduceEqDiff, if_true, if_false, reduceIte, hA, e0] at this ⊢; exact this
      · simp (disch := omega) only [mZ_Iz, mZ_ge, mZ_lt, Int.zero_add, if_neg, if_pos, Nat.reduceAdd, Nat.reduceEqDiff, if_true, if_false, reduceIte, hA, e0] at this ⊢; exact this
    · have this := r6 c g1 g2
      simp only [Int.zero_add, Nat.reduceAdd] at this
      simp (disch := omega) only [mZ_Iz, mZ_ge, mZ_lt, Int.zero_add, if_neg, if_pos, Nat.reduceAdd, Nat.reduceEqDiff, if_true, if_false, reduceIte, hA]; exact this
    · have this := r7 c g1 g2
      simp only [Int.zero_add, Nat.reduceAdd] at this
      simp (disch := omega) only [mZ_Iz, mZ_ge, mZ_lt, Int.zero_add, if_neg, if_pos, Nat.reduceAdd, Nat.reduceEqDiff, if_true, if_false, reduceIte, hA]; exact this
    · have this := r8 c g1 g2
      simp only [Int.zero_add, Nat.reduceAdd] at this
      simp (disch := omega) only [mZ_Iz, mZ_ge, mZ_lt, Int.zero_add, if_neg, if_pos, Nat.reduceAdd, Nat.reduceEqDiff, if_true, if_false, reduceIte, hA]; exact this
    · have this := r9 c g1 g2
      simp only [Int.zero_add, Nat.reduceAdd] at this
      simp (disch := omega) only [mZ_Iz, mZ_ge, mZ_lt, Int.zero_add, if_neg, if_pos, Nat.reduceAdd, Nat.reduceEqDiff, if_true, if_false, reduceIte, hA]; exact this
    · have this := r10 c g1 g2
      simp only [Int.zero_add, Nat.reduceAdd] at this
      simp (disch := omega) only [mZ_Iz, mZ_ge, mZ_lt, Int.zero_add, if_neg, if_pos, Nat.reduceAdd, Nat.reduceEqDiff, if_true, if_false, reduceIte, hA]; exact this
    · have this := r11 c g1 g2
      simp only [Int.zero_add, Nat.reduceAdd] at this
      simp (disch := omega) only [mZ_Iz, mZ_ge, mZ_lt, Int.zero_add, if_neg, if_pos, Nat.reduceAdd, Nat.reduceEqDiff, if_true, if_false, reduceIte, hA]; exact this
    · have this := r12 c g1 g2
      simp only [Int.zero_add, Nat.reduceAdd] at this
      simp (disch := omega) only [mZ_Iz, mZ_ge, mZ_lt, Int.zero_add, if_neg, if_pos, Nat.reduceAdd, Nat.reduceEqDiff, if_true, if_false, reduceIte, hA]; exact this
    · have this := r13 c g1 g2
      simp only [Int.zero_add, Nat.reduceAdd] at this
      simp (disch := omega) only [mZ_Iz, mZ_ge, mZ_lt, Int.zero_add, if_neg, if_pos, Nat.reduceAdd, Nat.reduceEqDiff, if_true, if_false, reduceIte, hA]; exact this
    · have this := r14 c g1 g2
      simp only [Int.zero_add, Nat.reduceAdd] at this
      simp (disch := omega) only [mZ_Iz, mZ_ge, mZ_lt, Int.zero_add, if_neg, if_pos, Nat.reduceAdd, Nat.reduceEqDiff, if_true, if_false, reduceIte, hA]; exact this
    · have this := r15 c g1 g2
      simp only [Int.zero_add, Nat.reduceAdd] at this
      simp (disch := omega) only [mZ_Iz, mZ_ge, mZ_lt, Int.zero_add, if_neg, if_pos, Nat.reduceAdd, Nat.reduceEqDiff, if_true, if_false, reduceIte, hA]; exact this
    · have this := r16 c g1 g2
      simp only [Int.zero_add, Nat.reduceAdd] at this
      simp (disch := omega) only [mZ_Iz, mZ_ge, mZ_lt, Int.zero_add, if_neg, if_pos, Nat.reduceAdd, Nat.reduceEqDiff, if_true, if_false, reduceIte, hA]; exact this
    · have this := r17 c g1 g2
      simp only [Int.zero_add, Nat.reduceAdd] at this
      simp (disch := omega) only [mZ_Iz, mZ_ge, mZ_lt, Int.zero_add, if_neg, if_pos, Nat.reduceAdd, Nat.reduceEqDiff, if_true, if_false, reduceIte, hA]; exact this
    · simp (disch := omega) only [mZ_Iz, mZ_ge, mZ_lt, Int.zero_add, if_neg, if_pos, Nat.reduceAdd, Nat.reduceEqDiff, if_true, if_false, reduceIte, hA]; simp only [Int.zero_add, Nat.reduceAdd] at r18; exact r18
  · refine ⟨?_, fun c g1 g2 => ?_, fun c g1 g2 => ?_, fun c g1 g2 => ?_, fun c g1 g2 => ?_, fun c k g1 g2 g3 => ?_, fun c g1 g2 => ?_, fun c g1 g2 => ?_, fun c g1 g2 => ?_, fun c g1 g2 => ?_, fun c g1 g2 => ?_⟩
    · have this := w1
      simp only [Int.zero_add, Int.reduceAdd, Int.reduceToNat] at this
      simp (disch := omega) only [mZ_Iz, Int.zero_add, Int.reduceAdd, Int.reduceToNat, if_neg, if_pos, Nat.reduceAdd, Nat.reduceEqDiff, if_true, if_false, reduceIte]; exact this
    · have this := w2 c g1 g2
      by_cases e : c = a
      · rw [e]; simp (disch := omega) only [mZ_Iz, Int.zero_add, Int.reduceAdd, Int.reduceToNat, if_neg, if_pos, Nat.reduceAdd, Nat.reduceEqDiff, if_true, if_false, reduceIte]; omega
      · simp only [Int.zero_add, Int.reduceAdd, Int.reduceToNat] at this; simp (disch := omega) only [mZ_Iz, Int.zero_add, Int.reduceAdd, Int.reduceToNat, if_neg, if_pos, Nat.reduceAdd, Nat.reduceEqDiff, if_true, if_false, reduceIte]; exact this
    · have this := w3 c g1 g2
      simp only [Int.zero_add, Int.reduceAdd, Int.reduceToNat] at this
      simp (disch := omega) only [mZ_Iz, Int.zero_add, Int.reduceAdd, Int.reduceToNat, if_neg, if_pos, Nat.reduceAdd, Nat.reduceEqDiff, if_true, if_false, reduceIte]; exact this
    · simp (disch := omega) only [mZ_Iz, Int.zero_add, Int.reduceAdd, Int.reduceToNat, if_neg, if_pos, Nat.reduceAdd, Nat.reduceEqDiff, if_true, if_false, reduceIte] at g2
      have this := w4 c g1 g2
      simp only [Int.zero_add, Int.reduceAdd, Int.reduceToNat] at this
      simp (disch := omega) only [mZ_Iz, Int.zero_add, Int.reduceAdd, Int.reduceToNat, if_neg, if_pos, Nat.reduceAdd, Nat.reduceEqDiff, if_true, if_false, reduceIte]; exact this
    · have this := w5 c g1 g2
      simp only [Int.zero_add, Int.reduceAdd, Int.reduceToNat] at this
      simp (disch := omega) only [mZ_Iz, Int.zero_add, Int.reduceAdd, Int.reduceToNat, if_neg, if_pos, Nat.reduceAdd, Nat.reduceEqDiff, if_true, if_false, reduceIte]; exact this
    · simp (disch := omega) only [mZ_Iz, Int.zero_add, Int.reduceAdd, Int.reduceToNat, if_neg, if_pos, Nat.reduceAdd, Nat.reduceEqDiff, if_true, if_false, reduceIte] at g3
      have this := w6 c k g1 g2 g3
      simp only [Int.zero_add, Int.reduceAdd, Int.reduceToNat] at this
      simp (disch := omega) only [mZ_Iz, Int.zero_add, Int.reduceAdd, Int.reduceToNat, if_neg, if_pos, Nat.reduceAdd, Nat.reduceEqDiff, if_true, if_false, reduceIte]; exact this
    · simp (disch := omega) only [mZ_Iz, Int.zero_add, Int.reduceAdd, Int.reduceToNat, if_neg, if_pos, Nat.reduceAdd, Nat.reduceEqDiff, if_true, if_false, reduceIte] at g2
      have this := w7 c g1 g2
      simp only [Int.zero_add, Int.reduceAdd, Int.reduceToNat] at this
      simp (disch := omega) only [mZ_Iz, Int.zero_add, Int.reduceAdd, Int.reduceToNat, if_neg, if_pos, Nat.reduceAdd, Nat.reduceEqDiff, if_true, if_false, reduceIte]; exact this
    · simp (disch := omega) only [mZ_Iz, Int.zero_add, Int.reduceAdd, Int.reduceToNat, if_neg, if_pos, Nat.reduceAdd, Nat.reduceEqDiff, if_true, if_false, reduceIte] at g2
      have this := w8 c g1 g2
      simp only [Int.zero_add, Int.reduceAdd, Int.reduceToNat] at this
      simp (disch := omega) only [mZ_Iz, Int.zero_add, Int.reduceAdd, Int.reduceToNat, if_neg, if_pos, Nat.reduceAdd, Nat.reduceEqDiff, if_true, if_false, reduceIte]; exact this
    · have this := w9 c g1 g2
      simp only [Int.zero_add, Int.reduceAdd, Int.reduceToNat] at this
      simp (disch := omega) only [mZ_Iz, Int.zero_add, Int.reduceAdd, Int.reduceToNat, if_neg, if_pos, Nat.reduceAdd, Nat.reduceEqDiff, if_true, if_false, reduceIte]; exact this
    · simp (disch := omega) only [mZ_Iz, Int.zero_add, Int.reduceAdd, Int.reduceToNat, if_neg, if_pos, Nat.reduceAdd, Nat.reduceEqDiff, if_true, if_false, reduceIte] at g2
      have this := w10 c g1 g2
      simp only [Int.zero_add, Int.reduceAdd, Int.reduceToNat] at this
      simp (disch := omega) only [mZ_Iz, Int.zero_add, Int.reduceAdd, Int.reduceToNat, if_neg, if_pos, Nat.reduceAdd, Nat.reduceEqDiff, if_true, if_false, reduceIte]; exact this
    · simp (disch := omega) only [mZ_Iz, Int.zero_add, Int.reduceAdd, Int.reduceToNat, if_neg, if_pos, Nat.reduceAdd, Nat.reduceEqDiff, if_true, if_false, reduceIte] at g2
      have this := w11 c g1 g2
      simp only [Int.zero_add, Int.reduceAdd, Int.reduceToNat] at this
      simp (disch := omega) only [mZ_Iz, Int.zero_add, Int.reduceAdd, Int.reduceToNat, if_neg, if_pos, Nat.reduceAdd, Nat.reduceEqDiff, if_true, if_false, reduceIte]; exact this
/-- a fence told on both sides -/
theorem K_fence {M : qMe} {a b : Int} (hw : WFk M 481 0) (hR : Ra M 9 481 0) (h1 : 0 ≤ a) (h2 : a < 80) (h3 : 0 ≤ b) (h4 : b ≤ 9) : Ra (qsI (qsI M 12 a.toNat (iz b)) 481 (80 + a).toNat (iz b)) 9 481 0 ∧ WFk (qsI (qsI M 12 a.toNat (iz b)) 481 (80 + a).toNat (iz b)) 481 0 := by
  have hs := WFk_s hw
  have hA : ∀ c, hAt (qsI (qsI M 12 a.toNat (iz b)) 481 (80 + a).toNat (iz b)) 481 0 c = hAt M 481 0 c := by
    intro c
    refine hAt_of ?_ (by simp only [Int.zero_add, Int.reduceToNat]; omega) (fun k g1 g2 => ?_) <;> simp (disch := omega) only [mZ_Iz, if_neg, if_pos, Nat.reduceEqDiff, if_true, if_false, reduceIte]
  obtain ⟨r1, r2, r3, r4, r5, r6, r7, r8, r9, r10, r11, r12, r13, r14, r15, r16, r17, r18⟩ := hR
  obtain ⟨w1, w2, w3, w4, w5, w6, w7, w8, w9, w10, w11⟩ := hw
  constructor
  · refine ⟨fun c g1 g2 => ?_, fun c g1 g2 => ?_, fun c g1 g2 => ?_, fun c g1 g2 => ?_, fun c g1 g2 => ?_, fun c g1 g2 => ?_, fun c g1 g2 => ?_, fun c g1 g2 => ?_, fun c g1 g2 => ?_, fun c g1 g2 => ?_, fun c g1 g2 => ?_, fun c g1 g2 => ?_, fun c g1 g2 => ?_, fun c g1 g2 => ?_, fun c g1 g2 => ?_, fun c g1 g2 => ?_, fun c g1 g2 => ?_, ?_⟩
    · have this := r1 c g1 g2
      simp only [Int.zero_add, Nat.reduceAdd] at this
      simp (disch := omega) only [mZ_Iz, mZ_ge, mZ_lt, Int.zero_add, if_neg, if_pos, Nat.reduceAdd, Nat.reduceEqDiff, if_true, if_false, reduceIte, hA]; exact this
    · have this := r2 c g1 g2
      simp only [Int.zero_add, Nat.reduceAdd] at this
      by_cases e : c = a
      · rw [e]; simp (disch := omega) only [mZ_Iz, mZ_ge, mZ_lt, Int.zero_add, if_neg, if_pos, Nat.reduceAdd, Nat.reduceEqDiff, if_true, if_false, reduceIte, hA]
      · simp (disch := omega) only [mZ_Iz, mZ_ge, mZ_lt, Int.zero_add, if_neg, if_pos, Nat.reduceAdd, Nat.reduceEqDiff, if_true, if_false, reduceIte, hA]; exact this
    · have this := r3 c g1 g2
      simp only [Int.zero_add, Nat.reduceAdd] at this
      simp (disch := omega) only [mZ_Iz, mZ_ge, mZ_lt, Int.zero_add, if_neg, if_pos, Nat.reduceAdd, Nat.reduceEqDiff, if_true, if_false, reduceIte, hA]; exact this
    · have this := r4 c g1 g2
      simp only [Int.zero_add, Nat.reduceAdd] at this
      simp (disch := omega) only [mZ_Iz, mZ_ge, mZ_lt, Int.zero_add, if_neg, if_pos, Nat.reduceAdd, Nat.reduceEqDiff, if_true, if_false, reduceIte, hA]; exact this
    · have this := r5 c g1 g2
      simp only [Int.zero_add, Nat.reduceAdd] at this
      have hb := hAt_b (M := M) (arr := 481) (off := 0) (c := c)
      simp only [Int.zero_add, Int.reduceToNat] at hb
      by_cases e0 : hAt M 481 0 c = -1
      · simp (disch := omega) only [mZ_Iz, mZ_ge, mZ_lt, Int.zero_add, if_neg, if_pos, Nat.reduceAdd, Nat.reduceEqDiff, if_true, if_false, reduceIte, hA, e0] at this ⊢; exact this
      · simp (disch := omega) only [mZ_Iz, mZ_ge, mZ_lt, Int.zero_add, if_neg, if_pos, Nat.reduceAdd, Nat.reduceEqDiff, if_true, if_false, reduceIte, hA, e0] at this ⊢; exact this
    · have this := r6 c g1 g2
      simp only [Int.zero_add, Nat.reduceAdd] at this
      simp (disch := omega) only [mZ_Iz, mZ_ge, mZ_lt, Int.zero_add, if_neg, if_pos, Nat.reduceAdd, Nat.reduceEqDiff, if_true, if_false, reduceIte, hA]; exact this
    · have this := r7 c g1 g2
      simp only [Int.zero_add, Nat.reduceAdd] at this
      simp (disch := omega) only [mZ_Iz, mZ_ge, mZ_lt, Int.zero_add, if_neg, if_pos, Nat.reduceAdd, Nat.reduceEqDiff, if_true, if_false, reduceIte, hA]; exact this
    · have this := r8 c g1 g2
      simp only [Int.zero_add, Nat.reduceAdd] at this
      simp (disch := omega) only [mZ_Iz, mZ_ge, mZ_lt, Int.zero_add, if_neg, if_pos, Nat.reduceAdd, Nat.reduceEqDiff, if_true, if_false, reduceIte, hA]; exact this
    · have this := r9 c g1 g2
      simp only [Int.zero_add, Nat.reduceAdd] at this
      simp (disch := omega) only [mZ_Iz, mZ_ge, mZ_lt, Int.zero_add, if_neg, if_pos, Nat.reduceAdd, Nat.reduceEqDiff, if_true, if_false, reduceIte, hA]; exact this
    · have this := r10 c g1 g2
      simp only [Int.zero_add, Nat.reduceAdd] at this
      simp (disch := omega) only [mZ_Iz, mZ_ge, mZ_lt, Int.zero_add, if_neg, if_pos, Nat.reduceAdd, Nat.reduceEqDiff, if_true, if_false, reduceIte, hA]; exact this
    · have this := r11 c g1 g2
      simp only [Int.zero_add, Nat.reduceAdd] at this
      simp (disch := omega) only [mZ_Iz, mZ_ge, mZ_lt, Int.zero_add, if_neg, if_pos, Nat.reduceAdd, Nat.reduceEqDiff, if_true, if_false, reduceIte, hA]; exact this
    · have this := r12 c g1 g2
      simp only [Int.zero_add, Nat.reduceAdd] at this
      simp (disch := omega) only [mZ_Iz, mZ_ge, mZ_lt, Int.zero_add, if_neg, if_pos, Nat.reduceAdd, Nat.reduceEqDiff, if_true, if_false, reduceIte, hA]; exact this
    · have this := r13 c g1 g2
      simp only [Int.zero_add, Nat.reduceAdd] at this
      simp (disch := omega) only [mZ_Iz, mZ_ge, mZ_lt, Int.zero_add, if_neg, if_pos, Nat.reduceAdd, Nat.reduceEqDiff, if_true, if_false, reduceIte, hA]; exact this
    · have this := r14 c g1 g2
      simp only [Int.zero_add, Nat.reduceAdd] at this
      simp (disch := omega) only [mZ_Iz, mZ_ge, mZ_lt, Int.zero_add, if_neg, if_pos, Nat.reduceAdd, Nat.reduceEqDiff, if_true, if_false, reduceIte, hA]; exact this
    · have this := r15 c g1 g2
      simp only [Int.zero_add, Nat.reduceAdd] at this
      simp (disch := omega) only [mZ_Iz, mZ_ge, mZ_lt, Int.zero_add, if_neg, if_pos, Nat.reduceAdd, Nat.reduceEqDiff, if_true, if_false, reduceIte, hA]; exact this
    · have this := r16 c g1 g2
      simp only [Int.zero_add, Nat.reduceAdd] at this
      simp (disch := omega) only [mZ_Iz, mZ_ge, mZ_lt, Int.zero_add, if_neg, if_pos, Nat.reduceAdd, Nat.reduceEqDiff, if_true, if_false, reduceIte, hA]; exact this
    · have this := r17 c g1 g2
      simp only [Int.zero_add, Nat.reduceAdd] at this
      simp (disch := omega) only [mZ_Iz, mZ_ge, mZ_lt, Int.zero_add, if_neg, if_pos, Nat.reduceAdd, Nat.reduceEqDiff, if_true, if_false, reduceIte, hA]; exact this
    · simp (disch := omega) only [mZ_Iz, mZ_ge, mZ_lt, Int.zero_add, if_neg, if_pos, Nat.reduceAdd, Nat.reduceEqDiff, if_true, if_false, reduceIte, hA]; simp only [Int.zero_add, Nat.reduceAdd] at r18; exact r18
  · refine ⟨?_, fun c g1 g2 => ?_, fun c g1 g2 => ?_, fun c g1 g2 => ?_, fun c g1 g2 => ?_, fun c k g1 g2 g3 => ?_, fun c g1 g2 => ?_, fun c g1 g2 => ?_, fun c g1 g2 => ?_, fun c g1 g2 => ?_, fun c g1 g2 => ?_⟩
    · have this := w1
      simp only [Int.zero_add, Int.reduceAdd, Int.reduceToNat] at this
      simp (disch := omega) only [mZ_Iz, Int.zero_add, Int.reduceAdd, Int.reduceToNat, if_neg, if_pos, Nat.reduceAdd, Nat.reduceEqDiff, if_true, if_false, reduceIte]; exact this
    · have this := w2 c g1 g2
      simp only [Int.zero_add, Int.reduceAdd, Int.reduceToNat] at this
      simp (disch := omega) only [mZ_Iz, Int.zero_add, Int.reduceAdd, Int.reduceToNat, if_neg, if_pos, Nat.reduceAdd, Nat.reduceEqDiff, if_true, if_false, reduceIte]; exact this
    · have this := w3 c g1 g2
      by_cases e : c = a
      · rw [e]; simp (disch := omega) only [mZ_Iz, Int.zero_add, Int.reduceAdd, Int.reduceToNat, if_neg, if_pos, Nat.reduceAdd, Nat.reduceEqDiff, if_true, if_false, reduceIte]; omega
      · simp only [Int.zero_add, Int.reduceAdd, Int.reduceToNat] at this; simp (disch := omega) only [mZ_Iz, Int.zero_add, Int.reduceAdd, Int.reduceToNat, if_neg, if_pos, Nat.reduceAdd, Nat.reduceEqDiff, if_true, if_false, reduceIte]; exact this
    · simp (disch := omega) only [mZ_Iz, Int.zero_add, Int.reduceAdd, Int.reduceToNat, if_neg, if_pos, Nat.reduceAdd, Nat.reduceEqDiff, if_true, if_false, reduceIte] at g2
      have this := w4 c g1 g2
      simp only [Int.zero_add, Int.reduceAdd, Int.reduceToNat] at this
      simp (disch := omega) only [mZ_Iz, Int.zero_add, Int.reduceAdd, Int.reduceToNat, if_neg, if_pos, Nat.reduceAdd, Nat.reduceEqDiff, if_true, if_false, reduceIte]; exact this
    · have this := w5 c g1 g2
      simp only [Int.zero_add, Int.reduceAdd, Int.reduceToNat] at this
      simp (disch := omega) only [mZ_Iz, Int.zero_add, Int.reduceAdd, Int.reduceToNat, if_neg, if_pos, Nat.reduceAdd, Nat.reduceEqDiff, if_true, if_false, reduceIte]; exact this
    · simp (disch := omega) only [mZ_Iz, Int.zero_add, Int.reduceAdd, Int.reduceToNat, if_neg, if_pos, Nat.reduceAdd, Nat.reduceEqDiff, if_true, if_false, reduceIte] at g3
      have this := w6 c k g1 g2 g3
      simp only [Int.zero_add, Int.reduceAdd, Int.reduceToNat] at this
      simp (disch := omega) only [mZ_Iz, Int.zero_add, Int.reduceAdd, Int.reduceToNat, if_neg, if_pos, Nat.reduceAdd, Nat.reduceEqDiff, if_true, if_false, reduceIte]; exact this
    · simp (disch := omega) only [mZ_Iz, Int.zero_add, Int.reduceAdd, Int.reduceToNat, if_neg, if_pos, Nat.reduceAdd, Nat.reduceEqDiff, if_true, if_false, reduceIte] at g2
      have this := w7 c g1 g2
      simp only [Int.zero_add, Int.reduceAdd, Int.reduceToNat] at this
      simp (disch := omega) only [mZ_Iz, Int.zero_add, Int.reduceAdd, Int.reduceToNat, if_neg, if_pos, Nat.reduceAdd, Nat.reduceEqDiff, if_true, if_false, reduceIte]; exact this
    · simp (disch := omega) only [mZ_Iz, Int.zero_add, Int.reduceAdd, Int.reduceToNat, if_neg, if_pos, Nat.reduceAdd, Nat.reduceEqDiff, if_true, if_false, reduceIte] at g2
      have this := w8 c g1 g2
      simp only [Int.zero_add, Int.reduceAdd, Int.reduceToNat] at this
      simp (disch := omega) only [mZ_Iz, Int.zero_add, Int.reduceAdd, Int.reduceToNat, if_neg, if_pos, Nat.reduceAdd, Nat.reduceEqDiff, if_true, if_false, reduceIte]; exact this
    · have this := w9 c g1 g2
      simp only [Int.zero_add, Int.reduceAdd, Int.reduceToNat] at this
      simp (disch := omega) only [mZ_Iz, Int.zero_add, Int.reduceAdd, Int.reduceToNat, if_neg, if_pos, Nat.reduceAdd, Nat.reduceEqDiff, if_true, if_false, reduceIte]; exact this
    · simp (disch := omega) only [mZ_Iz, Int.zero_add, Int.reduceAdd, Int.reduceToNat, if_neg, if_pos, Nat.reduceAdd, Nat.reduceEqDiff, if_true, if_false, reduceIte] at g2
      have this := w10 c g1 g2
      simp only [Int.zero_add, Int.reduceAdd, Int.reduceToNat] at this
      simp (disch := omega) only [mZ_Iz, Int.zero_add, Int.reduceAdd, Int.reduceToNat, if_neg, if_pos, Nat.reduceAdd, Nat.reduceEqDiff, if_true, if_false, reduceIte]; exact this
    · simp (disch := omega) only [mZ_Iz, Int.zero_add, Int.reduceAdd, Int.reduceToNat, if_neg, if_pos, Nat.reduceAdd, Nat.reduceEqDiff, if_true, if_false, reduceIte] at g2
      have this := w11 c g1 g2
      simp only [Int.zero_add, Int.reduceAdd, Int.reduceToNat] at this
      simp (disch := omega) only [mZ_Iz, Int.zero_add, Int.reduceAdd, Int.reduceToNat, if_neg, if_pos, Nat.reduceAdd, Nat.reduceEqDiff, if_true, if_false, reduceIte]; exact this
/-- a reply told on both sides -/
theorem K_reply {M : qMe} {a b : Int} (hw : WFk M 481 0) (hR : Ra M 9 481 0) (h1 : 0 ≤ a) (h2 : a < 8) (h3 : 0 ≤ b) (h4 : b ≤ 9) : Ra (qsI (qsI M 18 a.toNat (iz b)) 481 (160 + 5 * a + 4).toNat (iz b)) 9 481 0 ∧ WFk (qsI (qsI M 18 a.toNat (iz b)) 481 (160 + 5 * a + 4).toNat (iz b)) 481 0 := by
  have hs := WFk_s hw
  have hA : ∀ c, hAt (qsI (qsI M 18 a.toNat (iz b)) 481 (160 + 5 * a + 4).toNat (iz b)) 481 0 c = hAt M 481 0 c := by
    intro c
    refine hAt_of ?_ (by simp only [Int.zero_add, Int.reduceToNat]; omega) (fun k g1 g2 => ?_) <;> simp (disch := omega) only [mZ_Iz, if_neg, if_pos, Nat.reduceEqDiff, if_true, if_false, reduceIte]
  obtain ⟨r1, r2, r3, r4, r5, r6, r7, r8, r9, r10, r11, r12, r13, r14, r15, r16, r17, r18⟩ := hR
  obtain ⟨w1, w2, w3, w4, w5, w6, w7, w8, w9, w10, w11⟩ := hw
  constructor
  · refine ⟨fun c g1 g2 => ?_, fun c g1 g2 => ?_, fun c g1 g2 => ?_, fun c g1 g2 => ?_, fun c g1 g2 => ?_, fun c g1 g2 => ?_, fun c g1 g2 => ?_, fun c g1 g2 => ?_, fun c g1 g2 => ?_, fun c g1 g2 => ?_, fun c g1 g2 => ?_, fun c g1 g2 => ?_, fun c g1 g2 => ?_, fun c g1 g2 => ?_, fun c g1 g2 => ?_, fun c g1 g2 => ?_, fun c g1 g2 => ?_, ?_⟩
    · have this := r1 c g1 g2
      simp only [Int.zero_add, Nat.reduceAdd] at this
      simp (disch := omega) only [mZ_Iz, mZ_ge, mZ_lt, Int.zero_add, if_neg, if_pos, Nat.reduceAdd, Nat.reduceEqDiff, if_true, if_false, reduceIte, hA]; exact this
    · have this := r2 c g1 g2
      simp only [Int.zero_add, Nat.reduceAdd] at this
      simp (disch := omega) only [mZ_Iz, mZ_ge, mZ_lt, Int.zero_add, if_neg, if_pos, Nat.reduceAdd, Nat.reduceEqDiff, if_true, if_false, reduceIte, hA]; exact this
    · have this := r3 c g1 g2
      simp only [Int.zero_add, Nat.reduceAdd] at this
      simp (disch := omega) only [mZ_Iz, mZ_ge, mZ_lt, Int.zero_add, if_neg, if_pos, Nat.reduceAdd, Nat.reduceEqDiff, if_true, if_false, reduceIte, hA]; exact this
    · have this := r4 c g1 g2
      simp only [Int.zero_add, Nat.reduceAdd] at this
      simp (disch := omega) only [mZ_Iz, mZ_ge, mZ_lt, Int.zero_add, if_neg, if_pos, Nat.reduceAdd, Nat.reduceEqDiff, if_true, if_false, reduceIte, hA]; exact this
    · have this := r5 c g1 g2
      simp only [Int.zero_add, Nat.reduceAdd] at this
      have hb := hAt_b (M := M) (arr := 481) (off := 0) (c := c)
      simp only [Int.zero_add, Int.reduceToNat] at hb
      by_cases e0 : hAt M 481 0 c = -1
      · simp (disch := omega) only [mZ_Iz, mZ_ge, mZ_lt, Int.zero_add, if_neg, if_pos, Nat.reduceAdd, Nat.reduceEqDiff, if_true, if_false, reduceIte, hA, e0] at this ⊢; exact this
      · simp (disch := omega) only [mZ_Iz, mZ_ge, mZ_lt, Int.zero_add, if_neg, if_pos, Nat.reduceAdd, Nat.reduceEqDiff, if_true, if_false, reduceIte, hA, e0] at this ⊢; exact this
    · have this := r6 c g1 g2
      simp only [Int.zero_add, Nat.reduceAdd] at this
      simp (disch := omega) only [mZ_Iz, mZ_ge, mZ_lt, Int.zero_add, if_neg, if_pos, Nat.reduceAdd, Nat.reduceEqDiff, if_true, if_false, reduceIte, hA]; exact this
    · have this := r7 c g1 g2
      simp only [Int.zero_add, Nat.reduceAdd] at this
      simp (disch := omega) only [mZ_Iz, mZ_ge, mZ_lt, Int.zero_add, if_neg, if_pos, Nat.reduceAdd, Nat.reduceEqDiff, if_true, if_false, reduceIte, hA]; exact this
    · have this := r8 c g1 g2
      simp only [Int.zero_add, Nat.reduceAdd] at this
      by_cases e : c = a
      · rw [e]; simp (disch := omega) only [mZ_Iz, mZ_ge, mZ_lt, Int.zero_add, if_neg, if_pos, Nat.reduceAdd, Nat.reduceEqDiff, if_true, if_false, reduceIte, hA]
      · simp (disch := omega) only [mZ_Iz, mZ_ge, mZ_lt, Int.zero_add, if_neg, if_pos, Nat.reduceAdd, Nat.reduceEqDiff, if_true, if_false, reduceIte, hA]; exact this
    · have this := r9 c g1 g2
      simp only [Int.zero_add, Nat.reduceAdd] at this
      simp (disch := omega) only [mZ_Iz, mZ_ge, mZ_lt, Int.zero_add, if_neg, if_pos, Nat.reduceAdd, Nat.reduceEqDiff, if_true, if_false, reduceIte, hA]; exact this
    · have this := r10 c g1 g2
      simp only [Int.zero_add, Nat.reduceAdd] at this
      simp (disch := omega) only [mZ_Iz, mZ_ge, mZ_lt, Int.zero_add, if_neg, if_pos, Nat.reduceAdd, Nat.reduceEqDiff, if_true, if_false, reduceIte, hA]; exact this
    · have this := r11 c g1 g2
      simp only [Int.zero_add, Nat.reduceAdd] at this
      simp (disch := omega) only [mZ_Iz, mZ_ge, mZ_lt, Int.zero_add, if_neg, if_pos, Nat.reduceAdd, Nat.reduceEqDiff, if_true, if_false, reduceIte, hA]; exact this
    · have this := r12 c g1 g2
      simp only [Int.zero_add, Nat.reduceAdd] at this
      simp (disch := omega) only [mZ_Iz, mZ_ge, mZ_lt, Int.zero_add, if_neg, if_pos, Nat.reduceAdd, Nat.reduceEqDiff, if_true, if_false, reduceIte, hA]; exact this
    · have this := r13 c g1 g2
      simp only [Int.zero_add, Nat.reduceAdd] at this
      simp (disch := omega) only [mZ_Iz, mZ_ge, mZ_lt, Int.zero_add, if_neg, if_pos, Nat.reduceAdd, Nat.reduceEqDiff, if_true, if_false, reduceIte, hA]; exact this
    · have this := r14 c g1 g2
      simp only [Int.zero_add, Nat.reduceAdd] at this
      simp (disch := omega) only [mZ_Iz, mZ_ge, mZ_lt, Int.zero_add, if_neg, if_pos, Nat.reduceAdd, Nat.reduceEqDiff, if_true, if_false, reduceIte, hA]; exact this
    · have this := r15 c g1 g2
      simp only [Int.zero_add, Nat.reduceAdd] at this
      simp (disch := omega) only [mZ_Iz, mZ_ge, mZ_lt, Int.zero_add, if_neg, if_pos, Nat.reduceAdd, Nat.reduceEqDiff, if_true, if_false, reduceIte, hA]; exact this
    · have this := r16 c g1 g2
      simp only [Int.zero_add, Nat.reduceAdd] at this
      simp (disch := omega) only [mZ_Iz, mZ_ge, mZ_lt, Int.zero_add, if_neg, if_pos, Nat.reduceAdd, Nat.reduceEqDiff, if_true, if_false, reduceIte, hA]; exact this
    · have this := r17 c g1 g2
      simp only [Int.zero_add, Nat.reduceAdd] at this
      simp (disch := omega) only [mZ_Iz, mZ_ge, mZ_lt, Int.zero_add, if_neg, if_pos, Nat.reduceAdd, Nat.reduceEqDiff, if_true, if_false, reduceIte, hA]; exact this
    · simp (disch := omega) only [mZ_Iz, mZ_ge, mZ_lt, Int.zero_add, if_neg, if_pos, Nat.reduceAdd, Nat.reduceEqDiff, if_true, if_false, reduceIte, hA]; simp only [Int.zero_add, Nat.reduceAdd] at r18; exact r18
  · refine ⟨?_, fun c g1 g2 => ?_, fun c g1 g2 => ?_, fun c g1 g2 => ?_, fun c g1 g2 => ?_, fun c k g1 g2 g3 => ?_, fun c g1 g2 => ?_, fun c g1 g2 => ?_, fun c g1 g2 => ?_, fun c g1 g2 => ?_, fun c g1 g2 => ?_⟩
    · have this := w1
      simp only [Int.zero_add, Int.reduceAdd, Int.reduceToNat] at this
      simp (disch := omega) only [mZ_Iz, Int.zero_add, Int.reduceAdd, Int.reduceToNat, if_neg, if_pos, Nat.reduceAdd, Nat.reduceEqDiff, if_true, if_false, reduceIte]; exact this
    · have this := w2 c g1 g2
      simp only [Int.zero_add, Int.reduceAdd, Int.reduceToNat] at this
      simp (disch := omega) only [mZ_Iz, Int.zero_add, Int.reduceAdd, Int.reduceToNat, if_neg, if_pos, Nat.reduceAdd, Nat.reduceEqDiff, if_true, if_false, reduceIte]; exact this
    · have this := w3 c g1 g2
      simp only [Int.zero_add, Int.reduceAdd, Int.reduceToNat] at this
      simp (disch := omega) only [mZ_Iz, Int.zero_add, Int.reduceAdd, Int.reduceToNat, if_neg, if_pos, Nat.reduceAdd, Nat.reduceEqDiff, if_true, if_false, reduceIte]; exact this
    · simp (disch := omega) only [mZ_Iz, Int.zero_add, Int.reduceAdd, Int.reduceToNat, if_neg, if_pos, Nat.reduceAdd, Nat.reduceEqDiff, if_true, if_false, reduceIte] at g2
      have this := w4 c g1 g2
      simp only [Int.zero_add, Int.reduceAdd, Int.reduceToNat] at this
      simp (disch := omega) only [mZ_Iz, Int.zero_add, Int.reduceAdd, Int.reduceToNat, if_neg, if_pos, Nat.reduceAdd, Nat.reduceEqDiff, if_true, if_false, reduceIte]; exact this
    · have this := w5 c g1 g2
      by_cases e : c = a
      · rw [e]; simp (disch := omega) only [mZ_Iz, Int.zero_add, Int.reduceAdd, Int.reduceToNat, if_neg, if_pos, Nat.reduceAdd, Nat.reduceEqDiff, if_true, if_false, reduceIte]; omega
      · simp only [Int.zero_add, Int.reduceAdd, Int.reduceToNat] at this; simp (disch := omega) only [mZ_Iz, Int.zero_add, Int.reduceAdd, Int.reduceToNat, if_neg, if_pos, Nat.reduceAdd, Nat.reduceEqDiff, if_true, if_false, reduceIte]; exact this
    · simp (disch := omega) only [mZ_Iz, Int.zero_add, Int.reduceAdd, Int.reduceToNat, if_neg, if_pos, Nat.reduceAdd, Nat.reduceEqDiff, if_true, if_false, reduceIte] at g3
      have this := w6 c k g1 g2 g3
      simp only [Int.zero_add, Int.reduceAdd, Int.reduceToNat] at this
      simp (disch := omega) only [mZ_Iz, Int.zero_add, Int.reduceAdd, Int.reduceToNat, if_neg, if_pos, Nat.reduceAdd, Nat.reduceEqDiff, if_true, if_false, reduceIte]; exact this
    · simp (disch := omega) only [mZ_Iz, Int.zero_add, Int.reduceAdd, Int.reduceToNat, if_neg, if_pos, Nat.reduceAdd, Nat.reduceEqDiff, if_true, if_false, reduceIte] at g2
      have this := w7 c g1 g2
      simp only [Int.zero_add, Int.reduceAdd, Int.reduceToNat] at this
      simp (disch := omega) only [mZ_Iz, Int.zero_add, Int.reduceAdd, Int.reduceToNat, if_neg, if_pos, Nat.reduceAdd, Nat.reduceEqDiff, if_true, if_false, reduceIte]; exact this
    · simp (disch := omega) only [mZ_Iz, Int.zero_add, Int.reduceAdd, Int.reduceToNat, if_neg, if_pos, Nat.reduceAdd, Nat.reduceEqDiff, if_true, if_false, reduceIte] at g2
      have this := w8 c g1 g2
      simp only [Int.zero_add, Int.reduceAdd, Int.reduceToNat] at this
      simp (disch := omega) only [mZ_Iz, Int.zero_add, Int.reduceAdd, Int.reduceToNat, if_neg, if_pos, Nat.reduceAdd, Nat.reduceEqDiff, if_true, if_false, reduceIte]; exact this
    · have this := w9 c g1 g2
      simp only [Int.zero_add, Int.reduceAdd, Int.reduceToNat] at this
      simp (disch := omega) only [mZ_Iz, Int.zero_add, Int.reduceAdd, Int.reduceToNat, if_neg, if_pos, Nat.reduceAdd, Nat.reduceEqDiff, if_true, if_false, reduceIte]; exact this
    · simp (disch := omega) only [mZ_Iz, Int.zero_add, Int.reduceAdd, Int.reduceToNat, if_neg, if_pos, Nat.reduceAdd, Nat.reduceEqDiff, if_true, if_false, reduceIte] at g2
      have this := w10 c g1 g2
      simp only [Int.zero_add, Int.reduceAdd, Int.reduceToNat] at this
      simp (disch := omega) only [mZ_Iz, Int.zero_add, Int.reduceAdd, Int.reduceToNat, if_neg, if_pos, Nat.reduceAdd, Nat.reduceEqDiff, if_true, if_false, reduceIte]; exact this
    · simp (disch := omega) only [mZ_Iz, Int.zero_add, Int.reduceAdd, Int.reduceToNat, if_neg, if_pos, Nat.reduceAdd, Nat.reduceEqDiff, if_true, if_false, reduceIte] at g2
      have this := w11 c g1 g2
      simp only [Int.zero_add, Int.reduceAdd, Int.reduceToNat] at this
      simp (disch := omega) only [mZ_Iz, Int.zero_add, Int.reduceAdd, Int.reduceToNat, if_neg, if_pos, Nat.reduceAdd, Nat.reduceEqDiff, if_true, if_false, reduceIte]; exact this

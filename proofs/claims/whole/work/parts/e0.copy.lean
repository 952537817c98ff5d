/-! a row of m's copied, Alps of x's copied -/
theorem WFk_tr {M M2 : qMe} {arr arr2 : Nat} {off off2 : Int} (hA : ∀ j : Int, 0 ≤ j → j < 5878 → mZ M2 arr2 (off2 + j).toNat = mZ M arr (off + j).toNat) (h : WFk M arr off) : WFk M2 arr2 off2 := by
  obtain ⟨hs, h1, h2, h3, h4, h5, h6, h7, h8, h9, h10⟩ := h
  have e264 := hA 264 (by decide) (by decide)
  have e265 := hA 265 (by decide) (by decide)
  have e266 := hA 266 (by decide) (by decide)
  have e267 := hA 267 (by decide) (by decide)
  have e268 := hA 268 (by decide) (by decide)
  have e269 := hA 269 (by decide) (by decide)
  have e270 := hA 270 (by decide) (by decide)
  have e260 := hA 260 (by decide) (by decide)
  have e261 := hA 261 (by decide) (by decide)
  have e262 := hA 262 (by decide) (by decide)
  have e263 := hA 263 (by decide) (by decide)
  have hs0 := hs
  obtain ⟨s1, s2, s3, s4, s5, -⟩ := hs0
  refine ⟨?_, fun c g1 g2 => ?_, fun c g1 g2 => ?_, fun c g1 g2 => ?_, fun c g1 g2 => ?_, fun c k g1 g2 g3 => ?_, fun c g1 g2 => ?_, fun c g1 g2 => ?_, fun c g1 g2 => ?_, fun c g1 g2 => ?_, fun c g1 g2 => ?_⟩
  · rw [e264, e265, e266, e267, e268, e269, e270, e260, e261, e262, e263]; exact hs
  · rw [hA c (by omega) (by omega)]; exact h1 c g1 g2
  · rw [hA (80 + c) (by omega) (by omega)]; exact h2 c g1 g2
  · rw [e264] at g2; rw [hA (160 + 5 * c) (by omega) (by omega), hA (160 + 5 * c + 1) (by omega) (by omega)]; exact h3 c g1 g2
  · rw [hA (160 + 5 * c + 4) (by omega) (by omega)]; exact h4 c g1 g2
  · rw [e264] at g3; rw [hA (160 + 5 * c) (by omega) (by omega), hA (160 + 5 * k) (by omega) (by omega)]; exact h5 c k g1 g2 g3
  · rw [e265] at g2; rw [hA (200 + c) (by omega) (by omega)]; exact h6 c g1 g2
  · rw [e266] at g2; rw [hA (204 + 3 * c) (by omega) (by omega), hA (204 + 3 * c + 1) (by omega) (by omega)]; exact h7 c g1 g2
  · rw [hA (204 + 3 * c + 2) (by omega) (by omega)]; exact h8 c g1 g2
  · rw [e267] at g2; rw [e264, hA (228 + 2 * c) (by omega) (by omega), hA (228 + 2 * c + 1) (by omega) (by omega)]; exact h9 c g1 g2
  · rw [e268] at g2; rw [hA (244 + 2 * c) (by omega) (by omega), hA (244 + 2 * c + 1) (by omega) (by omega)]; exact h10 c g1 g2
theorem hAt_tr {M M2 : qMe} {arr arr2 : Nat} {off off2 : Int} (hA : ∀ j : Int, 0 ≤ j → j < 5878 → mZ M2 arr2 (off2 + j).toNat = mZ M arr (off + j).toNat) (h8 : mZ M arr (off + 264).toNat ≤ 8) (c : Int) : hAt M2 arr2 off2 c = hAt M arr off c := by
  unfold hAt
  rw [hA 264 (by decide) (by decide)]
  exact ffr_congr _ _ (fun j _ q => by rw [hA (160 + 5 * (j : Int)) (by omega) (by omega)])
theorem pOf_tr {M M2 : qMe} {arr arr2 : Nat} {off off2 : Int} (hA : ∀ j : Int, 269 ≤ j → ¬ j = 270 → j < 5878 → mZ M2 arr2 (off2 + j).toNat = mZ M arr (off + j).toNat) {t : Int} (t1 : 0 ≤ t ∧ t < 6) (hn : nOf M arr off t ≤ 400) : nOf M2 arr2 off2 t = nOf M arr off t ∧ vOf M2 arr2 off2 t = vOf M arr off t ∧ pOf M2 arr2 off2 t = pOf M arr off t := by
  have e1 : nOf M2 arr2 off2 t = nOf M arr off t := by
    unfold nOf
    rw [Int.add_assoc, hA (271 + t) (by omega) (by omega) (by omega), ← Int.add_assoc]
  have e2 : cOf M2 arr2 off2 t = cOf M arr off t := funext (fun p => by
    unfold cOf
    rw [e1]
    split
    · rw [show off2 + 278 + 400 * t + (p : Int) = off2 + (278 + 400 * t + p) by omega, hA (278 + 400 * t + p) (by omega) (by omega) (by omega), show off + 278 + 400 * t + (p : Int) = off + (278 + 400 * t + p) by omega]
    · rfl)
  have e3 : vOf M2 arr2 off2 t = vOf M arr off t := funext (fun p => by
    unfold vOf
    rw [e1]
    split
    · rw [show off2 + 3078 + 400 * t + (p : Int) = off2 + (3078 + 400 * t + p) by omega, hA (3078 + 400 * t + p) (by omega) (by omega) (by omega), show off + 3078 + 400 * t + (p : Int) = off + (3078 + 400 * t + p) by omega]
    · rfl)
  refine ⟨e1, e3, ?_⟩
  unfold pOf
  rw [e1, e2, e3]
theorem LawsR_tr {M M2 : qMe} {arr arr2 : Nat} {off off2 : Int} (hA : ∀ j : Int, 269 ≤ j → ¬ j = 270 → j < 5878 → mZ M2 arr2 (off2 + j).toNat = mZ M arr (off + j).toNat) {a b : Nat} (hw : WFk M arr off) (h : LawsR M b arr off) (hR2 : ∀ k : Nat, k < 6 → mR M2 (a + 17) k = mR M (b + 17) k) (hN : mN M ≤ mN M2) (hK : ∀ i, i < mN M → mK M2 i = mK M i) (hR : ∀ i k, 513 ≤ i → i < mN M → mR M2 i k = mR M i k) (hZ : ∀ i k, 513 ≤ i → i < mN M → mZ M2 i k = mZ M i k) : LawsR M2 a arr2 off2 := by
  intro t g1 g2
  rw [hA 269 (by decide) (by decide) (by decide)] at g2
  have s6 := hw.1.2.2.2.2.2.1
  obtain ⟨k1, L, Lk, Ls, Lt, Lm, Lc, m1, m2, m3⟩ := h t g1 g2
  obtain ⟨e1, e3, ep⟩ := pOf_tr hA (t := t) (by omega) (by have := k1.1; unfold nOf; omega)
  refine ⟨⟨?_, ?_, ?_⟩, L, Lk, Ls, Lt, Lm, Lc, by rw [hR2 _ (by omega)]; exact m1, m2, ?_⟩
  · rw [Int.add_assoc, hA (271 + t) (by omega) (by omega) (by omega), ← Int.add_assoc]; exact k1.1
  · rw [e3]; exact k1.2.1
  · rw [ep]; exact k1.2.2
  · rw [ep]
    exact TextR_k m3 m2 hN hK hR hZ

theorem hAt_ge (M : qMe) (arr : Nat) (off c : Int) : -1 ≤ hAt M arr off c ∧ (hAt M arr off c < (mZ M arr (off + 264).toNat).toNat) := by
  have := ffr_ge (p := fun h => mZ M arr (off + (160 + 5 * (h : Int))).toNat = c) 0 (mZ M arr (off + 264).toNat).toNat
  unfold hAt
  omega
theorem Ra_tr {M M2 : qMe} {arr arr2 : Nat} {off off2 : Int} (hA : ∀ j : Int, 0 ≤ j → j < 5878 → mZ M2 arr2 (off2 + j).toNat = mZ M arr (off + j).toNat) {a b : Nat} (hw : WFk M arr off) (hC : Cp M M2 b a) (h : Ra M b arr off) : Ra M2 a arr2 off2 := by
  have hh := hAt_tr hA hw.1.1.2
  obtain ⟨c2, c3, c4, c5, c6, c7, c8, c9, c10, c11, c12, c13, c14, c15, c16, c18, c19, ⟨q1, q2, q3, q4, q5, q6, q7⟩, -⟩ := hC
  obtain ⟨r1, r2, r3, r4, r5, r6, r7, r8, r9, r10, r11, r12, r13, r14, r15, r16, r17, r18⟩ := h
  refine ⟨fun c g1 g2 => ?_, fun c g1 g2 => ?_, fun c g1 g2 => ?_, fun c g1 g2 => ?_, fun c g1 g2 => ?_, fun c g1 g2 => ?_, fun c g1 g2 => ?_, fun c g1 g2 => ?_, fun c g1 g2 => ?_, fun c g1 g2 => ?_, fun c g1 g2 => ?_, fun c g1 g2 => ?_, fun c g1 g2 => ?_, fun c g1 g2 => ?_, fun c g1 g2 => ?_, fun c g1 g2 => ?_, fun c g1 g2 => ?_, ?_⟩
  · rw [c2 _ (by omega), hA (c) (by omega) (by omega)]; exact r1 c g1 g2
  · rw [c3 _ (by omega), hA (80 + c) (by omega) (by omega)]; exact r2 c g1 g2
  · rw [c4 _ (by omega), hh]; exact r3 c g1 g2
  · rw [c5 _ (by omega), hA (160 + 5 * c) (by omega) (by omega)]; exact r4 c g1 g2
  · have hb := hAt_ge M arr off c
    rw [c6 _ (by omega), hh]
    by_cases e : hAt M arr off c = -1
    · rw [if_pos e]; have := r5 c g1 g2; rw [if_pos e] at this; exact this
    · rw [if_neg e, hA (160 + 5 * hAt M arr off c + 1) (by omega) (by have := hw.1.1.2; omega)]; have := r5 c g1 g2; rw [if_neg e] at this; exact this
  · rw [c7 _ (by omega), hA (160 + 5 * c + 2) (by omega) (by omega)]; exact r6 c g1 g2
  · rw [c8 _ (by omega), hA (160 + 5 * c + 3) (by omega) (by omega)]; exact r7 c g1 g2
  · rw [c9 _ (by omega), hA (160 + 5 * c + 4) (by omega) (by omega)]; exact r8 c g1 g2
  · rw [c10 _ (by omega), hA (200 + c) (by omega) (by omega)]; exact r9 c g1 g2
  · rw [c11 _ (by omega), hA (204 + 3 * c) (by omega) (by omega)]; exact r10 c g1 g2
  · rw [c12 _ (by omega), hA (204 + 3 * c + 1) (by omega) (by omega)]; exact r11 c g1 g2
  · rw [c13 _ (by omega), hA (204 + 3 * c + 2) (by omega) (by omega)]; exact r12 c g1 g2
  · rw [c14 _ (by omega), hA (228 + 2 * c) (by omega) (by omega)]; exact r13 c g1 g2
  · rw [c15 _ (by omega), hA (228 + 2 * c + 1) (by omega) (by omega)]; exact r14 c g1 g2
  · rw [c16 _ (by omega), hA (260 + c) (by omega) (by omega)]; exact r15 c g1 g2
  · rw [c18 _ (by omega), hA (244 + 2 * c) (by omega) (by omega)]; exact r16 c g1 g2
  · rw [c19 _ (by omega), hA (244 + 2 * c + 1) (by omega) (by omega)]; exact r17 c g1 g2
  · rw [hA 264 (by decide) (by decide), hA 265 (by decide) (by decide), hA 266 (by decide) (by decide), hA 267 (by decide) (by decide), hA 269 (by decide) (by decide), hA 270 (by decide) (by decide), hA 268 (by decide) (by decide)]
    have u := r18
    refine ⟨q1.trans u.1, q2.trans u.2.1, q3.trans u.2.2.1, q4.trans u.2.2.2.1, q7.trans u.2.2.2.2.1, q5.trans u.2.2.2.2.2.1, q6.trans u.2.2.2.2.2.2⟩

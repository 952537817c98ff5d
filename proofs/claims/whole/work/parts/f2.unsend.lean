theorem Un_send {M M2 : qMe} {s t s' o : Nat} {c : Int} (hw : WFk M 481 0) (hR : Ra M 9 481 0) (h4 : ∀ j : Nat, j < s → En M ((t + 16 - s + j) % 16) (105 * j)) (s8 : s ≤ 8) (t6 : t < 16) (hc : (s < 8 ∧ s' = s ∧ o = 0) ∨ (s = 8 ∧ s' = 7 ∧ o = 105)) (x1 : ∀ i k, 114 ≤ i → i ≤ 182 → ¬ DRe t i k → mZ M2 i k = mZ M i k) (y1 : ∀ j : Nat, j < 80 → mZ M2 (115 + t) j = mZ M 12 j) (y2 : ∀ j : Nat, j < 8 → mZ M2 (132 + t) j = mZ M 22 j) (y3 : ∀ j : Nat, j < 8 → mZ M2 (149 + t) j = mZ M 16 j) (y4 : ∀ j : Nat, j < 8 → mZ M2 (166 + t) j = mZ M 17 j) (y5 : mZ M2 182 t = c) (m1 : ∀ k : Nat, k < 105 * s' → mZ M2 501 k = mZ M 501 (k + o)) (m2 : KpR M M2 (105 * s') c) (z1 : mZ M2 113 7 = (s' : Int) + 1) (z2 : mZ M2 113 8 = ((t + 1) % 16 : Nat)) (z3 : mZ M2 479 47 = (s' : Int) + 1) : Un M2 := by
  refine ⟨s' + 1, (t + 1) % 16, by omega, by omega, by omega, z2, by omega, fun j q => ?_⟩
  by_cases e : j = s'
  · subst e
    obtain ⟨k1, k2, k3, k4⟩ := m2
    have eu : ((t + 1) % 16 + 16 - (j + 1) + j) % 16 = t := by omega
    rw [eu]
    have r := Ra_iff.mp hR
    refine ⟨fun i q => ?_, fun i q => ?_, fun i q => ?_, fun i q => ?_, y5.trans k4.symm⟩
    · have a := r.2.1 (i : Int) (by omega) (by omega)
      rw [show ((0 : Int) + (80 + 1 * (i : Int))).toNat = 80 + i by omega, Int.toNat_natCast] at a
      have b := hw.2.2.1 (i : Int) (by omega) (by omega)
      rw [show ((0 : Int) + (80 + (i : Int))).toNat = 80 + i by omega] at b
      rw [y1 i q, k1 i q]
      exact ⟨a, b⟩
    · have a := r.2.2.2.2.2.2.2.2.2.1 (i : Int) (by omega) (by omega)
      rw [show ((0 : Int) + (206 + 3 * (i : Int))).toNat = 206 + 3 * i by omega, Int.toNat_natCast] at a
      have b := hw.2.2.2.2.2.2.2.2.1 (i : Int) (by omega) (by omega)
      rw [show ((0 : Int) + (204 + 3 * (i : Int) + 2)).toNat = 206 + 3 * i by omega] at b
      rw [y2 i q, k2 i q]
      exact ⟨a, b⟩
    · have a := r.2.2.2.1 (i : Int) (by omega) (by omega)
      rw [show ((0 : Int) + (162 + 5 * (i : Int))).toNat = 162 + 5 * (2 * i / 2) + 2 * i % 2 by omega, Int.toNat_natCast] at a
      rw [y3 i q, k3 (2 * i) (by omega)]
      exact a
    · have a := r.2.2.2.2.1 (i : Int) (by omega) (by omega)
      rw [show ((0 : Int) + (163 + 5 * (i : Int))).toNat = 162 + 5 * ((2 * i + 1) / 2) + (2 * i + 1) % 2 by omega, Int.toNat_natCast] at a
      rw [y4 i q, Nat.add_assoc, k3 (2 * i + 1) (by omega)]
      exact a
  · have jl : j < s' := by omega
    obtain ⟨a1, a2, a3, a4, a5⟩ := h4 (j + o / 105) (by omega)
    have eu : ((t + 1) % 16 + 16 - (s' + 1) + j) % 16 = (t + 16 - s + (j + o / 105)) % 16 := by omega
    have eb : 105 * (j + o / 105) = 105 * j + o := by omega
    rw [eu]
    generalize hu : (t + 16 - s + (j + o / 105)) % 16 = u at *
    have un : ¬ u = t := by omega
    have u6 : u < 16 := by omega
    rw [eb] at a1 a2 a3 a4 a5
    refine ⟨fun i q => ?_, fun i q => ?_, fun i q => ?_, fun i q => ?_, ?_⟩
    · rw [x1 _ _ (by omega) (by omega) (by unfold DRe; omega), m1 _ (by omega), show 105 * j + i + o = 105 * j + o + i by omega]; exact a1 i q
    · rw [x1 _ _ (by omega) (by omega) (by unfold DRe; omega), m1 _ (by omega), show 105 * j + 80 + i + o = 105 * j + o + 80 + i by omega]; exact a2 i q
    · rw [x1 _ _ (by omega) (by omega) (by unfold DRe; omega), m1 _ (by omega), show 105 * j + 88 + 2 * i + o = 105 * j + o + 88 + 2 * i by omega]; exact a3 i q
    · rw [x1 _ _ (by omega) (by omega) (by unfold DRe; omega), m1 _ (by omega), show 105 * j + 88 + 2 * i + 1 + o = 105 * j + o + 88 + 2 * i + 1 by omega]; exact a4 i q
    · rw [x1 _ _ (by omega) (by omega) (by unfold DRe; omega), m1 _ (by omega), show 105 * j + 104 + o = 105 * j + o + 104 by omega]; exact a5

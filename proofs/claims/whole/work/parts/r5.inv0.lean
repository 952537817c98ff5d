/-! what holds between two calls holds at the beginning -/
theorem zq1a : ∀ k, k < 80 → zA 481 k = 90 - 10 * (k / 8 : Nat) := by decide +kernel
theorem zq1b : ∀ k, k < 80 → zA 481 (80 + k) = 0 := by decide +kernel
theorem zq1c : ∀ k, k < 100 → zA 481 (160 + k) = 0 := by decide +kernel
theorem zq1 : (∀ k, k < 80 → zA 481 k = 90 - 10 * (k / 8 : Nat) ∧ zA 481 (80 + k) = 0) ∧ (∀ k, k < 100 → zA 481 (160 + k) = 0) ∧ (zA 481 260 = 0 ∧ zA 481 261 = 3 ∧ zA 481 262 = 10 ∧ zA 481 263 = 2 ∧ zA 481 264 = 0 ∧ zA 481 265 = 0 ∧ zA 481 266 = 0 ∧ zA 481 267 = 0 ∧ zA 481 268 = 0 ∧ zA 481 269 = 0 ∧ zA 481 270 = -1) := ⟨fun k q => ⟨zq1a k q, zq1b k q⟩, zq1c, by decide +kernel⟩
theorem zq2a : ∀ k, k < 80 → zA 11 k = 90 - 10 * (k / 8 : Nat) := by decide +kernel
theorem zq2b : ∀ k, k < 80 → zA 12 k = 0 := by decide +kernel
theorem zq2c : ∀ k, k < 80 → zA 13 k = -1 := by decide +kernel
theorem zq2d : ∀ k, k < 80 → zA 15 k = -1 := by decide +kernel
theorem zq2e : ∀ k, k < 8 → zA 14 k = 0 ∧ zA 16 k = 0 ∧ zA 17 k = 0 ∧ zA 18 k = 0 ∧ zA 20 k = 0 ∧ zA 21 k = 0 ∧ zA 22 k = 0 ∧ zA 23 k = 0 ∧ zA 24 k = 0 ∧ zA 27 k = 0 ∧ zA 28 k = 0 := by decide +kernel
theorem zq2 : (∀ k, k < 80 → zA 11 k = 90 - 10 * (k / 8 : Nat) ∧ zA 12 k = 0 ∧ zA 13 k = -1 ∧ zA 15 k = -1) ∧ (∀ k, k < 8 → zA 14 k = 0 ∧ zA 16 k = 0 ∧ zA 17 k = 0 ∧ zA 18 k = 0 ∧ zA 20 k = 0 ∧ zA 21 k = 0 ∧ zA 22 k = 0 ∧ zA 23 k = 0 ∧ zA 24 k = 0 ∧ zA 27 k = 0 ∧ zA 28 k = 0) ∧ (∀ k, k < 4 → zA 19 k = 0 ∧ zA 25 k = zA 481 (260 + k)) ∧ (zA 10 9 = 0 ∧ zA 10 10 = 0 ∧ zA 9 10 = 0 ∧ zA 9 11 = 0 ∧ zA 9 14 = 0 ∧ zA 9 12 = 0 ∧ zA 9 13 = -1) := ⟨fun k q => ⟨zq2a k q, zq2b k q, zq2c k q, zq2d k q⟩, zq2e, by decide +kernel, by decide +kernel⟩
theorem zq3a : ∀ e, e < 108 → zA 478 e = -1 := by decide +kernel
theorem zq3b : ∀ j, j < 80 → zA 485 j = mch.getD j 0 := by decide +kernel
theorem zq3c : ∀ j, j < 71 → zA 485 (80 + j) = mch.getD (80 + j) 0 := by decide +kernel
theorem zq3d : ∀ j, j < 151 → zA 485 j = mch.getD j 0 := fun j q => by
  by_cases c : j < 80
  · exact zq3b j c
  · have h := zq3c (j - 80) (by omega)
    rwa [show 80 + (j - 80) = j by omega] at h
theorem zq3 : (zA 8 8 = 0 ∧ zA 479 0 = 0) ∧ (∀ k, k < 5 → zA 72 k = 0) ∧ (∀ k, k < 7 → zA 480 k = 0) ∧ (zA 8 4 = 0 ∧ zA 479 13 = 0 ∧ zA 8 5 = 0 ∧ zA 479 6 = 0 ∧ zA 8 6 = -1 ∧ zA 479 14 = -1 ∧ zA 8 7 = -1 ∧ zA 479 57 = -1) ∧ (zA 479 68 = 0 ∧ ∀ e, e < 108 → zA 478 e = -1) ∧ zA 73 6 = 0 ∧ (zA 78 11 = -1 ∧ zA 104 11 = -1 ∧ zA 107 11 = -1 ∧ zA 110 11 = -1 ∧ zA 479 38 = -1) ∧ (∀ kk, kk ≤ 1 → zA 70 kk = 0 ∧ zA 484 kk = 0) ∧ (zA 113 7 = 0 ∧ zA 113 8 = 0 ∧ zA 479 47 = 0) ∧ ∀ j, j < 151 → zA 485 j = mch.getD j 0 := ⟨by decide +kernel, by decide +kernel, by decide +kernel, by decide +kernel, ⟨by decide +kernel, zq3a⟩, by decide +kernel, by decide +kernel, by decide +kernel, by decide +kernel, zq3d⟩
theorem zq4 : ∀ t, t < 6 → fR lgAll 26 t = none ∧ fR lgAll 47 t = none ∧ fR lgAll 67 t = none := by decide +kernel
theorem zA_no {i : Nat} (h : lgAll.all (fun o => !(Nat.beq o.1 2 && Nat.beq o.2.1 i)) = true) (k : Nat) : zA i k = 0 := by
  unfold zA
  rw [fI_no lgAll h]
  rfl
theorem zq5 : lgAll.all (fun o => !(Nat.beq o.1 2 && Nat.beq o.2.1 76)) = true ∧ lgAll.all (fun o => !(Nat.beq o.1 2 && Nat.beq o.2.1 77)) = true ∧ lgAll.all (fun o => !(Nat.beq o.1 2 && Nat.beq o.2.1 493)) = true := by decide +kernel
def slA : Nat := sll lgAll
theorem slA_b : slA ≤ 1000000 := by decide +kernel
theorem Inv_0 {M0 : qMe} (h0 : mN M0 = 8) (hR : ∀ i k, mR M0 i k = none) (hI : ∀ i k, 8 ≤ i → mI M0 i k = 0) (hs : M0.2.1 = 0) (hk : mK M0 1 = (110, 4) ∧ mK M0 2 = (110, 4) ∧ mK M0 3 = (110, 16)) (h1 : ∀ k, k < 4 → mI M0 1 k = iz (tleast.getD k 0)) (h2 : ∀ k, k < 4 → mI M0 2 k = iz (tmost.getD k 0)) (h3 : ∀ k, k < 16 → mI M0 3 k = iz (opneeds.getD k 0)) : Inv 0 513 1000000 (lrun lgAll M0) := by
  have Z : ∀ i k, 8 ≤ i → mZ (lrun lgAll M0) i k = zA i k := fun i k q => all_Z h0 hR hI q k
  have S := all_shp h0 hR hI hk h1 h2 h3
  have N := all_N h0
  have Rr := all_R h0 hR hI
  have ok := fun {i k j : Nat} (h : mR (lrun lgAll M0) i k = some j) => all_ok h0 hR hI h
  have up : ∀ i k, 513 ≤ i → mR (lrun lgAll M0) i k = none := fun i k q => by
    rw [Rr, fR_up lgAll 513 qAll i k q]
    rfl
  obtain ⟨a1, a2, a3, a4, a5, a6, a7, a8, a9, a10, a11, a12, a13⟩ := zq1
  obtain ⟨b1, b2, b3, b4, b5, b6, b7, b8, b9, b10⟩ := zq2
  obtain ⟨⟨c1, c2⟩, c3, c4, ⟨c5, c6, c7, c8, c9, c10, c11, c12⟩, ⟨c13, c14⟩, c15, ⟨c16, c17, c18, c19, c20⟩, c21, ⟨c22, c23, c24⟩, c25⟩ := zq3
  obtain ⟨d1, d2, d3⟩ := zq5
  have sl : (lrun lgAll M0).2.1 ≤ 1000000 := by
    rw [lrun_s, hs, Nat.zero_add]
    exact slA_b
  have rs : ∀ {i k j : Nat}, i = 26 ∨ i = 47 ∨ i = 67 → k < 6 → mR (lrun lgAll M0) i k = none := fun {i k j} q p => by
    obtain ⟨e1, e2, e3⟩ := zq4 k p
    rw [Rr]
    rcases q with rfl | rfl | rfl
    · rw [e1]; rfl
    · rw [e2]; rfl
    · rw [e3]; rfl
  generalize lrun lgAll M0 = Mz at *
  have zi : ∀ i k, mI Mz i k = iz (mZ Mz i k) := fun i k => mI_Z _ _ _
  have hw : WFk Mz 481 0 := by
    have w : ∀ k : Int, 0 ≤ k → mZ Mz 481 ((0 : Int) + k).toNat = zA 481 k.toNat := fun k q => by rw [Int.zero_add, Z _ _ (by decide)]
    refine ⟨⟨?_, ?_, ?_, ?_, ?_, ?_, ?_, ?_, ?_, ?_, ?_⟩, fun c g1 g2 => ?_, fun c g1 g2 => ?_, fun h g1 g2 => ?_, fun h g1 g2 => ?_, fun h k g1 g2 g3 => ?_, fun d g1 g2 => ?_, fun w' g1 g2 => ?_, fun w' g1 g2 => ?_, fun l g1 g2 => ?_, fun t g1 g2 => ?_⟩
    · rw [w _ (by decide), show (264 : Int).toNat = 264 from rfl, a7]; decide
    · rw [w _ (by decide), show (265 : Int).toNat = 265 from rfl, a8]; decide
    · rw [w _ (by decide), show (266 : Int).toNat = 266 from rfl, a9]; decide
    · rw [w _ (by decide), show (267 : Int).toNat = 267 from rfl, a10]; decide
    · rw [w _ (by decide), show (268 : Int).toNat = 268 from rfl, a11]; decide
    · rw [w _ (by decide), show (269 : Int).toNat = 269 from rfl, a12]; decide
    · rw [w _ (by decide), w _ (by decide), show (270 : Int).toNat = 270 from rfl, show (269 : Int).toNat = 269 from rfl, a12, a13]; decide
    · rw [w _ (by decide), show (260 : Int).toNat = 260 from rfl, a3]; decide
    · rw [w _ (by decide), show (261 : Int).toNat = 261 from rfl, a4]; decide
    · rw [w _ (by decide), show (262 : Int).toNat = 262 from rfl, a5]; decide
    · rw [w _ (by decide), show (263 : Int).toNat = 263 from rfl, a6]; decide
    · rw [w _ g1, (a1 c.toNat (by omega)).1]; omega
    · rw [w _ (by omega), show (80 + c).toNat = 80 + c.toNat by omega, (a1 c.toNat (by omega)).2]; decide
    · rw [w _ (by decide), show (264 : Int).toNat = 264 from rfl, a7] at g2; omega
    · rw [w _ (by omega), show (160 + 5 * h + 4).toNat = 160 + (5 * h + 4).toNat by omega, a2 _ (by omega)]; decide
    · rw [w _ (by decide), show (264 : Int).toNat = 264 from rfl, a7] at g3; omega
    · rw [w _ (by decide), show (265 : Int).toNat = 265 from rfl, a8] at g2; omega
    · rw [w _ (by decide), show (266 : Int).toNat = 266 from rfl, a9] at g2; omega
    · rw [w _ (by omega), show (204 + 3 * w' + 2).toNat = 160 + (44 + 3 * w' + 2).toNat by omega, a2 _ (by omega)]; decide
    · rw [w _ (by decide), show (267 : Int).toNat = 267 from rfl, a10] at g2; omega
    · rw [w _ (by decide), show (268 : Int).toNat = 268 from rfl, a11] at g2; omega
  have hAt0 : ∀ c, hAt Mz 481 0 c = -1 := fun c => by
    unfold hAt
    rw [show ((0 : Int) + 264).toNat = 264 from rfl, Z _ _ (by decide), a7]
    rfl
  have ra : Ra Mz 9 481 0 := by
    have w : ∀ k : Int, 0 ≤ k → mZ Mz 481 ((0 : Int) + k).toNat = zA 481 k.toNat := fun k q => by rw [Int.zero_add, Z _ _ (by decide)]
    have w0 : ∀ (k : Int) (n : Nat), 160 ≤ k → k < 260 → mZ Mz 481 ((0 : Int) + k).toNat = 0 := fun k n p q => by
      rw [w k (by omega), show k.toNat = 160 + (k.toNat - 160) by omega]
      exact a2 _ (by omega)
    refine ⟨fun c g1 g2 => ?_, fun c g1 g2 => ?_, fun c g1 g2 => ?_, fun c g1 g2 => ?_, fun c g1 g2 => ?_, fun c g1 g2 => ?_, fun c g1 g2 => ?_, fun c g1 g2 => ?_, fun c g1 g2 => ?_, fun c g1 g2 => ?_, fun c g1 g2 => ?_, fun c g1 g2 => ?_, fun c g1 g2 => ?_, fun c g1 g2 => ?_, fun c g1 g2 => ?_, fun c g1 g2 => ?_, fun c g1 g2 => ?_, ?_⟩
    · rw [Z _ _ (by decide), w _ g1, (a1 c.toNat (by omega)).1]; exact (b1 _ (by omega)).1
    · rw [Z _ _ (by decide), w _ (by omega), show (80 + c).toNat = 80 + c.toNat by omega, (a1 c.toNat (by omega)).2]; exact (b1 _ (by omega)).2.1
    · rw [Z _ _ (by decide), hAt0]; exact (b1 _ (by omega)).2.2.1
    · rw [Z _ _ (by decide), w0 _ 0 (by omega) (by omega)]; exact (b2 _ (by omega)).1
    · rw [Z _ _ (by decide), hAt0, if_pos rfl]; exact (b1 _ (by omega)).2.2.2
    · rw [Z _ _ (by decide), w0 _ 0 (by omega) (by omega)]; exact (b2 _ (by omega)).2.1
    · rw [Z _ _ (by decide), w0 _ 0 (by omega) (by omega)]; exact (b2 _ (by omega)).2.2.1
    · rw [Z _ _ (by decide), w0 _ 0 (by omega) (by omega)]; exact (b2 _ (by omega)).2.2.2.1
    · rw [Z _ _ (by decide), w0 _ 0 (by omega) (by omega)]; exact (b3 _ (by omega)).1
    · rw [Z _ _ (by decide), w0 _ 0 (by omega) (by omega)]; exact (b2 _ (by omega)).2.2.2.2.1
    · rw [Z _ _ (by decide), w0 _ 0 (by omega) (by omega)]; exact (b2 _ (by omega)).2.2.2.2.2.1
    · rw [Z _ _ (by decide), w0 _ 0 (by omega) (by omega)]; exact (b2 _ (by omega)).2.2.2.2.2.2.1
    · rw [Z _ _ (by decide), w0 _ 0 (by omega) (by omega)]; exact (b2 _ (by omega)).2.2.2.2.2.2.2.1
    · rw [Z _ _ (by decide), w0 _ 0 (by omega) (by omega)]; exact (b2 _ (by omega)).2.2.2.2.2.2.2.2.1
    · rw [Z _ _ (by decide), w _ (by omega), show (260 + c).toNat = 260 + c.toNat by omega]; exact (b3 _ (by omega)).2
    · rw [Z _ _ (by decide), w0 _ 0 (by omega) (by omega)]; exact (b2 _ (by omega)).2.2.2.2.2.2.2.2.2.1
    · rw [Z _ _ (by decide), w0 _ 0 (by omega) (by omega)]; exact (b2 _ (by omega)).2.2.2.2.2.2.2.2.2.2
    · refine ⟨?_, ?_, ?_, ?_, ?_, ?_, ?_⟩
      · rw [Z _ _ (by decide), w _ (by decide)]; exact b4.trans a7.symm
      · rw [Z _ _ (by decide), w _ (by decide)]; exact b5.trans a8.symm
      · rw [Z _ _ (by decide), w _ (by decide)]; exact b6.trans a9.symm
      · rw [Z _ _ (by decide), w _ (by decide)]; exact b7.trans a10.symm
      · rw [Z _ _ (by decide), w _ (by decide)]; exact b8.trans a11.symm
      · rw [Z _ _ (by decide), w _ (by decide)]; exact b9.trans a12.symm
      · rw [Z _ _ (by decide), w _ (by decide)]; exact b10.trans a13.symm
  have la : LawsR Mz 9 481 0 := fun t g1 g2 => by
    rw [show ((0 : Int) + 269).toNat = 269 from rfl, Z _ _ (by decide), a12] at g2
    omega
  have rb : Rb Mz := by
    unfold Rb
    simp only [zi, Z _ _ (show 8 ≤ 8 by decide), Z _ _ (show 8 ≤ 479 by decide), Z _ _ (show 8 ≤ 72 by decide), Z _ _ (show 8 ≤ 480 by decide)]
    refine ⟨by rw [c1, c2], ?_, ?_, ?_, ?_, ?_⟩
    · rw [c3 0 (by decide), c4 1 (by decide)]
    · rw [c3 1 (by decide), c4 2 (by decide)]
    · rw [c3 2 (by decide), c4 3 (by decide)]
    · rw [c3 3 (by decide), c4 5 (by decide)]
    · rw [c3 4 (by decide), c4 6 (by decide)]
  have rt : Rt Mz := by
    refine ⟨?_, fun i g1 g2 => ?_, ?_, ?_, ?_⟩
    · rw [Z _ _ (by decide), Z _ _ (by decide), c5, c6]; decide
    · rw [Z _ _ (by decide), c5] at g2; omega
    · rw [zi, zi, Z _ _ (by decide), Z _ _ (by decide), c7, c8]
    · rw [zi, zi, Z _ _ (by decide), Z _ _ (by decide), c9, c10]
    · rw [zi, zi, Z _ _ (by decide), Z _ _ (by decide), c11, c12]
  have rss : Rs Mz := by
    unfold Rs
    rw [Z _ _ (by decide), c13]
    refine ⟨Or.inl rfl, fun e g1 g2 => ?_⟩
    rw [if_neg (by decide), Z _ _ (by decide)]
    exact c14 _ (by omega)
  have jk : JK Mz := fun p g1 g2 => by
    rw [Z 76 _ (by decide), Z 77 _ (by decide), Z 73 _ (by decide), zA_no d1, zA_no d2, c15]
    decide
  have ri : Rid Mz := by
    refine ⟨⟨?_, ?_, ?_, ?_⟩, ?_, fun c g1 g2 => ?_⟩
    · rw [Z _ _ (by decide)]; exact c16
    · rw [Z _ _ (by decide)]; exact c17
    · rw [Z _ _ (by decide)]; exact c18
    · rw [Z _ _ (by decide)]; exact c19
    · rw [Z _ _ (by decide)]; exact c20
    · rw [Z _ _ (by decide)]; exact zA_no d3 _
  refine ⟨⟨⟨S, hw, ra, la⟩, rb, rt, rss⟩, ⟨jk, by rw [Z _ _ (by decide), c15]; exact ⟨Int.le_refl _, Int.le_refl _⟩⟩, ri, fun kk q => ?_, fun t q => Or.inl (rs (j := 0) (Or.inl rfl) q), ⟨0, 0, by decide, by decide, by rw [Z _ _ (by decide)]; exact c22, by rw [Z _ _ (by decide)]; exact c23, by rw [Z _ _ (by decide)]; exact c24, fun j q => by omega⟩, fun j q => by rw [Z _ _ (by decide)]; exact c25 j q, ⟨fun i k j a e => ?_, fun i q => by unfold Ax; omega, fun i q => by unfold Ax; omega⟩, ⟨fun i k j a e => ?_, fun i k q => up i k (by omega)⟩, by omega, sl⟩
  · have e := c21 kk q
    refine ⟨Or.inl (by rw [Z _ _ (by decide)]; exact e.1), by rw [Z _ _ (by decide), Z _ _ (by decide), e.1, e.2], fun z => ?_, fun t p => Or.inl ?_⟩
    · rw [Z _ _ (by decide), e.1] at z
      cases z
    · rcases (show kk = 0 ∨ kk = 1 by omega) with rfl | rfl
      · exact rs (j := 0) (Or.inr (Or.inl rfl)) p
      · exact rs (j := 0) (Or.inr (Or.inr rfl)) p
  · have := ok e
    unfold Ax at a ⊢
    omega
  · have := ok e
    omega

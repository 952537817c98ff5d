/-- house on both sides -/
theorem mI_nc {M : qMe} {i1 k1 i2 k2 : Nat} {x : Int32} (h : ¬ i2 = i1) : mI (qsI M i1 k1 x) i2 k2 = mI M i2 k2 := by rw [mI_I, if_neg h]
theorem mI_same {M : qMe} {i k1 : Nat} {x : Int32} : mI (qsI M i k1 x) i k1 = x := by rw [mI_I, if_pos rfl, if_pos rfl]
theorem mZ_same {M : qMe} {i k1 k2 : Nat} {x : Int32} : mZ (qsI M i k1 x) i k2 = if k2 = k1 then x.toInt else mZ M i k2 := by rw [mZ_I, if_pos rfl]
theorem Rb_good {M M2 : qMe} (hB : Rb M) (h1 : mI M2 8 8 = mI M2 479 0) (h2 : ∀ k, mI M2 72 k = mI M 72 k) (h3 : ∀ k, mI M2 480 k = mI M 480 k) : Rb M2 := by
  unfold Rb at *
  simp only [h2, h3]
  exact ⟨h1, hB.2⟩
theorem hAt_lt {M : qMe} {c : Int} (hs : 0 ≤ mZ M 481 264 ∧ mZ M 481 264 ≤ 8) : -1 ≤ hAt M 481 0 c ∧ hAt M 481 0 c < 8 := by
  obtain ⟨g1, g2, g3⟩ := hAt_b (M := M) (arr := 481) (off := 0) (c := c)
  have g3 := g3 hs.1
  simp only [Int.zero_add, Int.reduceToNat] at g3
  omega
theorem o_house {d : Nat} {a b : Int} {M : qMe} (h : shp M) (hw : WFk M 481 0) (hR : Ra M 9 481 0) (hB : Rb M) (h1 : -2147483648 ≤ a) (h2 : a < 2147483648) (h3 : -2147483648 ≤ b) (h4 : b < 2147483648) : Sim M (d + 3) 4 89 [.int (iz a), .int (iz b)] DS := by
  obtain ⟨hs, -⟩ := WFk_s hw
  obtain ⟨hh, -⟩ := Ra_s hR
  have c0 := c_house (d := d) h (by rw [hh]; exact hs) h1 h2 h3 h4
  rw [hh] at c0
  have mm : ∀ M1 : qMe, shp M1 → (∀ k, mZ M1 481 k = mZ M 481 k) → cal (d + 2) 84 [.ref 479, .int (iz a)] M1 = some (some (.int (iz (hAt M 481 0 a))), M1) := by
    intro M1 s1 e1
    have q := m_houseAt (d := d + 1) (c := a) s1 (by rw [e1]; exact hs) h1 h2
    rw [hAt_eq e1] at q
    exact q
  obtain ⟨b1, b2⟩ := hAt_lt (c := a) hs
  have mh : ∀ M1 : qMe, (s1 : shp M1) → (e1 : ∀ k, mZ M1 481 k = mZ M 481 k) → _ := fun M1 s1 e1 => m_house (d := d) (w := hAt M 481 0 a) s1 (by rw [e1]; exact hs) (mm M1 s1 e1) b1 b2 h1 h2 h3 h4
  by_cases g0 : (0 ≤ a ∧ a ≤ 79) ∧ 0 ≤ b ∧ b ≤ 9
  · have r3 := hR.2.2.1 a g0.1.1 (by omega)
    have r3 : mZ M 13 a.toNat = hAt M 481 0 a := r3
    rw [if_neg (fun q => q g0), r3] at c0
    by_cases g2 : hAt M 481 0 a = -1
    · rw [if_neg (fun q => q g2)] at c0
      by_cases g3 : 8 ≤ mZ M 481 264
      · rw [if_pos g3] at c0
        have m0 := mh (xrf M (-5)) (xrf_D.shp h DS_8) (fun k => xrf_Z)
        rw [xrf_Z, if_neg (fun q => q g0), if_neg (fun q => q g2), if_pos g3] at m0
        exact Sim.rf (Or.inr (Or.inr (Or.inr (Or.inl rfl)))) hw hR hB c0 m0
      · rw [if_neg g3] at c0
        have e4 : ∀ k, mZ (qsI (qsI (qsI (qsI (qsI (qsI (qsI (qsI M 13 a.toNat (iz (mZ M 481 264))) 14 (mZ M 481 264).toNat (iz a)) 15 a.toNat (iz b)) 16 (mZ M 481 264).toNat (iz 0)) 17 (mZ M 481 264).toNat (iz 0)) 18 (mZ M 481 264).toNat (iz 0)) 10 9 (iz (mZ M 481 264 + 1))) 8 8 (iz 0)) 481 k = mZ M 481 k := fun k => by simp (disch := omega) only [mZ_nc]
        have m0 := mh (qsI (qsI (qsI (qsI (qsI (qsI (qsI (qsI M 13 a.toNat (iz (mZ M 481 264))) 14 (mZ M 481 264).toNat (iz a)) 15 a.toNat (iz b)) 16 (mZ M 481 264).toNat (iz 0)) 17 (mZ M 481 264).toNat (iz 0)) 18 (mZ M 481 264).toNat (iz 0)) 10 9 (iz (mZ M 481 264 + 1))) 8 8 (iz 0)) (shp_I (shp_I (shp_I (shp_I (shp_I (shp_I (shp_I (shp_I h (by decide)) (by decide)) (by decide)) (by decide)) (by decide)) (by decide)) (by decide)) (by decide)) e4
        rw [e4, if_neg (fun q => q g0), if_neg (fun q => q g2), if_neg g3] at m0
        refine Sim.of c0 m0 rfl (K_goodD (K_house hw hR g0.1.1 (by omega) g0.2.1 g0.2.2 (by omega) g2) (Rb_good hB ?_ (fun k => ?_) (fun k => ?_)) (fun k => ?_) (fun i g1 g2 k => ?_) ?_)
        · simp (disch := omega) only [mI_nc, mI_same]
        · simp (disch := omega) only [mI_nc]
        · simp (disch := omega) only [mI_nc]
        · simp (disch := omega) only [mZ_nc, mZ_same]
        · simp (disch := omega) only [mZ_nc]
        · exact (((((((((((((((Dif.rfl'.I (by unfold DS; omega)).I (by unfold DS; omega)).I (by unfold DS; omega)).I (by unfold DS; omega)).I (by unfold DS; omega)).I (by unfold DS; omega)).I (by unfold DS; omega)).I (by unfold DS; omega)).I (by unfold DS; omega)).I (by unfold DS; omega)).I (by unfold DS; omega)).I (by unfold DS; omega)).I (by unfold DS; omega)).I (by unfold DS; omega)).I (by unfold DS; omega))
    · rw [if_pos g2] at c0
      have m0 := mh (xrf M (-3)) (xrf_D.shp h DS_8) (fun k => xrf_Z)
      rw [if_neg (fun q => q g0), if_pos g2] at m0
      exact Sim.rf (Or.inr (Or.inr (Or.inl rfl))) hw hR hB c0 m0
  · rw [if_pos g0] at c0
    have m0 := mh (xrf M (-1)) (xrf_D.shp h DS_8) (fun k => xrf_Z)
    rw [if_pos g0] at m0
    exact Sim.rf (Or.inl rfl) hw hR hB c0 m0

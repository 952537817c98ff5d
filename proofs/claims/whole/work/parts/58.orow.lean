/-! row answers alike -/
theorem K_heights {M M2 : qMe} (hw : WFk M 481 0) (hR : Ra M 9 481 0) (h1 : ∀ i k, 9 ≤ i → i < 29 → ¬ i = 11 → mZ M2 i k = mZ M i k) (h2 : ∀ k : Nat, 80 ≤ k → mZ M2 481 k = mZ M 481 k) (h3 : ∀ c : Int, 0 ≤ c → c < 80 → mZ M2 11 c.toNat = mZ M2 481 c.toNat ∧ 0 ≤ mZ M2 481 c.toNat ∧ mZ M2 481 c.toNat ≤ 99) : Ra M2 9 481 0 ∧ WFk M2 481 0 := by
  have rg : ∀ lo hi : Int, 80 ≤ lo → reg M M2 481 0 lo hi := fun lo hi hl k g1 g2 => h2 _ (by omega)
  have sm : ∀ i, 9 ≤ i → i < 29 → ¬ i = 11 → same M M2 i := fun i g1 g2 g3 k => h1 i k g1 g2 g3
  obtain ⟨x2, x3, x5, x7, x8, x9, x10, x11, x12, x13, x14, x15, x16, x18, x19, xh, xs⟩ := Ra_iff.mp hR
  obtain ⟨w1, w2, w3, w4, w7, w8, w10, w11⟩ := WFk_iff.mp hw
  have e264 : mZ M2 481 ((0 : Int) + 264).toNat = mZ M 481 ((0 : Int) + 264).toNat := h2 _ (by decide)
  have e265 : mZ M2 481 ((0 : Int) + 265).toNat = mZ M 481 ((0 : Int) + 265).toNat := h2 _ (by decide)
  have e266 : mZ M2 481 ((0 : Int) + 266).toNat = mZ M 481 ((0 : Int) + 266).toNat := h2 _ (by decide)
  have e267 : mZ M2 481 ((0 : Int) + 267).toNat = mZ M 481 ((0 : Int) + 267).toNat := h2 _ (by decide)
  have e268 : mZ M2 481 ((0 : Int) + 268).toNat = mZ M 481 ((0 : Int) + 268).toNat := h2 _ (by decide)
  have e269 : mZ M2 481 ((0 : Int) + 269).toNat = mZ M 481 ((0 : Int) + 269).toNat := h2 _ (by decide)
  have e270 : mZ M2 481 ((0 : Int) + 270).toNat = mZ M 481 ((0 : Int) + 270).toNat := h2 _ (by decide)
  have kx : ∀ {cell : Nat} {n p q : Int}, RaX M cell 481 0 n p q → 9 ≤ cell → cell < 29 → ¬ cell = 11 → 80 ≤ p → 0 ≤ q → RaX M2 cell 481 0 n p q := fun {cell n p q} hx g1 g2 g3 g4 g5 c k1 k2 => by
    have : 0 ≤ q * c := Int.mul_nonneg g5 k1
    rw [sm cell g1 g2 g3, h2 _ (by omega)]
    exact hx c k1 k2
  refine ⟨Ra_iff.mpr ⟨fun c g1 g2 => ?_, kx x3 (by decide) (by decide) (by decide) (by decide) (by decide), kx x5 (by decide) (by decide) (by decide) (by decide) (by decide), kx x7 (by decide) (by decide) (by decide) (by decide) (by decide), kx x8 (by decide) (by decide) (by decide) (by decide) (by decide), kx x9 (by decide) (by decide) (by decide) (by decide) (by decide), kx x10 (by decide) (by decide) (by decide) (by decide) (by decide), kx x11 (by decide) (by decide) (by decide) (by decide) (by decide), kx x12 (by decide) (by decide) (by decide) (by decide) (by decide), kx x13 (by decide) (by decide) (by decide) (by decide) (by decide), kx x14 (by decide) (by decide) (by decide) (by decide) (by decide), kx x15 (by decide) (by decide) (by decide) (by decide) (by decide), kx x16 (by decide) (by decide) (by decide) (by decide) (by decide), kx x18 (by decide) (by decide) (by decide) (by decide) (by decide), kx x19 (by decide) (by decide) (by decide) (by decide) (by decide), RaH_k xh w1.1 (sm _ (by decide) (by decide) (by decide)) (sm _ (by decide) (by decide) (by decide)) (rg _ _ (by decide)) e264, ?_⟩, WFk_iff.mpr ⟨WS_k w1 (rg _ _ (by decide)), fun c g1 g2 => ?_, W3_k w3 (rg _ _ (by decide)), W4_k w4 w1.1.2 (rg _ _ (by decide)) e264, W7_k w7 w1.2.1.2 (rg _ _ (by decide)) e265, W8_k w8 w1.2.2.1.2 (rg _ _ (by decide)) e266, W10_k w10 w1.2.2.2.1.2 (rg _ _ (by decide)) e267 (by rw [e264]; exact Int.le_refl _), W11_k w11 w1.2.2.2.2.1.2 (rg _ _ (by decide)) e268⟩⟩
  · have := (h3 c g1 g2).1
    rw [show ((0 : Int) + (0 + 1 * c)).toNat = c.toNat from congrArg Int.toNat (by omega)]
    exact this
  · obtain ⟨s1, s2, s3, s4, s5, s6, s7⟩ := xs
    refine ⟨?_, ?_, ?_, ?_, ?_, ?_, ?_⟩
    · rw [sm _ (by decide) (by decide) (by decide), e264]; exact s1
    · rw [sm _ (by decide) (by decide) (by decide), e265]; exact s2
    · rw [sm _ (by decide) (by decide) (by decide), e266]; exact s3
    · rw [sm _ (by decide) (by decide) (by decide), e267]; exact s4
    · rw [sm _ (by decide) (by decide) (by decide), e268]; exact s5
    · rw [sm _ (by decide) (by decide) (by decide), e269]; exact s6
    · rw [sm _ (by decide) (by decide) (by decide), e270]; exact s7
  · have := (h3 c g1 g2).2
    rw [Int.zero_add]
    exact this
theorem rcnt_congr {B C : Nat → Int} : ∀ n : Nat, (∀ i, i < n → (rok B i ↔ rok C i)) → rcnt B n = rcnt C n
  | 0, _ => rfl
  | n + 1, h => by
    have ih := rcnt_congr n (fun i hi => h i (by omega))
    by_cases r : rok B n
    · rw [rcnt_t r, rcnt_t ((h n (by omega)).mp r), ih]
    · rw [rcnt_f r, rcnt_f (fun q => r ((h n (by omega)).mpr q)), ih]
theorem o_row {d : Nat} {M : qMe} (h : shp M) (hw : WFk M 481 0) (hR : Ra M 9 481 0) (hB : Rb M) (hT : Rt M) : SimP M (d + 2) 14 101 [] DT Rt := by
  obtain ⟨⟨t1, t2, t3⟩, t4, t5, t6, t7⟩ := hT
  generalize ht : mZ M 8 4 = len at *
  by_cases g : len = 0 ∨ 9 < mZ M 71 0
  · have c0 := c_row_rf (d := d) h ht t1 t2 g (mZ_lt _ _ _)
    have e0 : ∀ i k, ¬ i = 8 → ¬ i = 72 → mZ (xrf (qsI M 8 4 (iz 0)) (-6)) i k = mZ M i k := fun i k g1 g2 => by
      unfold xrf
      rw [mZ_nc g2, mZ_nc g1, mZ_nc g1]
    have m0 := m_row_rf (d := d) (M := xrf (qsI M 8 4 (iz 0)) (-6)) (len := len) (xrf_D.shp (shp_I h (by decide)) DS_8) (by rw [e0 _ _ (by decide) (by decide)]; exact t3.symm) t1 t2 (by
      rw [e0 _ _ (by decide) (by decide)]
      by_cases z : len = 0
      · exact Or.inl z
      · right
        have := t4 0 (by omega) (by omega)
        have e : mZ M 486 0 = if mZ M 71 0 < 128 then mZ M 71 0 else mZ M 71 0 - 256 := this.2
        have b : 0 ≤ mZ M 71 0 ∧ mZ M 71 0 ≤ 255 := this.1
        rw [e]
        split <;> omega)
    refine ⟨_, _, _, c0, m0, ?_, ?_, ?_, ?_, ?_⟩
    · exact WFk_I (WFk_I (WFk_I (WFk_I (WFk_I (WFk_I hw (by decide)) (by decide)) (by decide)) (by decide)) (by decide)) (by decide)
    · exact Ra_I (Ra_I (Ra_I (Ra_I (Ra_I (Ra_I hR (by decide) (by decide)) (by decide) (by decide)) (by decide) (by decide)) (by decide) (by decide)) (by decide) (by decide)) (by decide) (by decide)
    · obtain ⟨b1, b2, b3, b4, b5, b6⟩ := hB
      exact ⟨rfl, b2, b3, b4, b5, congrArg (· + iz 1) b6⟩
    · exact (((((Dif.rfl'.I (by unfold DT; omega)).I (by unfold DT DS; omega)).I (by unfold DT DS; omega)).I (by unfold DT; omega)).I (by unfold DT DS; omega)).I (by unfold DT DS; omega)
    · have z8 : mZ (mrf (qsI (xrf (qsI M 8 4 (iz 0)) (-6)) 479 13 (iz 0)) (-6)) 8 4 = 0 := by
        unfold mrf xrf
        rw [mZ_nc (by decide), mZ_nc (by decide), mZ_nc (by decide), mZ_nc (by decide), mZ_nk (by decide), mZ_sm rfl (by decide) (by decide)]
      have z9 : mZ (mrf (qsI (xrf (qsI M 8 4 (iz 0)) (-6)) 479 13 (iz 0)) (-6)) 479 13 = 0 := by
        unfold mrf
        rw [mZ_nc (by decide), mZ_nk (by decide), mZ_sm rfl (by decide) (by decide)]
      unfold Rt
      rw [z8, z9]
      exact ⟨⟨by omega, by omega, rfl⟩, fun i g1 g2 => by omega, t5, t6, t7⟩
  · have hb : ∀ i : Int, 0 ≤ i → i < len → 0 ≤ mZ M 71 i.toNat ∧ mZ M 71 i.toNat ≤ 255 := fun i g1 g2 => (t4 i g1 g2).1
    obtain ⟨z, M1, c0, ez, hD, h11, x1, x2, x3⟩ := c_row_ok (d := d) h ht (by omega) t2 hb (by omega)
    have fr : ∀ i k, ¬ (i = 11 ∨ i = 8) → mZ M1 i k = mZ M i k := fun i k g1 => hD.z (by unfold DxR; omega)
    have f486 : mZ M1 486 = mZ M 486 := funext (fun k => fr _ _ (by omega))
    have f481 : ∀ k, mZ M1 481 k = mZ M 481 k := fun k => fr _ _ (by omega)
    have sg : ∀ i : Int, 0 ≤ i → i < len → mZ M 486 i.toNat = (if mZ M 71 i.toNat < 128 then mZ M 71 i.toNat else mZ M 71 i.toNat - 256) := fun i g1 g2 => (t4 i g1 g2).2
    have hb2 : ∀ i : Int, 0 ≤ i → i < len → -128 ≤ mZ M1 486 i.toNat ∧ mZ M1 486 i.toNat ≤ 127 := fun i g1 g2 => by
      have := hb i g1 g2
      rw [f486, sg i g1 g2]
      split <;> omega
    have b0 : 0 ≤ mZ M 71 0 ∧ mZ M 71 0 ≤ 255 := hb 0 (by omega) (by omega)
    have s0 : mZ M 486 0 = mZ M 71 0 := by
      have : mZ M 486 0 = (if mZ M 71 0 < 128 then mZ M 71 0 else mZ M 71 0 - 256) := sg 0 (by omega) (by omega)
      rw [this, if_pos (by omega)]
    obtain ⟨z2, M2, m0, ez2, hD2, h481, y1, y2, y3⟩ := m_row_ok (d := d) (M := M1) (len := len) (hD.shp h (fun i k hi => by unfold DxR; omega)) (by rw [fr _ _ (by omega)]; exact t3.symm) (by omega) t2 hb2 (by rw [f486, s0]; omega)
    rw [f486] at ez2 h481 y2
    have okk : ∀ i, i < len.toNat → (rok (mZ M 486) i ↔ rok (mZ M 71) i) := fun i hi => by
      have q1 := hb (i : Int) (by omega) (by omega)
      have q2 := sg (i : Int) (by omega) (by omega)
      rw [Int.toNat_natCast] at q1 q2
      unfold rok
      rw [q2]
      split <;> omega
    have ec := rcnt_congr len.toNat okk
    have fr2 : ∀ i k, ¬ ((i = 481 ∧ k < 80) ∨ i = 479) → mZ M2 i k = mZ M1 i k := fun i k g1 => hD2.z (by unfold DmR; omega)
    have eh : ∀ c : Int, 0 ≤ c → c < 80 → rht (mZ M 486) len (fun c => mZ M1 481 c.toNat) c = rht (mZ M 71) len (fun c => mZ M 481 c.toNat) c := fun c g1 g2 => by
      unfold rht
      rw [s0]
      simp only [f481]
      by_cases q : 8 * mZ M 71 0 ≤ c ∧ c < 8 * mZ M 71 0 + 8 ∧ c - 8 * mZ M 71 0 + 1 < len
      · have q1 := hb (c - 8 * mZ M 71 0 + 1) (by omega) q.2.2
        have q2 := sg (c - 8 * mZ M 71 0 + 1) (by omega) q.2.2
        by_cases q3 : mZ M 71 (c - 8 * mZ M 71 0 + 1).toNat ≤ 99
        · rw [if_pos (show mZ M 71 (c - 8 * mZ M 71 0 + 1).toNat < 128 by omega)] at q2
          rw [q2]
        · rw [if_neg (show ¬ (8 * mZ M 71 0 ≤ c ∧ c < 8 * mZ M 71 0 + 8 ∧ c - 8 * mZ M 71 0 + 1 < len ∧ 0 ≤ mZ M 71 (c - 8 * mZ M 71 0 + 1).toNat ∧ mZ M 71 (c - 8 * mZ M 71 0 + 1).toNat ≤ 99) by omega), if_neg]
          rw [q2]
          split <;> omega
      · rw [if_neg (by omega), if_neg (by omega)]
    have hl : ∀ c : Int, 0 ≤ c → c < 80 → mZ M 11 c.toNat = mZ M 481 c.toNat := fun c g1 g2 => by
      have := hR.1 c g1 g2
      rw [Int.zero_add] at this
      exact this
    have hk := K_heights (M2 := M2) hw hR (fun i k g1 g2 g3 => (fr2 i k (by omega)).trans (fr i k (by omega))) (fun k g1 => (fr2 _ k (by omega)).trans (f481 k)) (fun c g1 g2 => by
      have a1 : mZ M2 11 c.toNat = mZ M1 11 c.toNat := fr2 _ _ (by omega)
      have w := hw.2.1 c g1 g2
      rw [Int.zero_add] at w
      rw [a1, h11 c g1 g2, h481 c g1 g2, eh c g1 g2]
      refine ⟨?_, ?_⟩
      · unfold rht
        simp only [hl c g1 g2]
      · unfold rht
        split <;> omega)
    refine ⟨iz z, M1, M2, c0, by rw [m0, ez, ez2, ec], hk.2, hk.1, ?_, (hD.mono (fun i k q => by unfold DxR at q; unfold DT DS; omega)).tr (hD2.mono (fun i k q => by unfold DmR at q; unfold DT DS; omega)), ?_⟩
    · have fi : ∀ i k, ¬ (i = 11 ∨ i = 8 ∨ i = 479 ∨ i = 481) → mI M2 i k = mI M i k := fun i k g1 => (hD2.2.2.2.2 i k (by unfold DmR; omega)).trans (hD.2.2.2.2 i k (by unfold DxR; omega))
      refine Rb_good hB ?_ (fun k => fi _ _ (by omega)) (fun k => fi _ _ (by omega))
      rw [mI_Z, mI_Z, y3, fr2 8 _ (by omega), x3]
    · have fi : ∀ i k, ¬ (i = 479 ∨ i = 481) → mI M2 i k = mI M1 i k := fun i k g1 => hD2.2.2.2.2 i k (by unfold DmR; omega)
      refine ⟨?_, ?_, ?_, ?_, ?_⟩
      · rw [fr2 8 _ (by omega), x1, y1]; exact ⟨by omega, by omega, rfl⟩
      · rw [fr2 8 _ (by omega), x1]; intro i g1 g2; omega
      · rw [mI_Z, mI_Z, y2, fr2 8 _ (by omega), x2, ec]
      · rw [fi 8 _ (by omega), hD2.2.2.2.2 479 _ (by unfold DmR; omega), hD.2.2.2.2 479 _ (by unfold DxR; omega), hD.2.2.2.2 8 _ (by unfold DxR; omega)]; exact t6
      · rw [fi 8 _ (by omega), hD2.2.2.2.2 479 _ (by unfold DmR; omega), hD.2.2.2.2 479 _ (by unfold DxR; omega), hD.2.2.2.2 8 _ (by unfold DxR; omega)]; exact t7

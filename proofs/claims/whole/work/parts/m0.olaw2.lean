theorem pOf_one {M M2 : qMe} {t : Nat} (hn : nOf M 481 0 (t : Int) ≤ 400) (hA : ∀ k : Nat, (k = 271 + t ∨ (278 + 400 * t ≤ k ∧ k < 678 + 400 * t) ∨ (3078 + 400 * t ≤ k ∧ k < 3478 + 400 * t)) → mZ M2 481 k = mZ M 481 k) : nOf M2 481 0 (t : Int) = nOf M 481 0 (t : Int) ∧ vOf M2 481 0 (t : Int) = vOf M 481 0 (t : Int) ∧ pOf M2 481 0 (t : Int) = pOf M 481 0 (t : Int) := by
  have e1 : nOf M2 481 0 (t : Int) = nOf M 481 0 (t : Int) := by
    unfold nOf
    rw [show ((0 : Int) + 271 + (t : Int)).toNat = 271 + t by omega, hA _ (Or.inl rfl)]
  have e2 : cOf M2 481 0 (t : Int) = cOf M 481 0 (t : Int) := funext (fun p => by
    unfold cOf
    rw [e1]
    by_cases c : p < nOf M 481 0 (t : Int)
    · rw [if_pos c, if_pos c, show ((0 : Int) + 278 + 400 * (t : Int) + (p : Int)).toNat = 278 + 400 * t + p by omega, hA _ (by omega)]
    · rw [if_neg c, if_neg c])
  have e3 : vOf M2 481 0 (t : Int) = vOf M 481 0 (t : Int) := funext (fun p => by
    unfold vOf
    rw [e1]
    by_cases c : p < nOf M 481 0 (t : Int)
    · rw [if_pos c, if_pos c, show ((0 : Int) + 3078 + 400 * (t : Int) + (p : Int)).toNat = 3078 + 400 * t + p by omega, hA _ (by omega)]
    · rw [if_neg c, if_neg c])
  refine ⟨e1, e3, ?_⟩
  unfold pOf
  rw [e1, e2, e3]
/-- the text laid down at t is that of the tape -/
theorem pOf_new {M2 : qMe} {b : Nat → Int} {n t : Nat} (hn : n ≤ 400) (h0 : mZ M2 481 (271 + t) = ((nTK b n : Nat) : Int)) (h1 : ∀ p : Nat, p < nTK b n → mZ M2 481 (278 + 400 * t + p) = cTK b n p ∧ mZ M2 481 (3078 + 400 * t + p) = vTK b n p) : pOf M2 481 0 (t : Int) = rTK b n true ∧ vOf M2 481 0 (t : Int) = vTK b n ∧ nOf M2 481 0 (t : Int) = nTK b n ∧ cOf M2 481 0 (t : Int) = cTK b n := by
  have e1 : nOf M2 481 0 (t : Int) = nTK b n := by
    unfold nOf
    rw [show ((0 : Int) + 271 + (t : Int)).toNat = 271 + t by omega, h0, Int.toNat_natCast]
  have e2 : cOf M2 481 0 (t : Int) = cTK b n := funext (fun p => by
    unfold cOf
    rw [e1]
    by_cases c : p < nTK b n
    · rw [if_pos c, show ((0 : Int) + 278 + 400 * (t : Int) + (p : Int)).toNat = 278 + 400 * t + p by omega, (h1 p c).1]
    · rw [if_neg c, cTK_0 p (by omega)])
  have e3 : vOf M2 481 0 (t : Int) = vTK b n := funext (fun p => by
    unfold vOf
    rw [e1]
    by_cases c : p < nTK b n
    · rw [if_pos c, show ((0 : Int) + 3078 + 400 * (t : Int) + (p : Int)).toNat = 3078 + 400 * t + p by omega, (h1 p c).2]
    · rw [if_neg c, (cTK_n (by omega)).2.1])
  refine ⟨?_, e3, e1, e2⟩
  unfold pOf rTK
  rw [e1, e2, e3]
theorem Ra_law {M M2 : qMe} (hw : WFk M 481 0) (h : Ra M 9 481 0) (hk : ∀ k : Nat, ¬ k = 269 → k < 271 → mZ M2 481 k = mZ M 481 k) (hx : ∀ i k, 9 ≤ i → i < 29 → ¬ (i = 9 ∧ k = 12) → mZ M2 i k = mZ M i k) (hc : mZ M2 9 12 = mZ M2 481 269) : Ra M2 9 481 0 := by
  obtain ⟨x2, x3, x5, x7, x8, x9, x10, x11, x12, x13, x14, x15, x16, x18, x19, xh, xs⟩ := Ra_iff.mp h
  have sm : ∀ i, 10 ≤ i → i < 29 → same M M2 i := fun i a b k => hx i k (by omega) b (by omega)
  have rg : ∀ lo hi : Int, 0 ≤ lo → hi ≤ 269 → reg M M2 481 0 lo hi := fun lo hi a b k g1 g2 => hk _ (by omega) (by omega)
  obtain ⟨s1, s2, s3, s4, s5, s6, s7⟩ := xs
  have e0 : ∀ k : Int, (0 ≤ k ∧ ¬ k = 269 ∧ k < 271) → mZ M2 481 ((0 : Int) + k).toNat = mZ M 481 ((0 : Int) + k).toNat := fun k a => hk _ (by omega) (by omega)
  refine Ra_iff.mpr ⟨RaX_k x2 (sm _ (by decide) (by decide)) (rg 0 80 (by decide) (by decide)) (fun c _ _ => by omega), RaX_k x3 (sm _ (by decide) (by decide)) (rg 80 160 (by decide) (by decide)) (fun c _ _ => by omega), RaX_k x5 (sm _ (by decide) (by decide)) (rg 160 200 (by decide) (by decide)) (fun c _ _ => by omega), RaX_k x7 (sm _ (by decide) (by decide)) (rg 160 200 (by decide) (by decide)) (fun c _ _ => by omega), RaX_k x8 (sm _ (by decide) (by decide)) (rg 160 200 (by decide) (by decide)) (fun c _ _ => by omega), RaX_k x9 (sm _ (by decide) (by decide)) (rg 160 200 (by decide) (by decide)) (fun c _ _ => by omega), RaX_k x10 (sm _ (by decide) (by decide)) (rg 200 204 (by decide) (by decide)) (fun c _ _ => by omega), RaX_k x11 (sm _ (by decide) (by decide)) (rg 204 228 (by decide) (by decide)) (fun c _ _ => by omega), RaX_k x12 (sm _ (by decide) (by decide)) (rg 204 228 (by decide) (by decide)) (fun c _ _ => by omega), RaX_k x13 (sm _ (by decide) (by decide)) (rg 204 229 (by decide) (by decide)) (fun c _ _ => by omega), RaX_k x14 (sm _ (by decide) (by decide)) (rg 228 244 (by decide) (by decide)) (fun c _ _ => by omega), RaX_k x15 (sm _ (by decide) (by decide)) (rg 228 245 (by decide) (by decide)) (fun c _ _ => by omega), RaX_k x16 (sm _ (by decide) (by decide)) (rg 260 264 (by decide) (by decide)) (fun c _ _ => by omega), RaX_k x18 (sm _ (by decide) (by decide)) (rg 244 260 (by decide) (by decide)) (fun c _ _ => by omega), RaX_k x19 (sm _ (by decide) (by decide)) (rg 244 261 (by decide) (by decide)) (fun c _ _ => by omega), RaH_k xh ?_ (sm _ (by decide) (by decide)) (sm _ (by decide) (by decide)) (rg 160 200 (by decide) (by decide)) (e0 264 (by decide)), ?_⟩
  · exact hw.1.1
  · refine ⟨?_, ?_, ?_, ?_, ?_, hc, ?_⟩
    · rw [e0 264 (by decide), hx _ _ (by decide) (by decide) (by decide)]; exact s1
    · rw [e0 265 (by decide), hx _ _ (by decide) (by decide) (by decide)]; exact s2
    · rw [e0 266 (by decide), hx _ _ (by decide) (by decide) (by decide)]; exact s3
    · rw [e0 267 (by decide), hx _ _ (by decide) (by decide) (by decide)]; exact s4
    · rw [e0 268 (by decide), hx _ _ (by decide) (by decide) (by decide)]; exact s5
    · rw [e0 270 (by decide), hx _ _ (by decide) (by decide) (by decide)]; exact s7
theorem WFk_law {M M2 : qMe} (hw : WFk M 481 0) (hk : ∀ k : Nat, ¬ k = 269 → k < 271 → mZ M2 481 k = mZ M 481 k) (hc : mZ M2 481 269 = mZ M 481 269 + 1) (h6 : mZ M 481 269 < 6) : WFk M2 481 0 := by
  obtain ⟨w1, w2, w3, w4, w7, w8, w10, w11⟩ := WFk_iff.mp hw
  have rg : ∀ lo hi : Int, 0 ≤ lo → hi ≤ 269 → reg M M2 481 0 lo hi := fun lo hi a b k g1 g2 => hk _ (by omega) (by omega)
  have e0 : ∀ k : Int, (0 ≤ k ∧ ¬ k = 269 ∧ k < 271) → mZ M2 481 ((0 : Int) + k).toNat = mZ M 481 ((0 : Int) + k).toNat := fun k a => hk _ (by omega) (by omega)
  obtain ⟨s1, s2, s3, s4, s5, s6, s7, s8, s9, s10, s11⟩ := id w1
  have e264 := e0 264 (by decide)
  have e265 := e0 265 (by decide)
  have e266 := e0 266 (by decide)
  have e267 := e0 267 (by decide)
  have e268 := e0 268 (by decide)
  have e270 := e0 270 (by decide)
  have e260 := e0 260 (by decide)
  have e261 := e0 261 (by decide)
  have e262 := e0 262 (by decide)
  have e263 := e0 263 (by decide)
  refine WFk_iff.mpr ⟨⟨?_, ?_, ?_, ?_, ?_, ?_, ?_, ?_, ?_, ?_, ?_⟩, W2_k w2 (rg 0 80 (by decide) (by decide)), W3_k w3 (rg 80 160 (by decide) (by decide)), W4_k w4 s1.2 (rg 160 200 (by decide) (by decide)) e264, W7_k w7 s2.2 (rg 200 204 (by decide) (by decide)) e265, W8_k w8 s3.2 (rg 204 228 (by decide) (by decide)) e266, W10_k w10 s4.2 (rg 228 244 (by decide) (by decide)) e267 (by rw [e264]; exact Int.le_refl _), W11_k w11 s5.2 (rg 244 260 (by decide) (by decide)) e268⟩
  · rw [e264]; exact s1
  · rw [e265]; exact s2
  · rw [e266]; exact s3
  · rw [e267]; exact s4
  · rw [e268]; exact s5
  · have s6 : 0 ≤ mZ M 481 269 ∧ mZ M 481 269 ≤ 6 := s6
    show 0 ≤ mZ M2 481 269 ∧ mZ M2 481 269 ≤ 6
    omega
  · have s7 : -1 ≤ mZ M 481 270 ∧ mZ M 481 270 < mZ M 481 269 := s7
    have e270 : mZ M2 481 270 = mZ M 481 270 := e270
    show -1 ≤ mZ M2 481 270 ∧ mZ M2 481 270 < mZ M2 481 269
    omega
  · rw [e260]; exact s8
  · rw [e261]; exact s9
  · rw [e262]; exact s10
  · rw [e263]; exact s11
def SimY (M : qMe) (d yc ym : Nat) (As : List Value) (Q : qMe → Prop) : Prop := ∃ v M1 M2, cal d yc (.ref 8 :: As) M = some (some (.int v), M1) ∧ cal d ym (.ref 479 :: As) M1 = some (some (.int v), M2) ∧ mN M2 = mN M1 ∧ Q M2
set_option maxHeartbeats 2000000 in
theorem o_law {d : Nat} {M : qMe} (hW : Wo M) (hB : Rb M) (hT : Rt M) (hX : TxR M 9) (hr : Rw M) : SimY M (d + 101) 16 127 [] (fun M2 => Wo M2 ∧ Rb M2 ∧ Rt M2 ∧ TxR M2 9 ∧ mN M2 ≤ mN M + 6 ∧ Frg M M2 (fun i k => Dlw i k ∨ (i = 8 ∧ k = 7) ∨ (i = 479 ∧ k = 57)) (fun i _ => i = 26) ∧ ∀ i, mN M ≤ i → i < mN M2 → (mK M2 i).2 ≤ 600) := by
  have h := hW.1
  have hN := h.1
  obtain ⟨⟨t1, t2, t3⟩, t4, t5, t6, t7⟩ := id hT
  obtain ⟨n, hn⟩ : ∃ n : Nat, mZ M 8 4 = (n : Int) := ⟨_, (Int.toNat_of_nonneg t1).symm⟩
  have n4 : n ≤ 400 := by omega
  have hb : ∀ j : Nat, j < n → mZ M 486 j = sg (mZ M 71 j) ∧ 0 ≤ mZ M 71 j ∧ mZ M 71 j ≤ 255 := fun j q => by
    have a := t4 (j : Int) (by omega) (by omega)
    rw [Int.toNat_natCast] at a
    exact ⟨a.2, a.1.1, a.1.2⟩
  have s6 : 0 ≤ mZ M 481 269 ∧ mZ M 481 269 ≤ 6 := (WFk_s hW.2.1).2.2.2.2.2.1
  obtain ⟨cnt, hc⟩ : ∃ cnt : Nat, mZ M 481 269 = (cnt : Int) := ⟨_, (Int.toNat_of_nonneg s6.1).symm⟩
  have xs := (Ra_iff.mp hW.2.2.1).2.2.2.2.2.2.2.2.2.2.2.2.2.2.2.2
  have hc9 : mZ M 9 12 = (cnt : Int) := by
    have : mZ M 9 12 = mZ M 481 269 := xs.2.2.2.2.2.1
    omega
  have eq : ∀ i k, mI M i k = iz (mZ M i k) := fun i k => mI_Z M i k
  obtain ⟨z, M1, c0, r⟩ := c_law (d := d + 4) h hn n4 (fun j q => (hb j q).2) hc9 (by omega)
  have fx : mZ M 8 6 = mZ M 479 14 := congrArg Int32.toInt t6
  have sx : mZ M 8 7 = mZ M 479 57 := congrArg Int32.toInt t7
  rcases r with ⟨e6, rfl, rfl⟩ | ⟨e6, rt, rfl, Mp, Dp, tp, fp, rfl⟩ | ⟨e6, rt, rfl, Mp, nP, FP, tp, fp, cp, r26, TX, kp, rfl⟩
  · -- full
    have Dp : Dif M (qsI M 8 4 (iz 0)) (fun i k => i = 8 ∧ k = 4) := Dif.rfl'.I ⟨rfl, rfl⟩
    have xz : ∀ i k, ¬ Drf i k → ¬ (i = 8 ∧ k = 4) → mZ (xrf (qsI M 8 4 (iz 0)) (-5)) i k = mZ M i k := fun i k q r => (xrf_Df.z q).trans (Dp.z r)
    have hx : shp (xrf (qsI M 8 4 (iz 0)) (-5)) := xrf_Df.shp (Dp.shp h (fun i k hi => by omega)) (fun i k hi => by unfold Drf; omega)
    obtain ⟨z2, M2, m0, r2⟩ := m_law (d := d) (b := mZ M 71) hx (fun j q => by rw [xz _ _ (by unfold Drf; omega) (by omega)]; exact hr j q) n4 (by rw [xz _ _ (by unfold Drf; omega) (by omega), ← t3]; exact hn) (fun j q => by rw [xz _ _ (by unfold Drf; omega) (by omega)]; exact hb j q) (by rw [xz _ _ (by unfold Drf; omega) (by omega)]; exact hc) (by omega)
    rcases r2 with ⟨-, rfl, rfl⟩ | ⟨e, -⟩ | ⟨e, -⟩
    · obtain ⟨w1, w2, w3, w4, w5⟩ := o_text_rf (b := -5) (Or.inl rfl) hW hB hT hX Dp (fun i k q => Or.inl (Or.inr ⟨q.1, Or.inl q.2⟩)) (mZ_sm rfl (by decide) (by decide)) (Dm := fun i k => i = 479 ∧ k = 13) (Dif.rfl'.I ⟨rfl, rfl⟩) (fun i k q => Or.inl (Or.inr (Or.inr ⟨q.1, by omega⟩))) (mZ_sm rfl (by decide) (by decide)) (by
        rw [Dp.z (by omega), mZ_nk (by decide), xz _ _ (by unfold Drf; omega) (by omega)]; exact fx) (by
        rw [Dp.z (by omega), mZ_nk (by decide), xz _ _ (by unfold Drf; omega) (by omega)]; exact sx)
      exact ⟨_, _, _, c0, m0, rfl, w1, w2, w3, w4, by rw [w5.1]; omega, Frg.of w5, fun i a b => by have := w5.1; omega⟩
    · omega
    · omega
  · -- not well read
    have xz : ∀ i k, ¬ Drf i k → ¬ DLf i k → mZ (xrf Mp (-6)) i k = mZ M i k := fun i k q r => (xrf_Df.z q).trans (Dp.z r)
    have hx : shp (xrf Mp (-6)) := xrf_Df.shp (Dp.shp h (fun i k hi => by unfold DLf DPx DCu DPa DRy; omega)) (fun i k hi => by unfold Drf; omega)
    obtain ⟨z2, M2, m0, r2⟩ := m_law (d := d) (b := mZ M 71) hx (fun j q => by rw [xz _ _ (by unfold Drf; omega) (by unfold DLf DPx DCu DPa DRy; omega)]; exact hr j q) n4 (by rw [xz _ _ (by unfold Drf; omega) (by unfold DLf DPx DCu DPa DRy; omega), ← t3]; exact hn) (fun j q => by rw [xz _ _ (by unfold Drf; omega) (by unfold DLf DPx DCu DPa DRy; omega)]; exact hb j q) (by rw [xz _ _ (by unfold Drf; omega) (by unfold DLf DPx DCu DPa DRy; omega)]; exact hc) (by omega)
    rcases r2 with ⟨e, -⟩ | ⟨-, -, rfl, Mq, Dq, tq, fq, rfl⟩ | ⟨-, e, -⟩
    · omega
    · obtain ⟨w1, w2, w3, w4, w5⟩ := o_text_rf (b := -6) (Or.inr rfl) hW hB hT hX Dp (fun i k q => Or.inl q) tp Dq (fun i k q => Or.inl q) tq (fp.trans fq.symm) (by
        rw [Dp.z (by unfold DLf DPx DCu DPa DRy; omega), Dq.z (by unfold DRr DSp DRm; omega), xz _ _ (by unfold Drf; omega) (by unfold DLf DPx DCu DPa DRy; omega)]; exact sx)
      exact ⟨_, _, _, c0, m0, Dq.1, w1, w2, w3, w4, by rw [w5.1]; omega, Frg.of w5, fun i a b => by have := w5.1; omega⟩
    · rw [rt] at e; cases e
  · -- one LAW more
    have F1 : Frg M (qsI Mp 8 8 (iz 0)) (fun i k => DLx i k ∨ Drf i k) (fun i _ => i = 26) := (FP.mono (fun i k q => Or.inl q) (fun i k q => q.1)).tr (Frg.of (Dif.rfl'.I (Or.inr (Or.inl ⟨rfl, rfl⟩))))
    have hx := F1.shp h (fun i k q => by unfold isL; omega) (fun i k hi => by unfold DLx DLf DPx DCu DPa DRy Drf; omega)
    have xz : ∀ i k, i < 513 → ¬ DLx i k → ¬ Drf i k → mZ (qsI Mp 8 8 (iz 0)) i k = mZ M i k := fun i k a q r => F1.z (by omega) (fun z => by
      rcases z with z | z
      · exact q z
      · exact r z)
    have nD : ∀ i k, (i = 485 ∨ i = 486 ∨ (i = 479 ∧ ¬ k = 0) ∨ i = 481) → mZ (qsI Mp 8 8 (iz 0)) i k = mZ M i k := fun i k q => xz _ _ (by omega) (by unfold DLx DLf DPx DCu DPa DRy; omega) (by unfold Drf; omega)
    obtain ⟨z2, M2, m0, r2⟩ := m_law (d := d) (b := mZ M 71) hx (fun j q => by rw [nD _ _ (by omega)]; exact hr j q) n4 (by rw [nD _ _ (by omega), ← t3]; exact hn) (fun j q => by rw [nD _ _ (by omega)]; exact hb j q) (by rw [nD _ _ (by omega)]; exact hc) (by omega)
    rcases r2 with ⟨e, -⟩ | ⟨-, e, -⟩ | ⟨-, -, rfl, Mq, Dq, tq, fq, cq, nq, pq, rfl⟩
    · omega
    · rw [rt] at e; cases e
    · have F2 : Frg M (qsI Mq 479 0 (iz 0)) (fun i k => DLx i k ∨ Drf i k ∨ DLm cnt i k) (fun i _ => i = 26) := (F1.mono (fun i k q => by
        rcases q with q | q
        · exact Or.inl q
        · exact Or.inr (Or.inl q)) (fun i k q => q)).tr (((Frg.of Dq).mono (fun i k q => Or.inr (Or.inr q)) (fun i k q => q)).tr (Frg.of (Dif.rfl'.I (Or.inr (Or.inl (Or.inr (Or.inr (Or.inl ⟨rfl, rfl⟩))))))))
      have qz : ∀ i k, ¬ (i = 479 ∧ k = 0) → mZ (qsI Mq 479 0 (iz 0)) i k = mZ Mq i k := fun i k q => by
        by_cases e : i = 479
        · subst e; exact mZ_nk (fun z => q ⟨rfl, z⟩)
        · exact mZ_nc e
      have hx2 := F2.shp h (fun i k q => by unfold isL; omega) (fun i k hi => by unfold DLx DLf DPx DCu DPa DRy Drf DLm DRr DSp DRm DLy; omega)
      have k481 : ∀ k : Nat, ¬ k = 269 → k < 271 → mZ (qsI Mq 479 0 (iz 0)) 481 k = mZ M 481 k := fun k a b => by
        rw [qz _ _ (by omega), Dq.z (by unfold DLm DRr DSp DRm DLy; omega), nD _ _ (by omega)]
      have c481 : mZ (qsI Mq 479 0 (iz 0)) 481 269 = (cnt : Int) + 1 := (qz _ _ (by omega)).trans cq
      have xk : ∀ i k, 8 ≤ i → i < 479 → mZ (qsI Mq 479 0 (iz 0)) i k = mZ (qsI Mp 8 8 (iz 0)) i k := fun i k a b => (qz _ _ (by omega)).trans (Dq.z (by unfold DLm DRr DSp DRm DLy; omega))
      have pk : ∀ i k, ¬ (i = 8 ∧ k = 8) → mZ (qsI Mp 8 8 (iz 0)) i k = mZ Mp i k := fun i k q => by
        by_cases e : i = 8
        · subst e; exact mZ_nk (fun z => q ⟨rfl, z⟩)
        · exact mZ_nc e
      have wf := WFk_law hW.2.1 k481 (by omega) (by omega)
      have ra := Ra_law hW.2.1 hW.2.2.1 k481 (fun i k g1 g2 g3 => by rw [xk _ _ (by omega) (by omega)]; exact xz _ _ (by omega) (by unfold DLx DLf DPx DCu DPa DRy; omega) (by unfold Drf; omega)) (by
        rw [xk _ _ (by decide) (by decide), pk _ _ (by decide), cp, c481])
      have hKq : ∀ i, mK (qsI Mq 479 0 (iz 0)) i = mK Mp i := fun i => Dq.2.1 i
      have hRq : ∀ i k, mR (qsI Mq 479 0 (iz 0)) i k = mR Mp i k := fun i k => Dq.2.2.1 i k
      have hNq : mN (qsI Mq 479 0 (iz 0)) = mN M + 6 := Dq.1.trans nP
      have hZq : ∀ i k, 513 ≤ i → mZ (qsI Mq 479 0 (iz 0)) i k = mZ Mp i k := fun i k g => by
        rw [qz _ _ (by omega), Dq.z (by unfold DLm DRr DSp DRm DLy; omega), pk _ _ (by omega)]
      have LR : LawsR (qsI Mq 479 0 (iz 0)) 9 481 0 := by
        intro t g1 g2
        have g2 : t < mZ (qsI Mq 479 0 (iz 0)) 481 269 := g2
        rw [c481] at g2
        obtain ⟨tt, rfl⟩ : ∃ tt : Nat, t = (tt : Int) := ⟨t.toNat, by omega⟩
        by_cases et : tt = cnt
        · subst et
          obtain ⟨p1, p2, p3, p4⟩ := pOf_new (M2 := qsI Mq 479 0 (iz 0)) (b := mZ M 71) (t := tt) n4 ((qz _ _ (by omega)).trans nq) (fun p q => by
            rw [qz _ _ (by omega), qz _ _ (by omega)]
            exact pq p q)
          have nl := nTK_n (b := mZ M 71) (n := n)
          refine ⟨⟨?_, ?_, ?_⟩, mN M, mN M + 1, mN M + 2, mN M + 3, mN M + 4, mN M + 5, ?_, by omega, ?_⟩
          · rw [show ((0 : Int) + 271 + (tt : Int)).toNat = 271 + tt by omega, qz _ _ (by omega), nq]
            omega
          · rw [p2]; exact fun p => (vTK_b p).1
          · rw [p1]; exact rt
          · rw [hRq, Int.toNat_natCast]
            exact r26
          · rw [p1]
            exact TextR_k TX (by omega) (by rw [hNq, nP]; exact Nat.le_refl _) (fun i _ => hKq i) (fun i k _ _ => hRq i k) (fun i k g _ => hZq i k g)
        · have g3 : (tt : Int) < mZ M 481 ((0 : Int) + 269).toNat := by
            show (tt : Int) < mZ M 481 269
            omega
          obtain ⟨k1, L, Lk, Ls, Lt, Lm, Lc, m1, m2, m3⟩ := hW.2.2.2 (tt : Int) g1 g3
          obtain ⟨o1, o2, o3⟩ := pOf_one (M := M) (M2 := qsI Mq 479 0 (iz 0)) (t := tt) (by have := k1.1; unfold nOf; omega) (fun k q => by
            rw [qz _ _ (by omega), Dq.z (by unfold DLm DRr DSp DRm DLy; omega), nD _ _ (by omega)])
          refine ⟨⟨?_, ?_, ?_⟩, L, Lk, Ls, Lt, Lm, Lc, ?_, m2, ?_⟩
          · rw [show ((0 : Int) + 271 + (tt : Int)).toNat = 271 + tt by omega, qz _ _ (by omega), Dq.z (by unfold DLm DRr DSp DRm DLy; omega), nD _ _ (by omega)]
            have := k1.1
            rw [show ((0 : Int) + 271 + (tt : Int)).toNat = 271 + tt by omega] at this
            exact this
          · rw [o2]; exact k1.2.1
          · rw [o3]; exact k1.2.2
          · rw [hRq, Int.toNat_natCast, FP.2.2.1 _ _ (by omega) (by omega)]
            rw [Int.toNat_natCast] at m1
            exact m1
          · rw [o3]
            exact TextR_k m3 m2 (by rw [hNq]; omega) (fun i q => (hKq i).trans (FP.2.1 i q)) (fun i k q1 q2 => (hRq i k).trans (FP.2.2.1 i k q2 (by omega))) (fun i k q1 q2 => (hZq i k q1).trans (FP.z q2 (by unfold DLx DLf DPx DCu DPa DRy; omega)))
      have e8 : ∀ k, ¬ k = 8 → mZ (qsI Mq 479 0 (iz 0)) 8 k = mZ Mp 8 k := fun k q => (xk _ _ (by decide) (by decide)).trans (pk _ _ (by omega))
      have e479 : ∀ k, ¬ k = 0 → mZ (qsI Mq 479 0 (iz 0)) 479 k = mZ Mq 479 k := fun k q => qz _ _ (by omega)
      refine ⟨_, _, _, c0, m0, Dq.1, ⟨hx2, wf, ra, LR⟩, Rb_of hB (fun k => ?_) (fun k => ?_) ?_, Rt_0 hT ?_ ?_ ?_ ?_ ?_ ?_, fun t ht => ?_, by rw [hNq]; exact Nat.le_refl _, F2.mono (fun i k q => ?_) (fun i k q => q), fun i a b => by rw [hNq] at b; rw [hKq]; exact kp i a b⟩
      · rw [xk _ _ (by decide) (by decide), pk _ _ (by omega)]
        exact FP.z (by omega) (by unfold DLx DLf DPx DCu DPa DRy; omega)
      · rw [qz _ _ (by omega), Dq.z (by unfold DLm DRr DSp DRm DLy; omega), pk _ _ (by omega)]
        exact FP.z (by omega) (by unfold DLx DLf DPx DCu DPa DRy; omega)
      · rw [xk _ _ (by decide) (by decide), mZ_sm rfl (by decide) (by decide), mZ_sm rfl (by decide) (by decide)]
      · rw [e8 _ (by decide)]; exact tp
      · rw [e479 _ (by decide)]; exact tq
      · rw [e8 _ (by decide)]; exact FP.z (by omega) (by unfold DLx DLf DPx DCu DPa DRy; omega)
      · rw [e479 _ (by decide), Dq.z (by unfold DLm DRr DSp DRm DLy; omega)]; exact nD _ _ (by omega)
      · rw [e8 _ (by decide), e479 _ (by decide), fp, fq]
      · rw [e8 _ (by decide), e479 _ (by decide), Dq.z (by unfold DLm DRr DSp DRm DLy; omega), nD _ _ (by omega)]
        exact (FP.z (by omega) (by unfold DLx DLf DPx DCu DPa DRy; omega)).trans sx
      · rw [hRq]
        by_cases et : t = cnt
        · subst et
          exact Or.inr ⟨_, r26, by have := TX.1.1; rw [inM_b] at this ⊢; rw [hNq]; omega, by omega, by rw [hKq, TX.1.2.1]⟩
        · rw [FP.2.2.1 _ _ (by omega) (by omega)]
          rcases hX t ht with q | ⟨L, e, Li, L5, Lk⟩
          · exact Or.inl q
          · have Lb : L < mN M := by rw [inM_b] at Li; exact Li.2
            exact Or.inr ⟨L, e, by rw [inM_b] at Li ⊢; rw [hNq]; omega, L5, by rw [hKq, FP.2.1 L Lb]; exact Lk⟩
      · rcases q with q | q | q
        · exact Or.inl (Or.inl q)
        · exact Or.inl (Or.inr (Or.inl q))
        · rcases q with q | q | q
          · exact Or.inl (Or.inr (Or.inr (Or.inl q)))
          · exact Or.inl (Or.inr (Or.inr (Or.inr q.1)))
          · exact Or.inl (Or.inr (Or.inr (Or.inr q.1)))

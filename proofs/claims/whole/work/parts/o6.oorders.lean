/-! orders answer alike -/
theorem pTxt_f {c v : Nat → Int} {N : Nat} {law : Bool} : ∀ m p q a : Nat, (pTxt c v law N m p q a).1 = false → (pTxt c v law N m p q a).2.2.2.2 = []
  | 0, _, _, _, _ => rfl
  | m + 1, p, q, a, h => by
    rw [pTxt_s] at h ⊢
    cases hR : pItm c v law p q a with
    | mk rb R =>
    obtain ⟨p1, q1, cs, it⟩ := R
    rw [hR] at h
    cases rb with
    | false => rfl
    | true =>
      rw [pThen_t] at h ⊢
      by_cases e : c p1 = 159
      · rw [if_pos e] at h ⊢
        cases hR2 : pTxt c v law N m (p1 + 1) q1 (a + cs.length) with
        | mk rb2 R2 =>
        obtain ⟨p2, q2, cs2, is⟩ := R2
        rw [hR2] at h
        cases rb2 with
        | false => rfl
        | true => rw [pThen_t] at h; cases h
      · rw [if_neg e] at h ⊢
        by_cases e2 : p1 = N
        · rw [if_pos e2] at h; cases h
        · rw [if_neg e2]
theorem rTK_f {b : Nat → Int} {n : Nat} {law : Bool} (h : (rTK b n law).1 = false) : (rTK b n law).2.2.2.2 = [] := pTxt_f 12 0 0 0 h
theorem rTK_M {b : Nat → Int} {n : Nat} (hn : n ≤ 400) : (∀ it, it ∈ (rTK b n false).2.2.2.2 → itM it) ∧ (rTK b n false).2.2.2.2.length ≤ 12 := by
  cases e : (rTK b n false).1 with
  | false =>
    rw [rTK_f e]
    exact ⟨fun it q => (by cases q), by decide⟩
  | true => exact ⟨fun it q => itM_of (rTK_itX hn e it q), (rTK_ok hn e).2.1⟩
theorem Rb_rf3 {M Mp Mq : qMe} (hB : Rb M) (h72 : ∀ k, mI Mp 72 k = mI M 72 k) (q72 : ∀ k, mI Mq 72 k = mI (xrf Mp (-3)) 72 k) (q480 : ∀ k, mI Mq 480 k = mI M 480 k) (q8 : mI Mq 8 8 = mI (xrf Mp (-3)) 8 8) : Rb (mrf Mq (-3)) := by
  obtain ⟨b1, b2, b3, b4, b5, b6⟩ := hB
  have x8 : mI (xrf Mp (-3)) 8 8 = iz (-3) := by
    show mI (qsI (qsI Mp 8 8 (iz (-3))) 72 2 _) 8 8 = _
    rw [mI_nc (by decide), mI_sm rfl]
  have x7 : ∀ k, ¬ k = 2 → mI (xrf Mp (-3)) 72 k = mI Mp 72 k := fun k q => by
    show mI (qsI (qsI Mp 8 8 (iz (-3))) 72 2 _) 72 k = _
    rw [mI_ni q, mI_nc (by decide)]
  have x73 : mI (xrf Mp (-3)) 72 2 = mI Mp 72 2 + iz 1 := by
    show mI (qsI (qsI Mp 8 8 (iz (-3))) 72 2 (mI Mp 72 2 + iz 1)) 72 2 = _
    rw [mI_sm rfl]
  have e : mrf Mq (-3) = qsI (qsI Mq 479 0 (iz (-3))) 480 3 (mI Mq 480 3 + iz 1) := rfl
  rw [e]
  refine ⟨?_, ?_, ?_, ?_, ?_, ?_⟩
  · rw [mI_nc (by decide), mI_nc (by decide), mI_nc (by decide), mI_sm rfl, q8, x8]
  · rw [mI_nc (by decide), mI_nc (by decide), mI_ni (by decide), mI_nc (by decide), q72, x7 _ (by decide), h72, q480]; exact b2
  · rw [mI_nc (by decide), mI_nc (by decide), mI_ni (by decide), mI_nc (by decide), q72, x7 _ (by decide), h72, q480]; exact b3
  · rw [mI_nc (by decide), mI_nc (by decide), mI_sm rfl, q72, x73, h72, q480]; exact congrArg (· + iz 1) b4
  · rw [mI_nc (by decide), mI_nc (by decide), mI_ni (by decide), mI_nc (by decide), q72, x7 _ (by decide), h72, q480]; exact b5
  · rw [mI_nc (by decide), mI_nc (by decide), mI_ni (by decide), mI_nc (by decide), q72, x7 _ (by decide), h72, q480]; exact b6
theorem En_k2 {M M1 : qMe} {u b : Nat} (h : En M u b) (hz : ∀ i k, (i = 115 + u ∨ i = 132 + u ∨ i = 149 + u ∨ i = 166 + u ∨ (i = 182 ∧ k = u)) → mZ M1 i k = mZ M i k) (h5 : ∀ k, k < b + 105 → mZ M1 501 k = mZ M 501 k) : En M1 u b := by
  obtain ⟨a1, a2, a3, a4, a5⟩ := h
  refine ⟨fun c q => ?_, fun c q => ?_, fun c q => ?_, fun c q => ?_, ?_⟩
  · rw [hz _ _ (Or.inl rfl), h5 _ (by omega)]; exact a1 c q
  · rw [hz _ _ (Or.inr (Or.inl rfl)), h5 _ (by omega)]; exact a2 c q
  · rw [hz _ _ (Or.inr (Or.inr (Or.inl rfl))), h5 _ (by omega)]; exact a3 c q
  · rw [hz _ _ (Or.inr (Or.inr (Or.inr (Or.inl rfl)))), h5 _ (by omega)]; exact a4 c q
  · rw [hz _ _ (Or.inr (Or.inr (Or.inr (Or.inr ⟨rfl, rfl⟩)))), h5 _ (by omega)]; exact a5
theorem Cp_tr {M0 M1 M2 M3 : qMe} {b c a : Nat} (h : Cp M0 M1 b c) (g : Cp M2 M3 c a) (hz : ∀ i j, c ≤ i → i ≤ c + 19 → mZ M2 i j = mZ M1 i j) (hr : ∀ k, mR M2 (c + 17) k = mR M1 (c + 17) k) : Cp M0 M3 b a := by
  obtain ⟨c1, c2, c3, c4, c5, c6, c7, c8, c9, c10, c11, c12, c13, c14, c15, c16, c17, ⟨s1, s2, s3, s4, s5, s6, s7⟩, cr⟩ := h
  obtain ⟨d1, d2, d3, d4, d5, d6, d7, d8, d9, d10, d11, d12, d13, d14, d15, d16, d17, ⟨t1, t2, t3, t4, t5, t6, t7⟩, dr⟩ := g
  have f : ∀ n x y z : Nat, n ≤ 19 → mZ M1 (c + n) y = mZ M0 (b + n) z → mZ M3 (a + n) x = mZ M2 (c + n) y → mZ M3 (a + n) x = mZ M0 (b + n) z := fun n x y z q e g => g.trans ((hz _ _ (by omega) (by omega)).trans e)
  exact ⟨fun k q => f _ _ _ _ (by decide) (c1 k q) (d1 k q), fun k q => f _ _ _ _ (by decide) (c2 k q) (d2 k q), fun k q => f _ _ _ _ (by decide) (c3 k q) (d3 k q), fun k q => f _ _ _ _ (by decide) (c4 k q) (d4 k q), fun k q => f _ _ _ _ (by decide) (c5 k q) (d5 k q), fun k q => f _ _ _ _ (by decide) (c6 k q) (d6 k q), fun k q => f _ _ _ _ (by decide) (c7 k q) (d7 k q), fun k q => f _ _ _ _ (by decide) (c8 k q) (d8 k q), fun k q => f _ _ _ _ (by decide) (c9 k q) (d9 k q), fun k q => f _ _ _ _ (by decide) (c10 k q) (d10 k q), fun k q => f _ _ _ _ (by decide) (c11 k q) (d11 k q), fun k q => f _ _ _ _ (by decide) (c12 k q) (d12 k q), fun k q => f _ _ _ _ (by decide) (c13 k q) (d13 k q), fun k q => f _ _ _ _ (by decide) (c14 k q) (d14 k q), fun k q => f _ _ _ _ (by decide) (c15 k q) (d15 k q), fun k q => f _ _ _ _ (by decide) (c16 k q) (d16 k q), fun k q => f _ _ _ _ (by decide) (c17 k q) (d17 k q), ⟨f 1 _ _ _ (by decide) s1 t1, f 1 _ _ _ (by decide) s2 t2, f 0 _ _ _ (by decide) s3 t3, f 0 _ _ _ (by decide) s4 t4, f 0 _ _ _ (by decide) s5 t5, f 0 _ _ _ (by decide) s6 t6, f 0 _ _ _ (by decide) s7 t7⟩, fun k q => (dr k q).trans ((hr k).trans (cr k q))⟩
theorem okM_mx {M M1 : qMe} {D : Nat → Nat → Prop} {R : Nat → Prop} (hA : okM (Am (mN M)) M) (hF : Frx M M1 D R) (hN : 513 ≤ mN M) (hR : ∀ i, R i → isL i) : okM (Am (mN M1)) M1 := by
  rw [hF.1]
  refine ⟨fun i k j a e => hA.1 i k j a ?_, fun i q => hA.2.1 i (by rw [hF.1] at q; exact q), hA.2.2⟩
  rw [← hF.2.2.1 i k (fun z => by have := hR i z; unfold isL at this; unfold Am at a; omega) (fun z => by unfold Am at a; omega)]
  exact e
theorem Dmo_m2 {i k : Nat} (h : Dmo i k) : ¬ i = 512 ∧ (i = 479 → ¬ k = 68 ∧ ¬ k = 6) := by
  unfold Dmo DRr DSp DRm DMr DOb DGs DKp DSt DOp DTo DGa DLy at h
  omega
/-- what ORDERS change -/
def Dor (i k : Nat) : Prop := DBg i k ∨ Dxo i k ∨ Dmo i k ∨ Drf i k ∨ (9 ≤ i ∧ i ≤ 28) ∨ (i = 113 ∧ (k = 8 ∨ k = 7))
theorem Dor_i {i k : Nat} (h : Dor i k) : (i = 8 ∧ (k = 4 ∨ k = 6 ∨ k = 7 ∨ k = 8)) ∨ (9 ≤ i ∧ i ≤ 28) ∨ i = 72 ∨ (73 ≤ i ∧ i ≤ 80 ∧ (i = 78 → ¬ k = 11)) ∨ (113 ≤ i ∧ i ≤ 216) ∨ i = 480 ∨ ((479 ≤ i ∧ i ≤ 511) ∧ ¬ i = 493 ∧ ¬ i = 482 ∧ ¬ i = 484 ∧ ¬ i = 485 ∧ ¬ i = 486 ∧ (i = 479 → ¬ k = 38 ∧ ¬ k = 68 ∧ ¬ k = 6)) := by
  unfold Dor at h
  rcases h with q | q | q | q | q | q
  · have := DBg_i q; omega
  · unfold Dxo DXt at q; omega
  · have := Dmo_m q
    have := Dmo_m2 q
    omega
  · unfold Drf at q; omega
  · omega
  · omega
set_option maxHeartbeats 4000000 in
theorem o_orders {d : Nat} {M : qMe} (hW : Wo M) (hB : Rb M) (hT : Rt M) (hX : TxR M 9) (hr : Rw M) (hU : Un M) (hK : JK M) (he : 0 ≤ mZ M 73 6 ∧ mZ M 73 6 < 15990000) (hI : Rid M) (hA : okM Ax M) (hAm : okM (Am (mN M)) M) : SimZ M (d + 170) 17 203 [] (fun M2 => Wo M2 ∧ Rb M2 ∧ Rt M2 ∧ TxR M2 9 ∧ Un M2 ∧ JK M2 ∧ (0 ≤ mZ M2 73 6 ∧ mZ M2 73 6 ≤ mZ M 73 6 + 240) ∧ Rid M2 ∧ Frx M M2 Dor (fun i => i = 26 ∨ i = 211)) := by
  have h := hW.1
  have hN := h.1
  obtain ⟨⟨t1, t2, t3⟩, t4, t5, t6', t7⟩ := id hT
  obtain ⟨n, hn⟩ : ∃ n : Nat, mZ M 8 4 = (n : Int) := ⟨_, (Int.toNat_of_nonneg t1).symm⟩
  have n4 : n ≤ 400 := by omega
  have hb : ∀ j : Nat, j < n → mZ M 486 j = sg (mZ M 71 j) ∧ 0 ≤ mZ M 71 j ∧ mZ M 71 j ≤ 255 := fun j q => by
    have a := t4 (j : Int) (by omega) (by omega)
    rw [Int.toNat_natCast] at a
    exact ⟨a.2, a.1.1, a.1.2⟩
  obtain ⟨s, t, s8, t6, u1, u2, u3, u4⟩ := id hU
  obtain ⟨mi, m12⟩ := rTK_M (b := mZ M 71) n4
  obtain ⟨z, M1, c0, r⟩ := x_orders (d := d + 73) hW hU hK he hI hA hX hn n4 (fun j q => (hb j q).2) u1 u2 s8 t6
  have c0 : cal (d + 170) 17 [.ref 8] M = some (some (.int (iz z)), M1) := c0
  rcases r with ⟨rt, rfl, Mp, Dp, tp, fp, sp, rfl⟩ | ⟨rt, B, i', o', F, CB, tB, fB, sB, res⟩
  · -- not well read
    have D1 : Dif M (xrf Mp (-6)) (fun i k => DX1 i k ∨ Drf i k) := (Dp.mono (fun i k q => Or.inl q)).tr (xrf_Df.mono (fun i k q => Or.inr q))
    have xz : ∀ i k, 479 ≤ i → ¬ (i = 479 ∧ k = 0) → ¬ i = 480 → mZ (xrf Mp (-6)) i k = mZ M i k := fun i k a b c => D1.z (by unfold DX1 DLf DPx DCu DPa DRy Drf; omega)
    have W1 : WoM (xrf Mp (-6)) := WoM_k hW (Frm.of D1) (fun i k q => by unfold DX1 DLf DPx DCu DPa DRy Drf at q; omega)
    have I1 : Rid (xrf Mp (-6)) := Rid_z hI (fun i k q => D1.z (by unfold DX1 DLf DPx DCu DPa DRy Drf; omega))
    obtain ⟨z2, M2, m0, r2⟩ := m_orders (d := d) (n := n) (s := s) (B := xrf Mp (-6)) (b := mZ M 71) W1 I1 (okM_m hAm (Frm.of D1) hN) (fun j q => by rw [xz _ _ (by decide) (by omega) (by decide)]; exact hr j q) n4 (by rw [xz _ _ (by decide) (by decide) (by decide), ← t3]; exact hn) (fun j q => by rw [xz _ _ (by decide) (by omega) (by decide)]; exact hb j q) (by rw [xz _ _ (by decide) (by decide) (by decide)]; exact u3) s8 (fun k => rfl) mi m12
    rcases r2 with ⟨-, rfl, Mq, Dq, tq, fq, rfl⟩ | ⟨e, -⟩
    · have sq : mZ Mq 479 57 = -1 := (Dq.z (by unfold DRr DSp DRm; omega)).trans (mZ_sm rfl (by decide) (by decide))
      have Dq2 : Dif (xrf Mp (-6)) Mq (fun i k => DRr i k ∨ (i = 479 ∧ k = 57)) := (Dif.rfl'.I (Or.inr ⟨rfl, rfl⟩)).tr (Dq.mono (fun i k q => Or.inl q))
      obtain ⟨w1, w2, w3, w4, w5⟩ := o_text_rf (b := -6) (Or.inr rfl) hW hB hT hX Dp (fun i k q => q) tp Dq2 (fun i k q => q) tq (fp.trans fq.symm) (sp.trans sq.symm)
      have n5 : ∀ i k, ¬ (Dlw i k ∨ (i = 8 ∧ k = 7) ∨ (i = 479 ∧ k = 57)) → mZ (mrf Mq (-6)) i k = mZ M i k := fun i k q => w5.z q
      have FD : Frm M (mrf Mq (-6)) Dor := Frm.of ((Dp.mono (fun i k q => by
        rcases q with (q | q) | q
        · exact Or.inl (Or.inl q)
        · refine Or.inl ?_
          unfold DBg; omega
        · refine Or.inl ?_
          unfold DBg; omega)).tr ((xrf_Df.mono (fun i k q => Or.inr (Or.inr (Or.inr (Or.inl q))))).tr ((Dq2.mono (fun i k q => by
        refine Or.inr (Or.inr (Or.inl ?_))
        rcases q with q | q
        · exact Or.inl q
        · unfold Dmo; omega)).tr (mrf_Df.mono (fun i k q => Or.inr (Or.inr (Or.inr (Or.inl q))))))))
      have dl : ∀ i k, (Dlw i k ∨ (i = 8 ∧ k = 7) ∨ (i = 479 ∧ k = 57)) → i = 8 ∨ i = 9 ∨ i = 72 ∨ (183 ≤ i ∧ i ≤ 192) ∨ i = 480 ∨ i = 481 ∨ (488 ≤ i ∧ i ≤ 490) ∨ (i = 479 ∧ ¬ k = 47 ∧ ¬ k = 38) := fun i k q => by
        unfold Dlw DLx DLf DPx DCu DPa DRy Drf DRr DSp DRm at q
        omega
      have e73 : mZ (mrf Mq (-6)) 73 6 = mZ M 73 6 := n5 _ _ (fun q => by have := dl _ _ q; omega)
      exact ⟨_, _, _, c0, m0, w1, w2, w3, w4, Un_k hU (fun i k a => n5 _ _ (fun q => by have := dl _ _ q; omega)) (n5 _ _ (fun q => by have := dl _ _ q; omega)), JK_z hK (fun i k a => n5 _ _ (fun q => by have := dl _ _ q; omega)), by omega, Rid_z hI (fun i k a => n5 _ _ (fun q => by have := dl _ _ q; omega)), Frx.of FD⟩
    · rw [rt] at e; cases e
  · have fz : ∀ i k, ¬ i = 8 → ¬ (183 ≤ i ∧ i ≤ 213) → mZ B i k = mZ M i k := fun i k a b => F.z (fun z => by have := DBg_i z; omega)
    rcases res with ⟨er, rfl, bo, X, xi, rfl⟩ | ⟨er, rfl, X, X2, xf, F5, C5, rfl⟩
    · -- all run
      obtain ⟨WX, UX, KX, eX, IX, okX, CX, XDX, h93, FX, RX⟩ := id xi
      have Ds : Dif X (qsI X 8 8 (iz 0)) (fun i k => i = 8 ∧ k = 8) := Dif.rfl'.I ⟨rfl, rfl⟩
      have F1 : Frx M (qsI X 8 8 (iz 0)) (fun i k => DBg i k ∨ Dxo i k ∨ (i = 8 ∧ k = 8)) (fun i => i = 211) := (F.mono (fun i k q => Or.inl q) (fun i q => q)).tr ((Frx.of (FX.mono (fun i k q => Or.inr (Or.inl q)))).tr (Frx.of (Frm.of (Ds.mono (fun i k q => Or.inr (Or.inr q))))))
      have d1 : ∀ i k, (DBg i k ∨ Dxo i k ∨ (i = 8 ∧ k = 8)) → (i = 8 ∧ ¬ k = 5) ∨ (12 ≤ i ∧ i ≤ 25) ∨ (73 ≤ i ∧ i ≤ 80) ∨ (113 ≤ i ∧ i ≤ 216) := fun i k q => by
        rcases q with q | q | q
        · have := DBg_i q; omega
        · unfold Dxo DXt at q; omega
        · omega
      have xz : ∀ i k, 217 ≤ i → mZ (qsI X 8 8 (iz 0)) i k = mZ M i k := fun i k a => F1.z (fun q => by have := d1 _ _ q; omega)
      have xI : ∀ i k, 217 ≤ i → mI (qsI X 8 8 (iz 0)) i k = mI M i k := fun i k a => I_of_Z (xz i k a)
      have hX1 : shp (qsI X 8 8 (iz 0)) := shp_I (XI_shp xi) (by decide)
      have W1 : WoM (qsI X 8 8 (iz 0)) := ⟨hX1, WFk_of hW.2.1 (fun k => xz _ _ (by decide)), LawsR_x hW.2.2.2 F1 (fun k => xz _ _ (by decide)) (fun i q => by unfold isL; omega) (by decide) (by decide) (fun i k q => by have := d1 _ _ q; omega)⟩
      have I1 : Rid (qsI X 8 8 (iz 0)) := Rid_z IX (fun i k q => Ds.z (by omega))
      have eo : o0R (qsI X 8 8 (iz 0)) (mZ M 71) n = o0R M (mZ M 71) n := by
        have e1 : rowL (qsI X 8 8 (iz 0)) (mZ M 71) n = rowL M (mZ M 71) n := funext (fun k => by
          unfold rowL
          rw [xI 481 k (by decide)])
        have e2 : mI (qsI X 8 8 (iz 0)) 501 = mI M 501 := funext (fun k => xI 501 k (by decide))
        unfold o0R
        rw [e1, e2, xI 479 47 (by decide)]
      obtain ⟨z2, M2, m0, r2⟩ := m_orders (d := d) (n := n) (s := s) (B := B) (b := mZ M 71) W1 I1 (okM_mx hAm F1 hN (fun i q => by unfold isL; omega)) (fun j q => by rw [xz _ _ (by decide)]; exact hr j q) n4 (by rw [xz _ _ (by decide), ← t3]; exact hn) (fun j q => by rw [xz _ _ (by decide)]; exact hb j q) (by rw [xz _ _ (by decide)]; exact u3) s8 (fun k => (fz _ _ (by decide) (by decide)).trans (xz _ _ (by decide)).symm) mi m12
      unfold OrR at r2
      rw [eo, er] at r2
      rcases r2 with ⟨e, -⟩ | ⟨-, Mq, i2, o2, Fq, tq, fq, r2⟩
      · rw [rt] at e; cases e
      rcases r2 with ⟨e, rfl, rfl, MI2, bo2, sq⟩ | ⟨e, -⟩
      · simp only [Prod.mk.injEq, true_and] at e
        obtain ⟨rfl, rfl⟩ := e
        obtain ⟨-, -, -, ⟨q1, q2, q3, q4, q5⟩, -⟩ := MI2
        have Dt : Dif Mq (qsI Mq 479 0 (iz 0)) (fun i k => i = 479 ∧ k = 0) := Dif.rfl'.I ⟨rfl, rfl⟩
        have F2 : Frx M (qsI Mq 479 0 (iz 0)) Dor (fun i => i = 26 ∨ i = 211) := (F1.mono (fun i k q => by
          rcases q with q | q | q
          · exact Or.inl q
          · exact Or.inr (Or.inl q)
          · refine Or.inr (Or.inr (Or.inr (Or.inl ?_)))
            unfold Drf; omega) (fun i q => Or.inr q)).tr ((Frx.of (Fq.mono (fun i k q => Or.inr (Or.inr (Or.inl q))))).tr (Frx.of (Frm.of (Dt.mono (fun i k q => Or.inr (Or.inr (Or.inr (Or.inl (by unfold Drf; omega)))))))))
        have FX2 : Frm (qsI X 8 8 (iz 0)) (qsI Mq 479 0 (iz 0)) (fun i k => Dmo i k ∨ (i = 479 ∧ k = 0)) := (Fq.mono (fun i k q => Or.inl q)).tr (Frm.of (Dt.mono (fun i k q => Or.inr q)))
        have xq : ∀ i k, ¬ (479 ≤ i ∧ i ≤ 512) → mZ (qsI Mq 479 0 (iz 0)) i k = mZ (qsI X 8 8 (iz 0)) i k := fun i k a => FX2.z (fun q => by
          rcases q with q | q
          · have := Dmo_m q; omega
          · omega)
        have x8 : ∀ i k, ¬ (479 ≤ i ∧ i ≤ 512) → ¬ i = 8 → mZ (qsI Mq 479 0 (iz 0)) i k = mZ X i k := fun i k a b => (xq i k a).trans (Ds.z (by omega))
        have gz : ∀ i k, ¬ i = 481 → ¬ i = 501 → ¬ (i = 479 ∧ k = 47) → mZ (gO X o') i k = mZ X i k := fun i k a b c => gm_Z a b c
        have FW : Frm (gO X o') (qsI Mq 479 0 (iz 0)) (fun i _ => aside i ∨ i = 8) := by
          refine ⟨FX2.1, FX2.2.1, fun i k q => FX2.2.2.1 i k q, fun i k q => ?_⟩
          by_cases e : i = 481
          · rw [e, Dt.z (by omega)]
            exact congrArg Int32.toInt (q1 k)
          · have na : ¬ (479 ≤ i ∧ i ≤ 512) := fun z => q (by unfold aside; omega)
            rw [gz _ _ (by omega) (by omega) (by omega)]
            exact x8 i k na (fun z => q (Or.inr z))
        have st8 : mZ (qsI Mq 479 0 (iz 0)) 8 8 = 0 := (xq _ _ (by decide)).trans (mZ_sm rfl (by decide) (by decide))
        have st9 : mZ (qsI Mq 479 0 (iz 0)) 479 0 = 0 := mZ_sm rfl (by decide) (by decide)
        have c8 : ∀ k, ¬ k = 8 → mZ (qsI Mq 479 0 (iz 0)) 8 k = mZ B 8 k := fun k a => by
          rw [xq _ _ (by decide), Ds.z (by omega)]
          exact FX.z (by unfold Dxo DXt; omega)
        refine ⟨_, _, _, c0, m0, Wo_k2 WX FW (fun i k q => q), ?_, ?_, ?_, ?_, ?_, ?_, ?_, F2⟩
        · exact Rb_of hB (fun k => by
            rw [x8 _ _ (by decide) (by decide), FX.z (by unfold Dxo DXt; omega)]
            exact fz _ _ (by decide) (by decide)) (fun k => (FX2.z (fun q => by
            rcases q with q | q
            · exact (Dmo_m q).2.1 rfl
            · omega)).trans (xz _ _ (by decide))) (st8.trans st9.symm)
        · refine Rt_0 hT ((c8 _ (by decide)).trans tB) ((Dt.z (by omega)).trans tq) ((c8 _ (by decide)).trans (F.z (fun q => by have := DBg_i q; omega))) ?_ ?_ ?_
          · rw [FX2.z (fun q => by
              rcases q with q | q
              · have := Dmo_m2 q; omega
              · omega)]
            exact xz _ _ (by decide)
          · rw [c8 _ (by decide), fB, Dt.z (by omega)]; exact fq.symm
          · rw [c8 _ (by decide), sB, Dt.z (by omega)]; exact sq.symm
        · exact TxR_F (TxR_x hX F1 (by decide) (by decide)) FX2 (by decide)
        · obtain ⟨s', t', s8', t6'', v1, v2, v3, v4⟩ := UX
          have ss : o'.2.2.1.toInt = (s' : Int) := v3
          refine ⟨s', t', s8', t6'', ?_, ?_, ?_, fun j q => En_k2 (v4 j q) (fun i k a => ?_) (fun k a => ?_)⟩
          · rw [x8 _ _ (by decide) (by decide), ← v1]; exact (gz _ _ (by decide) (by decide) (by decide)).symm
          · rw [x8 _ _ (by decide) (by decide), ← v2]; exact (gz _ _ (by decide) (by decide) (by decide)).symm
          · rw [Dt.z (by decide)]
            exact (congrArg Int32.toInt q3).trans ss
          · have : (t' + 16 - s' + j) % 16 < 16 := Nat.mod_lt _ (by decide)
            rw [x8 _ _ (by omega) (by omega)]; exact (gz _ _ (by omega) (by omega) (by omega)).symm
          · rw [Dt.z (by omega)]
            exact congrArg Int32.toInt (q2 k (by rw [ss]; omega))
        · exact JK_z KX (fun i k q => x8 _ _ (by omega) (by omega))
        · rw [x8 _ _ (by decide) (by decide)]; exact eX
        · exact Rid_z I1 (fun i k q => FX2.z (fun z => by
            rcases z with z | z
            · have := Dmo_m z; omega
            · omega))
      · simp only [Prod.mk.injEq, Bool.true_eq_false, false_and] at e
    · -- one can't be run
      obtain ⟨hXs, KX, eX, okX, FX, RX⟩ := id xf
      have ib := runO_i _ 0 i' _ o' false er
      have hX2 : shp X2 := F5.frx.shp hXs (fun i q => by unfold isL; omega) (fun i k hi => by omega)
      have D3 : Dif X2 (qsI (qsI (qsI X2 113 8 (iz (t : Int))) 113 7 (iz (s : Int))) 8 7 (iz (i' : Int))) (fun i k => (i = 113 ∧ (k = 8 ∨ k = 7)) ∨ (i = 8 ∧ k = 7)) := ((Dif.rfl'.I (Or.inl ⟨rfl, Or.inl rfl⟩)).I (Or.inl ⟨rfl, Or.inr rfl⟩)).I (Or.inr ⟨rfl, rfl⟩)
      have p1 : mZ (qsI (qsI (qsI X2 113 8 (iz (t : Int))) 113 7 (iz (s : Int))) 8 7 (iz (i' : Int))) 113 8 = (t : Int) := by rw [mZ_nc (by decide), mZ_nk (by decide), mZ_sm rfl (by omega) (by omega)]
      have p2 : mZ (qsI (qsI (qsI X2 113 8 (iz (t : Int))) 113 7 (iz (s : Int))) 8 7 (iz (i' : Int))) 113 7 = (s : Int) := by rw [mZ_nc (by decide), mZ_sm rfl (by omega) (by omega)]
      have p3 : mZ (qsI (qsI (qsI X2 113 8 (iz (t : Int))) 113 7 (iz (s : Int))) 8 7 (iz (i' : Int))) 8 7 = (i' : Int) := mZ_sm rfl (by omega) (by omega)
      generalize qsI (qsI (qsI X2 113 8 (iz (t : Int))) 113 7 (iz (s : Int))) 8 7 (iz (i' : Int)) = X3 at *
      have F3 : Frx M X3 (fun i k => DBg i k ∨ Dxo i k ∨ (9 ≤ i ∧ i ≤ 28) ∨ (i = 113 ∧ (k = 8 ∨ k = 7))) (fun i => i = 26 ∨ i = 211) := (F.mono (fun i k q => Or.inl q) (fun i q => Or.inr q)).tr ((Frx.of (FX.mono (fun i k q => Or.inr (Or.inl q)))).tr ((F5.frx.mono (fun i k q => Or.inr (Or.inr (Or.inl (by omega)))) (fun i q => Or.inl (by omega))).tr (Frx.of (Frm.of (D3.mono (fun i k q => by
        rcases q with q | q
        · exact Or.inr (Or.inr (Or.inr q))
        · refine Or.inl ?_
          unfold DBg; omega))))))
      have Dx : Dif X3 (xrf X3 (-3)) Drf := xrf_Df
      have d3 : ∀ i k, (DBg i k ∨ Dxo i k ∨ (9 ≤ i ∧ i ≤ 28) ∨ (i = 113 ∧ (k = 8 ∨ k = 7))) → (i = 8 ∧ ¬ k = 5 ∧ ¬ k = 8) ∨ (9 ≤ i ∧ i ≤ 28) ∨ (73 ≤ i ∧ i ≤ 80 ∧ (i = 78 → ¬ k = 11)) ∨ (113 ≤ i ∧ i ≤ 216) := fun i k q => by
        rcases q with q | q | q | q
        · have := DBg_i q; omega
        · unfold Dxo DXt at q; omega
        · omega
        · omega
      have F1 : Frx M (xrf X3 (-3)) (fun i k => (DBg i k ∨ Dxo i k ∨ (9 ≤ i ∧ i ≤ 28) ∨ (i = 113 ∧ (k = 8 ∨ k = 7))) ∨ Drf i k) (fun i => i = 26 ∨ i = 211) := (F3.mono (fun i k q => Or.inl q) (fun i q => q)).tr (Frx.of (Frm.of (Dx.mono (fun i k q => Or.inr q))))
      have rm : ∀ i k, 217 ≤ i → ¬ (i = 479 ∧ k = 0) → ¬ i = 480 → mZ (xrf X3 (-3)) i k = mZ M i k := fun i k a b c => F1.z (fun q => by
        rcases q with q | q
        · have := d3 _ _ q; omega
        · unfold Drf at q; omega)
      have rI : ∀ i k, 217 ≤ i → ¬ (i = 479 ∧ k = 0) → ¬ i = 480 → mI (xrf X3 (-3)) i k = mI M i k := fun i k a b c => I_of_Z (rm i k a b c)
      have hX3 : shp X3 := D3.shp hX2 (fun i k hi => by omega)
      have hX1 : shp (xrf X3 (-3)) := Dx.shp hX3 (fun i k hi => by unfold Drf; omega)
      have hA3 : ∀ j : Int, 0 ≤ j → j < 5878 → mZ (xrf X3 (-3)) 481 ((0 : Int) + j).toNat = mZ M 481 ((0 : Int) + j).toNat := fun j _ _ => rm _ _ (by decide) (by omega) (by decide)
      have CX : Cp M X2 9 9 := Cp_tr CB C5 (fun i j a b => FX.z (by unfold Dxo DXt; omega)) (fun k => FX.2.2.1 _ _ (by omega))
      have C3 : Cp M (xrf X3 (-3)) 9 9 := Cp_D (Cp_D CX D3 (fun i j a b => by omega)) Dx (fun i j a b => by unfold Drf; omega)
      have L1 : LawsR (xrf X3 (-3)) 9 481 0 := LawsR_tr (fun j a _ b => hA3 j (by omega) b) (a := 9) (b := 9) hW.2.1 hW.2.2.2 (Cp_R C3) (Nat.le_of_eq F1.1.symm) (fun i _ => F1.2.1 i) (fun i j g1 _ => F1.2.2.1 i j (by omega) (by omega)) (fun i j g1 _ => rm _ _ (by omega) (by omega) (by omega))
      have W1 : Wo (xrf X3 (-3)) := ⟨hX1, WFk_of hW.2.1 (fun k => rm _ _ (by decide) (by omega) (by decide)), Ra_tr hA3 hW.2.1 C3 hW.2.2.1, L1⟩
      have I1 : Rid (xrf X3 (-3)) := Rid_z hI (fun i k q => F1.z (fun z => by
        rcases z with z | z
        · have := d3 _ _ z; omega
        · unfold Drf at z; omega))
      have eo : o0R (xrf X3 (-3)) (mZ M 71) n = o0R M (mZ M 71) n := by
        have e1 : rowL (xrf X3 (-3)) (mZ M 71) n = rowL M (mZ M 71) n := funext (fun k => by
          unfold rowL
          rw [rI 481 k (by decide) (by omega) (by decide)])
        have e2 : mI (xrf X3 (-3)) 501 = mI M 501 := funext (fun k => rI 501 k (by decide) (by omega) (by decide))
        unfold o0R
        rw [e1, e2, rI 479 47 (by decide) (by decide) (by decide)]
      obtain ⟨z2, M2, m0, r2⟩ := m_orders (d := d) (n := n) (s := s) (B := B) (b := mZ M 71) (WoM_of W1) I1 (okM_mx hAm F1 hN (fun i q => by unfold isL; omega)) (fun j q => by rw [rm _ _ (by decide) (by omega) (by decide)]; exact hr j q) n4 (by rw [rm _ _ (by decide) (by decide) (by decide), ← t3]; exact hn) (fun j q => by rw [rm _ _ (by decide) (by omega) (by decide)]; exact hb j q) (by rw [rm _ _ (by decide) (by decide) (by decide)]; exact u3) s8 (fun k => (fz _ _ (by decide) (by decide)).trans (rm _ _ (by decide) (by omega) (by decide)).symm) mi m12
      unfold OrR at r2
      rw [eo, er] at r2
      rcases r2 with ⟨e, -⟩ | ⟨-, Mq, i2, o2, Fq, tq, fq, r2⟩
      · rw [rt] at e; cases e
      rcases r2 with ⟨e, -⟩ | ⟨e, rfl, rfl, k481, k501, kun, sq⟩
      · simp only [Prod.mk.injEq, Bool.false_eq_true, false_and] at e
      · simp only [Prod.mk.injEq, true_and] at e
        obtain ⟨rfl, rfl⟩ := e
        have Dt : Dif Mq (mrf Mq (-3)) Drf := mrf_Df
        have F2 : Frx M (mrf Mq (-3)) Dor (fun i => i = 26 ∨ i = 211) := (F1.mono (fun i k q => by
          rcases q with (q | q | q | q) | q
          · exact Or.inl q
          · exact Or.inr (Or.inl q)
          · exact Or.inr (Or.inr (Or.inr (Or.inr (Or.inl q))))
          · exact Or.inr (Or.inr (Or.inr (Or.inr (Or.inr q))))
          · exact Or.inr (Or.inr (Or.inr (Or.inl q)))) (fun i q => q)).tr ((Frx.of (Fq.mono (fun i k q => Or.inr (Or.inr (Or.inl q))))).tr (Frx.of (Frm.of (Dt.mono (fun i k q => Or.inr (Or.inr (Or.inr (Or.inl q))))))))
        have FW : Frm (xrf X3 (-3)) (mrf Mq (-3)) (fun i _ => aside i ∨ i = 8) := by
          have FX2 : Frm (xrf X3 (-3)) (mrf Mq (-3)) (fun i k => Dmo i k ∨ Drf i k) := (Fq.mono (fun i k q => Or.inl q)).tr (Frm.of (Dt.mono (fun i k q => Or.inr q)))
          refine ⟨FX2.1, FX2.2.1, fun i k q => FX2.2.2.1 i k q, fun i k q => ?_⟩
          by_cases e : i = 481
          · rw [e, Dt.z (by unfold Drf; omega)]
            exact k481 k
          · exact FX2.z (fun z => by
              rcases z with z | z
              · have := Dmo_m z
                exact q (by unfold aside; omega)
              · unfold Drf at z
                exact q (by unfold aside; omega))
        have xq : ∀ i k, ¬ (479 ≤ i ∧ i ≤ 512) → ¬ i = 8 → ¬ i = 72 → mZ (mrf Mq (-3)) i k = mZ X3 i k := fun i k a b c => (Dt.z (by unfold Drf; omega)).trans ((Fq.z (fun q => by have := Dmo_m q; omega)).trans (Dx.z (by unfold Drf; omega)))
        have x28 : ∀ i k, ¬ (479 ≤ i ∧ i ≤ 512) → 29 ≤ i → ¬ i = 72 → ¬ (i = 113 ∧ (k = 8 ∨ k = 7)) → mZ (mrf Mq (-3)) i k = mZ X i k := fun i k a b c e => (xq i k a (by omega) c).trans ((D3.z (by omega)).trans (F5.2.2.2.2 _ _ (by omega)))
        have c8 : ∀ k, ¬ k = 8 → mZ (mrf Mq (-3)) 8 k = mZ X3 8 k := fun k a => (Dt.z (by unfold Drf; omega)).trans ((Fq.z (fun q => by have := Dmo_m q; omega)).trans (Dx.z (by unfold Drf; omega)))
        have cB : ∀ k, ¬ k = 8 → ¬ k = 7 → mZ (mrf Mq (-3)) 8 k = mZ B 8 k := fun k a b => (c8 k a).trans ((D3.z (by omega)).trans ((F5.2.2.2.2 _ _ (by omega)).trans (FX.z (by unfold Dxo DXt; omega))))
        refine ⟨_, _, _, c0, m0, Wo_k2 W1 FW (fun i k q => q), ?_, ?_, ?_, ?_, ?_, ?_, ?_, F2⟩
        · refine Rb_rf3 (Mp := X3) hB (fun k => I_of_Z (F3.z (fun q => by have := d3 _ _ q; omega))) (fun k => I_of_Z (Fq.z (fun q => by have := Dmo_m q; omega))) (fun k => I_of_Z ((Fq.z (fun q => (Dmo_m q).2.1 rfl)).trans ?_)) (I_of_Z (Fq.z (fun q => by have := Dmo_m q; omega)))
          have e : mZ (xrf X3 (-3)) 480 k = mZ X3 480 k := by
            show (mI (qsI (qsI X3 8 8 (iz (-3))) 72 _ _) 480 k).toInt = _
            rw [mI_nc (by decide), mI_nc (by decide)]
            rfl
          exact e.trans (F3.z (fun q => by have := d3 _ _ q; omega))
        · refine Rt_0 hT ((cB _ (by decide) (by decide)).trans tB) ((Dt.z (by unfold Drf; omega)).trans tq) ((cB _ (by decide) (by decide)).trans (F.z (fun q => by have := DBg_i q; omega))) ?_ ?_ ?_
          · rw [Dt.z (by unfold Drf; omega), Fq.z (fun q => by have := Dmo_m2 q; omega)]
            exact rm _ _ (by decide) (by decide) (by decide)
          · rw [cB _ (by decide) (by decide), fB, Dt.z (by unfold Drf; omega)]; exact fq.symm
          · rw [c8 _ (by decide), p3, Dt.z (by unfold Drf; omega)]; exact sq.symm
        · exact TxR_F (TxR_cp hX F1 (Cp_R C3)) ((Fq.mono (D2 := fun i k => Dmo i k ∨ Drf i k) (fun i k q => Or.inl q)).tr (Frm.of (Dt.mono (fun i k q => Or.inr q)))) (by decide)
        · refine ⟨s, t, s8, t6, ?_, ?_, ?_, fun j q => En_k2 (u4 j q) (fun i k a => ?_) (fun k a => ?_)⟩
          · rw [xq _ _ (by decide) (by decide) (by decide)]; exact p2
          · rw [xq _ _ (by decide) (by decide) (by decide)]; exact p1
          · rw [Dt.z (by unfold Drf; omega), kun, rm _ _ (by decide) (by decide) (by decide)]; exact u3
          · have um : (t + 16 - s + j) % 16 < 16 := Nat.mod_lt _ (by decide)
            have kp := XRg_keep (s := s) (j := j) RX (fun v w => by
              rw [fz _ _ (by decide) (by decide), Ra22 hW.2.2.1 v w]; exact W_gone hW.2.1 v w) t6 s8 q i k a
            rw [x28 _ _ (by omega) (by omega) (by omega) (by omega), kp]
            exact fz _ _ (by omega) (by omega)
          · rw [Dt.z (by unfold Drf; omega), k501 k (by omega)]
            exact rm _ _ (by decide) (by omega) (by decide)
        · exact JK_z KX (fun i k q => x28 _ _ (by omega) (by omega) (by omega) (by omega))
        · rw [x28 _ _ (by decide) (by decide) (by decide) (by decide)]; exact eX
        · exact Rid_z I1 (fun i k q => (Dt.z (by unfold Drf; omega)).trans (Fq.z (fun z => by have := Dmo_m z; omega)))

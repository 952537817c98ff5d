/-! the calls that change something, one by one -/
section
variable {E : Int} {C S : Nat} {M : qMe}
theorem Inv_mk {yc ym : Nat} {As : List Value} {v : Int32} {M1 M2 : qMe} {D : Nat → Nat → Prop} {R : Nat → Prop} (hI : Inv E C S M) (hAs : isInts As) (c0 : cal 200 yc (.ref 8 :: As) M = some (some (.int v), M1)) (m0 : cal 200 ym (.ref 479 :: As) M1 = some (some (.int v), M2)) (F : Frx M M2 D R) (hR : ∀ i, R i → i = 26 ∨ i = 211) (hD : ∀ i k, D i k → (¬ (30 ≤ i ∧ i ≤ 70) ∧ ¬ i = 482 ∧ ¬ i = 484 ∧ i < 513) ∧ ¬ i = 485) (w : Wo M2) (b : Rb M2) (t : Rt M2) (s : Rs M2) (j : JK M2) (e : 0 ≤ mZ M2 73 6 ∧ mZ M2 73 6 ≤ E + 240) (r : Rid M2) (x : TxR M2 9) (u : Un M2) : Stq E C S M yc ym As := by
  obtain ⟨k1, k2, k3, k4⟩ := Inv_fr hI hAs c0 m0 F (fun i q => by have := hR i q; unfold isL; omega)
  obtain ⟨⟨hW, -⟩, -, -, hIm, -, -, hRw, -⟩ := hI
  have hN := hW.1.1
  exact ⟨v, M1, M2, c0, m0, ⟨w, b, t, s⟩, ⟨j, e⟩, r, fun kk q => Im_f (hIm kk q) q (Fz.x F) hN (fun i j z => (hD i j z).1) hR, x, u, Rw_f hRw (Fz.x F) hN (fun i k z => (hD i k z).2), k1, k2, k3, k4⟩
theorem i_summer {x y : Int32} (hI : Inv E C S M) (hE : E < 15000000) : Stq E C S M 42 210 [.int x, .int y] := by
  obtain ⟨a, rfl, a1, a2⟩ := i32 x
  obtain ⟨b, rfl, b1, b2⟩ := i32 y
  obtain ⟨⟨hW, hB, hT, hS⟩, ⟨hK, he1, he2⟩, hRi, hIm, hTx, hU, hRw, -, -, -, -⟩ := id hI
  have hN := hW.1.1
  obtain ⟨v, M1, M2, c0, m0, w, rb, rs, jk, ri, F, e1, e2⟩ := o_summer (d := 35) hW hB hS hK hRi ⟨he1, by omega⟩ a1 a2 b1 b2
  exact Inv_mk hI (intsc ints1) c0 m0 (Frx.of (R := fun _ => False) F) (fun i q => q.elim) (fun i k q => by unfold DSz scr Drf at q; omega) w rb (Rt_f hT (Fz.m (R := fun _ => False) F) hN (fun i k q => by unfold DSz scr Drf at q; omega)) rs jk ⟨by omega, by omega⟩ ri (TxR_F hTx F (by decide)) (Un_k hU (fun i k q => F.z (by unfold DSz scr Drf; omega)) (F.z (by unfold DSz scr Drf; omega)))
theorem i_send {x : Int32} (hI : Inv E C S M) (hE : E < 15000000) : Stq E C S M 27 168 [.int x] := by
  obtain ⟨a, rfl, a1, a2⟩ := i32 x
  obtain ⟨⟨hW, hB, hT, hS⟩, ⟨hK, he1, he2⟩, hRi, hIm, hTx, hU, hRw, -, hF, -, -⟩ := id hI
  have hN := hW.1.1
  obtain ⟨v, M1, M2, c0, m0, w, rb, un, jk, ri, F, e1, e2⟩ := o_send (d := 32) hW hB hU hK hRi (okF_Am hF) ⟨he1, by omega⟩ a1 a2
  exact Inv_mk hI ints1 c0 m0 (Frx.of (R := fun _ => False) F) (fun i q => q.elim) (fun i k q => by unfold Dsd scr Drf at q; omega) w rb (Rt_f hT (Fz.m (R := fun _ => False) F) hN (fun i k q => by unfold Dsd scr Drf at q; omega)) (Rs_f hS (Fz.m (R := fun _ => False) F) hN (fun i k q => by unfold Dsd scr Drf at q; omega)) jk ⟨by omega, by omega⟩ ri (TxR_F hTx F (by decide)) un
theorem Inv_rf {yc ym : Nat} {As : List Value} {v : Int32} {M1 M2 : qMe} (hI : Inv E C S M) (hAs : isInts As) (c0 : cal 200 yc (.ref 8 :: As) M = some (some (.int v), M1)) (m0 : cal 200 ym (.ref 479 :: As) M1 = some (some (.int v), M2)) (w : Wo M2) (rb : Rb M2) (F : Frm M M2 Drf) : Stq E C S M yc ym As := by
  obtain ⟨⟨hW, hB, hT, hS⟩, ⟨hK, he1, he2⟩, hRi, hIm, hTx, hU, hRw, -, hF, -, -⟩ := id hI
  have hN := hW.1.1
  exact Inv_mk hI hAs c0 m0 (Frx.of (R := fun _ => False) F) (fun i q => q.elim) (fun i k q => by unfold Drf at q; omega) w rb (Rt_f hT (Fz.m (R := fun _ => False) F) hN (fun i k q => by unfold Drf at q; omega)) (Rs_f hS (Fz.m (R := fun _ => False) F) hN (fun i k q => by unfold Drf at q; omega)) (JK_z hK (fun i k q => F.z (by unfold Drf; omega))) (by rw [F.z (by unfold Drf; omega)]; omega) (Rid_z hRi (fun i k q => F.z (by unfold Drf; omega))) (TxR_F hTx F (by decide)) (Un_k hU (fun i k q => F.z (by unfold Drf; omega)) (F.z (by unfold Drf; omega)))
theorem i_undo (hI : Inv E C S M) : Stq E C S M 28 169 [] := by
  obtain ⟨⟨hW, hB, hT, hS⟩, ⟨hK, he1, he2⟩, hRi, hIm, hTx, hU, hRw, -, hF, -, -⟩ := id hI
  have hN := hW.1.1
  obtain ⟨v, M1, M2, c0, m0, w, rb, un, F | F⟩ := o_undo (d := 198) hW hB hU
  · exact Inv_rf hI ints0 c0 m0 w rb F
  · have dl : ∀ i k, (DXu i k ∨ DMu i k) → (i = 8 ∧ k = 8) ∨ (9 ≤ i ∧ i ≤ 28) ∨ i = 113 ∨ i = 481 ∨ (i = 479 ∧ (k = 47 ∨ k = 0)) := fun i k q => by unfold DXu DTk DMu at q; omega
    exact Inv_mk hI ints0 c0 m0 (Frx.of (R := fun _ => False) F) (fun i q => q.elim) (fun i k q => by have := dl i k q; omega) w rb (Rt_f hT (Fz.m (R := fun _ => False) F) hN (fun i k q => by have := dl i k q; omega)) (Rs_f hS (Fz.m (R := fun _ => False) F) hN (fun i k q => by have := dl i k q; omega)) (JK_z hK (fun i k q => F.z (fun z => by have := dl i k z; omega))) (by rw [F.z (fun z => by have := dl _ _ z; omega)]; omega) (Rid_z hRi (fun i k q => F.z (fun z => by have := dl i k z; omega))) (TxR_F hTx F (by decide)) un
theorem i_back {x : Int32} (hI : Inv E C S M) : Stq E C S M 45 78 [.int x] := by
  obtain ⟨a, rfl, a1, a2⟩ := i32 x
  obtain ⟨⟨hW, hB, hT, hS⟩, ⟨hK, he1, he2⟩, hRi, hIm, hTx, hU, hRw, -, hF, -, -⟩ := id hI
  have hN := hW.1.1
  obtain ⟨v, M1, M2, c0, m0, w, rb, F | ⟨tx, s1, s2, F⟩⟩ := o_back (d := 197) hW hB hTx hIm a1 a2
  · exact Inv_rf hI ints1 c0 m0 w rb F
  · have dl : ∀ i k, (DXb i k ∨ DMb i k) → (i = 8 ∧ k = 8) ∨ (9 ≤ i ∧ i ≤ 28) ∨ (i = 113 ∧ k = 7) ∨ i = 481 ∨ (i = 479 ∧ (k = 47 ∨ k = 0)) := fun i k q => by unfold DXb DMb at q; omega
    obtain ⟨s', t', s8, t6, u1, u2, u3, u4⟩ := hU
    exact Inv_mk hI ints1 c0 m0 F (fun i q => Or.inl q) (fun i k q => by have := dl i k q; omega) w rb (Rt_f hT (Fz.x F) hN (fun i k q => by have := dl i k q; omega)) (Rs_f hS (Fz.x F) hN (fun i k q => by have := dl i k q; omega)) (JK_z hK (fun i k q => F.z (fun z => by have := dl i k z; omega))) (by rw [F.z (fun z => by have := dl _ _ z; omega)]; omega) (Rid_z hRi (fun i k q => F.z (fun z => by have := dl i k z; omega))) tx ⟨0, t', by decide, t6, s1, (F.z (fun z => by have := dl _ _ z; omega)).trans u2, s2, fun j q => by omega⟩
theorem i_orders (hI : Inv E C S M) (hE : E < 15000000) : Stq E C S M 17 203 [] := by
  obtain ⟨⟨hW, hB, hT, hS⟩, ⟨hK, he1, he2⟩, hRi, hIm, hTx, hU, hRw, hA, hF, -, -⟩ := id hI
  have hN := hW.1.1
  obtain ⟨v, M1, M2, c0, m0, w, rb, rt, tx, un, jk, ⟨e1, e2⟩, ri, F⟩ := o_orders (d := 30) hW hB hT hTx hRw hU hK ⟨he1, by omega⟩ hRi hA (okF_Am hF)
  exact Inv_mk hI ints0 c0 m0 F (fun i q => q) (fun i k q => by have := Dor_i q; omega) w rb rt (Rs_f hS (Fz.x F) hN (fun i k q => by have := Dor_i q; omega)) jk ⟨e1, by omega⟩ ri tx un
theorem Cp_id {M M2 : qMe} {a : Nat} (hz : ∀ i j, a ≤ i → i ≤ a + 19 → mZ M2 i j = mZ M i j) (hr : ∀ k, mR M2 (a + 17) k = mR M (a + 17) k) : Cp M M2 a a := by
  have f : ∀ n x : Nat, n ≤ 19 → mZ M2 (a + n) x = mZ M (a + n) x := fun n x q => hz _ _ (by omega) (by omega)
  exact ⟨fun k q => f _ _ (by decide), fun k q => f _ _ (by decide), fun k q => f _ _ (by decide), fun k q => f _ _ (by decide), fun k q => f _ _ (by decide), fun k q => f _ _ (by decide), fun k q => f _ _ (by decide), fun k q => f _ _ (by decide), fun k q => f _ _ (by decide), fun k q => f _ _ (by decide), fun k q => f _ _ (by decide), fun k q => f _ _ (by decide), fun k q => f _ _ (by decide), fun k q => f _ _ (by decide), fun k q => f _ _ (by decide), fun k q => f _ _ (by decide), fun k q => f _ _ (by decide), ⟨f 1 _ (by decide), f 1 _ (by decide), f 0 _ (by decide), f 0 _ (by decide), f 0 _ (by decide), f 0 _ (by decide), f 0 _ (by decide)⟩, fun k q => hr k⟩
theorem i_image {x : Int32} (hI : Inv E C S M) : Stq E C S M 44 77 [.int x] := by
  obtain ⟨a, rfl, a1, a2⟩ := i32 x
  obtain ⟨⟨hW, hB, hT, hS⟩, ⟨hK, he1, he2⟩, hRi, hIm, hTx, hU, hRw, -, hF, -, -⟩ := id hI
  have hN := hW.1.1
  obtain ⟨v, M1, M2, c0, m0, w, rb, F | ⟨kk, k1, im, F⟩⟩ := o_image (d := 197) hW hB hTx a1 a2
  · exact Inv_rf hI ints1 c0 m0 w rb F
  · have dl : ∀ i j, (DXi kk i j ∨ DIm kk i j) → (i = 8 ∧ j = 8) ∨ (30 + 20 * kk ≤ i ∧ i ≤ 49 + 20 * kk) ∨ (i = 70 ∧ j = kk) ∨ (i = 484 ∧ j = kk) ∨ (i = 482 ∧ 5878 * kk ≤ j ∧ j < 5878 * kk + 5878) ∨ (i = 479 ∧ j = 0) := fun i j q => by unfold DXi DIm at q; omega
    obtain ⟨g1, g2, g3, g4⟩ := Inv_fr hI ints1 c0 m0 F (fun i q => by unfold isL; omega)
    refine ⟨v, M1, M2, c0, m0, ⟨w, rb, Rt_f hT (Fz.x F) hN (fun i k q => by have := dl i k q; omega), Rs_f hS (Fz.x F) hN (fun i k q => by have := dl i k q; omega)⟩, ⟨JK_z hK (fun i k q => F.z (fun z => by have := dl i k z; omega)), by rw [F.z (fun z => by have := dl _ _ z; omega)]; omega⟩, Rid_z hRi (fun i k q => F.z (fun z => by have := dl i k z; omega)), fun kl q => ?_, TxR_f hTx (Fz.x F) (by omega) (by omega) (by decide), Un_k hU (fun i k q => F.z (fun z => by have := dl i k z; omega)) (F.z (fun z => by have := dl _ _ z; omega)), Rw_f hRw (Fz.x F) hN (fun i k q => by have := dl i k q; omega), g1, g2, g3, g4⟩
    by_cases e : kl = kk
    · rw [e]; exact im
    · obtain ⟨h1, h2, h3, h4⟩ := hIm kl q
      have hA : ∀ j : Int, 0 ≤ j → j < 5878 → mZ M2 482 ((5878 * (kl : Int)) + j).toNat = mZ M 482 ((5878 * (kl : Int)) + j).toNat := fun j p1 p2 => F.z (fun z => by have := dl _ _ z; omega)
      have z7 : ∀ i, (i = 70 ∨ i = 484) → mZ M2 i kl = mZ M i kl := fun i p => F.z (fun z => by have := dl _ _ z; omega)
      have cp : Cp M M2 (30 + 20 * kl) (30 + 20 * kl) := Cp_id (fun i j p1 p2 => F.z (fun z => by have := dl _ _ z; omega)) (fun k => F.2.2.1 _ _ (by omega) (by omega))
      refine ⟨by rw [z7 _ (by omega)]; exact h1, by rw [z7 _ (by omega), z7 _ (by omega)]; exact h2, fun e1 => ?_, TxR_f h4 (Fz.x F) (by omega) (by omega) (by omega)⟩
      rw [z7 _ (by omega)] at e1
      obtain ⟨w1, r1, l1⟩ := h3 e1
      exact ⟨WFk_tr hA w1, Ra_tr hA w1 cp r1, LawsR_tr (fun j p1 _ p2 => hA j (by omega) p2) w1 l1 (Cp_R cp) (Nat.le_of_eq F.1.symm) (fun i _ => F.2.1 i) (fun i j p1 _ => F.2.2.1 i j (by omega) (by omega)) (fun i j p1 _ => F.z (fun z => by have := dl _ _ z; omega))⟩
theorem i_law (hI : Inv E C S M) : Stq E C S M 16 127 [] := by
  obtain ⟨⟨hW, hB, hT, hS⟩, ⟨hK, he1, he2⟩, hRi, hIm, hTx, hU, hRw, hA, hF, hC, hSl⟩ := id hI
  have hN := hW.1.1
  obtain ⟨v, M1, M2, c0, m0, hn, w, rb, rt, tx, n6, F, kb⟩ := o_law (d := 99) hW hB hT hTx hRw
  have dl : ∀ i k, (Dlw i k ∨ (i = 8 ∧ k = 7) ∨ (i = 479 ∧ k = 57)) → (i = 8 ∧ ¬ k = 18) ∨ i = 9 ∨ i = 72 ∨ (183 ≤ i ∧ i ≤ 192) ∨ i = 480 ∨ i = 481 ∨ (488 ≤ i ∧ i ≤ 490) ∨ (i = 479 ∧ ¬ k = 47 ∧ ¬ k = 38 ∧ ¬ k = 68) := fun i k q => by
    unfold Dlw DLx DLf DPx DCu DPa DRy Drf DRr DSp DRm at q
    omega
  have G : Fz M M2 (fun i k => Dlw i k ∨ (i = 8 ∧ k = 7) ∨ (i = 479 ∧ k = 57)) (fun i => i = 26) := Fz.g F (fun i k q => q)
  have z : ∀ i k, i < 513 → ¬ (i = 8 ∨ i = 9 ∨ i = 72 ∨ (183 ≤ i ∧ i ≤ 192) ∨ i = 480 ∨ i = 481 ∨ (488 ≤ i ∧ i ≤ 490)) → (i = 479 → k = 47 ∨ k = 38 ∨ k = 68) → mZ M2 i k = mZ M i k := fun i k a b c => G.z (by omega) (fun q => by have := dl i k q; omega)
  obtain ⟨b1, b2, b3⟩ := Inv_ok ints0 hN hA hF c0 m0 hn (fun i k g1 g2 => F.2.2.1 i k (by omega) (by omega))
  have tb := tot_b (f := fun i => (mK M2 i).2) (a := mN M) (B := 600) (mN M2 - mN M) (fun j p q => kb j p (by have := F.1; omega))
  refine ⟨v, M1, M2, c0, m0, ⟨w, rb, rt, Rs_f hS G hN (fun i k q => by have := dl i k q; omega)⟩, ⟨JK_z hK (fun i k q => z i k (by omega) (by omega) (by omega)), by rw [z _ _ (by decide) (by decide) (by decide)]; omega⟩, Rid_z hRi (fun i k q => z i k (by omega) (by omega) (by omega)), fun kk q => Im_f (hIm kk q) q G hN (fun i j q => by have := dl i j q; omega) (fun i q => Or.inl q), tx, Un_k hU (fun i k q => z i k (by omega) (by omega) (by omega)) (z _ _ (by decide) (by decide) (fun _ => Or.inl rfl)), Rw_f hRw G hN (fun i k q => by have := dl i k q; omega), b1, b2, by omega, by omega⟩
theorem i_odd {x1 x2 x3 x4 x5 : Int32} (hI : Inv E C S M) : Stq E C S M 39 194 [.int x1, .int x2, .int x3, .int x4, .int x5] := by
  obtain ⟨o1, rfl, p1⟩ := i32 x1
  obtain ⟨o2, rfl, p2⟩ := i32 x2
  obtain ⟨o3, rfl, p3⟩ := i32 x3
  obtain ⟨o4, rfl, p4⟩ := i32 x4
  obtain ⟨o5, rfl, p5⟩ := i32 x5
  obtain ⟨⟨hW, hB, hT, hS⟩, ⟨hK, he1, he2⟩, hRi, hIm, hTx, hU, hRw, hA, hF, hC, hSl⟩ := id hI
  have hN := hW.1.1
  obtain ⟨v, M1, M2, c0, m0, FN, F2⟩ := o_odd (d := 195) hW.1 p1 p2 p3 p4 p5
  obtain ⟨z, M1', c1, hz, -, kk1⟩ := x_oddK (d := 195) (M := M) hN p1 p2 p3 p4 p5
  have c1 : cal 200 39 [.ref 8, .int (iz o1), .int (iz o2), .int (iz o3), .int (iz o4), .int (iz o5)] M = some (some (.int (iz z)), M1') := c1
  have c0 : cal 200 39 [.ref 8, .int (iz o1), .int (iz o2), .int (iz o3), .int (iz o4), .int (iz o5)] M = some (some (.int v), M1) := c0
  have em : M1' = M1 := by
    rw [c0] at c1
    exact (congrArg Prod.snd (Option.some.inj c1)).symm
  rw [em] at kk1
  have n1 := FN.1
  have n2 := F2.1
  have zz : ∀ i k, i < mN M → ¬ i = 506 → mZ M2 i k = mZ M i k := fun i k a b => by
    rw [F2.z b]
    exact congrArg Int32.toInt ((FN.2 i a).2 k).2.1
  have rr : ∀ i k, i < mN M → mR M2 i k = mR M i k := fun i k a => (F2.2.2.1 i k).trans ((FN.2 i a).2 k).1
  have G : Fz M M2 (fun i _ => i = 506) (fun _ => False) := ⟨by omega, fun i q => (F2.2.1 i).trans (FN.2 i q).1, fun i k q _ _ => rr i k q, fun i k q r => zz i k q r⟩
  obtain ⟨b1, b2, b3⟩ := Inv_ok (intsc (intsc (intsc (intsc ints1)))) hN hA hF c0 m0 n2 (fun i k g1 g2 => rr i k (by omega))
  rw [show mN M2 - mN M = 0 + 1 by omega, tot, tot] at b3
  have k6 : (mK M2 (mN M + 0)).2 = 6 := by rw [F2.2.1, Nat.add_zero, kk1]
  have h2 : shp M2 := F2.shp (FN.shp hW.1) (fun i k hi => by omega)
  have k481 : ∀ k, mZ M2 481 k = mZ M 481 k := fun k => zz _ _ (by omega) (by decide)
  have w : Wo M2 := ⟨h2, WFk_of hW.2.1 k481, Ra_of hW.2.2.1 k481 (fun i g1 g2 k => zz _ _ (by omega) (by omega)), LawsR_f hW.2.2.2 G hN (by decide) (fun q => q) (by decide) (by decide) (fun k => by decide) (fun i k q => by omega) (fun i q => q.elim)⟩
  have b3 : M2.2.1 = M.2.1 + (0 + (mK M2 (mN M + 0)).2) := b3
  refine ⟨v, M1, M2, c0, m0, ⟨w, Rb_of hB (fun j => zz _ _ (by omega) (by decide)) (fun j => zz _ _ (by omega) (by decide)) ?_, Rt_f hT G hN (fun i k q => by omega), Rs_f hS G hN (fun i k q => by omega)⟩, ⟨JK_z hK (fun i k q => zz _ _ (by omega) (by omega)), by rw [zz _ _ (by omega) (by decide)]; omega⟩, Rid_z hRi (fun i k q => zz _ _ (by omega) (by omega)), fun kk q => Im_f (hIm kk q) q G hN (fun i j q => by omega) (fun i q => q.elim), TxR_f hTx G (by omega) (fun q => q) (by decide), Un_k hU (fun i k q => zz _ _ (by omega) (by omega)) (zz _ _ (by omega) (by decide)), Rw_f hRw G hN (fun i k q => by omega), b1, b2, by omega, by omega⟩
  rw [zz _ _ (by omega) (by decide), zz _ _ (by omega) (by decide)]
  exact congrArg Int32.toInt hB.1
end

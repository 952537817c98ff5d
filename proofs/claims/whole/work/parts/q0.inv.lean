/-! what holds between two calls of the law -/
def okF (M : qMe) : Prop := (∀ i k j, ((479 ≤ i ∧ i ≤ 512) ∨ i < 8) → mR M i k = some j → ((479 ≤ j ∧ j ≤ 512) ∨ j < 8)) ∧ ∀ i k, mN M ≤ i → mR M i k = none
theorem okF_Am {M : qMe} (h : okF M) : okM (Am (mN M)) M := by
  refine ⟨fun i k j a e => ?_, fun i q => Or.inr (Or.inr q), fun i q => Or.inr (Or.inl q)⟩
  by_cases q : (479 ≤ i ∧ i ≤ 512) ∨ i < 8
  · have := h.1 i k j q e
    unfold Am; omega
  · rw [h.2 i k (by unfold Am at a; omega)] at e
    cases e
def isInts (As : List Value) : Prop := ∀ v, v ∈ As → ∃ x, v = .int x
theorem isInts_S {A : Nat → Prop} {As : List Value} {i : Nat} (h : isInts As) (hi : A i) : okS A (.ref i :: As) := okS_r (fun j q => by obtain ⟨x, e⟩ := h _ q; cases e) hi
theorem Inv_ok {d yc ym : Nat} {As : List Value} {v1 v2 : Option Value} {M M1 M2 : qMe} (hAs : isInts As) (hN : 513 ≤ mN M) (hA : okM Ax M) (hF : okF M) (c0 : cal d yc (.ref 8 :: As) M = some (v1, M1)) (m0 : cal d ym (.ref 479 :: As) M1 = some (v2, M2)) (hn : mN M2 = mN M1) (hm : ∀ i k, 479 ≤ i → i ≤ 512 → mR M2 i k = mR M i k) : okM Ax M2 ∧ okF M2 ∧ M2.2.1 = M.2.1 + tot (fun i => (mK M2 i).2) (mN M) (mN M2 - mN M) := by
  have hS : okS Ax (.ref 8 :: As) := isInts_S hAs (by unfold Ax; omega)
  have A1 : okM Ax M1 := okM_x hA hS c0
  obtain ⟨a1, -, a2, a3, a4, a5⟩ : Wr Ax M M1 := cal_wr c0 hS hA (by omega)
  have F1 : okF M1 := ⟨fun i k j a e => hF.1 i k j a (by rw [← a1 i k (by unfold Ax; omega)]; exact e), fun i k q => (a2 i k q).trans (hF.2 i k (by omega))⟩
  obtain ⟨b1, -, b2, b3, b4, b5⟩ : Wr (Am (mN M1)) M1 M2 := cal_wr m0 (isInts_S hAs (by unfold Am; omega)) (okF_Am F1) (by omega)
  refine ⟨⟨fun i k j a e => ?_, fun i q => by unfold Ax; omega, fun i q => by unfold Ax; omega⟩, ⟨fun i k j a e => ?_, fun i k q => (b2 i k q).trans (F1.2 i k (by omega))⟩, ?_⟩
  · by_cases i8 : i < 8
    · rw [b1 i k (Or.inr i8)] at e
      exact A1.1 i k j a e
    · by_cases iN : mN M1 ≤ i
      · rw [b2 i k (by omega), F1.2 i k iN] at e
        cases e
      · rw [b1 i k (Or.inl (by unfold Am; unfold Ax at a; omega))] at e
        exact A1.1 i k j a e
  · by_cases i8 : i < 8
    · rw [b1 i k (Or.inr i8)] at e
      exact F1.1 i k j a e
    · rw [hm i k (by omega) (by omega)] at e
      exact hF.1 i k j a e
  · rw [b5, a5, hn, Nat.sub_self, tot, Nat.add_zero, tot_c (g := fun i => (mK M1 i).2) _ (fun j p q => congrArg Prod.snd (b4 j (by omega)))]
/-- a frame with new cells, and where references may change too -/
def Fz (M M2 : qMe) (D : Nat → Nat → Prop) (R : Nat → Prop) : Prop := mN M ≤ mN M2 ∧ (∀ i, i < mN M → mK M2 i = mK M i) ∧ (∀ i k, i < mN M → ¬ R i → ¬ (i = 73 ∧ k = 5) → mR M2 i k = mR M i k) ∧ ∀ i k, i < mN M → ¬ D i k → mZ M2 i k = mZ M i k
section
variable {M M2 : qMe} {D : Nat → Nat → Prop} {R : Nat → Prop}
theorem Fz.x (h : Frx M M2 D R) : Fz M M2 D R := ⟨Nat.le_of_eq h.1.symm, fun i _ => h.2.1 i, fun i k _ => h.2.2.1 i k, fun i k _ => h.2.2.2 i k⟩
theorem Fz.m (h : Frm M M2 D) : Fz M M2 D R := Fz.x (Frx.of h)
theorem Fz.g {R' : Nat → Nat → Prop} (h : Frg M M2 D R') (hR : ∀ i k, R' i k → R i) : Fz M M2 D R := ⟨h.1, h.2.1, fun i k q r _ => h.2.2.1 i k q (fun z => r (hR i k z)), h.2.2.2.1⟩
theorem Fz.z (h : Fz M M2 D R) {i k : Nat} (hi : i < mN M) (hn : ¬ D i k) : mZ M2 i k = mZ M i k := h.2.2.2 i k hi hn
theorem LawsR_f {a arr : Nat} {off : Int} (h : LawsR M a arr off) (F : Fz M M2 D R) (hN : 513 ≤ mN M) (ha : a + 17 < 513) (hRa : ¬ R (a + 17)) (h73 : ¬ a + 17 = 73) (harr : arr < 513) (hDa : ∀ k, ¬ D arr k) (hD : ∀ i k, D i k → i < 513) (hR : ∀ i, R i → i < 513) : LawsR M2 a arr off :=
  LawsR_k h (fun k => F.z (by omega) (hDa k)) F.1 F.2.1 (fun i k g1 g2 => F.2.2.1 i k g2 (fun z => by have := hR i z; omega) (by omega)) (fun k => F.2.2.1 _ k (by omega) hRa (by omega)) (fun i k g1 g2 => F.z g2 (fun z => by have := hD i k z; omega))
theorem TxR_f {a : Nat} (h : TxR M a) (F : Fz M M2 D R) (ha : a + 17 < mN M) (hRa : ¬ R (a + 17)) (h73 : ¬ a + 17 = 73) : TxR M2 a := fun t ht => by
  rw [F.2.2.1 _ t ha hRa (by omega)]
  rcases h t ht with q | ⟨L, e, Li, L5, Lk⟩
  · exact Or.inl q
  · have Lb : L < mN M := by rw [inM_b] at Li; exact Li.2
    exact Or.inr ⟨L, e, by rw [inM_b] at Li ⊢; have := F.1; omega, L5, by rw [F.2.1 L Lb]; exact Lk⟩
theorem Im_f {k : Nat} (h : Im M k) (hk : k ≤ 1) (F : Fz M M2 D R) (hN : 513 ≤ mN M) (hD : ∀ i j, D i j → ¬ (30 ≤ i ∧ i ≤ 70) ∧ ¬ i = 482 ∧ ¬ i = 484 ∧ i < 513) (hR : ∀ i, R i → i = 26 ∨ i = 211) : Im M2 k := by
  obtain ⟨h1, h2, h3, h4⟩ := h
  have z : ∀ i j, ((30 ≤ i ∧ i ≤ 70) ∨ i = 482 ∨ i = 484) → mZ M2 i j = mZ M i j := fun i j q => F.z (by omega) (fun z => by have := hD i j z; omega)
  refine ⟨by rw [z _ _ (by omega)]; exact h1, by rw [z _ _ (by omega), z _ _ (by omega)]; exact h2, fun e => ?_, TxR_f h4 F (by omega) (fun q => by have := hR _ q; omega) (by omega)⟩
  rw [z _ _ (by omega)] at e
  obtain ⟨w, r, l⟩ := h3 e
  exact ⟨WFk_of w (fun j => z _ _ (by omega)), Ra_of r (fun j => z _ _ (by omega)) (fun i g1 g2 j => z _ _ (by omega)), LawsR_f l F hN (by omega) (fun q => by have := hR _ q; omega) (by omega) (by decide) (fun j q => by have := hD _ _ q; omega) (fun i j q => by have := hD _ _ q; omega) (fun i q => by have := hR _ q; omega)⟩
theorem Rt_f (h : Rt M) (F : Fz M M2 D R) (hN : 513 ≤ mN M) (hD : ∀ i k, D i k → ¬ (i = 8 ∧ (k = 4 ∨ k = 5 ∨ k = 6 ∨ k = 7)) ∧ ¬ i = 71 ∧ ¬ (i = 479 ∧ (k = 13 ∨ k = 6 ∨ k = 14 ∨ k = 57)) ∧ ¬ i = 486) : Rt M2 := by
  have z : ∀ i k, ((i = 8 ∧ (k = 4 ∨ k = 5 ∨ k = 6 ∨ k = 7)) ∨ i = 71 ∨ (i = 479 ∧ (k = 13 ∨ k = 6 ∨ k = 14 ∨ k = 57)) ∨ i = 486) → mZ M2 i k = mZ M i k := fun i k q => F.z (by omega) (fun z => by have := hD i k z; omega)
  have zi : ∀ i k, ((i = 8 ∧ (k = 4 ∨ k = 5 ∨ k = 6 ∨ k = 7)) ∨ i = 71 ∨ (i = 479 ∧ (k = 13 ∨ k = 6 ∨ k = 14 ∨ k = 57)) ∨ i = 486) → mI M2 i k = mI M i k := fun i k q => I_of_Z (z i k q)
  obtain ⟨t1, t2, t3, t4, t5⟩ := h
  refine ⟨?_, fun i g1 g2 => ?_, ?_, ?_, ?_⟩
  · rw [z 8 _ (by omega), z 479 _ (by omega)]; exact t1
  · rw [z 8 _ (by omega)] at g2
    rw [z 71 _ (by omega), z 486 _ (by omega)]
    exact t2 i g1 g2
  · rw [zi 8 _ (by omega), zi 479 _ (by omega)]; exact t3
  · rw [zi 8 _ (by omega), zi 479 _ (by omega)]; exact t4
  · rw [zi 8 _ (by omega), zi 479 _ (by omega)]; exact t5
theorem Rs_f (h : Rs M) (F : Fz M M2 D R) (hN : 513 ≤ mN M) (hD : ∀ i k, D i k → ¬ i = 478 ∧ ¬ i = 512 ∧ ¬ (i = 479 ∧ k = 68)) : Rs M2 := by
  have z : ∀ i k, (i = 478 ∨ i = 512 ∨ (i = 479 ∧ k = 68)) → mZ M2 i k = mZ M i k := fun i k q => F.z (by omega) (fun z => by have := hD i k z; omega)
  unfold Rs at *
  rw [z 479 _ (by omega)]
  refine ⟨h.1, fun e g1 g2 => ?_⟩
  rw [z 478 _ (by omega), z 512 _ (by omega)]
  exact h.2 e g1 g2
theorem Rw_f (h : Rw M) (F : Fz M M2 D R) (hN : 513 ≤ mN M) (hD : ∀ i k, D i k → ¬ i = 485) : Rw M2 := fun j q => by
  rw [F.z (by omega) (fun z => (hD _ _ z) rfl)]
  exact h j q
end
def Inv (E : Int) (C S : Nat) (M : qMe) : Prop := (Wo M ∧ Rb M ∧ Rt M ∧ Rs M) ∧ (JK M ∧ 0 ≤ mZ M 73 6 ∧ mZ M 73 6 ≤ E) ∧ Rid M ∧ (∀ kk : Nat, kk ≤ 1 → Im M kk) ∧ TxR M 9 ∧ Un M ∧ Rw M ∧ okM Ax M ∧ okF M ∧ mN M ≤ C ∧ M.2.1 ≤ S
/-- a call on both sides: the same answer, and what holds between two calls holds again -/
def Stq (E : Int) (C S : Nat) (M : qMe) (yc ym : Nat) (As : List Value) : Prop := ∃ v M1 M2, cal 200 yc (.ref 8 :: As) M = some (some (.int v), M1) ∧ cal 200 ym (.ref 479 :: As) M1 = some (some (.int v), M2) ∧ Inv (E + 240) (C + 6) (S + 3600) M2
theorem i32 (x : Int32) : ∃ a : Int, x = iz a ∧ -2147483648 ≤ a ∧ a < 2147483648 := ⟨x.toInt, (iz_self x).symm, Int32.le_toInt x, Int32.toInt_lt x⟩
theorem ints1 {x : Int32} : isInts [.int x] := fun v q => ⟨x, List.mem_singleton.mp q⟩
theorem ints0 : isInts [] := fun v q => by cases q
theorem intsc {x : Int32} {As : List Value} (h : isInts As) : isInts (.int x :: As) := fun v q => by
  rcases List.mem_cons.mp q with e | e
  · exact ⟨x, e⟩
  · exact h v e
/-- no cell more: what a frame gives -/
theorem Inv_fr {d yc ym : Nat} {As : List Value} {v1 v2 : Option Value} {M M1 M2 : qMe} {D : Nat → Nat → Prop} {R : Nat → Prop} {E : Int} {C S : Nat} (hI : Inv E C S M) (hAs : isInts As) (c0 : cal d yc (.ref 8 :: As) M = some (v1, M1)) (m0 : cal d ym (.ref 479 :: As) M1 = some (v2, M2)) (F : Frx M M2 D R) (hR : ∀ i, R i → isL i) : okM Ax M2 ∧ okF M2 ∧ mN M2 ≤ C + 6 ∧ M2.2.1 ≤ S + 3600 := by
  obtain ⟨⟨hW, -⟩, -, -, -, -, -, -, hA, hF, hC, hS⟩ := hI
  have hN := hW.1.1
  have w1 : Wr Ax M M1 := cal_wr c0 (isInts_S hAs (by unfold Ax; omega)) hA (by omega)
  have A1 : okM Ax M1 := okM_x hA (isInts_S hAs (by unfold Ax; omega)) c0
  have F1 : okF M1 := ⟨fun i k j a e => hF.1 i k j a (by rw [← w1.1 i k (by unfold Ax; omega)]; exact e), fun i k q => (w1.2.2.1 i k q).trans (hF.2 i k (by have := w1.2.2.2.1; omega))⟩
  have w2 : Wr (Am (mN M1)) M1 M2 := cal_wr m0 (isInts_S hAs (by unfold Am; omega)) (okF_Am F1) (by have := w1.2.2.2.1; omega)
  have n1 := w1.2.2.2.1
  have n2 := w2.2.2.2.1
  have n3 := F.1
  obtain ⟨b1, b2, b3⟩ := Inv_ok hAs hN hA hF c0 m0 (by omega) (fun i k g1 g2 => F.2.2.1 i k (fun q => by have := hR i q; unfold isL at this; omega) (by omega))
  rw [show mN M2 - mN M = 0 by omega, tot] at b3
  exact ⟨b1, b2, by omega, by omega⟩
/-- a call that only asks -/
theorem Inv_Q {E : Int} {C S : Nat} {M : qMe} {yc ym : Nat} {As : List Value} (hI : Inv E C S M) (hAs : isInts As) (h : SimQ M 200 yc ym As) : Stq E C S M yc ym As := by
  obtain ⟨v, M1, M2, c0, m0, w, k, F, e1, e2⟩ := h
  obtain ⟨k1, k2, k3, k4⟩ := Inv_fr hI hAs c0 m0 (Frx.of (R := fun _ => False) F) (fun i q => q.elim)
  obtain ⟨⟨hW, hB, hT, hS⟩, ⟨hK, he1, he2⟩, hRi, hIm, hTx, hU, hRw, -, -, -, -⟩ := hI
  have hN := hW.1.1
  have Fz : Fz M M2 scr (fun _ => False) := Fz.m F
  refine ⟨v, M1, M2, c0, m0, ⟨w, Rb_of hB (fun j => F.z (by unfold scr; omega)) (fun j => F.z (by unfold scr; omega)) ?_, Rt_f hT Fz hN (fun i k q => by unfold scr at q; omega), Rs_f hS Fz hN (fun i k q => by unfold scr at q; omega)⟩, ⟨k, by omega, by omega⟩, Rid_z hRi (fun i k q => F.z (by unfold scr; omega)), fun kk q => Im_f (hIm kk q) q Fz hN (fun i j q => by unfold scr at q; omega) (fun i q => q.elim), TxR_f hTx Fz (by omega) (fun q => q) (by decide), Un_k hU (fun i k q => F.z (by unfold scr; omega)) (F.z (by unfold scr; omega)), Rw_f hRw Fz hN (fun i k q => by unfold scr at q; omega), k1, k2, k3, k4⟩
  rw [F.z (by unfold scr; omega), F.z (by unfold scr; omega)]
  exact congrArg Int32.toInt hB.1

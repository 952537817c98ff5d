/-! law answers alike -/
def Dlw (i k : Nat) : Prop := DLx i k ∨ Drf i k ∨ DRr i k ∨ i = 481
theorem Dlw_8 {i k : Nat} (hi : i < 8) : ¬ Dlw i k := by unfold Dlw DLx DLf DPx DCu DPa DRy Drf DRr DSp DRm; omega
theorem xrf_Df {M : qMe} {b : Int} : Dif M (xrf M b) Drf := (Dif.rfl'.I (by unfold Drf; omega)).I (by unfold Drf; omega)
theorem mrf_Df {M : qMe} {b : Int} : Dif M (mrf M b) Drf := (Dif.rfl'.I (by unfold Drf; omega)).I (by unfold Drf; omega)
theorem Rb_rf {M Mp Mq : qMe} {b : Int} (hb : b = -5 ∨ b = -6) (hB : Rb M) (h72 : ∀ k, mI Mp 72 k = mI M 72 k) (q72 : ∀ k, mI Mq 72 k = mI (xrf Mp b) 72 k) (q480 : ∀ k, mI Mq 480 k = mI M 480 k) (q8 : mI Mq 8 8 = mI (xrf Mp b) 8 8) : Rb (mrf Mq b) := by
  obtain ⟨b1, b2, b3, b4, b5, b6⟩ := hB
  rcases hb with rfl | rfl
  · have x8 : mI (xrf Mp (-5)) 8 8 = iz (-5) := by
      show mI (qsI (qsI Mp 8 8 (iz (-5))) 72 3 _) 8 8 = _
      rw [mI_nc (by decide), mI_sm rfl]
    have x7 : ∀ k, ¬ k = 3 → mI (xrf Mp (-5)) 72 k = mI Mp 72 k := fun k q => by
      show mI (qsI (qsI Mp 8 8 (iz (-5))) 72 3 _) 72 k = _
      rw [mI_ni q, mI_nc (by decide)]
    have x73 : mI (xrf Mp (-5)) 72 3 = mI Mp 72 3 + iz 1 := by
      show mI (qsI (qsI Mp 8 8 (iz (-5))) 72 3 (mI Mp 72 3 + iz 1)) 72 3 = _
      rw [mI_sm rfl]
    have e : mrf Mq (-5) = qsI (qsI Mq 479 0 (iz (-5))) 480 5 (mI Mq 480 5 + iz 1) := rfl
    rw [e]
    refine ⟨?_, ?_, ?_, ?_, ?_, ?_⟩
    · rw [mI_nc (by decide), mI_nc (by decide), mI_nc (by decide), mI_sm rfl, q8, x8]
    · rw [mI_nc (by decide), mI_nc (by decide), mI_ni (by decide), mI_nc (by decide), q72, x7 _ (by decide), h72, q480]; exact b2
    · rw [mI_nc (by decide), mI_nc (by decide), mI_ni (by decide), mI_nc (by decide), q72, x7 _ (by decide), h72, q480]; exact b3
    · rw [mI_nc (by decide), mI_nc (by decide), mI_ni (by decide), mI_nc (by decide), q72, x7 _ (by decide), h72, q480]; exact b4
    · rw [mI_nc (by decide), mI_nc (by decide), mI_sm rfl, q72, x73, h72, q480]; exact congrArg (· + iz 1) b5
    · rw [mI_nc (by decide), mI_nc (by decide), mI_ni (by decide), mI_nc (by decide), q72, x7 _ (by decide), h72, q480]; exact b6
  · have x8 : mI (xrf Mp (-6)) 8 8 = iz (-6) := by
      show mI (qsI (qsI Mp 8 8 (iz (-6))) 72 4 _) 8 8 = _
      rw [mI_nc (by decide), mI_sm rfl]
    have x7 : ∀ k, ¬ k = 4 → mI (xrf Mp (-6)) 72 k = mI Mp 72 k := fun k q => by
      show mI (qsI (qsI Mp 8 8 (iz (-6))) 72 4 _) 72 k = _
      rw [mI_ni q, mI_nc (by decide)]
    have x73 : mI (xrf Mp (-6)) 72 4 = mI Mp 72 4 + iz 1 := by
      show mI (qsI (qsI Mp 8 8 (iz (-6))) 72 4 (mI Mp 72 4 + iz 1)) 72 4 = _
      rw [mI_sm rfl]
    have e : mrf Mq (-6) = qsI (qsI Mq 479 0 (iz (-6))) 480 6 (mI Mq 480 6 + iz 1) := rfl
    rw [e]
    refine ⟨?_, ?_, ?_, ?_, ?_, ?_⟩
    · rw [mI_nc (by decide), mI_nc (by decide), mI_nc (by decide), mI_sm rfl, q8, x8]
    · rw [mI_nc (by decide), mI_nc (by decide), mI_ni (by decide), mI_nc (by decide), q72, x7 _ (by decide), h72, q480]; exact b2
    · rw [mI_nc (by decide), mI_nc (by decide), mI_ni (by decide), mI_nc (by decide), q72, x7 _ (by decide), h72, q480]; exact b3
    · rw [mI_nc (by decide), mI_nc (by decide), mI_ni (by decide), mI_nc (by decide), q72, x7 _ (by decide), h72, q480]; exact b4
    · rw [mI_nc (by decide), mI_nc (by decide), mI_ni (by decide), mI_nc (by decide), q72, x7 _ (by decide), h72, q480]; exact b5
    · rw [mI_nc (by decide), mI_nc (by decide), mI_sm rfl, q72, x73, h72, q480]; exact congrArg (· + iz 1) b6
theorem Rt_0 {M M2 : qMe} (hT : Rt M) (h1 : mZ M2 8 4 = 0) (h2 : mZ M2 479 13 = 0) (h3 : mZ M2 8 5 = mZ M 8 5) (h4 : mZ M2 479 6 = mZ M 479 6) (h5 : mZ M2 8 6 = mZ M2 479 14) (h6 : mZ M2 8 7 = mZ M2 479 57) : Rt M2 := by
  obtain ⟨-, -, t5, -, -⟩ := hT
  refine ⟨⟨by omega, by omega, by omega⟩, fun i g1 g2 => by omega, ?_, ?_, ?_⟩
  · rw [mI_Z, mI_Z, h3, h4, ← mI_Z, ← mI_Z]; exact t5
  · rw [mI_Z, mI_Z, h5]
  · rw [mI_Z, mI_Z, h6]
theorem TxR_F {M M1 : qMe} {D : Nat → Nat → Prop} {a : Nat} (h : TxR M a) (hF : Frm M M1 D) (ha : ¬ a + 17 = 73) : TxR M1 a := TxR_x h (Frx.of (R := fun _ => False) hF) (fun z => z) ha
/-- both refuse a text -/
theorem o_text_rf {M Mp Mq : qMe} {b : Int} {Dx : Nat → Nat → Prop} (hb : b = -5 ∨ b = -6) (hW : Wo M) (hB : Rb M) (hT : Rt M) (hX : TxR M 9) (Dp : Dif M Mp Dx) (hDx : ∀ i k, Dx i k → (DLf i k ∨ (i = 8 ∧ k = 7))) (t1 : mZ Mp 8 4 = 0) {Dm : Nat → Nat → Prop} (Dq : Dif (xrf Mp b) Mq Dm) (hDm : ∀ i k, Dm i k → (DRr i k ∨ (i = 479 ∧ k = 57))) (t2 : mZ Mq 479 13 = 0) (hf : mZ Mp 8 6 = mZ Mq 479 14) (hs : mZ Mp 8 7 = mZ Mq 479 57) : Wo (mrf Mq b) ∧ Rb (mrf Mq b) ∧ Rt (mrf Mq b) ∧ TxR (mrf Mq b) 9 ∧ Dif M (mrf Mq b) (fun i k => Dlw i k ∨ (i = 8 ∧ k = 7) ∨ (i = 479 ∧ k = 57)) := by
  have F : Dif M (mrf Mq b) (fun i k => Dlw i k ∨ (i = 8 ∧ k = 7) ∨ (i = 479 ∧ k = 57)) := (Dp.mono (fun i k q => by
    rcases hDx i k q with q | q
    · exact Or.inl (Or.inl (Or.inl q))
    · exact Or.inr (Or.inl q))).tr ((xrf_Df.mono (fun i k q => Or.inl (Or.inr (Or.inl q)))).tr ((Dq.mono (fun i k q => by
    rcases hDm i k q with q | q
    · exact Or.inl (Or.inr (Or.inr (Or.inl q)))
    · exact Or.inr (Or.inr q))).tr (mrf_Df.mono (fun i k q => Or.inl (Or.inr (Or.inl q))))))
  have xz : ∀ i k, ¬ Drf i k → mZ (xrf Mp b) i k = mZ Mp i k := fun i k q => xrf_Df.z q
  have mz : ∀ i k, ¬ Drf i k → mZ (mrf Mq b) i k = mZ Mq i k := fun i k q => mrf_Df.z q
  have nx : ∀ i k, ¬ (DLf i k ∨ (i = 8 ∧ k = 7)) → ¬ Dx i k := fun i k q r => q (hDx i k r)
  have nm : ∀ i k, ¬ (DRr i k ∨ (i = 479 ∧ k = 57)) → ¬ Dm i k := fun i k q r => q (hDm i k r)
  have FA : Frm M (mrf Mq b) (fun i k => (aside i ∨ i = 8) ∧ (Dlw i k ∨ (i = 8 ∧ k = 7) ∨ (i = 479 ∧ k = 57))) := by
    refine ⟨F.1, F.2.1, fun i k _ => F.2.2.1 i k, fun i k q => ?_⟩
    by_cases e : Dlw i k ∨ (i = 8 ∧ k = 7) ∨ (i = 479 ∧ k = 57)
    · have na : ¬ (aside i ∨ i = 8) := fun z => q ⟨z, e⟩
      have y1 : ¬ Drf i k := fun z => na (by unfold Drf at z; unfold aside; omega)
      have y2 : ¬ (DLf i k ∨ (i = 8 ∧ k = 7)) := fun z => na (by unfold DLf DPx DCu DPa DRy at z; unfold aside; omega)
      have y3 : ¬ (DRr i k ∨ (i = 479 ∧ k = 57)) := fun z => na (by unfold DRr DSp DRm at z; unfold aside; omega)
      rw [mz _ _ y1, Dq.z (nm _ _ y3), xz _ _ y1, Dp.z (nx _ _ y2)]
    · exact F.z e
  refine ⟨Wo_k2 hW FA (fun i k q => q.1), Rb_rf (Mp := Mp) hb hB (fun k => ?_) (fun k => ?_) (fun k => ?_) ?_, Rt_0 hT ?_ ?_ ?_ ?_ ?_ ?_, TxR_F hX FA (by decide), F⟩
  · exact Dp.2.2.2.2 _ _ (nx _ _ (by unfold DLf DPx DCu DPa DRy; omega))
  · exact Dq.2.2.2.2 _ _ (nm _ _ (by unfold DRr DSp DRm; omega))
  · refine (Dq.2.2.2.2 _ _ (nm _ _ (by unfold DRr DSp DRm; omega))).trans (Eq.trans ?_ (Dp.2.2.2.2 _ _ (nx _ _ (by unfold DLf DPx DCu DPa DRy; omega))))
    unfold xrf
    rw [mI_nc (by decide), mI_nc (by decide)]
  · exact Dq.2.2.2.2 _ _ (nm _ _ (by unfold DRr DSp DRm; omega))
  · rw [mz _ _ (by unfold Drf; omega), Dq.z (nm _ _ (by unfold DRr DSp DRm; omega)), xz _ _ (by unfold Drf; omega)]; exact t1
  · rw [mz _ _ (by unfold Drf; omega)]; exact t2
  · rw [mz _ _ (by unfold Drf; omega), Dq.z (nm _ _ (by unfold DRr DSp DRm; omega)), xz _ _ (by unfold Drf; omega), Dp.z (nx _ _ (by unfold DLf DPx DCu DPa DRy; omega))]
  · rw [mz _ _ (by unfold Drf; omega), Dq.z (nm _ _ (by unfold DRr DSp DRm; omega)), xz _ _ (by unfold Drf; omega), Dp.z (nx _ _ (by unfold DLf DPx DCu DPa DRy; omega))]
  · rw [mz _ _ (by unfold Drf; omega), Dq.z (nm _ _ (by unfold DRr DSp DRm; omega)), xz _ _ (by unfold Drf; omega), mz _ _ (by unfold Drf; omega)]; exact hf
  · rw [mz _ _ (by unfold Drf; omega), Dq.z (nm _ _ (by unfold DRr DSp DRm; omega)), xz _ _ (by unfold Drf; omega), mz _ _ (by unfold Drf; omega)]; exact hs

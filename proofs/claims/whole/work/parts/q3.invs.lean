/-! the calls that tell, one by one -/
section
variable {E : Int} {C S : Nat} {M : qMe}
theorem Inv_S {yc ym : Nat} {As : List Value} (hDS : ∀ k, DS 481 k → k < 269 ∨ k = 270) (hI : Inv E C S M) (hAs : isInts As) (h : Sim M 200 yc ym As DS) : Stq E C S M yc ym As := by
  obtain ⟨v, M1, M2, c0, m0, wf, ra, rb, D⟩ := h
  obtain ⟨⟨hW, hB, hT, hS⟩, ⟨hK, he1, he2⟩, hRi, hIm, hTx, hU, hRw, -, hF, -, -⟩ := id hI
  have hN := hW.1.1
  have F : Frm M M2 DS := Frm.of D
  have dl : ∀ i k, DS i k → (9 ≤ i ∧ i < 29) ∨ i = 481 ∨ (i = 8 ∧ k = 8) ∨ i = 72 ∨ (i = 479 ∧ k = 0) ∨ i = 480 := fun i k q => by unfold DS at q; omega
  have w : Wo M2 := ⟨D.shp hW.1 DS_8, wf, ra, LawsR_tr (fun j g1 g2 g3 => F.z (fun z => by have := hDS _ z; omega)) (a := 9) (b := 9) hW.2.1 hW.2.2.2 (fun k _ => D.2.2.1 _ _) (Nat.le_of_eq D.1.symm) (fun i _ => D.2.1 i) (fun i k _ _ => D.2.2.1 i k) (fun i k g1 _ => F.z (fun z => by have := dl _ _ z; omega))⟩
  exact Inv_mk hI hAs c0 m0 (Frx.of (R := fun _ => False) F) (fun i q => q.elim) (fun i k q => by have := dl i k q; omega) w rb (Rt_f hT (Fz.m (R := fun _ => False) F) hN (fun i k q => by have := dl i k q; omega)) (Rs_f hS (Fz.m (R := fun _ => False) F) hN (fun i k q => by have := dl i k q; omega)) (JK_z hK (fun i k q => F.z (fun z => by have := dl i k z; omega))) (by rw [F.z (fun z => by have := dl _ _ z; omega)]; omega) (Rid_z hRi (fun i k q => F.z (fun z => by have := dl i k z; omega))) (TxR_F hTx F (by decide)) (Un_k hU (fun i k q => F.z (fun z => by have := dl i k z; omega)) (F.z (fun z => by have := dl _ _ z; omega)))
theorem Inv_P {yc ym : Nat} {As : List Value} (hDS : ∀ k, DS 481 k → k < 269 ∨ k = 270) (hI : Inv E C S M) (hAs : isInts As) (h : SimP M 200 yc ym As DT Rt) : Stq E C S M yc ym As := by
  obtain ⟨v, M1, M2, c0, m0, wf, ra, rb, D, rt⟩ := h
  obtain ⟨⟨hW, hB, hT, hS⟩, ⟨hK, he1, he2⟩, hRi, hIm, hTx, hU, hRw, -, hF, -, -⟩ := id hI
  have hN := hW.1.1
  have F : Frm M M2 DT := Frm.of D
  have dl : ∀ i k, DT i k → (i = 8 ∧ ¬ k = 18) ∨ i = 71 ∨ (i = 479 ∧ (k = 13 ∨ k = 6 ∨ k = 14 ∨ k = 57 ∨ k = 0)) ∨ i = 486 ∨ i = 487 ∨ (9 ≤ i ∧ i < 29) ∨ i = 481 ∨ i = 72 ∨ i = 480 := fun i k q => by unfold DT DS at q; omega
  have d4 : ∀ k, DT 481 k → k < 269 ∨ k = 270 := fun k q => hDS k (by unfold DT at q; rcases q with q | q | q | q | q | q <;> first | exact q | omega)
  have w : Wo M2 := ⟨D.shp hW.1 (fun i k hi z => by have := dl _ _ z; omega), wf, ra, LawsR_tr (fun j g1 g2 g3 => F.z (fun z => by have := d4 _ z; omega)) (a := 9) (b := 9) hW.2.1 hW.2.2.2 (fun k _ => D.2.2.1 _ _) (Nat.le_of_eq D.1.symm) (fun i _ => D.2.1 i) (fun i k _ _ => D.2.2.1 i k) (fun i k g1 _ => F.z (fun z => by have := dl _ _ z; omega))⟩
  exact Inv_mk hI hAs c0 m0 (Frx.of (R := fun _ => False) F) (fun i q => q.elim) (fun i k q => by have := dl i k q; omega) w rb rt (Rs_f hS (Fz.m (R := fun _ => False) F) hN (fun i k q => by have := dl i k q; omega)) (JK_z hK (fun i k q => F.z (fun z => by have := dl i k z; omega))) (by rw [F.z (fun z => by have := dl _ _ z; omega)]; omega) (Rid_z hRi (fun i k q => F.z (fun z => by have := dl i k z; omega))) (TxR_F hTx F (by decide)) (Un_k hU (fun i k q => F.z (fun z => by have := dl i k z; omega)) (F.z (fun z => by have := dl _ _ z; omega)))
theorem i_height {x1 x2 : Int32} (hI : Inv E C S M) (hDS : ∀ k, DS 481 k → k < 269 ∨ k = 270) : Stq E C S M 2 87 [.int x1, .int x2] := by
  obtain ⟨a1, rfl, p1, q1⟩ := i32 x1
  obtain ⟨a2, rfl, p2, q2⟩ := i32 x2
  obtain ⟨⟨hW, hB, hT, hS⟩, -, -, -, -, hU, -⟩ := id hI
  exact Inv_S hDS hI (intsc ints1) (o_height (d := 197) hW.1 hW.2.1 hW.2.2.1 hB p1 q1 p2 q2)
theorem i_fence {x1 x2 : Int32} (hI : Inv E C S M) (hDS : ∀ k, DS 481 k → k < 269 ∨ k = 270) : Stq E C S M 3 88 [.int x1, .int x2] := by
  obtain ⟨a1, rfl, p1, q1⟩ := i32 x1
  obtain ⟨a2, rfl, p2, q2⟩ := i32 x2
  obtain ⟨⟨hW, hB, hT, hS⟩, -, -, -, -, hU, -⟩ := id hI
  exact Inv_S hDS hI (intsc ints1) (o_fence (d := 197) hW.1 hW.2.1 hW.2.2.1 hB p1 q1 p2 q2)
theorem i_house {x1 x2 : Int32} (hI : Inv E C S M) (hDS : ∀ k, DS 481 k → k < 269 ∨ k = 270) : Stq E C S M 4 89 [.int x1, .int x2] := by
  obtain ⟨a1, rfl, p1, q1⟩ := i32 x1
  obtain ⟨a2, rfl, p2, q2⟩ := i32 x2
  obtain ⟨⟨hW, hB, hT, hS⟩, -, -, -, -, hU, -⟩ := id hI
  exact Inv_S hDS hI (intsc ints1) (o_house (d := 197) hW.1 hW.2.1 hW.2.2.1 hB p1 q1 p2 q2)
theorem i_dairy {x1 : Int32} (hI : Inv E C S M) (hDS : ∀ k, DS 481 k → k < 269 ∨ k = 270) : Stq E C S M 5 90 [.int x1] := by
  obtain ⟨a1, rfl, p1, q1⟩ := i32 x1
  obtain ⟨⟨hW, hB, hT, hS⟩, -, -, -, -, hU, -⟩ := id hI
  exact Inv_S hDS hI ints1 (o_dairy (d := 197) hW.1 hW.2.1 hW.2.2.1 hB p1 q1)
theorem i_wheel {x1 x2 : Int32} (hI : Inv E C S M) (hDS : ∀ k, DS 481 k → k < 269 ∨ k = 270) : Stq E C S M 6 91 [.int x1, .int x2] := by
  obtain ⟨a1, rfl, p1, q1⟩ := i32 x1
  obtain ⟨a2, rfl, p2, q2⟩ := i32 x2
  obtain ⟨⟨hW, hB, hT, hS⟩, -, -, -, -, hU, -⟩ := id hI
  exact Inv_S hDS hI (intsc ints1) (o_wheel (d := 197) hW.1 hW.2.1 hW.2.2.1 hB p1 q1 p2 q2)
theorem i_letter {x1 x2 : Int32} (hI : Inv E C S M) (hDS : ∀ k, DS 481 k → k < 269 ∨ k = 270) : Stq E C S M 7 92 [.int x1, .int x2] := by
  obtain ⟨a1, rfl, p1, q1⟩ := i32 x1
  obtain ⟨a2, rfl, p2, q2⟩ := i32 x2
  obtain ⟨⟨hW, hB, hT, hS⟩, -, -, -, -, hU, -⟩ := id hI
  exact Inv_S hDS hI (intsc ints1) (o_letter (d := 197) hW.1 hW.2.1 hW.2.2.1 hB p1 q1 p2 q2)
theorem i_burn (hI : Inv E C S M) (hDS : ∀ k, DS 481 k → k < 269 ∨ k = 270) : Stq E C S M 8 94 [] := by
  obtain ⟨⟨hW, hB, hT, hS⟩, -, -, -, -, hU, -⟩ := id hI
  exact Inv_S hDS hI ints0 (o_burn (d := 197) hW.1 hW.2.1 hW.2.2.1 hB )
theorem i_at {x1 x2 : Int32} (hI : Inv E C S M) (hDS : ∀ k, DS 481 k → k < 269 ∨ k = 270) : Stq E C S M 9 97 [.int x1, .int x2] := by
  obtain ⟨a1, rfl, p1, q1⟩ := i32 x1
  obtain ⟨a2, rfl, p2, q2⟩ := i32 x2
  obtain ⟨⟨hW, hB, hT, hS⟩, -, -, -, -, hU, -⟩ := id hI
  exact Inv_S hDS hI (intsc ints1) (o_at (d := 197) hW.1 hW.2.1 hW.2.2.1 hB p1 q1 p2 q2)
theorem i_of {x1 x2 : Int32} (hI : Inv E C S M) (hDS : ∀ k, DS 481 k → k < 269 ∨ k = 270) : Stq E C S M 10 98 [.int x1, .int x2] := by
  obtain ⟨a1, rfl, p1, q1⟩ := i32 x1
  obtain ⟨a2, rfl, p2, q2⟩ := i32 x2
  obtain ⟨⟨hW, hB, hT, hS⟩, -, -, -, -, hU, -⟩ := id hI
  exact Inv_S hDS hI (intsc ints1) (o_of (d := 197) hW.1 hW.2.1 hW.2.2.1 hB p1 q1 p2 q2)
theorem i_terms {x1 x2 : Int32} (hI : Inv E C S M) (hDS : ∀ k, DS 481 k → k < 269 ∨ k = 270) : Stq E C S M 11 100 [.int x1, .int x2] := by
  obtain ⟨a1, rfl, p1, q1⟩ := i32 x1
  obtain ⟨a2, rfl, p2, q2⟩ := i32 x2
  obtain ⟨⟨hW, hB, hT, hS⟩, -, -, -, -, hU, -⟩ := id hI
  exact Inv_S hDS hI (intsc ints1) (o_terms (d := 197) hW.1 hW.2.1 hW.2.2.1 hB p1 q1 p2 q2)
theorem i_crumbs (hI : Inv E C S M) (hDS : ∀ k, DS 481 k → k < 269 ∨ k = 270) : Stq E C S M 15 102 [] := by
  obtain ⟨⟨hW, hB, hT, hS⟩, -, -, -, -, hU, -⟩ := id hI
  exact Inv_S hDS hI ints0 (o_crumbs (d := 197) hW.1 hW.2.1 hW.2.2.1 hB hT )
theorem i_fault (hI : Inv E C S M) (hDS : ∀ k, DS 481 k → k < 269 ∨ k = 270) : Stq E C S M 18 128 [] := by
  obtain ⟨⟨hW, hB, hT, hS⟩, -, -, -, -, hU, -⟩ := id hI
  exact Inv_S hDS hI ints0 (o_fault (d := 197) hW.1 hW.2.1 hW.2.2.1 hB hT )
theorem i_stopped (hI : Inv E C S M) (hDS : ∀ k, DS 481 k → k < 269 ∨ k = 270) : Stq E C S M 19 202 [] := by
  obtain ⟨⟨hW, hB, hT, hS⟩, -, -, -, -, hU, -⟩ := id hI
  exact Inv_S hDS hI ints0 (o_stopped (d := 197) hW.1 hW.2.1 hW.2.2.1 hB hT )
theorem i_force {x1 : Int32} (hI : Inv E C S M) (hDS : ∀ k, DS 481 k → k < 269 ∨ k = 270) : Stq E C S M 20 129 [.int x1] := by
  obtain ⟨a1, rfl, p1, q1⟩ := i32 x1
  obtain ⟨⟨hW, hB, hT, hS⟩, -, -, -, -, hU, -⟩ := id hI
  exact Inv_S hDS hI ints1 (o_force (d := 197) hW.1 hW.2.1 hW.2.2.1 hB p1 q1)
theorem i_came {x1 x2 : Int32} (hI : Inv E C S M) (hDS : ∀ k, DS 481 k → k < 269 ∨ k = 270) : Stq E C S M 29 170 [.int x1, .int x2] := by
  obtain ⟨a1, rfl, p1, q1⟩ := i32 x1
  obtain ⟨a2, rfl, p2, q2⟩ := i32 x2
  obtain ⟨⟨hW, hB, hT, hS⟩, -, -, -, -, hU, -⟩ := id hI
  exact Inv_S hDS hI (intsc ints1) (o_came (d := 197) hW.1 hW.2.1 hW.2.2.1 hB p1 q1 p2 q2)
theorem i_trace {x1 x2 : Int32} (hI : Inv E C S M) (hDS : ∀ k, DS 481 k → k < 269 ∨ k = 270) : Stq E C S M 33 182 [.int x1, .int x2] := by
  obtain ⟨a1, rfl, p1, q1⟩ := i32 x1
  obtain ⟨a2, rfl, p2, q2⟩ := i32 x2
  obtain ⟨⟨hW, hB, hT, hS⟩, -, -, -, -, hU, -⟩ := id hI
  exact Inv_S hDS hI (intsc ints1) (o_trace (d := 197) hW.1 hW.2.1 hW.2.2.1 hB p1 q1 p2 q2)
theorem i_forget (hI : Inv E C S M) (hDS : ∀ k, DS 481 k → k < 269 ∨ k = 270) : Stq E C S M 34 183 [] := by
  obtain ⟨⟨hW, hB, hT, hS⟩, -, -, -, -, hU, -⟩ := id hI
  exact Inv_S hDS hI ints0 (o_forget (d := 197) hW.1 hW.2.1 hW.2.2.1 hB )
theorem i_share {x1 x2 x3 x4 : Int32} (hI : Inv E C S M) (hDS : ∀ k, DS 481 k → k < 269 ∨ k = 270) : Stq E C S M 37 189 [.int x1, .int x2, .int x3, .int x4] := by
  obtain ⟨a1, rfl, p1, q1⟩ := i32 x1
  obtain ⟨a2, rfl, p2, q2⟩ := i32 x2
  obtain ⟨a3, rfl, p3, q3⟩ := i32 x3
  obtain ⟨a4, rfl, p4, q4⟩ := i32 x4
  obtain ⟨⟨hW, hB, hT, hS⟩, -, -, -, -, hU, -⟩ := id hI
  exact Inv_S hDS hI (intsc (intsc (intsc ints1))) (o_share (d := 197) hW.1 hW.2.1 hW.2.2.1 hB p1 q1 p2 q2 p3 q3 p4 q4)
theorem i_reply {x1 x2 : Int32} (hI : Inv E C S M) (hDS : ∀ k, DS 481 k → k < 269 ∨ k = 270) : Stq E C S M 40 195 [.int x1, .int x2] := by
  obtain ⟨a1, rfl, p1, q1⟩ := i32 x1
  obtain ⟨a2, rfl, p2, q2⟩ := i32 x2
  obtain ⟨⟨hW, hB, hT, hS⟩, -, -, -, -, hU, -⟩ := id hI
  exact Inv_S hDS hI (intsc ints1) (o_reply (d := 197) hW.1 hW.2.1 hW.2.2.1 hB p1 q1 p2 q2)
theorem i_drawn {x1 : Int32} (hI : Inv E C S M) (hDS : ∀ k, DS 481 k → k < 269 ∨ k = 270) : Stq E C S M 43 211 [.int x1] := by
  obtain ⟨a1, rfl, p1, q1⟩ := i32 x1
  obtain ⟨⟨hW, hB, hT, hS⟩, -, -, -, -, hU, -⟩ := id hI
  exact Inv_S hDS hI ints1 (o_drawn (d := 196) hW.1 hW.2.1 hW.2.2.1 hB hS p1 q1)
theorem i_status (hI : Inv E C S M) (hDS : ∀ k, DS 481 k → k < 269 ∨ k = 270) : Stq E C S M 47 213 [] := by
  obtain ⟨⟨hW, hB, hT, hS⟩, -, -, -, -, hU, -⟩ := id hI
  exact Inv_S hDS hI ints0 (o_status (d := 197) hW.1 hW.2.1 hW.2.2.1 hB )
theorem i_count {x1 : Int32} (hI : Inv E C S M) (hDS : ∀ k, DS 481 k → k < 269 ∨ k = 270) : Stq E C S M 46 212 [.int x1] := by
  obtain ⟨a1, rfl, p1, q1⟩ := i32 x1
  obtain ⟨⟨hW, hB, hT, hS⟩, -, -, -, -, hU, -⟩ := id hI
  have U : mZ M 113 7 = mZ M 479 47 := by
    obtain ⟨s, t, -, -, u1, -, u3, -⟩ := hU
    exact u1.trans u3.symm
  exact Inv_S hDS hI ints1 (o_count (d := 198) hW.1 hW.2.1 hW.2.2.1 hB hT U p1 q1)
theorem i_end {x1 : Int32} (hI : Inv E C S M) (hDS : ∀ k, DS 481 k → k < 269 ∨ k = 270) : Stq E C S M 13 104 [.int x1] := by
  obtain ⟨a1, rfl, p1, q1⟩ := i32 x1
  obtain ⟨⟨hW, hB, hT, hS⟩, -, -, -, -, hU, -⟩ := id hI
  exact Inv_P hDS hI ints1 (o_end (d := 197) hW.1 hW.2.1 hW.2.2.1 hB hT p1 q1)
theorem i_row (hI : Inv E C S M) (hDS : ∀ k, DS 481 k → k < 269 ∨ k = 270) : Stq E C S M 14 101 [] := by
  obtain ⟨⟨hW, hB, hT, hS⟩, -, -, -, -, hU, -⟩ := id hI
  exact Inv_P hDS hI ints0 (o_row (d := 198) hW.1 hW.2.1 hW.2.2.1 hB hT )
theorem i_feed {x1 x2 x3 x4 x5 : Int32} (hI : Inv E C S M) (hDS : ∀ k, DS 481 k → k < 269 ∨ k = 270) : Stq E C S M 12 103 [.int x1, .int x2, .int x3, .int x4, .int x5] := by
  obtain ⟨⟨hW, hB, hT, hS⟩, -, -, -, -, hU, -⟩ := id hI
  exact Inv_P hDS hI (intsc (intsc (intsc (intsc ints1)))) (o_feed (d := 198) hW.1 hW.2.1 hW.2.2.1 hB hT )
end

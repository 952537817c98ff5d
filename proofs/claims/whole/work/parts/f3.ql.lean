/-- every FENCE broken is on a CELL -/
def QL (Q : RQ) : Prop := ∀ x, x ∈ ql Q → 0 ≤ x ∧ x < 80
theorem stepP_QL {M : qMe} {w wall : Int} {slip : Prop} {Q : RQ} (hw : WFk M 481 0) (hQ : QI Q) (hy : qy Q = -1) (h : QL Q) : QL (stepP M w wall slip Q) := by
  have q6 := hQ.2.2.2.2.2.1 hy
  have gb := goP_b (M := M) (w := w) (wall := wall) (bk := qb Q) (way := wayP M w slip Q) hw ⟨hQ.1.1, q6.1⟩ hQ.2.1 hQ.2.2.1 ⟨hQ.2.2.2.1.1, q6.2⟩ wayP_b _ rfl
  unfold stepP
  generalize goP M w wall (qb Q) (wayP M w slip Q) (qp Q) (qd Q) (qs Q) (qn Q) = R at *
  intro x hx
  have hx : x ∈ (if R.2.2.2.2.2 = -1 then ql Q else ql Q ++ [R.2.2.2.2.2]) := hx
  by_cases e : R.2.2.2.2.2 = -1
  · rw [if_pos e] at hx
    exact h x hx
  · rw [if_neg e] at hx
    rcases List.mem_append.mp hx with q | q
    · exact h x q
    · rw [List.mem_singleton] at q
      rcases gb.2.2.2 with ⟨-, -, -, z⟩ | ⟨-, -, z⟩
      · exact absurd z e
      · rcases z with z | ⟨z1, z2⟩
        · exact absurd z e
        · have := gb.1; omega
theorem rollP_QL {M : qMe} {w wall : Int} (hw : WFk M 481 0) : ∀ (k : Nat) (Q : RQ), QI Q → QL Q → QL (rollP M w wall k Q)
  | 0, Q, _, h => h
  | k + 1, Q, hQ, h => by
    rw [rollP]
    by_cases y : qy Q = -1
    · rw [if_pos y]
      exact rollP_QL hw k _ (stepP_I hw hQ y).1 (stepP_QL hw hQ y h)
    · rw [if_neg y]
      exact h
theorem castQ_QL {M : qMe} {wall c : Int} (hW : Wo M) (ht : isT M c) : QL (castQ M wall c) := rollP_QL hW.2.1 60 _ (castS_I hW.2.1 ht) (fun x hx => by cases hx)

/-! ROWS, as pure functions -/
/-- alike but for the lists -/
def eqL (Q R : RQ) : Prop := qp Q = qp R ∧ qd Q = qd R ∧ qs Q = qs R ∧ qn Q = qn R ∧ qy Q = qy R ∧ qb Q = qb R
theorem stepP_L {M : qMe} {w wall : Int} {slip : Prop} {Q R : RQ} (h : eqL Q R) : eqL (stepP M w wall slip Q) (stepP M w wall slip R) := by
  obtain ⟨h1, h2, h3, h4, h5, h6⟩ := h
  have e : wayP M w slip Q = wayP M w slip R := by unfold wayP; rw [h1, h2, h3]
  have g : goP M w wall (qb Q) (wayP M w slip Q) (qp Q) (qd Q) (qs Q) (qn Q) = goP M w wall (qb R) (wayP M w slip R) (qp R) (qd R) (qs R) (qn R) := by rw [e, h1, h2, h3, h4, h6]
  unfold stepP
  rw [g]
  refine ⟨rfl, rfl, rfl, rfl, rfl, ?_⟩
  show (fun c => qb Q c ∨ _) = (fun c => qb R c ∨ _)
  rw [h6]
/-- how many ROWS of at most k SLIPS end at e -/
noncomputable def rowsP (M : qMe) (w : Int) : Nat → Nat → RQ → Int → Int
  | 0, _, Q, e => if qp Q = e then 1 else 0
  | n + 1, k, Q, e => if qy Q = -1 then (if 0 < k ∧ csl M w Q = 1 then rowsP M w n (k - 1) (stepP M w (-1) True Q) e else 0) + rowsP M w n k (stepP M w (-1) False Q) e else if qp Q = e then 1 else 0
theorem rowsP_L {M : qMe} {w e : Int} : ∀ (n k : Nat) (Q R : RQ), eqL Q R → rowsP M w n k Q e = rowsP M w n k R e
  | 0, k, Q, R, h => by
    show (if qp Q = e then (1 : Int) else 0) = (if qp R = e then 1 else 0)
    rw [h.1]
  | n + 1, k, Q, R, h => by
    have c : csl M w Q = csl M w R := by unfold csl; rw [h.1, h.2.1, h.2.2.1]
    rw [rowsP, rowsP, rowsP_L n (k - 1) _ _ (stepP_L (slip := True) h), rowsP_L n k _ _ (stepP_L (slip := False) h), h.2.2.2.2.1, c, h.1]
theorem rowsP_0 {M : qMe} {w e : Int} : ∀ (n : Nat) (Q : RQ), rowsP M w n 0 Q e = if qp (rollP M w (-1) n Q) = e then 1 else 0
  | 0, Q => rfl
  | n + 1, Q => by
    rw [rowsP, rollP]
    by_cases y : qy Q = -1
    · rw [if_pos y, if_pos y, if_neg (fun q => Nat.lt_irrefl 0 q.1), rowsP_0 n, Int.zero_add]
    · rw [if_neg y, if_neg y]

/-! ROWS, as pure functions -/
/-- ROWS of at most k SLIPS, each worth f of its END -/
noncomputable def rowsG (M : qMe) (w : Int) (f : Int → Int) : Nat → Nat → RQ → Int
  | 0, _, Q => f (qp Q)
  | n + 1, k, Q => if qy Q = -1 then (if 0 < k ∧ csl M w Q = 1 then rowsG M w f n (k - 1) (stepP M w (-1) True Q) else 0) + rowsG M w f n k (stepP M w (-1) False Q) else f (qp Q)
/-- one, if it ends there -/
def one (e p : Int) : Int := if p = e then 1 else 0
theorem one_b {e p : Int} : 0 ≤ one e p ∧ one e p ≤ 1 := by unfold one; split <;> omega
theorem rowsG_s {M : qMe} {w : Int} {f : Int → Int} {n k : Nat} {Q : RQ} (h : ¬ qy Q = -1) : rowsG M w f n k Q = f (qp Q) := by
  cases n with
  | zero => rfl
  | succ n => rw [rowsG, if_neg h]
theorem rowsG_k {M M1 : qMe} {w : Int} {f : Int → Int} (h : ∀ k, mZ M1 481 k = mZ M 481 k) : ∀ (n k : Nat) (Q : RQ), rowsG M1 w f n k Q = rowsG M w f n k Q
  | 0, k, Q => rfl
  | n + 1, k, Q => by
    have c : csl M1 w Q = csl M w Q := by unfold csl; rw [wy_k h]
    rw [rowsG, rowsG, stepP_k h, stepP_k h, rowsG_k h n (k - 1), rowsG_k h n k, c]
theorem stepP_I {M : qMe} {w wall : Int} {slip : Prop} {Q : RQ} (hw : WFk M 481 0) (hQ : QI Q) (hy : qy Q = -1) : QI (stepP M w wall slip Q) ∧ (qn (stepP M w wall slip Q) = qn Q + 1 ∨ ¬ qy (stepP M w wall slip Q) = -1) := addP_I hw hQ hy wayP_b
theorem rowsG_f {M : qMe} {w : Int} {f : Int → Int} (hw : WFk M 481 0) : ∀ (n n' k : Nat) (Q : RQ), QI Q → (60 ≤ qn Q + n ∨ ¬ qy Q = -1) → (60 ≤ qn Q + n' ∨ ¬ qy Q = -1) → rowsG M w f n k Q = rowsG M w f n' k Q
  | n, n', k, Q, hQ, h1, h2 => by
    by_cases y : qy Q = -1
    · have q6 := (hQ.2.2.2.2.2.1 y).2
      have h1 := h1.resolve_right (fun z => z y)
      have h2 := h2.resolve_right (fun z => z y)
      match n, n', h1, h2 with
      | 0, _, h1, _ => omega
      | _ + 1, 0, _, h2 => omega
      | n + 1, n' + 1, h1, h2 =>
        obtain ⟨i1, j1⟩ := stepP_I (w := w) (wall := -1) (slip := True) hw hQ y
        obtain ⟨i2, j2⟩ := stepP_I (w := w) (wall := -1) (slip := False) hw hQ y
        rw [rowsG, rowsG, if_pos y, if_pos y, rowsG_f hw n n' (k - 1) _ i1 (j1.imp (fun z => by omega) (fun z => z)) (j1.imp (fun z => by omega) (fun z => z)), rowsG_f hw n n' k _ i2 (j2.imp (fun z => by omega) (fun z => z)) (j2.imp (fun z => by omega) (fun z => z))]
    · rw [rowsG_s y, rowsG_s y]
theorem rowsG_b {M : qMe} {w : Int} {f : Int → Int} (hf : ∀ p, 0 ≤ f p ∧ f p ≤ 1) : ∀ (n k : Nat) (Q : RQ), 0 ≤ rowsG M w f n k Q ∧ (k = 0 → rowsG M w f n k Q ≤ 1) ∧ (k = 1 → rowsG M w f n k Q ≤ n + 1) ∧ (k = 2 → n ≤ 60 → rowsG M w f n k Q ≤ 61 * n + 61)
  | 0, k, Q => by
    have := hf (qp Q)
    rw [rowsG]
    omega
  | n + 1, k, Q => by
    have h0 := hf (qp Q)
    rw [rowsG]
    by_cases y : qy Q = -1
    · rw [if_pos y]
      have a := rowsG_b (M := M) (w := w) hf n (k - 1) (stepP M w (-1) True Q)
      have b := rowsG_b (M := M) (w := w) hf n k (stepP M w (-1) False Q)
      by_cases c : 0 < k ∧ csl M w Q = 1
      · rw [if_pos c]
        obtain ⟨c, -⟩ := c
        generalize rowsG M w f n (k - 1) (stepP M w (-1) True Q) = A at *
        generalize rowsG M w f n k (stepP M w (-1) False Q) = B at *
        obtain ⟨a1, a2, a3, a4⟩ := a
        obtain ⟨b1, b2, b3, b4⟩ := b
        refine ⟨by omega, fun z => by omega, fun z => ?_, fun z1 z2 => ?_⟩
        · have := a2 (by omega); have := b3 z; omega
        · have := a3 (by omega); have := b4 z1 (by omega); omega
      · rw [if_neg c]
        generalize rowsG M w f n k (stepP M w (-1) False Q) = B at *
        obtain ⟨b1, b2, b3, b4⟩ := b
        refine ⟨by omega, fun z => by have := b2 z; omega, fun z => by have := b3 z; omega, fun z1 z2 => by have := b4 z1 (by omega); omega⟩
    · rw [if_neg y]
      omega
theorem rowsG_B {M : qMe} {w : Int} {f : Int → Int} {n k : Nat} {Q : RQ} (hf : ∀ p, 0 ≤ f p ∧ f p ≤ 1) (hn : n ≤ 60) (hk : k ≤ 2) : 0 ≤ rowsG M w f n k Q ∧ rowsG M w f n k Q ≤ 3721 := by
  obtain ⟨a, b, c, e⟩ := rowsG_b (M := M) (w := w) hf n k Q
  refine ⟨a, ?_⟩
  rcases (show k = 0 ∨ k = 1 ∨ k = 2 by omega) with z | z | z
  · have := b z; omega
  · have := c z; omega
  · have := e z hn; omega

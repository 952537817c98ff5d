/-! x's ring where the ORDERS have failed -/
theorem ringS_ne {t0 s j v : Nat} (t6 : t0 < 16) (s8 : s ≤ 8) (hj : j < s) (hv : v < 8) : ¬ (t0 + 16 - s + j) % 16 = (t0 + v) % 16 := by omega
theorem XRg_keep {B X : qMe} {t0 s j : Nat} (hR : XRg B X t0) (hB : ∀ j : Nat, j < 8 → 0 ≤ mZ B 22 j ∧ mZ B 22 j ≤ 1) (t6 : t0 < 16) (s8 : s ≤ 8) (hj : j < s) : ∀ i k, (i = 115 + (t0 + 16 - s + j) % 16 ∨ i = 132 + (t0 + 16 - s + j) % 16 ∨ i = 149 + (t0 + 16 - s + j) % 16 ∨ i = 166 + (t0 + 16 - s + j) % 16 ∨ (i = 182 ∧ k = (t0 + 16 - s + j) % 16)) → mZ X i k = mZ B i k := by
  obtain ⟨hX, q, -, h2, h3⟩ := hR
  have bX := smI_b (f := fun j => mZ X 22 j) 8 0 0 (fun j _ b => hX j (by omega))
  have bB := smI_b (f := fun j => mZ B 22 j) 8 0 0 (fun j _ b => hB j (by omega))
  have q8 : q ≤ 8 := by omega
  intro i k hi
  have u6 : (t0 + 16 - s + j) % 16 < 16 := Nat.mod_lt _ (by decide)
  refine h3 i k (by omega) (by omega) (fun v hv z => ?_)
  have ne := ringS_ne t6 s8 hj (show v < 8 by omega)
  have v6 : (t0 + v) % 16 < 16 := Nat.mod_lt _ (by decide)
  unfold DRe at z
  generalize (t0 + 16 - s + j) % 16 = u at *
  generalize (t0 + v) % 16 = w at *
  omega

/-! sets of 8: small facts, by trying all -/
/-- s without t -/
def andn (s t : Nat) : Nat := s ^^^ (s &&& t)
theorem andn_le : ∀ s : Nat, s < 256 → ∀ t : Nat, t < 256 → andn s t ≤ s ∧ andn s t + (s &&& t) = s := by decide +kernel
def pc (s : Nat) : Nat := s % 2 + s / 2 % 2 + s / 4 % 2 + s / 8 % 2 + s / 16 % 2 + s / 32 % 2 + s / 64 % 2 + s / 128 % 2
theorem pc_le {s : Nat} : pc s ≤ 8 := by unfold pc; omega
theorem pc_1 : ∀ s : Nat, s < 256 → ∀ h : Nat, h < 8 → s / 2 ^ h % 2 = 1 → pc (andn s (2 ^ h)) + 1 = pc s ∧ andn s (2 ^ h) < s ∧ 2 ^ h ≤ s := by decide +kernel
theorem bt_n : ∀ s : Nat, s < 256 → ∀ h : Nat, h < 8 → ∀ o : Nat, o < 8 → (andn s (2 ^ h) / 2 ^ o % 2 = 1 ↔ ¬ o = h ∧ s / 2 ^ o % 2 = 1) := by decide +kernel
theorem gapF : ∀ S : Nat, S < 256 → ∀ t : Nat, t < 256 → t &&& S = t → ∀ k : Nat, k < t - ((t - 1) &&& S) - 1 → ¬ (((t - 1) &&& S) + 1 + k) &&& S = ((t - 1) &&& S) + 1 + k := by decide +kernel
theorem sub_pc0 : ∀ S : Nat, S < 256 → ∀ t : Nat, t < 256 → t &&& S = t → (t = 0 ∨ (pc (andn S t) < pc S ∧ andn S t < S ∧ andn t S = 0)) := by decide +kernel
theorem sub_pc (S : Nat) (hS : S < 256) (t : Nat) (ht : t < 256) (h : t &&& S = t) (h0 : ¬ t = 0) : pc (andn S t) < pc S ∧ andn S t < S ∧ andn t S = 0 := (sub_pc0 S hS t ht h).resolve_left h0
theorem sub_iff : ∀ S : Nat, S < 256 → ∀ t : Nat, t < 256 → (andn t S = 0 ↔ t &&& S = t) := by decide +kernel
theorem sub_le : ∀ S : Nat, S < 256 → ∀ t : Nat, t < 256 → t &&& S = t → t ≤ S := by decide +kernel

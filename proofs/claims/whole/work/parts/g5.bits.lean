/-! sets as ints -/
theorem nz_bv {s : Nat} (h : s < 2147483648) : (iz (s : Int)).toBitVec.toNat = s := by
  rw [iz_bv (by omega) (by omega)]
  exact Int.toNat_natCast s
theorem iz_nat {x : Int32} {n : Nat} (hn : n < 2147483648) (h : x.toBitVec.toNat = n) : x = iz (n : Int) := by
  apply Int32.toInt_inj.mp
  show x.toBitVec.toInt = _
  rw [BitVec.toInt_eq_toNat_cond, h, if_pos (by omega), iz_toInt (by omega) (by omega)]
theorem nz_and {s t : Nat} (h1 : s < 2147483648) (h2 : t < 2147483648) : iz (s : Int) &&& iz (t : Int) = iz ((s &&& t : Nat) : Int) := by
  refine iz_nat (Nat.lt_of_le_of_lt Nat.and_le_left h1) ?_
  show ((iz (s : Int)).toBitVec &&& (iz (t : Int)).toBitVec).toNat = _
  rw [BitVec.toNat_and, nz_bv h1, nz_bv h2]
theorem nz_or {s t : Nat} (h1 : s < 256) (h2 : t < 256) : iz (s : Int) ||| iz (t : Int) = iz ((s ||| t : Nat) : Int) := by
  refine iz_nat (Nat.lt_of_lt_of_le (Nat.or_lt_two_pow (n := 8) h1 h2) (by decide)) ?_
  show ((iz (s : Int)).toBitVec ||| (iz (t : Int)).toBitVec).toNat = _
  rw [BitVec.toNat_or, nz_bv (by omega), nz_bv (by omega)]
theorem bv_andn {w : Nat} (x y : BitVec w) : x &&& (y ^^^ BitVec.allOnes w) = x ^^^ (x &&& y) := by
  apply BitVec.eq_of_getLsbD_eq
  intro i hi
  simp only [BitVec.getLsbD_and, BitVec.getLsbD_xor, BitVec.getLsbD_allOnes, hi, decide_true]
  cases x.getLsbD i <;> cases y.getLsbD i <;> rfl
theorem nz_andn {s t : Nat} (h1 : s < 256) (h2 : t < 256) : iz (s : Int) &&& (iz (t : Int) ^^^ iz (-1)) = iz ((andn s t : Nat) : Int) := by
  refine iz_nat (Nat.lt_of_le_of_lt (andn_le s h1 t h2).1 (by omega)) ?_
  show ((iz (s : Int)).toBitVec &&& ((iz (t : Int)).toBitVec ^^^ BitVec.allOnes 32)).toNat = _
  rw [bv_andn, BitVec.toNat_xor, BitVec.toNat_and, nz_bv (by omega), nz_bv (by omega)]
  rfl
theorem xorm1 (y : Int32) : y ^^^ iz (-1) = iz (-1) - y := by
  apply Int32.toBitVec_inj.mp
  show y.toBitVec ^^^ BitVec.allOnes 32 = BitVec.allOnes 32 - y.toBitVec
  rw [BitVec.xor_allOnes]
  apply BitVec.eq_of_toNat_eq
  rw [BitVec.toNat_not, BitVec.toNat_sub, BitVec.toNat_allOnes]
  have := y.toBitVec.isLt
  omega
theorem nz_low {s t : Nat} (h1 : s < 256) (h2 : t < 256) (h3 : 1 ≤ t) : iz (s : Int) &&& iz (-(t : Int)) = iz ((andn s (t - 1) : Nat) : Int) := by
  rw [← nz_andn h1 (by omega), xorm1, iz_sub]
  congr 2
  omega
theorem nz_shl {h : Nat} (hh : h < 8) : iz 1 <<< (iz (h : Int) &&& 31) = iz ((2 ^ h : Nat) : Int) := by
  have : ∀ h : Nat, h < 8 → iz 1 <<< (iz (h : Int) &&& 31) = iz ((2 ^ h : Nat) : Int) := by decide +kernel
  exact this h hh
theorem nz_shl9 {h : Nat} (hh : h ≤ 8) : iz 1 <<< (iz (h : Int) &&& 31) = iz ((2 ^ h : Nat) : Int) := by
  have : ∀ h : Nat, h < 9 → iz 1 <<< (iz (h : Int) &&& 31) = iz ((2 ^ h : Nat) : Int) := by decide +kernel
  exact this h (by omega)
/-- h is in s -/
def bt (s h : Nat) : Prop := s / 2 ^ h % 2 = 1
theorem bt_d {s h : Nat} : bt s h ∨ s / 2 ^ h % 2 = 0 := by unfold bt; omega
theorem and1 {x : Int} (h1 : 0 ≤ x) (h2 : x < 2147483648) : iz x &&& iz 1 = iz (x % 2) := by
  apply Int32.toInt_inj.mp
  have h4 : ((iz x).toBitVec &&& 1#32).toNat = (iz x).toBitVec.toNat % 2 := by
    rw [BitVec.toNat_and]
    exact Nat.and_two_pow_sub_one_eq_mod (iz x).toBitVec.toNat 1
  have h5 : (iz x &&& iz 1).toInt = (((iz x).toBitVec &&& 1#32).toNat : Int) := by
    show ((iz x).toBitVec &&& 1#32).toInt = _
    rw [BitVec.toInt_eq_toNat_cond, if_pos (by rw [h4]; omega)]
  rw [h5, h4, iz_toInt (by omega) (by omega), iz_bv h1 h2]
  omega
theorem nz_bit {s h : Nat} (h1 : s < 256) (hh : h < 32) : (iz (s : Int) >>> (iz (h : Int) &&& 31)) &&& iz 1 = iz ((s / 2 ^ h % 2 : Nat) : Int) := by
  have e : ((s : Int) / 2 ^ h) = ((s / 2 ^ h : Nat) : Int) := by
    rw [Int.natCast_ediv, Int.natCast_pow]
    rfl
  have le : s / 2 ^ h ≤ s := Nat.div_le_self _ _
  rw [shr_k hh (by omega) (by omega), e]
  clear e
  generalize s / 2 ^ h = q at *
  rw [and1 (by omega) (by omega), Int.natCast_emod]
  rfl
/-! the least of some -/
def mn (a b : Int) : Int := if a < b then a else b
theorem mn_le {a b : Int} : mn a b ≤ a ∧ mn a b ≤ b ∧ (mn a b = a ∨ mn a b = b) := by unfold mn; split <;> omega
noncomputable def fmin (p : Nat → Prop) (f : Nat → Int) (i : Int) : Nat → Int
  | 0 => i
  | n + 1 => @ite _ (p n) (Classical.propDecidable _) (mn (fmin p f i n) (f n)) (fmin p f i n)
theorem fmin_t {p : Nat → Prop} {f : Nat → Int} {i : Int} {n : Nat} (h : p n) : fmin p f i (n + 1) = mn (fmin p f i n) (f n) := by rw [fmin]; exact if_pos h
theorem fmin_f {p : Nat → Prop} {f : Nat → Int} {i : Int} {n : Nat} (h : ¬ p n) : fmin p f i (n + 1) = fmin p f i n := by rw [fmin]; exact if_neg h
theorem fmin_c {p p2 : Nat → Prop} {f f2 : Nat → Int} {i : Int} : ∀ n : Nat, (∀ j, j < n → (p j ↔ p2 j)) → (∀ j, j < n → p j → f j = f2 j) → fmin p f i n = fmin p2 f2 i n
  | 0, _, _ => rfl
  | n + 1, h1, h2 => by
    have ih := fmin_c (i := i) n (fun j q => h1 j (by omega)) (fun j q r => h2 j (by omega) r)
    by_cases q : p n
    · rw [fmin_t q, fmin_t ((h1 n (by omega)).mp q), ih, h2 n (by omega) q]
    · rw [fmin_f q, fmin_f (fun z => q ((h1 n (by omega)).mpr z)), ih]
/-- what makes it the least -/
def isMin (p : Nat → Prop) (f : Nat → Int) (i : Int) (n : Nat) (v : Int) : Prop := v ≤ i ∧ (∀ t, t < n → p t → v ≤ f t) ∧ (v = i ∨ ∃ t, t < n ∧ p t ∧ v = f t)
theorem fmin_is {p : Nat → Prop} {f : Nat → Int} {i : Int} : ∀ n : Nat, isMin p f i n (fmin p f i n)
  | 0 => ⟨Int.le_refl _, fun t q => by omega, Or.inl rfl⟩
  | n + 1 => by
    obtain ⟨a, b, c⟩ := fmin_is (p := p) (f := f) (i := i) n
    by_cases q : p n
    · rw [fmin_t q]
      obtain ⟨m1, m2, m3⟩ := mn_le (a := fmin p f i n) (b := f n)
      refine ⟨by omega, fun t q1 q2 => ?_, ?_⟩
      · by_cases e : t = n
        · rw [e]; exact m2
        · have := b t (by omega) q2; omega
      · rcases m3 with m3 | m3
        · rw [m3]
          rcases c with c | ⟨t, c1, c2, c3⟩
          · exact Or.inl c
          · exact Or.inr ⟨t, by omega, c2, c3⟩
        · exact Or.inr ⟨n, by omega, q, m3⟩
    · rw [fmin_f q]
      refine ⟨a, fun t q1 q2 => ?_, ?_⟩
      · by_cases e : t = n
        · rw [e] at q2; exact absurd q2 q
        · exact b t (by omega) q2
      · rcases c with c | ⟨t, c1, c2, c3⟩
        · exact Or.inl c
        · exact Or.inr ⟨t, by omega, c2, c3⟩
theorem isMin_u {p : Nat → Prop} {f : Nat → Int} {i : Int} {n : Nat} {v w : Int} (h : isMin p f i n v) (g : isMin p f i n w) : v = w := by
  obtain ⟨a1, a2, a3⟩ := h
  obtain ⟨b1, b2, b3⟩ := g
  rcases a3 with a3 | ⟨t, t1, t2, t3⟩
  · rcases b3 with b3 | ⟨u, u1, u2, u3⟩
    · rw [a3, b3]
    · have := a2 u u1 u2; omega
  · rcases b3 with b3 | ⟨u, u1, u2, u3⟩
    · have := b2 t t1 t2; omega
    · have := a2 u u1 u2
      have := b2 t t1 t2
      omega

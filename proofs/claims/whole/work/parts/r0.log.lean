/-! THE CONSTRUCTORS as lists of single writes, the last one first -/
abbrev lO : Type := Nat × Nat × Nat × Option Nat × Int
def aN (kd n : Nat) : lO := (0, kd, n, none, 0)
def aR (i k j : Nat) : lO := (1, i, k, some j, 0)
def aO (i k : Nat) : lO := (1, i, k, none, 0)
def aI (i k : Nat) (x : Int) : lO := (2, i, k, none, x)
def aJ (i k : Nat) : lO := (3, i, k, none, 0)
def aM (c n m : Nat) : lO := (4, n, m, some c, 0)
def lap (o : lO) (M : qMe) : qMe := match o.1 with
  | 0 => qnew M o.2.1 o.2.2.1
  | 1 => qsR M o.2.1 o.2.2.1 o.2.2.2.1
  | 2 => qsI M o.2.1 o.2.2.1 (iz o.2.2.2.2)
  | 3 => qsJ M o.2.1 o.2.2.1 (lz 0)
  | _ => qmul M o.2.1 o.2.2.1
def lrun : List lO → qMe → qMe
  | [], M => M
  | o :: l, M => lap o (lrun l M)
theorem lrun_app {M : qMe} : ∀ a b : List lO, lrun (a ++ b) M = lrun a (lrun b M)
  | [], _ => rfl
  | o :: a, b => by
    show lap o (lrun (a ++ b) M) = lap o (lrun a (lrun b M))
    rw [lrun_app a b]
/-- cells that a list makes -/
def nws : List lO → Nat
  | [] => 0
  | o :: l => (match o.1 with | 0 => 1 | 1 => 0 | 2 => 0 | 3 => 0 | _ => 1 + o.2.1) + nws l
theorem mN_mlpE {M : qMe} {a m : Nat} : ∀ i, mN (qmlp M a m i) = mN M + i
  | 0 => rfl
  | i + 1 => by
    show mN (qmlp M a m i) + 1 = _
    rw [mN_mlpE i]
    omega
theorem mN_mul {M : qMe} {n m : Nat} : mN (qmul M n m) = mN M + (1 + n) := by
  show mN (qmlp (qnew M 107 n) (mN M) m n) = _
  rw [mN_mlpE]
  show mN M + 1 + n = _
  omega
theorem mK_mlpE {M : qMe} {a m i : Nat} : ∀ j, i < mN M → mK (qmlp M a m j) i = mK M i
  | 0, _ => rfl
  | j + 1, h => by
    show (if i = mN (qmlp M a m j) then (100, m) else mK (qmlp M a m j) i) = _
    rw [mN_mlpE, if_neg (by omega), mK_mlpE j h]
theorem mK_mul {M : qMe} {n m i : Nat} (h : i < mN M) : mK (qmul M n m) i = mK M i := by
  show mK (qmlp (qnew M 107 n) (mN M) m n) i = _
  rw [mK_mlpE n (by show i < mN M + 1; omega), nw_Kn (by omega)]
theorem mR_mlpE {M : qMe} {a m i k : Nat} : ∀ j, i < mN M → ¬ i = a → mR (qmlp M a m j) i k = mR M i k
  | 0, _, _ => rfl
  | j + 1, h, ha => by
    show mR (qsR (qnew (qmlp M a m j) 100 m) a j (some (mN (qmlp M a m j)))) i k = _
    rw [mR_R, if_neg ha, nw_Rn (by rw [mN_mlpE]; omega), mR_mlpE j h ha]
theorem mR_mul {M : qMe} {n m i k : Nat} (h : i < mN M) : mR (qmul M n m) i k = mR M i k := by
  show mR (qmlp (qnew M 107 n) (mN M) m n) i k = _
  rw [mR_mlpE n (by show i < mN M + 1; omega) (by omega), nw_Rn (by omega)]
theorem lrun_N {M : qMe} : ∀ l : List lO, mN (lrun l M) = mN M + nws l
  | [] => rfl
  | o :: l => by
    have ih := lrun_N (M := M) l
    obtain ⟨t, a, b, r, x⟩ := o
    rcases t with _ | _ | _ | _ | t
    · show mN (lrun l M) + 1 = mN M + (1 + nws l)
      omega
    · show mN (lrun l M) = mN M + (0 + nws l)
      omega
    · show mN (lrun l M) = mN M + (0 + nws l)
      omega
    · show mN (lrun l M) = mN M + (0 + nws l)
      omega
    · show mN (qmul (lrun l M) a b) = mN M + (1 + a + nws l)
      rw [mN_mul]
      omega
theorem lrun_K {M : qMe} {i : Nat} (h : i < mN M) : ∀ l : List lO, mK (lrun l M) i = mK M i
  | [] => rfl
  | o :: l => by
    have ih := lrun_K h l
    have n := lrun_N (M := M) l
    obtain ⟨t, a, b, r, x⟩ := o
    rcases t with _ | _ | _ | _ | t
    · show mK (qnew (lrun l M) a b) i = _
      rw [nw_Kn (by omega)]
      exact ih
    · exact ih
    · exact ih
    · exact ih
    · show mK (qmul (lrun l M) a b) i = _
      rw [mK_mul (by omega)]
      exact ih
theorem mR_mlpA {M : qMe} {a m : Nat} (ha : a < mN M) : ∀ j i k, mR (qmlp M a m j) i k = if i = a ∧ k < j then some (mN M + k) else if mN M ≤ i ∧ i < mN M + j then none else mR M i k
  | 0, i, k => by
    rw [if_neg (by omega), if_neg (by omega)]
    rfl
  | j + 1, i, k => by
    show mR (qsR (qnew (qmlp M a m j) 100 m) a j (some (mN (qmlp M a m j)))) i k = _
    rw [mR_R, mN_mlpE]
    by_cases e : i = a
    · rw [if_pos e]
      by_cases ek : k = j
      · rw [if_pos ek, if_pos (by omega), ek]
      · rw [if_neg ek, nw_Rn (by rw [mN_mlpE]; omega), mR_mlpA ha j i k]
        by_cases kj : k < j
        · rw [if_pos ⟨e, kj⟩, if_pos (by omega)]
        · rw [if_neg (by omega), if_neg (by omega), if_neg (by omega), if_neg (by omega)]
    · rw [if_neg e, if_neg (by omega)]
      by_cases ei : i = mN M + j
      · rw [if_pos (by omega)]
        show (if i = mN (qmlp M a m j) then none else mR (qmlp M a m j) i k) = none
        rw [mN_mlpE, if_pos ei]
      · rw [nw_Rn (by rw [mN_mlpE]; exact ei), mR_mlpA ha j i k, if_neg (by omega)]
        by_cases eb : mN M ≤ i ∧ i < mN M + j
        · rw [if_pos eb, if_pos (by omega)]
        · rw [if_neg eb, if_neg (by omega)]
theorem mR_mulA {M : qMe} {n m i k : Nat} : mR (qmul M n m) i k = if i = mN M ∧ k < n then some (mN M + 1 + k) else if mN M ≤ i ∧ i ≤ mN M + n then none else mR M i k := by
  show mR (qmlp (qnew M 107 n) (mN M) m n) i k = _
  rw [mR_mlpA (by show mN M < mN M + 1; omega) n i k]
  have e : mN (qnew M 107 n) = mN M + 1 := rfl
  rw [e]
  by_cases c : i = mN M ∧ k < n
  · rw [if_pos c, if_pos c]
  · rw [if_neg c, if_neg c]
    by_cases ci : i = mN M
    · rw [if_neg (by omega), if_pos (by omega)]
      show (if i = mN M then none else mR M i k) = none
      rw [if_pos ci]
    · by_cases cb : mN M ≤ i ∧ i ≤ mN M + n
      · rw [if_pos (by omega), if_pos cb]
      · rw [if_neg (by omega), if_neg cb, nw_Rn ci]
theorem mI_mlpA {M : qMe} {a m : Nat} : ∀ j i k, mI (qmlp M a m j) i k = if mN M ≤ i ∧ i < mN M + j then 0 else mI M i k
  | 0, i, k => by
    rw [if_neg (by omega)]
    rfl
  | j + 1, i, k => by
    show mI (qsR (qnew (qmlp M a m j) 100 m) a j (some (mN (qmlp M a m j)))) i k = _
    rw [mI_R]
    show (if i = mN (qmlp M a m j) then 0 else mI (qmlp M a m j) i k) = _
    rw [mN_mlpE, mI_mlpA j i k]
    by_cases ei : i = mN M + j
    · rw [if_pos ei, if_pos (by omega)]
    · rw [if_neg ei]
      by_cases eb : mN M ≤ i ∧ i < mN M + j
      · rw [if_pos eb, if_pos (by omega)]
      · rw [if_neg eb, if_neg (by omega)]
theorem mI_mulA {M : qMe} {n m i k : Nat} : mI (qmul M n m) i k = if mN M ≤ i ∧ i ≤ mN M + n then 0 else mI M i k := by
  show mI (qmlp (qnew M 107 n) (mN M) m n) i k = _
  rw [mI_mlpA]
  have e : mN (qnew M 107 n) = mN M + 1 := rfl
  rw [e]
  by_cases ci : i = mN M
  · rw [if_neg (by omega), if_pos (by omega)]
    show (if i = mN M then 0 else mI M i k) = 0
    rw [if_pos ci]
  · by_cases cb : mN M ≤ i ∧ i ≤ mN M + n
    · rw [if_pos (by omega), if_pos cb]
    · rw [if_neg (by omega), if_neg cb, nw_In ci]
theorem mK_mlpA {M : qMe} {a m : Nat} : ∀ j i, mK (qmlp M a m j) i = if mN M ≤ i ∧ i < mN M + j then (100, m) else mK M i
  | 0, i => by
    rw [if_neg (by omega)]
    rfl
  | j + 1, i => by
    show (if i = mN (qmlp M a m j) then (100, m) else mK (qmlp M a m j) i) = _
    rw [mN_mlpE, mK_mlpA j i]
    by_cases ei : i = mN M + j
    · rw [if_pos ei, if_pos (by omega)]
    · rw [if_neg ei]
      by_cases eb : mN M ≤ i ∧ i < mN M + j
      · rw [if_pos eb, if_pos (by omega)]
      · rw [if_neg eb, if_neg (by omega)]
theorem mK_mulA {M : qMe} {n m i : Nat} : mK (qmul M n m) i = if i = mN M then (107, n) else if mN M ≤ i ∧ i ≤ mN M + n then (100, m) else mK M i := by
  show mK (qmlp (qnew M 107 n) (mN M) m n) i = _
  rw [mK_mlpA]
  have e : mN (qnew M 107 n) = mN M + 1 := rfl
  rw [e]
  by_cases ci : i = mN M
  · rw [if_neg (by omega), if_pos ci, nw_K ci]
  · rw [if_neg ci]
    by_cases cb : mN M ≤ i ∧ i ≤ mN M + n
    · rw [if_pos (by omega), if_pos cb]
    · rw [if_neg (by omega), if_neg cb, nw_Kn ci]
/-- looking up, from the last write on -/
def fR : List lO → Nat → Nat → Option (Option Nat)
  | [], _, _ => none
  | o :: l, i, k => match o.1 with
    | 0 => fR l i k
    | 1 => bif Nat.beq o.2.1 i && Nat.beq o.2.2.1 k then some o.2.2.2.1 else fR l i k
    | 2 => fR l i k
    | 3 => fR l i k
    | _ => match o.2.2.2.1 with
      | none => fR l i k
      | some c => bif Nat.beq i c then (bif Nat.blt k o.2.1 then some (some (c + 1 + k)) else some none) else fR l i k
def fI : List lO → Nat → Nat → Option Int
  | [], _, _ => none
  | o :: l, i, k => match o.1 with
    | 2 => bif Nat.beq o.2.1 i && Nat.beq o.2.2.1 k then some o.2.2.2.2 else fI l i k
    | _ => fI l i k
/-- every write goes to a cell that is there; how many there are -/
def cnt (n0 : Nat) : List lO → Option Nat
  | [] => some n0
  | o :: l => match cnt n0 l with
    | none => none
    | some n => match o.1 with
      | 0 => some (n + 1)
      | 1 => bif Nat.blt o.2.1 n then some n else none
      | 2 => bif Nat.blt o.2.1 n then some n else none
      | 3 => bif Nat.blt o.2.1 n then some n else none
      | _ => match o.2.2.2.1 with
        | none => none
        | some c => bif Nat.beq c n then some (n + (1 + o.2.1)) else none
/-- the kinds of the cells made, the last first -/
def kl : List lO → List (Nat × Nat)
  | [] => []
  | o :: l => match o.1 with
    | 0 => (o.2.1, o.2.2.1) :: kl l
    | 1 => kl l
    | 2 => kl l
    | 3 => kl l
    | _ => List.replicate o.2.1 (100, o.2.2.1) ++ ((107, o.2.1) :: kl l)
def sll : List lO → Nat
  | [] => 0
  | o :: l => match o.1 with
    | 0 => sll l + o.2.2.1
    | 1 => sll l
    | 2 => sll l
    | 3 => sll l
    | _ => sll l + o.2.1 + o.2.1 * o.2.2.1
theorem cnt_s {n0 n : Nat} {o : lO} {l : List lO} (h : cnt n0 (o :: l) = some n) : ∃ m, cnt n0 l = some m ∧ ((o.1 = 0 ∧ n = m + 1) ∨ ((o.1 = 1 ∨ o.1 = 2 ∨ o.1 = 3) ∧ n = m ∧ o.2.1 < m) ∨ (4 ≤ o.1 ∧ o.2.2.2.1 = some m ∧ n = m + (1 + o.2.1))) := by
  obtain ⟨t, a, b, r, x⟩ := o
  cases hc : cnt n0 l with
  | none =>
    rw [cnt, hc] at h
    cases h
  | some m =>
    refine ⟨m, rfl, ?_⟩
    rw [cnt, hc] at h
    rcases t with _ | _ | _ | _ | t
    · have h : some (m + 1) = some n := h
      exact Or.inl ⟨rfl, (Option.some.inj h).symm⟩
    · have h : (bif Nat.blt a m then some m else none) = some n := h
      cases hb : Nat.blt a m with
      | true =>
        rw [hb] at h
        exact Or.inr (Or.inl ⟨Or.inl rfl, (Option.some.inj h).symm, Nat.le_of_ble_eq_true hb⟩)
      | false => rw [hb] at h; cases h
    · have h : (bif Nat.blt a m then some m else none) = some n := h
      cases hb : Nat.blt a m with
      | true =>
        rw [hb] at h
        exact Or.inr (Or.inl ⟨Or.inr (Or.inl rfl), (Option.some.inj h).symm, Nat.le_of_ble_eq_true hb⟩)
      | false => rw [hb] at h; cases h
    · have h : (bif Nat.blt a m then some m else none) = some n := h
      cases hb : Nat.blt a m with
      | true =>
        rw [hb] at h
        exact Or.inr (Or.inl ⟨Or.inr (Or.inr rfl), (Option.some.inj h).symm, Nat.le_of_ble_eq_true hb⟩)
      | false => rw [hb] at h; cases h
    · cases r with
      | none =>
        have h : (none : Option Nat) = some n := h
        cases h
      | some c =>
        have h : (bif Nat.beq c m then some (m + (1 + a)) else none) = some n := h
        cases hb : Nat.beq c m with
        | true =>
          rw [hb] at h
          have e := Nat.eq_of_beq_eq_true hb
          subst e
          exact Or.inr (Or.inr ⟨by show 4 ≤ t + 1 + 1 + 1 + 1; omega, rfl, (Option.some.inj h).symm⟩)
        | false => rw [hb] at h; cases h

/-! looking a memory up that a list of writes makes -/
def oI (o : Option Int) (d : Int32) : Int32 := match o with
  | some x => iz x
  | none => d
theorem bif2 {α : Type} {a i b k : Nat} {x y : α} : (bif Nat.beq a i && Nat.beq b k then x else y) = if a = i ∧ b = k then x else y := by
  by_cases h1 : a = i
  · by_cases h2 : b = k
    · subst h1
      subst h2
      rw [if_pos ⟨rfl, rfl⟩, Nat.beq_refl, Nat.beq_refl]
      rfl
    · rw [if_neg (fun q => h2 q.2)]
      cases hb : Nat.beq b k with
      | true => exact absurd (Nat.eq_of_beq_eq_true hb) h2
      | false => cases Nat.beq a i <;> rfl
  · rw [if_neg (fun q => h1 q.1)]
    cases hb : Nat.beq a i with
    | true => exact absurd (Nat.eq_of_beq_eq_true hb) h1
    | false => rfl
def fK : List lO → Nat → Nat → Option (Nat × Nat)
  | [], _, _ => none
  | o :: l, n, i => match o.1 with
    | 0 => bif Nat.beq i (n - 1) then some (o.2.1, o.2.2.1) else fK l (n - 1) i
    | 1 => fK l n i
    | 2 => fK l n i
    | 3 => fK l n i
    | _ => bif Nat.beq i (n - (1 + o.2.1)) then some (107, o.2.1) else bif Nat.blt (n - (1 + o.2.1)) i then some (100, o.2.2.1) else fK l (n - (1 + o.2.1)) i
section
variable {M0 : qMe} {n0 : Nat}
theorem lk (h0 : mN M0 = n0) (hR : ∀ i k, mR M0 i k = none) (hI : ∀ i k, n0 ≤ i → mI M0 i k = 0) : ∀ (l : List lO) (n : Nat), cnt n0 l = some n → (mN (lrun l M0) = n ∧ n0 ≤ n) ∧ (∀ i k, n ≤ i → fR l i k = none) ∧ (∀ i k, mR (lrun l M0) i k = (fR l i k).getD none) ∧ (∀ i k, n ≤ i → fI l i k = none) ∧ ∀ i k, mI (lrun l M0) i k = oI (fI l i k) (if i < n0 then mI M0 i k else 0)
  | [], n, h => by
    have e : n0 = n := Option.some.inj h
    subst e
    refine ⟨⟨h0, Nat.le_refl _⟩, fun _ _ _ => rfl, fun i k => hR i k, fun _ _ _ => rfl, fun i k => ?_⟩
    show mI M0 i k = if i < n0 then mI M0 i k else 0
    by_cases c : i < n0
    · rw [if_pos c]
    · rw [if_neg c, hI i k (by omega)]
  | o :: l, n, h => by
    obtain ⟨m, hm, hc⟩ := cnt_s h
    obtain ⟨⟨i1, i0⟩, i2, i3, i4, i5⟩ := lk h0 hR hI l m hm
    obtain ⟨t, a, b, r, x⟩ := o
    rcases hc with ⟨e, rfl⟩ | ⟨e, rfl, lt⟩ | ⟨e, er, rfl⟩
    · have e : t = 0 := e
      subst e
      refine ⟨⟨by show mN (lrun l M0) + 1 = m + 1; rw [i1], by omega⟩, fun i k q => i2 i k (by omega), fun i k => ?_, fun i k q => i4 i k (by omega), fun i k => ?_⟩
      · show mR (qnew (lrun l M0) a b) i k = (fR l i k).getD none
        by_cases c : i = m
        · rw [i2 i k (by omega)]
          show (if i = mN (lrun l M0) then none else mR (lrun l M0) i k) = none
          rw [i1, if_pos c]
        · rw [nw_Rn (by rw [i1]; exact c)]
          exact i3 i k
      · show mI (qnew (lrun l M0) a b) i k = oI (fI l i k) (if i < n0 then mI M0 i k else 0)
        by_cases c : i = m
        · rw [i4 i k (by omega)]
          show (if i = mN (lrun l M0) then 0 else mI (lrun l M0) i k) = if i < n0 then mI M0 i k else 0
          rw [i1, if_pos c, if_neg (by omega)]
        · rw [nw_In (by rw [i1]; exact c)]
          exact i5 i k
    · have lt : a < n := lt
      rcases e with e | e | e
      · have e : t = 1 := e
        subst e
        refine ⟨⟨i1, i0⟩, fun i k q => ?_, fun i k => ?_, i4, i5⟩
        · show (bif Nat.beq a i && Nat.beq b k then some r else fR l i k) = none
          rw [bif2, if_neg (by omega)]
          exact i2 i k q
        · show mR (qsR (lrun l M0) a b r) i k = (bif Nat.beq a i && Nat.beq b k then some r else fR l i k).getD none
          rw [bif2, mR_R]
          by_cases c : i = a
          · by_cases c2 : k = b
            · rw [if_pos c, if_pos c2, if_pos ⟨c.symm, c2.symm⟩]
              rfl
            · rw [if_pos c, if_neg c2, if_neg (fun q => c2 q.2.symm)]
              exact i3 i k
          · rw [if_neg c, if_neg (fun q => c q.1.symm)]
            exact i3 i k
      · have e : t = 2 := e
        subst e
        refine ⟨⟨i1, i0⟩, i2, i3, fun i k q => ?_, fun i k => ?_⟩
        · show (bif Nat.beq a i && Nat.beq b k then some x else fI l i k) = none
          rw [bif2, if_neg (by omega)]
          exact i4 i k q
        · show mI (qsI (lrun l M0) a b (iz x)) i k = oI (bif Nat.beq a i && Nat.beq b k then some x else fI l i k) _
          rw [bif2, mI_I]
          by_cases c : i = a
          · by_cases c2 : k = b
            · rw [if_pos c, if_pos c2, if_pos ⟨c.symm, c2.symm⟩]
              rfl
            · rw [if_pos c, if_neg c2, if_neg (fun q => c2 q.2.symm)]
              exact i5 i k
          · rw [if_neg c, if_neg (fun q => c q.1.symm)]
            exact i5 i k
      · have e : t = 3 := e
        subst e
        exact ⟨⟨i1, i0⟩, i2, i3, i4, i5⟩
    · have e : 4 ≤ t := e
      have er : r = some m := er
      obtain ⟨t, rfl⟩ : ∃ u, t = u + 4 := ⟨t - 4, by omega⟩
      subst er
      refine ⟨⟨by show mN (qmul (lrun l M0) a b) = m + (1 + a); rw [mN_mul, i1], by omega⟩, fun i k q => ?_, fun i k => ?_, fun i k q => i4 i k (by omega), fun i k => ?_⟩
      · have q : m + (1 + a) ≤ i := q
        show (bif Nat.beq i m then (bif Nat.blt k a then some (some (m + 1 + k)) else some none) else fR l i k) = none
        cases hb : Nat.beq i m with
        | true => have := Nat.eq_of_beq_eq_true hb; omega
        | false => exact i2 i k (by omega)
      · show mR (qmul (lrun l M0) a b) i k = (bif Nat.beq i m then (bif Nat.blt k a then some (some (m + 1 + k)) else some none) else fR l i k).getD none
        rw [mR_mulA, i1]
        by_cases c : i = m
        · rw [c, Nat.beq_refl]
          by_cases c2 : k < a
          · rw [if_pos ⟨rfl, c2⟩]
            have hb : Nat.blt k a = true := Nat.ble_eq_true_of_le c2
            rw [hb]
            rfl
          · rw [if_neg (fun q => c2 q.2), if_pos (by omega)]
            cases hb : Nat.blt k a with
            | true => exact absurd (Nat.le_of_ble_eq_true hb) c2
            | false => rfl
        · have hb : Nat.beq i m = false := by
            cases hb : Nat.beq i m with
            | true => exact absurd (Nat.eq_of_beq_eq_true hb) c
            | false => rfl
          rw [hb, if_neg (fun q => c q.1)]
          show _ = (fR l i k).getD none
          by_cases c2 : m ≤ i ∧ i ≤ m + a
          · rw [if_pos c2, i2 i k (by omega)]
            rfl
          · rw [if_neg c2]
            exact i3 i k
      · show mI (qmul (lrun l M0) a b) i k = oI (fI l i k) _
        rw [mI_mulA, i1]
        by_cases c2 : m ≤ i ∧ i ≤ m + a
        · rw [if_pos c2, i4 i k (by omega), if_neg (by omega)]
          rfl
        · rw [if_neg c2]
          exact i5 i k
theorem lkK (h0 : mN M0 = n0) : ∀ (l : List lO) (n : Nat), cnt n0 l = some n → mN (lrun l M0) = n ∧ ∀ i, i < n → mK (lrun l M0) i = (fK l n i).getD (mK M0 i)
  | [], n, h => by
    have e : n0 = n := Option.some.inj h
    subst e
    exact ⟨h0, fun _ _ => rfl⟩
  | o :: l, n, h => by
    obtain ⟨m, hm, hc⟩ := cnt_s h
    obtain ⟨i1, i2⟩ := lkK h0 l m hm
    obtain ⟨t, a, b, r, x⟩ := o
    have beqf : ∀ u v : Nat, ¬ u = v → Nat.beq u v = false := fun u v q => by
      cases hb : Nat.beq u v with
      | true => exact absurd (Nat.eq_of_beq_eq_true hb) q
      | false => rfl
    rcases hc with ⟨e, rfl⟩ | ⟨e, rfl, lt⟩ | ⟨e, er, rfl⟩
    · have e : t = 0 := e
      subst e
      refine ⟨by show mN (lrun l M0) + 1 = m + 1; rw [i1], fun i q => ?_⟩
      show mK (qnew (lrun l M0) a b) i = (bif Nat.beq i (m + 1 - 1) then some (a, b) else fK l (m + 1 - 1) i).getD (mK M0 i)
      rw [Nat.add_sub_cancel]
      by_cases c : i = m
      · rw [c, Nat.beq_refl, nw_K i1.symm]
        rfl
      · rw [beqf _ _ c, nw_Kn (by rw [i1]; exact c)]
        exact i2 i (by omega)
    · rcases e with e | e | e
      · have e : t = 1 := e
        subst e
        exact ⟨i1, i2⟩
      · have e : t = 2 := e
        subst e
        exact ⟨i1, i2⟩
      · have e : t = 3 := e
        subst e
        exact ⟨i1, i2⟩
    · have e : 4 ≤ t := e
      obtain ⟨t, rfl⟩ : ∃ u, t = u + 4 := ⟨t - 4, by omega⟩
      refine ⟨by show mN (qmul (lrun l M0) a b) = m + (1 + a); rw [mN_mul, i1], fun i q => ?_⟩
      show mK (qmul (lrun l M0) a b) i = (bif Nat.beq i (m + (1 + a) - (1 + a)) then some (107, a) else bif Nat.blt (m + (1 + a) - (1 + a)) i then some (100, b) else fK l (m + (1 + a) - (1 + a)) i).getD (mK M0 i)
      have q : i < m + (1 + a) := q
      rw [Nat.add_sub_cancel, mK_mulA, i1]
      by_cases c : i = m
      · rw [if_pos c, c, Nat.beq_refl]
        rfl
      · rw [if_neg c, beqf _ _ c]
        by_cases c2 : m < i
        · have hb : Nat.blt m i = true := Nat.ble_eq_true_of_le c2
          rw [if_pos (by omega), hb]
          rfl
        · have hb : Nat.blt m i = false := by
            cases hb : Nat.blt m i with
            | true => exact absurd (Nat.le_of_ble_eq_true hb) c2
            | false => rfl
          rw [if_neg (by omega), hb]
          exact i2 i (by omega)
end
theorem sl_mlp {M : qMe} {a m : Nat} : ∀ j, (qmlp M a m j).2.1 = M.2.1 + j * m
  | 0 => by rw [Nat.zero_mul]; rfl
  | j + 1 => by
    show (qmlp M a m j).2.1 + m = _
    rw [sl_mlp j, Nat.succ_mul, Nat.add_assoc]
theorem sl_mul {M : qMe} {n m : Nat} : (qmul M n m).2.1 = M.2.1 + n + n * m := by
  show (qmlp (qnew M 107 n) (mN M) m n).2.1 = _
  rw [sl_mlp]
  rfl
theorem lrun_s {M : qMe} : ∀ l : List lO, (lrun l M).2.1 = M.2.1 + sll l
  | [] => rfl
  | o :: l => by
    have ih := lrun_s (M := M) l
    obtain ⟨t, a, b, r, x⟩ := o
    rcases t with _ | _ | _ | _ | t
    · show (lrun l M).2.1 + b = M.2.1 + (sll l + b)
      omega
    · exact ih
    · exact ih
    · exact ih
    · show (qmul (lrun l M) a b).2.1 = M.2.1 + (sll l + a + a * b)
      rw [sl_mul]
      omega

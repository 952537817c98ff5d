/-! behind both constructors -/
def lgAll : List lO := lg_M ++ (aN 11 70 :: (lg_C_8 ++ [aN 0 19]))
def zA (i k : Nat) : Int := (fI lgAll i k).getD 0
theorem qAll : cnt 8 lgAll = some 513 := by decide +kernel
theorem fI_b : ∀ (l : List lO), l.all (fun o => decide (-2147483648 ≤ o.2.2.2.2) && decide (o.2.2.2.2 < 2147483648)) = true → ∀ i k x, fI l i k = some x → -2147483648 ≤ x ∧ x < 2147483648
  | [], _, i, k, x, h => by cases h
  | o :: l, h, i, k, x, hx => by
    rw [List.all_cons, Bool.and_eq_true, Bool.and_eq_true, decide_eq_true_eq, decide_eq_true_eq] at h
    have ih := fI_b l h.2 i k x
    obtain ⟨t, a, b, r, y⟩ := o
    rcases t with _ | _ | _ | t
    · exact ih hx
    · exact ih hx
    · have hx : (bif Nat.beq a i && Nat.beq b k then some y else fI l i k) = some x := hx
      rw [bif2] at hx
      split at hx
      · have e : y = x := Option.some.inj hx
        subst e
        exact h.1
      · exact ih hx
    · exact ih hx
theorem fI_no {i k : Nat} : ∀ (l : List lO), l.all (fun o => !(Nat.beq o.1 2 && Nat.beq o.2.1 i)) = true → fI l i k = none
  | [], _ => rfl
  | o :: l, h => by
    rw [List.all_cons, Bool.and_eq_true] at h
    have ih := fI_no (i := i) (k := k) l h.2
    obtain ⟨t, a, b, r, y⟩ := o
    rcases t with _ | _ | _ | t
    · exact ih
    · exact ih
    · have h1 : (!(true && Nat.beq a i)) = true := h.1
      have hb : Nat.beq a i = false := by
        cases hb : Nat.beq a i with
        | true => rw [hb] at h1; cases h1
        | false => rfl
      show (bif Nat.beq a i && Nat.beq b k then some y else fI l i k) = none
      rw [hb]
      exact ih
    · exact ih
/-- what is kept by each reference of a list of writes -/
def rfok (q : Nat → Nat → Bool) (o : lO) : Bool := match o.1 with
  | 0 => true
  | 1 => (match o.2.2.2.1 with
    | none => true
    | some j => q o.2.1 j)
  | 2 => true
  | 3 => true
  | _ => (match o.2.2.2.1 with
    | none => true
    | some c => (List.range o.2.1).all (fun k => q c (c + 1 + k)))
theorem fR_ok {q : Nat → Nat → Bool} : ∀ (l : List lO), l.all (rfok q) = true → ∀ i k j, fR l i k = some (some j) → q i j = true
  | [], _, i, k, j, h => by cases h
  | o :: l, h, i, k, j, hx => by
    rw [List.all_cons, Bool.and_eq_true] at h
    have ih := fR_ok l h.2 i k j
    obtain ⟨t, a, b, r, y⟩ := o
    rcases t with _ | _ | _ | _ | t
    · exact ih hx
    · have hx : (bif Nat.beq a i && Nat.beq b k then some r else fR l i k) = some (some j) := hx
      rw [bif2] at hx
      split at hx
      · next c =>
        have e : r = some j := Option.some.inj hx
        subst e
        rw [← c.1]
        exact h.1
      · exact ih hx
    · exact ih hx
    · exact ih hx
    · cases r with
      | none => exact ih hx
      | some c =>
        have hx : (bif Nat.beq i c then (bif Nat.blt k a then some (some (c + 1 + k)) else some none) else fR l i k) = some (some j) := hx
        cases hb : Nat.beq i c with
        | true =>
          rw [hb] at hx
          have hx : (bif Nat.blt k a then some (some (c + 1 + k)) else some none) = some (some j) := hx
          have ei := Nat.eq_of_beq_eq_true hb
          cases hk : Nat.blt k a with
          | true =>
            rw [hk] at hx
            have e : c + 1 + k = j := Option.some.inj (Option.some.inj hx)
            have h1 : (List.range a).all (fun k => q c (c + 1 + k)) = true := h.1
            have := List.all_eq_true.mp h1 k (List.mem_range.mpr (Nat.le_of_ble_eq_true hk))
            rw [ei, ← e]
            exact this
          | false =>
            rw [hk] at hx
            cases Option.some.inj hx
        | false =>
          rw [hb] at hx
          exact ih hx
def qok (i j : Nat) : Bool := (decide (479 ≤ i) && decide (i ≤ 512) && decide (479 ≤ j) && decide (j ≤ 512)) || (decide (8 ≤ i) && decide (i < 479) && decide (8 ≤ j) && decide (j < 479))
section
variable {M0 : qMe}
theorem all_N (h0 : mN M0 = 8) : mN (lrun lgAll M0) = 513 := (lkK h0 lgAll 513 qAll).1
theorem all_Z (h0 : mN M0 = 8) (hR : ∀ i k, mR M0 i k = none) (hI : ∀ i k, 8 ≤ i → mI M0 i k = 0) {i : Nat} (hi : 8 ≤ i) (k : Nat) : mZ (lrun lgAll M0) i k = zA i k := by
  have e := (lk h0 hR hI lgAll 513 qAll).2.2.2.2 i k
  show (mI (lrun lgAll M0) i k).toInt = _
  rw [e, if_neg (by omega)]
  unfold zA
  cases hf : fI lgAll i k with
  | none => rfl
  | some x =>
    have b := fI_b lgAll (by decide +kernel) i k x hf
    exact iz_toInt b.1 b.2
theorem all_R (h0 : mN M0 = 8) (hR : ∀ i k, mR M0 i k = none) (hI : ∀ i k, 8 ≤ i → mI M0 i k = 0) (i k : Nat) : mR (lrun lgAll M0) i k = (fR lgAll i k).getD none := (lk h0 hR hI lgAll 513 qAll).2.2.1 i k
theorem all_ok (h0 : mN M0 = 8) (hR : ∀ i k, mR M0 i k = none) (hI : ∀ i k, 8 ≤ i → mI M0 i k = 0) {i k j : Nat} (h : mR (lrun lgAll M0) i k = some j) : ((479 ≤ i ∧ i ≤ 512) ∧ 479 ≤ j ∧ j ≤ 512) ∨ ((8 ≤ i ∧ i < 479) ∧ 8 ≤ j ∧ j < 479) := by
  rw [all_R h0 hR hI] at h
  cases hf : fR lgAll i k with
  | none => rw [hf] at h; cases h
  | some v =>
    rw [hf] at h
    have h : v = some j := h
    subst h
    have q := fR_ok (q := qok) lgAll (by decide +kernel) i k j hf
    simp only [qok, Bool.or_eq_true, Bool.and_eq_true, decide_eq_true_eq] at q
    omega
theorem fk_all : ∀ i, i < 505 → fK lgAll 513 (8 + i) = some (kxl.getD (8 + i) (0, 0)) := by decide +kernel
theorem fk_8 : ∀ i, i < 8 → fK lgAll 513 i = none := by decide +kernel
theorem fr_all : ∀ q ∈ rxl, fR lgAll q.1 q.2.1 = some (some q.2.2) := by decide +kernel
theorem all_shp (h0 : mN M0 = 8) (hR : ∀ i k, mR M0 i k = none) (hI : ∀ i k, 8 ≤ i → mI M0 i k = 0) (hk : mK M0 1 = (110, 4) ∧ mK M0 2 = (110, 4) ∧ mK M0 3 = (110, 16)) (h1 : ∀ k, k < 4 → mI M0 1 k = iz (tleast.getD k 0)) (h2 : ∀ k, k < 4 → mI M0 2 k = iz (tmost.getD k 0)) (h3 : ∀ k, k < 16 → mI M0 3 k = iz (opneeds.getD k 0)) : shp (lrun lgAll M0) := by
  obtain ⟨n, kk⟩ := lkK h0 lgAll 513 qAll
  have k8 : ∀ i, i < 8 → mK (lrun lgAll M0) i = mK M0 i := fun i q => by
    rw [kk i (by omega), fk_8 i q]
    rfl
  have i8 : ∀ i k, i < 8 → mI (lrun lgAll M0) i k = mI M0 i k := fun i k q => by
    have f : ∀ i, i < 8 → lgAll.all (fun o => !(Nat.beq o.1 2 && Nat.beq o.2.1 i)) = true := by decide +kernel
    rw [(lk h0 hR hI lgAll 513 qAll).2.2.2.2 i k, fI_no lgAll (f i q)]
    exact if_pos q
  refine ⟨by rw [n]; exact Nat.le_refl _, fun i a b => ?_, fun q hq => ?_, ⟨(k8 1 (by decide)).trans hk.1, (k8 2 (by decide)).trans hk.2.1, (k8 3 (by decide)).trans hk.2.2⟩, fun k q => (i8 1 k (by decide)).trans (h1 k q), fun k q => (i8 2 k (by decide)).trans (h2 k q), fun k q => (i8 3 k (by decide)).trans (h3 k q)⟩
  · have e := fk_all (i - 8) (by omega)
    rw [show 8 + (i - 8) = i by omega] at e
    rw [kk i b, e]
    rfl
  · rw [all_R h0 hR hI, fr_all q hq]
    rfl
end

/-! LOCALITY: a run that has only references into A before it neither sees nor changes the ints of other cells -/
noncomputable def ifA (A : Nat → Prop) (i : Nat) (x y : Int32) : Int32 := @ite _ (A i) (Classical.propDecidable _) x y
theorem ifA_t {A : Nat → Prop} {i : Nat} {x y : Int32} (h : A i) : ifA A i x y = x := if_pos h
theorem ifA_f {A : Nat → Prop} {i : Nat} {x y : Int32} (h : ¬ A i) : ifA A i x y = y := if_neg h
noncomputable def sw (A : Nat → Prop) (g : Nat → Nat → Int32) (M : qMe) : qMe := (M.1, M.2.1, M.2.2.1, (fun i k => ifA A i (M.2.2.2.1 i k) (g i k)), M.2.2.2.2.1, M.2.2.2.2.2)
def okS (A : Nat → Prop) (s : List Value) : Prop := ∀ i, Value.ref i ∈ s → A i
def okL (A : Nat → Prop) (L : List (Option Value)) : Prop := ∀ i, some (Value.ref i) ∈ L → A i
def okM (A : Nat → Prop) (M : qMe) : Prop := (∀ i k j, A i → mR M i k = some j → A j) ∧ (∀ i, mN M ≤ i → A i) ∧ ∀ i, i < 8 → A i
def okO (A : Nat → Prop) (v : Option Value) : Prop := ∀ i, v = some (.ref i) → A i
def LocR (A : Nat → Prop) (g : Nat → Nat → Int32) (x : Option qR) (r : qR) : Prop := x = some (r.1, sw A g r.2) ∧ okM A r.2 ∧ okO A r.1
def Loc (A : Nat → Prop) (g : Nat → Nat → Int32) (F : qF) : Prop := ∀ L s M r, F L s M = some r → okL A L → okS A s → okM A M → LocR A g (F L s (sw A g M)) r
def LocV (A : Nat → Prop) (g : Nat → Nat → Int32) (c : qV) : Prop := ∀ y As M r, c y As M = some r → okS A As → okM A M → LocR A g (c y As (sw A g M)) r
section
variable {A : Nat → Prop} {g : Nat → Nat → Int32} {M : qMe} {s : List Value} {L : List (Option Value)} {r : qR} {k : qF} {c : qV}
theorem LocR_gd {b : Prop} {x : Option qR} (hb : b) (h : LocR A g x r) : LocR A g (gd b x) r := ⟨(gd_t hb).trans h.1, h.2⟩
theorem sw_I {i j : Nat} (h : A i) : mI (sw A g M) i j = mI M i j := ifA_t h
theorem sw_In {i j : Nat} (h : ¬ A i) : mI (sw A g M) i j = g i j := ifA_f h
theorem sw_V {n i j : Nat} (h : A i) : mV (sw A g M) n i j = mV M n i j := by
  unfold mV
  split
  · rfl
  · rfl
  · rw [sw_I h]
theorem sw_sI {i j : Nat} {x : Int32} (h : A i) : qsI (sw A g M) i j x = sw A g (qsI M i j x) := by
  unfold qsI sw
  refine congrArg (fun f => (M.1, M.2.1, M.2.2.1, f, M.2.2.2.2.1, M.2.2.2.2.2)) (funext (fun i2 => funext (fun j2 => ?_)))
  show mI (qsI (sw A g M) i j x) i2 j2 = ifA A i2 (mI (qsI M i j x) i2 j2) (g i2 j2)
  rw [mI_I, mI_I]
  by_cases e : i2 = i
  · subst e
    rw [ifA_t h]
    by_cases e2 : j2 = j
    · rw [if_pos rfl, if_pos e2, if_pos rfl, if_pos e2]
    · rw [if_pos rfl, if_neg e2, if_pos rfl, if_neg e2, sw_I h]
  · rw [if_neg e, if_neg e]
    rfl
theorem sw_sJ {i j : Nat} {x : Int64} : qsJ (sw A g M) i j x = sw A g (qsJ M i j x) := rfl
theorem sw_sR {i j : Nat} {x : Option Nat} : qsR (sw A g M) i j x = sw A g (qsR M i j x) := rfl
theorem sw_new {kd n : Nat} (h : A (mN M)) : qnew (sw A g M) kd n = sw A g (qnew M kd n) := by
  unfold qnew sw
  refine congrArg (fun f => (M.1 + 1, M.2.1 + n, (fun a => if a = M.1 then (kd, n) else M.2.2.1 a), f, (fun a j => if a = M.1 then 0 else M.2.2.2.2.1 a j), (fun a j => if a = M.1 then none else M.2.2.2.2.2 a j))) (funext (fun i2 => funext (fun j2 => ?_)))
  show (if i2 = M.1 then (0 : Int32) else ifA A i2 (M.2.2.2.1 i2 j2) (g i2 j2)) = ifA A i2 (if i2 = M.1 then (0 : Int32) else M.2.2.2.1 i2 j2) (g i2 j2)
  by_cases e : i2 = M.1
  · subst e
    rw [if_pos rfl, if_pos rfl]
    exact (ifA_t h).symm
  · rw [if_neg e, if_neg e]
theorem sw_cp {a p b q n : Nat} (ha : A a) (hb : A b) : qcpI (sw A g M) a p b q n = sw A g (qcpI M a p b q n) := by
  unfold qcpI sw
  refine congrArg (fun f => (M.1, M.2.1, M.2.2.1, f, M.2.2.2.2.1, M.2.2.2.2.2)) (funext (fun i2 => funext (fun j2 => ?_)))
  show (if i2 = b ∧ q ≤ j2 ∧ j2 < q + n then ifA A a (M.2.2.2.1 a (p + (j2 - q))) (g a (p + (j2 - q))) else ifA A i2 (M.2.2.2.1 i2 j2) (g i2 j2)) = ifA A i2 (if i2 = b ∧ q ≤ j2 ∧ j2 < q + n then M.2.2.2.1 a (p + (j2 - q)) else M.2.2.2.1 i2 j2) (g i2 j2)
  by_cases e : i2 = b ∧ q ≤ j2 ∧ j2 < q + n
  · rw [if_pos e, if_pos e, ifA_t ha, ifA_t (by rw [e.1]; exact hb)]
  · rw [if_neg e, if_neg e]
theorem okM_I {i j : Nat} {x : Int32} (h : okM A M) : okM A (qsI M i j x) := h
theorem okM_J {i j : Nat} {x : Int64} (h : okM A M) : okM A (qsJ M i j x) := h
theorem okM_cp {a p b q n : Nat} (h : okM A M) : okM A (qcpI M a p b q n) := h
theorem okM_R {i j : Nat} {x : Option Nat} (h : okM A M) (hx : ∀ v, x = some v → A v) : okM A (qsR M i j x) := by
  refine ⟨fun i2 k2 j2 a e => ?_, h.2.1, h.2.2⟩
  rw [mR_R] at e
  split at e
  · split at e
    · exact hx _ e
    · exact h.1 _ _ _ a e
  · exact h.1 _ _ _ a e
theorem okM_new {kd n : Nat} (h : okM A M) : okM A (qnew M kd n) := by
  refine ⟨fun i2 k2 j2 a e => ?_, fun i q => h.2.1 i (by have : mN M + 1 ≤ i := q; omega), h.2.2⟩
  have e : (if i2 = M.1 then none else M.2.2.2.2.2 i2 k2) = some j2 := e
  split at e
  · cases e
  · exact h.1 i2 k2 j2 a e
theorem okN (h : okM A M) : A (mN M) := h.2.1 _ (Nat.le_refl _)
theorem mul_loc {a m : Nat} (ha : A a) (h : okM A M) : ∀ i, qmlp (sw A g M) a m i = sw A g (qmlp M a m i) ∧ okM A (qmlp M a m i)
  | 0 => ⟨rfl, h⟩
  | i + 1 => by
    obtain ⟨e, o⟩ := mul_loc ha h i
    refine ⟨?_, okM_R (okM_new o) (fun v q => by cases q; exact okN o)⟩
    show qsR (qnew (qmlp (sw A g M) a m i) 100 m) a i (some (mN (qmlp (sw A g M) a m i))) = _
    rw [e, sw_new (okN o), sw_sR]
    rfl
theorem okS_t {v : Value} (h : okS A (v :: s)) : okS A s := fun i q => h i (List.mem_cons_of_mem _ q)
theorem okS_h {i : Nat} (h : okS A (.ref i :: s)) : A i := h i List.mem_cons_self
theorem okS_i {x : Int32} (h : okS A s) : okS A (.int x :: s) := fun i q => by
  rcases List.mem_cons.mp q with e | e
  · cases e
  · exact h i e
theorem okS_l {x : Int64} (h : okS A s) : okS A (.long x :: s) := fun i q => by
  rcases List.mem_cons.mp q with e | e
  · cases e
  · exact h i e
theorem okS_n (h : okS A s) : okS A (.null :: s) := fun i q => by
  rcases List.mem_cons.mp q with e | e
  · cases e
  · exact h i e
theorem okS_r {j : Nat} (h : okS A s) (hj : A j) : okS A (.ref j :: s) := fun i q => by
  rcases List.mem_cons.mp q with e | e
  · cases e; exact hj
  · exact h i e
theorem okS_v {v : Value} (h : okS A s) (hv : ∀ i, v = .ref i → A i) : okS A (v :: s) := fun i q => by
  rcases List.mem_cons.mp q with e | e
  · exact hv i e.symm
  · exact h i e
theorem ok_qrv {i j : Nat} (h : okM A M) (hi : A i) : ∀ t, qrv (mR M i j) = .ref t → A t := fun t q => by
  cases e : mR M i j with
  | none => rw [e] at q; cases q
  | some x => rw [e] at q; cases q; exact h.1 _ _ _ hi e
theorem ok_mV {n i j : Nat} (h : okM A M) (hi : A i) : ∀ t, mV M n i j = .ref t → A t := fun t q => by
  unfold mV at q
  split at q
  · cases q
  · exact ok_qrv h hi t q
  · cases q
theorem okL_g {i : Nat} {v : Value} (h : okL A L) (e : L[i]? = some (some v)) : ∀ t, v = .ref t → A t := fun t q => by
  subst q
  exact h t (List.mem_of_getElem? e)
theorem okL_set {i : Nat} {x : Option Value} (h : okL A L) (hx : ∀ t, x = some (.ref t) → A t) : okL A (L.set i x) := fun t q => by
  rcases List.mem_or_eq_of_mem_set q with e | e
  · exact h t e
  · exact hx t e.symm
end

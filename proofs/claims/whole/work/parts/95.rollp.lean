/-! a roll as a pure function -/
/-- where, toward, SPEED, STEPS, why, what is broken, in which order, the way -/
abbrev RQ : Type := Int × Int × Int × Int × Int × (Int → Prop) × List Int × List Int
def qp (Q : RQ) : Int := Q.1
def qd (Q : RQ) : Int := Q.2.1
def qs (Q : RQ) : Int := Q.2.2.1
def qn (Q : RQ) : Int := Q.2.2.2.1
def qy (Q : RQ) : Int := Q.2.2.2.2.1
def qb (Q : RQ) : Int → Prop := Q.2.2.2.2.2.1
def ql (Q : RQ) : List Int := Q.2.2.2.2.2.2.1
def qt (Q : RQ) : List Int := Q.2.2.2.2.2.2.2
noncomputable def wayP (M : qMe) (w : Int) (slip : Prop) (Q : RQ) : Int := @ite _ (slip ∧ ¬ wse (wy M w (qp Q) (qd Q) (qs Q) 4) = -1) (Classical.propDecidable _) (wse (wy M w (qp Q) (qd Q) (qs Q) 4)) (wfi (wy M w (qp Q) (qd Q) (qs Q) 4))
/-- what a try makes of it -/
def addP (Q : RQ) (R : Int × Int × Int × Int × Int × Int) : RQ := (R.1, R.2.1, R.2.2.1, R.2.2.2.1, R.2.2.2.2.1, (fun c => qb Q c ∨ c = R.2.2.2.2.2), (if R.2.2.2.2.2 = -1 then ql Q else ql Q ++ [R.2.2.2.2.2]), (if R.2.2.2.1 = qn Q then qt Q else qt Q ++ [R.1]))
noncomputable def stepP (M : qMe) (w wall : Int) (slip : Prop) (Q : RQ) : RQ := addP Q (goP M w wall (qb Q) (wayP M w slip Q) (qp Q) (qd Q) (qs Q) (qn Q))
noncomputable def rollP (M : qMe) (w wall : Int) : Nat → RQ → RQ
  | 0, Q => Q
  | k + 1, Q => if qy Q = -1 then rollP M w wall k (stepP M w wall False Q) else Q
/-- it is in order -/
def QI (Q : RQ) : Prop := (0 ≤ qp Q ∧ qp Q < 108) ∧ (0 ≤ qd Q ∧ qd Q ≤ 3) ∧ (0 ≤ qs Q ∧ qs Q ≤ 99) ∧ (0 ≤ qn Q ∧ qn Q ≤ 60) ∧ (-1 ≤ qy Q ∧ qy Q ≤ 4) ∧ (qy Q = -1 → qp Q < 80 ∧ qn Q < 60) ∧ ((ql Q).length : Int) ≤ qn Q ∧ ((qt Q).length : Int) = qn Q + 1 ∧ (qt Q)[(qn Q).toNat]? = some (qp Q) ∧ (qy Q = 2 → qp Q < 80 ∧ ¬ qn Q = 0)
theorem wfi_b {o : Int → Prop} {f : Int → Int} {n : Nat} : -1 ≤ wfi (ways o f n) ∧ wfi (ways o f n) < n ∧ (wfi (ways o f n) = -1 ∨ (0 ≤ wfi (ways o f n) ∧ o (wfi (ways o f n)))) := by
  cases hl : ways o f n with
  | nil => exact ⟨by decide, by show (-1 : Int) < n; omega, Or.inl rfl⟩
  | cons x l =>
    have := ways_mem (o := o) (f := f) (x := x) n (by rw [hl]; exact List.mem_cons_self)
    show -1 ≤ x ∧ x < n ∧ (x = -1 ∨ (0 ≤ x ∧ o x))
    exact ⟨by omega, by omega, Or.inr ⟨this.1.1, this.2⟩⟩
theorem wse_b {o : Int → Prop} {f : Int → Int} {n : Nat} : -1 ≤ wse (ways o f n) ∧ wse (ways o f n) < n ∧ (wse (ways o f n) = -1 ∨ (0 ≤ wse (ways o f n) ∧ o (wse (ways o f n)))) := by
  match hl : ways o f n with
  | [] => exact ⟨by decide, by show (-1 : Int) < n; omega, Or.inl rfl⟩
  | [_] => exact ⟨by show (-1 : Int) ≤ -1; omega, by show (-1 : Int) < n; omega, Or.inl rfl⟩
  | _ :: x :: l =>
    have := ways_mem (o := o) (f := f) (x := x) n (by rw [hl]; exact List.mem_cons_of_mem _ List.mem_cons_self)
    show -1 ≤ x ∧ x < n ∧ (x = -1 ∨ (0 ≤ x ∧ o x))
    exact ⟨by omega, by omega, Or.inr ⟨this.1.1, this.2⟩⟩
theorem wayP_b {M : qMe} {w : Int} {slip : Prop} {Q : RQ} : -1 ≤ wayP M w slip Q ∧ wayP M w slip Q ≤ 3 := by
  have a := wfi_b (o := opn M w (qp Q) (qs Q)) (f := pul M (qp Q) (qd Q)) (n := 4)
  have b := wse_b (o := opn M w (qp Q) (qs Q)) (f := pul M (qp Q) (qd Q)) (n := 4)
  unfold wayP wy
  split <;> omega
theorem goP_b {M : qMe} {w wall way p dir sp n : Int} {bk : Int → Prop} (hw : WFk M 481 0) (p1 : 0 ≤ p ∧ p < 80) (d1 : 0 ≤ dir ∧ dir ≤ 3) (s1 : 0 ≤ sp ∧ sp ≤ 99) (n1 : 0 ≤ n ∧ n < 60) (y1 : -1 ≤ way ∧ way ≤ 3) (R : Int × Int × Int × Int × Int × Int) (hR : goP M w wall bk way p dir sp n = R) : (0 ≤ R.1 ∧ R.1 < 108) ∧ (0 ≤ R.2.1 ∧ R.2.1 ≤ 3) ∧ (0 ≤ R.2.2.1 ∧ R.2.2.1 ≤ 99) ∧ ((R.2.2.2.1 = n ∧ R.1 = p ∧ (R.2.2.2.2.1 = 0 ∨ R.2.2.2.2.1 = 1) ∧ R.2.2.2.2.2 = -1) ∨ (R.2.2.2.1 = n + 1 ∧ R.2.2.2.2.1 = whyOf M R.1 (n + 1) ∧ (R.2.2.2.2.2 = -1 ∨ (R.2.2.2.2.2 = R.1 ∧ R.1 < 80)))) := by
  unfold goP at hR
  by_cases g1 : way = -1 ∨ bes p way = -1
  · rw [if_pos g1] at hR; subst hR
    exact ⟨by simp only; omega, d1, s1, Or.inl ⟨rfl, rfl, Or.inl rfl, rfl⟩⟩
  rw [if_neg g1] at hR
  have bb := bes_b (p := p) (d := way) p1
  have bn : ¬ bes p way = -1 := fun q => g1 (Or.inr q)
  have wn : ¬ way = -1 := fun q => g1 (Or.inl q)
  by_cases g2 : gF M w p sp (bes p way) < 1
  · rw [if_pos g2] at hR; subst hR
    exact ⟨by simp only; omega, d1, s1, Or.inl ⟨rfl, rfl, Or.inl rfl, rfl⟩⟩
  rw [if_neg g2] at hR
  by_cases g3 : gF M w p sp (bes p way) * mZ M 481 (204 + 3 * w).toNat < 10 * gS M wall bk (bes p way)
  · rw [if_pos g3] at hR; subst hR
    exact ⟨by simp only; omega, d1, s1, Or.inl ⟨rfl, rfl, Or.inr rfl, rfl⟩⟩
  rw [if_neg g3] at hR
  have fb : gF M w p sp (bes p way) ≤ 99 := by unfold gF; split <;> omega
  have sb := gS_b (M := M) (wall := wall) (bk := bk) (e := bes p way) hw (by omega)
  have s80 : 0 < gS M wall bk (bes p way) → bes p way < 80 := fun q => by
    rcases bb with r | r | r
    · omega
    · exact r.2
    · exfalso
      have : gS M wall bk (bes p way) = 0 := by unfold gS; rw [if_pos (Or.inl (by omega))]
      omega
  subst hR
  refine ⟨by simp only; omega, by simp only; omega, ?_, Or.inr ⟨rfl, rfl, ?_⟩⟩
  · simp only
    split
    · split <;> omega
    · omega
  · simp only
    by_cases q : 0 < gS M wall bk (bes p way)
    · rw [if_pos q]; exact Or.inr ⟨rfl, s80 q⟩
    · rw [if_neg q]; exact Or.inl rfl
theorem whyOf_b {M : qMe} {e n : Int} (he : (0 ≤ e ∧ e < 80) ∨ (100 ≤ e ∧ e < 108)) : (-1 ≤ whyOf M e n ∧ whyOf M e n ≤ 4) ∧ (whyOf M e n = -1 → e < 80 ∧ n < 60) ∧ (whyOf M e n = 2 → e < 80) := by
  unfold whyOf
  by_cases g1 : 100 ≤ e
  · rw [if_pos g1]; omega
  · rw [if_neg g1]
    by_cases g2 : hAt M 481 0 e = -1
    · rw [if_neg (fun q => q g2)]
      split <;> omega
    · rw [if_pos g2]; omega
theorem goP_e {M : qMe} {w wall way p dir sp n : Int} {bk : Int → Prop} (p1 : 0 ≤ p ∧ p < 80) : (0 ≤ (goP M w wall bk way p dir sp n).1 ∧ (goP M w wall bk way p dir sp n).1 < 80) ∨ (100 ≤ (goP M w wall bk way p dir sp n).1 ∧ (goP M w wall bk way p dir sp n).1 < 108) := by
  have bb := bes_b (p := p) (d := way) p1
  unfold goP
  by_cases g1 : way = -1 ∨ bes p way = -1
  · rw [if_pos g1]; exact Or.inl p1
  rw [if_neg g1]
  by_cases g2 : gF M w p sp (bes p way) < 1
  · rw [if_pos g2]; exact Or.inl p1
  rw [if_neg g2]
  by_cases g3 : gF M w p sp (bes p way) * mZ M 481 (204 + 3 * w).toNat < 10 * gS M wall bk (bes p way)
  · rw [if_pos g3]; exact Or.inl p1
  rw [if_neg g3]
  have bn : ¬ bes p way = -1 := fun q => g1 (Or.inr q)
  rcases bb with q | q | q
  · exact absurd q bn
  · exact Or.inl q
  · exact Or.inr q
theorem addP_I {M : qMe} {w wall way : Int} {bk : Int → Prop} {Q : RQ} (hw : WFk M 481 0) (hQ : QI Q) (hy : qy Q = -1) (y1 : -1 ≤ way ∧ way ≤ 3) : QI (addP Q (goP M w wall bk way (qp Q) (qd Q) (qs Q) (qn Q))) ∧ (qn (addP Q (goP M w wall bk way (qp Q) (qd Q) (qs Q) (qn Q))) = qn Q + 1 ∨ ¬ qy (addP Q (goP M w wall bk way (qp Q) (qd Q) (qs Q) (qn Q))) = -1) := by
  obtain ⟨a1, a2, a3, a4, a5, a6, a7, a8, a9, a10⟩ := hQ
  have a6 := a6 hy
  have ge := goP_e (M := M) (w := w) (wall := wall) (way := way) (dir := qd Q) (sp := qs Q) (n := qn Q) (bk := bk) (p := qp Q) (by omega)
  generalize hR : goP M w wall bk way (qp Q) (qd Q) (qs Q) (qn Q) = R at ge
  obtain ⟨b1, b2, b3, b4⟩ := goP_b hw ⟨a1.1, a6.1⟩ a2 a3 ⟨a4.1, a6.2⟩ y1 R hR
  rcases b4 with ⟨c1, c2, c3, c4⟩ | ⟨c1, c2, c3⟩
  · have et : qt (addP Q R) = qt Q := if_pos c1
    have el : ql (addP Q R) = ql Q := if_pos c4
    refine ⟨⟨b1, b2, b3, ?_, ?_, fun q => ?_, ?_, ?_, ?_, fun q => ?_⟩, Or.inr ?_⟩
    · show 0 ≤ R.2.2.2.1 ∧ R.2.2.2.1 ≤ 60; omega
    · show -1 ≤ R.2.2.2.2.1 ∧ R.2.2.2.2.1 ≤ 4; omega
    · have q : R.2.2.2.2.1 = -1 := q; omega
    · rw [el]; show _ ≤ R.2.2.2.1; omega
    · rw [et]; show _ = R.2.2.2.1 + 1; omega
    · rw [et]; show (qt Q)[R.2.2.2.1.toNat]? = some R.1; rw [c1, c2]; exact a9
    · have q : R.2.2.2.2.1 = 2 := q; omega
    · show ¬ R.2.2.2.2.1 = -1; omega
  · have et : qt (addP Q R) = qt Q ++ [R.1] := if_neg (by omega)
    have wb := whyOf_b (M := M) (e := R.1) (n := qn Q + 1) ge
    rw [← c2] at wb
    refine ⟨⟨b1, b2, b3, ?_, wb.1, fun q => ?_, ?_, ?_, ?_, fun q => ?_⟩, Or.inl c1⟩
    · show 0 ≤ R.2.2.2.1 ∧ R.2.2.2.1 ≤ 60; omega
    · have q := wb.2.1 q
      show R.1 < 80 ∧ R.2.2.2.1 < 60
      omega
    · show ((if R.2.2.2.2.2 = -1 then ql Q else ql Q ++ [R.2.2.2.2.2]).length : Int) ≤ R.2.2.2.1
      split
      · omega
      · simp only [List.length_append, List.length_cons, List.length_nil]; omega
    · rw [et]
      show ((qt Q ++ [R.1]).length : Int) = R.2.2.2.1 + 1
      simp only [List.length_append, List.length_cons, List.length_nil]; omega
    · rw [et]
      show (qt Q ++ [R.1])[R.2.2.2.1.toNat]? = some R.1
      have e : R.2.2.2.1.toNat = (qt Q).length := by omega
      rw [e, List.getElem?_append_right (Nat.le_refl _), Nat.sub_self]
      rfl
    · have q := wb.2.2 q
      exact ⟨q, by show ¬ R.2.2.2.1 = 0; omega⟩
theorem gS_c {M : qMe} {wall e : Int} {b1 b2 : Int → Prop} (h : ∀ c, 0 ≤ c → c < 80 → (b1 c ↔ b2 c)) (he : 0 ≤ e) : gS M wall b1 e = gS M wall b2 e := by
  unfold gS
  by_cases g : 80 ≤ e
  · rw [if_pos (Or.inl g), if_pos (Or.inl g)]
  · have := h e he (by omega)
    by_cases q : b1 e
    · rw [if_pos (Or.inr q), if_pos (Or.inr (this.mp q))]
    · have n1 : ¬ (80 ≤ e ∨ b1 e) := fun z => z.elim g q
      have n2 : ¬ (80 ≤ e ∨ b2 e) := fun z => z.elim g (fun y => q (this.mpr y))
      rw [if_neg n1, if_neg n2]
theorem goP_c {M : qMe} {w wall way p dir sp n : Int} {b1 b2 : Int → Prop} (p1 : 0 ≤ p ∧ p < 80) (h : ∀ c, 0 ≤ c → c < 80 → (b1 c ↔ b2 c)) : goP M w wall b1 way p dir sp n = goP M w wall b2 way p dir sp n := by
  unfold goP
  by_cases g1 : way = -1 ∨ bes p way = -1
  · rw [if_pos g1, if_pos g1]
  · have bb := bes_b (p := p) (d := way) p1
    have bn : ¬ bes p way = -1 := fun q => g1 (Or.inr q)
    rw [if_neg g1, if_neg g1, gS_c h (by omega)]
/-- everything that a roll asks is in m's row -/
theorem goP_k {M M1 : qMe} {w wall way p dir sp n : Int} {bk : Int → Prop} (h : ∀ k, mZ M1 481 k = mZ M 481 k) : goP M1 w wall bk way p dir sp n = goP M w wall bk way p dir sp n := by
  have e1 : ∀ e, hgt M1 e = hgt M e := fun e => by unfold hgt; rw [h]
  have e2 : gF M1 w p sp (bes p way) = gF M w p sp (bes p way) := by unfold gF; rw [e1, e1, tau_k h]
  have e3 : gS M1 wall bk (bes p way) = gS M wall bk (bes p way) := by unfold gS; rw [h]
  have e4 : whyOf M1 (bes p way) (n + 1) = whyOf M (bes p way) (n + 1) := by unfold whyOf; rw [hAt_eq h]
  unfold goP
  rw [e2, e3, e4, h]
theorem wy_k {M M1 : qMe} {w p dir sp : Int} {n : Nat} (h : ∀ k, mZ M1 481 k = mZ M 481 k) : wy M1 w p dir sp n = wy M w p dir sp n := by
  have e1 : opn M1 w p sp = opn M w p sp := funext (fun d => by unfold opn; rw [tau_k h])
  have e2 : pul M1 p dir = pul M p dir := funext (fun d => by
    have e : ∀ e, hgt M1 e = hgt M e := fun e => by unfold hgt; rw [h]
    unfold pul
    rw [e, e, h])
  unfold wy
  rw [e1, e2]
theorem stepP_k {M M1 : qMe} {w wall : Int} {slip : Prop} {Q : RQ} (h : ∀ k, mZ M1 481 k = mZ M 481 k) : stepP M1 w wall slip Q = stepP M w wall slip Q := by
  unfold stepP wayP
  rw [wy_k h, goP_k h]
theorem rollP_k {M M1 : qMe} {w wall : Int} (h : ∀ k, mZ M1 481 k = mZ M 481 k) : ∀ (k : Nat) (Q : RQ), rollP M1 w wall k Q = rollP M w wall k Q
  | 0, Q => rfl
  | k + 1, Q => by
    unfold rollP
    rw [stepP_k h, rollP_k h k]

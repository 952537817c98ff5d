/-! TESTS: how far they go; m's testOf, bothOf, plainOf, positiveOf -/
theorem nots_le {c : Nat → Int} {N : Nat} (hN : ∀ p, N ≤ p → c p = 0) : ∀ k p, p ≤ N → p + nots c k p ≤ N
  | 0, p, h => h
  | k + 1, p, h => by
    unfold nots
    by_cases e : c p = 8
    · rw [if_pos e]
      have hp : p < N := by
        rcases Nat.lt_or_ge p N with z | z
        · exact z
        · have := hN p z; omega
      have := nots_le hN k (p + 1) hp
      omega
    · rw [if_neg e]; exact h
theorem cnot_l {s : Nat} : (cnot s).length ≤ s := by
  unfold cnot
  split
  · simp only [List.length_cons, List.length_nil]; omega
  · simp only [List.length_nil]; omega
theorem pTL_ok {c : Nat → Int} {lv a N p0 q0 : Nat} {sub : Nat → Nat → Nat → pR DenB} (hs : ∀ p q a, p ≤ N → q ≤ 50 → pOk N p q a (sub p q a)) (hN : ∀ p, N ≤ p → c p = 0) : ∀ (k p q : Nat) (cs : List Int) (D : DenB), p0 < p → p ≤ N → q0 ≤ q → q ≤ 50 → cs.length ≤ p - p0 → pOk N p0 q0 a (pTL c lv a sub k p q cs D)
  | 0, p, q, cs, D, _, _, _, _, _ => by intro h; cases h
  | k + 1, p, q, cs, D, h1, h2, h3, h4, h5 => by
    unfold pTL
    by_cases e : c p = 6 + (lv : Int)
    · rw [if_neg (fun q => q e)]
      intro ok
      obtain ⟨p2, q2, cs2, D2, e2, e3⟩ := pThen_ok ok
      have hp : p < N := by
        rcases Nat.lt_or_ge p N with z | z
        · exact z
        · have := hN p z; omega
      have s2 := hs (p + 1) q (a + cs.length + 1) hp h4
      rw [e2] at s2
      obtain ⟨a1, a2, a3, a4, a5⟩ := s2 rfl
      rw [e3] at ok ⊢
      simp only at a1 a2 a3 a4 a5
      exact pTL_ok hs hN k p2 q2 _ _ (by omega) a2 (by omega) a4 (by simp only [List.length_append, List.length_cons]; omega) ok
    · rw [if_pos e]
      intro _
      exact ⟨h1, h2, h3, h4, h5⟩
theorem opC_s {c : Int} (h : ¬ opC c = 0) : ¬ c = 0 := by
  intro q
  apply h
  subst q
  rfl
theorem pT_ok {c v : Nat → Int} {fw lw : Int} {N : Nat} (hN : ∀ p, N ≤ p → c p = 0) (hf : 0 < fw) : ∀ (n lv deep p q a : Nat), p ≤ N → q ≤ 50 → pOk N p q a (pT c v fw lw n lv deep p q a)
  | 0, _, _, _, _, _, _, _ => by intro h; cases h
  | n + 1, lv, deep, p, q, a, h1, h2 => by
    have hlt : ∀ p, ¬ c p = 0 → p < N := fun p q => by
      rcases Nat.lt_or_ge p N with z | z
      · exact z
      · exact absurd (hN p z) q
    have hn := nots_le hN 401 p h1
    have hl := cnot_l (s := nots c 401 p)
    unfold pT
    by_cases e : lv = 2
    · rw [if_pos e]
      generalize nots c 401 p = s at *
      by_cases e1 : c (p + s) = 140
      · rw [if_pos e1]
        by_cases e2 : deep = 8
        · rw [if_pos e2]; intro h; cases h
        · rw [if_neg e2]
          intro ok
          have hp := hlt (p + s) (by omega)
          obtain ⟨p2, q2, cs2, D2, e3, e4⟩ := pThen_ok ok
          have s2 := pT_ok (v := v) (lw := lw) hN hf n 0 (deep + 1) (p + s + 1) q a (by omega) h2
          rw [e3] at s2
          obtain ⟨a1, a2, a3, a4, a5⟩ := s2 rfl
          simp only at a1 a2 a3 a4 a5
          rw [e4] at ok ⊢
          by_cases e5 : c p2 = 141
          · rw [if_pos e5]
            have := hlt p2 (by omega)
            exact ⟨by simp only; omega, this, a3, a4, by simp only [List.length_append]; omega⟩
          · rw [if_neg e5] at ok; cases ok
      · rw [if_neg e1]
        intro ok
        obtain ⟨p2, q2, cs2, D2, e3, e4⟩ := pThen_ok ok
        have s2 := pE_ok (v := v) (lw := lw) hN hf 30 0 deep (p + s) q a hn h2
        rw [e3] at s2
        obtain ⟨a1, a2, a3, a4, a5⟩ := s2 rfl
        simp only at a1 a2 a3 a4 a5
        rw [e4] at ok ⊢
        by_cases e5 : opC (c p2) = 0
        · rw [if_pos e5] at ok; cases ok
        · rw [if_neg e5] at ok ⊢
          have hp := hlt p2 (opC_s e5)
          obtain ⟨p3, q3, cs3, D3, e6, e7⟩ := pThen_ok ok
          have s3 := pE_ok (v := v) (lw := lw) hN hf 30 0 deep (p2 + 1) q2 (a + cs2.length) hp a4
          rw [e6] at s3
          obtain ⟨d1, d2, d3, d4, d5⟩ := s3 rfl
          simp only at d1 d2 d3 d4 d5
          rw [e7]
          exact ⟨by simp only; omega, d2, by simp only; omega, d4, by simp only [List.length_append, List.length_cons]; omega⟩
    · rw [if_neg e]
      intro ok
      obtain ⟨p1, q1, cs1, D1, e3, e4⟩ := pThen_ok ok
      have s1 := pT_ok (v := v) (lw := lw) hN hf n (lv + 1) deep p q a h1 h2
      rw [e3] at s1
      obtain ⟨a1, a2, a3, a4, a5⟩ := s1 rfl
      simp only at a1 a2 a3 a4 a5
      rw [e4] at ok ⊢
      exact pTL_ok (fun p q a g1 g2 => pT_ok (v := v) (lw := lw) hN hf n (lv + 1) deep p q a g1 g2) hN 401 p1 q1 cs1 D1 a1 a2 a3 a4 a5 ok
def EvY (bM : Int) (D : DenB) (e : Nat → Int) (l bk z : Int) : Prop := (z = 0 ∨ z = 1) ∧ (0 ≤ bM ∧ bM ≤ 1) ∧ (l = 0 → bM = bk) ∧ (l = 1 → bk = 1 → bM = 1) ∧ (l = 1 → bk = 0 → (D e = some (decide (z = 1)) ∧ bM = 0) ∨ (D e = none ∧ bM = 1))
def EvB (dd y : Nat) (b : Int) (N : Nat) (fw : Int) (c v e : Nat → Int) (p : Nat) (r : pR DenB) : Prop := ∀ (M : qMe) (l bk : Int), Ev M b N fw c v e → mZ M 479 22 = b + p → mZ M 479 24 = bk → (bk = 0 ∨ bk = 1) → (l = 0 ∨ l = 1) → wI (cal dd y [.ref 479, .int (iz l)] M) (fun z M1 => Dif M M1 DEv ∧ mZ M1 479 22 = b + r.2.1 ∧ EvY (mZ M1 479 24) r.2.2.2.2 e l bk z)
theorem ev_or {D D2 : DenB} {e : Nat → Int} {l bk z w b1 b2 : Int} (hl : l = 0 ∨ l = 1) (r1 : EvY b1 D e l bk z) (r2 : EvY b2 D2 e (if l = 1 ∧ z = 0 then 1 else 0) b1 w) : EvY b2 (dcon 0 D D2) e l bk (if z = 1 then 1 else w) := by
  obtain ⟨a1, a2, a3, a4, a5⟩ := r1
  obtain ⟨d1, d2, d3, d4, d5⟩ := r2
  refine ⟨by split <;> omega, d2, fun q => ?_, fun q q2 => ?_, fun q q2 => ?_⟩
  · rw [d3 (if_neg (by omega)), a3 q]
  · have := a4 q q2
    rcases a1 with z0 | z1
    · exact d4 (if_pos ⟨q, z0⟩) this
    · rw [d3 (if_neg (by omega)), this]
  · rcases a5 q q2 with ⟨k1, k2⟩ | ⟨k1, k2⟩
    · rcases a1 with z0 | z1
      · rw [if_neg (by omega)]
        have ed : dcon 0 D D2 e = D2 e := by unfold dcon; rw [k1, z0]; rfl
        rw [ed]
        exact d5 (if_pos ⟨q, z0⟩) k2
      · rw [if_pos z1]
        have ed : dcon 0 D D2 e = some true := by unfold dcon; rw [k1, z1]; rfl
        rw [ed]
        left
        refine ⟨rfl, ?_⟩
        rw [d3 (if_neg (by omega)), k2]
    · right
      have ed : dcon 0 D D2 e = none := by unfold dcon; rw [k1]
      refine ⟨ed, ?_⟩
      rcases a1 with z0 | z1
      · exact d4 (if_pos ⟨q, z0⟩) k2
      · rw [d3 (if_neg (by omega)), k2]
theorem ev_and {D D2 : DenB} {e : Nat → Int} {l bk z w b1 b2 : Int} (hl : l = 0 ∨ l = 1) (r1 : EvY b1 D e l bk z) (r2 : EvY b2 D2 e (if l = 1 ∧ z = 1 then 1 else 0) b1 w) : EvY b2 (dcon 1 D D2) e l bk (if z = 1 then w else 0) := by
  obtain ⟨a1, a2, a3, a4, a5⟩ := r1
  obtain ⟨d1, d2, d3, d4, d5⟩ := r2
  refine ⟨by split <;> omega, d2, fun q => ?_, fun q q2 => ?_, fun q q2 => ?_⟩
  · rw [d3 (if_neg (by omega)), a3 q]
  · have := a4 q q2
    rcases a1 with z0 | z1
    · rw [d3 (if_neg (by omega)), this]
    · exact d4 (if_pos ⟨q, z1⟩) this
  · rcases a5 q q2 with ⟨k1, k2⟩ | ⟨k1, k2⟩
    · rcases a1 with z0 | z1
      · rw [if_neg (by omega)]
        have ed : dcon 1 D D2 e = some false := by unfold dcon; rw [k1, z0]; rfl
        rw [ed]
        left
        refine ⟨rfl, ?_⟩
        rw [d3 (if_neg (by omega)), k2]
      · rw [if_pos z1]
        have ed : dcon 1 D D2 e = D2 e := by unfold dcon; rw [k1, z1]; rfl
        rw [ed]
        exact d5 (if_pos ⟨q, z1⟩) k2
    · right
      have ed : dcon 1 D D2 e = none := by unfold dcon; rw [k1]
      refine ⟨ed, ?_⟩
      rcases a1 with z0 | z1
      · rw [d3 (if_neg (by omega)), k2]
      · exact d4 (if_pos ⟨q, z1⟩) k2
theorem ev_not {D : DenB} {e : Nat → Int} {l bk z b1 : Int} {s : Nat} (r1 : EvY b1 D e l bk z) : EvY b1 (dnot s D) e l bk (if z = ((s % 2 : Nat) : Int) then 0 else 1) := by
  obtain ⟨a1, a2, a3, a4, a5⟩ := r1
  refine ⟨by split <;> omega, a2, a3, a4, fun q q2 => ?_⟩
  rcases a5 q q2 with ⟨k1, k2⟩ | ⟨k1, k2⟩
  · left
    refine ⟨?_, k2⟩
    unfold dnot
    rw [k1]
    rcases a1 with z0 | z1
    · subst z0
      rcases (show s % 2 = 0 ∨ s % 2 = 1 by omega) with m | m
      · rw [m]; rfl
      · rw [m]; rfl
    · subst z1
      rcases (show s % 2 = 0 ∨ s % 2 = 1 by omega) with m | m
      · rw [m]; rfl
      · rw [m]; rfl
  · right
    refine ⟨?_, k2⟩
    unfold dnot
    rw [k1]

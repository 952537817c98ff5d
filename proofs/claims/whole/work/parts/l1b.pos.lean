/-! where a reading stands is never beyond the end -/
theorem pThen_p {α β : Type} {N : Nat} {r : pR α} {z : β} {k : Nat → Nat → List Int → α → pR β} (h : r.2.1 ≤ N) (hk : ∀ p q cs D, r = (true, p, q, cs, D) → p ≤ N → (k p q cs D).2.1 ≤ N) : (pThen r z k).2.1 ≤ N := by
  obtain ⟨b, p, q, cs, D⟩ := r
  cases b
  · exact h
  · exact hk p q cs D rfl h
section
variable {c v : Nat → Int} {fw lw : Int} {N : Nat}
theorem lt_tok (hN : ∀ p, N ≤ p → c p = 0) {p : Nat} (h : ¬ c p = 0) : p + 1 ≤ N := by
  rcases Nat.lt_or_ge p N with z | z
  · exact z
  · exact absurd (hN p z) h
theorem pLo_p {lv a : Nat} {sub : Nat → Nat → Nat → pR Den} (hN : ∀ p, N ≤ p → c p = 0) (hs : ∀ p q a, p ≤ N → (sub p q a).2.1 ≤ N) : ∀ (k p q : Nat) (cs : List Int) (D : Den), p ≤ N → (pLo c lv a sub k p q cs D).2.1 ≤ N
  | 0, p, q, cs, D, h => h
  | k + 1, p, q, cs, D, h => by
    unfold pLo
    by_cases e : opA lv (c p) = 0
    · rw [if_pos e]; exact h
    · rw [if_neg e]
      exact pThen_p (hs _ _ _ (lt_tok hN (opA_s e))) (fun p2 q2 cs2 D2 _ g => pLo_p hN hs k p2 q2 _ _ g)
theorem pE_p (hN : ∀ p, N ≤ p → c p = 0) (hf : 0 < fw) : ∀ (n lv deep p q a : Nat), p ≤ N → (pE c v fw lw n lv deep p q a).2.1 ≤ N
  | 0, lv, deep, p, q, a, h => h
  | n + 1, lv, deep, p, q, a, h => by
    unfold pE
    by_cases e : lv = 2
    · rw [if_pos e]
      by_cases e1 : c p = 191
      · rw [if_pos e1]
        by_cases e2 : deep = 8
        · rw [if_pos e2]; exact h
        · rw [if_neg e2]
          refine pThen_p (pE_p hN hf n 0 (deep + 1) (p + 1) q a (lt_tok hN (by omega))) (fun p1 q1 cs D _ g => ?_)
          by_cases e3 : c p1 = 193
          · rw [if_pos e3]; exact lt_tok hN (by omega)
          · rw [if_neg e3]; exact g
      · rw [if_neg e1]
        by_cases e2 : q = 50
        · rw [if_pos e2]; exact h
        · rw [if_neg e2]
          by_cases e3 : c p = 50 ∧ v p ≤ 1000
          · rw [if_pos e3]; exact lt_tok hN (by omega)
          · rw [if_neg e3]
            by_cases e4 : fw ≤ c p ∧ c p ≤ lw
            · rw [if_pos e4]; exact lt_tok hN (by omega)
            · rw [if_neg e4]; exact h
    · rw [if_neg e]
      exact pThen_p (pE_p hN hf n (lv + 1) deep p q a h) (fun p1 q1 cs D _ g => pLo_p hN (fun p q a g2 => pE_p hN hf n (lv + 1) deep p q a g2) 401 p1 q1 cs D g)
theorem nots_p (hN : ∀ p, N ≤ p → c p = 0) : ∀ k p : Nat, p ≤ N → p + nots c k p ≤ N
  | 0, p, h => h
  | k + 1, p, h => by
    rw [nots]
    by_cases e : c p = 8
    · rw [if_pos e]
      have := nots_p hN k (p + 1) (lt_tok hN (by omega))
      omega
    · rw [if_neg e]; exact h
theorem pTL_p {lv a : Nat} {sub : Nat → Nat → Nat → pR DenB} (hN : ∀ p, N ≤ p → c p = 0) (hs : ∀ p q a, p ≤ N → (sub p q a).2.1 ≤ N) : ∀ (k p q : Nat) (cs : List Int) (D : DenB), p ≤ N → (pTL c lv a sub k p q cs D).2.1 ≤ N
  | 0, p, q, cs, D, h => h
  | k + 1, p, q, cs, D, h => by
    unfold pTL
    by_cases e : ¬ c p = 6 + (lv : Int)
    · rw [if_pos e]; exact h
    · rw [if_neg e]
      exact pThen_p (hs _ _ _ (lt_tok hN (by omega))) (fun p2 q2 cs2 D2 _ g => pTL_p hN hs k p2 q2 _ _ g)
theorem pT_p (hN : ∀ p, N ≤ p → c p = 0) (hf : 0 < fw) : ∀ (n lv deep p q a : Nat), p ≤ N → (pT c v fw lw n lv deep p q a).2.1 ≤ N
  | 0, lv, deep, p, q, a, h => h
  | n + 1, lv, deep, p, q, a, h => by
    have nn := nots_p hN 401 p h
    unfold pT
    by_cases e : lv = 2
    · rw [if_pos e]
      generalize p + nots c 401 p = pm at *
      generalize nots c 401 p = m at *
      by_cases e1 : c pm = 140
      · rw [if_pos e1]
        by_cases e2 : deep = 8
        · rw [if_pos e2]; exact nn
        · rw [if_neg e2]
          refine pThen_p (pT_p hN hf n 0 (deep + 1) (pm + 1) q a (lt_tok hN (by omega))) (fun p1 q1 cs D _ g => ?_)
          by_cases e3 : c p1 = 141
          · rw [if_pos e3]; exact lt_tok hN (by omega)
          · rw [if_neg e3]; exact g
      · rw [if_neg e1]
        refine pThen_p (pE_p hN hf 30 0 deep pm q a nn) (fun p1 q1 cs D _ g => ?_)
        by_cases e2 : opC (c p1) = 0
        · rw [if_pos e2]; exact g
        · rw [if_neg e2]
          exact pThen_p (pE_p hN hf 30 0 deep (p1 + 1) q1 _ (lt_tok hN (opC_s e2))) (fun p2 q2 cs2 D2 _ g2 => g2)
    · rw [if_neg e]
      exact pThen_p (pT_p hN hf n (lv + 1) deep p q a h) (fun p1 q1 cs D _ g => pTL_p hN (fun p q a g2 => pT_p hN hf n (lv + 1) deep p q a g2) 401 p1 q1 cs D g)
theorem pSs_p (hN : ∀ p, N ≤ p → c p = 0) (hf : 0 < fw) : ∀ (ss : List Int) (p q a : Nat), (∀ s, s ∈ ss → ¬ s = 0) → p ≤ N → (pSs c v fw lw ss p q a).2.1 ≤ N
  | [], p, q, a, _, h => by
    rw [pSs_nil]
    exact pThen_p (pE_p hN hf 30 0 0 p q a h) (fun p1 q1 cs D _ g => g)
  | s :: ss, p, q, a, h0, h => by
    rw [pSs_cons]
    refine pThen_p (pE_p hN hf 30 0 0 p q a h) (fun p1 q1 cs D _ g => ?_)
    by_cases e : c p1 = s
    · rw [if_pos e]
      have s0 := h0 s (List.mem_cons_self ..)
      exact pThen_p (pSs_p hN hf ss (p1 + 1) q1 _ (fun t ht => h0 t (List.mem_cons_of_mem _ ht)) (lt_tok hN (by omega))) (fun p2 q2 cs2 D2 _ g2 => g2)
    · rw [if_neg e]; exact g
theorem pIf_p (hN : ∀ p, N ≤ p → c p = 0) (hf : 0 < fw) {p q a : Nat} (h : p ≤ N) : (pIf c v fw lw p q a).2.1 ≤ N := by
  unfold pIf
  by_cases e : c p = 5
  · rw [if_pos e]
    exact pThen_p (pT_p hN hf 60 0 0 (p + 1) q a (lt_tok hN (by omega))) (fun p1 q1 cs D _ g => g)
  · rw [if_neg e]; exact h
theorem pTimes_p {law : Bool} (hN : ∀ p, N ≤ p → c p = 0) {p q : Nat} (h : p ≤ N) : (pTimes c v law p q).2.1 ≤ N := by
  unfold pTimes
  by_cases e : law = false ∧ c p = 30
  · rw [if_pos e]
    have := lt_tok hN (p := p) (by omega)
    by_cases e1 : c (p + 1) = 50 ∧ 1 ≤ v (p + 1) ∧ v (p + 1) ≤ 20
    · rw [if_pos e1]
      exact lt_tok hN (p := p + 1) (by omega)
    · rw [if_neg e1]; exact this
  · rw [if_neg e]; exact h
theorem seps_l {law : Bool} {k : Nat} {ss : List Int} (h : seps law k = some ss) : ss.length ≤ 3 ∧ ∀ s, s ∈ ss → ¬ s = 0 := by
  cases law
  · have h : (if k = 0 then some [24, 25, 26] else if k = 1 then some [28] else none) = some ss := h
    by_cases k0 : k = 0
    · rw [if_pos k0] at h; cases h; decide
    · rw [if_neg k0] at h
      by_cases k1 : k = 1
      · rw [if_pos k1] at h; cases h; decide
      · rw [if_neg k1] at h; cases h
  · have h : (if k ≤ 1 then some [] else none) = some ss := h
    by_cases k0 : k ≤ 1
    · rw [if_pos k0] at h; cases h; decide
    · rw [if_neg k0] at h; cases h
theorem pItm_p {law : Bool} (hN : ∀ p, N ≤ p → c p = 0) {p q a : Nat} (h : p ≤ N) : (pItm c v law p q a).2.1 ≤ N := by
  unfold pItm
  by_cases e : kOf law (c p) = 9
  · rw [if_pos e]; exact h
  · rw [if_neg e]
    have fp := (fwOf_p (law := law)).1
    have c0 : ¬ c p = 0 := fun z => e (by rw [z]; cases law <;> rfl)
    refine pThen_p ?_ (fun p1 q1 cs1 Ss _ g1 => pThen_p (pTimes_p hN g1) (fun p2 q2 _ t _ g2 => pThen_p (pIf_p hN fp g2) (fun p3 q3 cs3 T _ g3 => g3)))
    cases hs : seps law (kOf law (c p)) with
    | none => exact lt_tok hN c0
    | some ss => exact pSs_p hN fp ss (p + 1) q a (seps_l hs).2 (lt_tok hN c0)
end

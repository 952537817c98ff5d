section
variable {cd : Nat → Int} {len nw : Nat} {e : Nat → Int}
theorem pLo_pre {c : Nat → Int} {lv a : Nat} {sub : Nat → Nat → Nat → pR Den} : ∀ (k p q : Nat) (cs : List Int) (D : Den), (pLo c lv a sub k p q cs D).1 = true → ∃ rest, (pLo c lv a sub k p q cs D).2.2.2.1 = cs ++ rest
  | 0, p, q, cs, D, h => by cases h
  | k + 1, p, q, cs, D, h => by
    unfold pLo at h ⊢
    by_cases e : opA lv (c p) = 0
    · rw [if_pos e]; exact ⟨[], by rw [List.append_nil]⟩
    · rw [if_neg e] at h ⊢
      obtain ⟨p2, q2, cs2, D2, e2, e3⟩ := pThen_ok h
      rw [e3] at h ⊢
      obtain ⟨rest, hr⟩ := pLo_pre k p2 q2 _ _ h
      exact ⟨cs2 ++ [((opA lv (c p) : Nat) : Int)] ++ rest, by rw [hr]; simp only [List.append_assoc]⟩
theorem rk_L {c : Nat → Int} {lv a N : Nat} {sub : Nat → Nat → Nat → pR Den} (hN : ∀ p, N ≤ p → c p = 0) (hs : ∀ p q a p1 q1 cs D, p ≤ N → q ≤ 50 → sub p q a = (true, p1, q1, cs, D) → (p1 ≤ N ∧ q < q1 ∧ q1 ≤ 50) ∧ (At cd a cs → a + cs.length ≤ len → ∀ st : List Int, st.length ≤ q → Rx cd len nw e a (a + cs.length) st (D e))) {st : List Int} : ∀ (k p q : Nat) (cs : List Int) (D : Den) (p1 q1 : Nat) (cs1 : List Int) (D1 : Den), pLo c lv a sub k p q cs D = (true, p1, q1, cs1, D1) → p ≤ N → q ≤ 50 → At cd a cs1 → a + cs1.length ≤ len → st.length + 1 ≤ q → Rx cd len nw e a (a + cs.length) st (D e) → Rx cd len nw e a (a + cs1.length) st (D1 e)
  | 0, p, q, cs, D, p1, q1, cs1, D1, h, _, _, _, _, _, _ => by cases h
  | k + 1, p, q, cs, D, p1, q1, cs1, D1, h, hp, hq, hA, hl, hst, hx => by
    have h0 := h
    unfold pLo at h
    by_cases e0 : opA lv (c p) = 0
    · rw [if_pos e0] at h
      simp only [Prod.mk.injEq, true_and] at h
      obtain ⟨rfl, rfl, rfl, rfl⟩ := h
      exact hx
    · rw [if_neg e0] at h
      obtain ⟨p2, q2, cs2, D2, e2, e3⟩ := pThen_ok (by rw [h])
      rw [e3] at h
      have hpN : p < N := by
        rcases Nat.lt_or_ge p N with z | z
        · exact z
        · exact absurd (hN p z) (opA_s e0)
      obtain ⟨⟨g1, g2, g3⟩, g4⟩ := hs (p + 1) q (a + cs.length) p2 q2 cs2 D2 hpN hq e2
      obtain ⟨rest, hr⟩ := pLo_pre k p2 q2 _ _ (by rw [h])
      rw [h] at hr
      have hr : cs1 = cs ++ cs2 ++ [((opA lv (c p) : Nat) : Int)] ++ rest := hr
      have A0 := hA
      rw [hr] at A0 hl
      have A1 := At_l A0
      have A2 := At_l A1
      have A3 := At_r A2
      have A4 := At_h (At_r A1)
      simp only [List.length_append, List.length_cons, List.length_nil] at hl A4
      have ob : 6 ≤ opA lv (c p) ∧ opA lv (c p) ≤ 10 := by
        refine ⟨?_, opA_b⟩
        unfold opA at e0 ⊢
        repeat (first | omega | split at e0 | split)
      have hb := Rx_bin (nw := nw) (e := e) (st := st) (D := D) (D2 := D2) (op := opA lv (c p)) (a := a) (m := a + cs.length) (z := a + cs.length + cs2.length) hx (fun v _ => g4 A3 (by omega) (v :: st) (by simp only [List.length_cons]; omega)) ob (by rw [Nat.add_assoc]; exact A4) (by omega) (by omega)
      refine rk_L hN hs k p2 q2 _ _ p1 q1 cs1 D1 h g1 g3 hA (by rw [hr]; simp only [List.length_append, List.length_cons, List.length_nil]; omega) (by omega) ?_
      rw [show a + (cs ++ cs2 ++ [((opA lv (c p) : Nat) : Int)]).length = a + cs.length + cs2.length + 1 by simp only [List.length_append, List.length_cons, List.length_nil]; omega]
      exact hb
theorem chk_s {z : Int} (h : -1000000000 ≤ z ∧ z ≤ 1000000000) : chk z = some z := if_pos h
theorem rk_E {c v : Nat → Int} {fw lw : Int} {N : Nat} (hN : ∀ p, N ≤ p → c p = 0) (hf : 0 < fw) (hv : ∀ p, 0 ≤ v p) (hw : lw < fw + nw) (he : ∀ k, k < nw → -1000000000 ≤ e k ∧ e k ≤ 1000000000) : ∀ (n lv deep p q a p1 q1 : Nat) (cs : List Int) (D : Den), p ≤ N → q ≤ 50 → pE c v fw lw n lv deep p q a = (true, p1, q1, cs, D) → At cd a cs → a + cs.length ≤ len → ∀ st : List Int, st.length ≤ q → Rx cd len nw e a (a + cs.length) st (D e)
  | 0, _, _, _, _, _, _, _, _, _, _, _, h, _, _, _, _ => by cases h
  | n + 1, lv, deep, p, q, a, p1, q1, cs, D, hp, hq, h, hA, hl, st, hst => by
    have hlt : ∀ p, ¬ c p = 0 → p < N := fun p q => by
      rcases Nat.lt_or_ge p N with z | z
      · exact z
      · exact absurd (hN p z) q
    unfold pE at h
    by_cases e0 : lv = 2
    · rw [if_pos e0] at h
      by_cases c1 : c p = 191
      · rw [if_pos c1] at h
        by_cases c2 : deep = 8
        · rw [if_pos c2] at h; cases h
        · rw [if_neg c2] at h
          obtain ⟨p2, q2, cs2, D2, e3, e4⟩ := pThen_ok (by rw [h])
          rw [e4] at h
          by_cases c3 : c p2 = 193
          · rw [if_pos c3] at h
            simp only [Prod.mk.injEq, true_and] at h
            obtain ⟨rfl, rfl, rfl, rfl⟩ := h
            exact rk_E hN hf hv hw he n 0 (deep + 1) (p + 1) q a p2 q2 cs2 D2 (hlt p (by omega)) hq e3 hA hl st hst
          · rw [if_neg c3] at h; cases h
      · rw [if_neg c1] at h
        by_cases c2 : q = 50
        · rw [if_pos c2] at h; cases h
        · rw [if_neg c2] at h
          by_cases c3 : c p = 50 ∧ v p ≤ 1000
          · rw [if_pos c3] at h
            simp only [Prod.mk.injEq, true_and] at h
            obtain ⟨rfl, rfl, rfl, rfl⟩ := h
            simp only [List.length_cons, List.length_nil] at hl
            have := hv p
            exact Rx_push (w := v p) (Or.inl rfl) (At_h hA) (by omega) (by omega) (by omega) (by unfold rmade; rw [if_pos rfl]; exact chk_s (by omega))
          · rw [if_neg c3] at h
            by_cases c4 : fw ≤ c p ∧ c p ≤ lw
            · rw [if_pos c4] at h
              simp only [Prod.mk.injEq, true_and] at h
              obtain ⟨rfl, rfl, rfl, rfl⟩ := h
              simp only [List.length_cons, List.length_nil] at hl
              exact Rx_push (w := c p - fw) (Or.inr rfl) (At_h hA) (by omega) (by omega) (by omega) (by unfold rmade; rw [if_neg (by decide), if_pos rfl, if_pos (by omega)]; exact chk_s (he _ (by omega)))
            · rw [if_neg c4] at h; cases h
    · rw [if_neg e0] at h
      obtain ⟨p2, q2, cs2, D2, e3, e4⟩ := pThen_ok (by rw [h])
      rw [e4] at h
      have sok := fun p q a h1 h2 => pE_ok (c := c) (v := v) (fw := fw) (lw := lw) (N := N) hN hf n (lv + 1) deep p q a h1 h2
      have hs : ∀ p q a p1 q1 cs D, p ≤ N → q ≤ 50 → pE c v fw lw n (lv + 1) deep p q a = (true, p1, q1, cs, D) → (p1 ≤ N ∧ q < q1 ∧ q1 ≤ 50) ∧ (At cd a cs → a + cs.length ≤ len → ∀ st : List Int, st.length ≤ q → Rx cd len nw e a (a + cs.length) st (D e)) := by
        intro p q a p1 q1 cs D g1 g2 g3
        have so := sok p q a g1 g2
        have sq := pE_q (c := c) (v := v) (fw := fw) (lw := lw) n (lv + 1) deep p q a (by rw [g3])
        rw [g3] at so sq
        have so := so rfl
        exact ⟨⟨so.2.1, sq, so.2.2.2.1⟩, fun hA hl st hst => rk_E hN hf hv hw he n (lv + 1) deep p q a p1 q1 cs D g1 g2 g3 hA hl st hst⟩
      obtain ⟨⟨g1, g2, g3⟩, g4⟩ := hs p q a p2 q2 cs2 D2 hp hq e3
      obtain ⟨rest, hr⟩ := pLo_pre 401 p2 q2 cs2 D2 (by rw [h])
      rw [h] at hr
      have hr : cs = cs2 ++ rest := hr
      have A0 := hA
      have hl0 := hl
      rw [hr] at A0 hl0
      rw [List.length_append] at hl0
      exact rk_L hN hs 401 p2 q2 cs2 D2 p1 q1 cs D h g1 g3 hA hl (by omega) (g4 (At_l A0) (by omega) st hst)
end

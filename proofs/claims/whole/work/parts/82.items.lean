/-! a TEXT as read: its items' code reckons what they mean -/
section
variable {cd : Nat → Int} {len nw : Nat} {e c v : Nat → Int} {fw lw : Int} {N : Nat}
theorem rk_sum {p q a p1 q1 : Nat} {cs : List Int} {D : Den} (hN : ∀ p, N ≤ p → c p = 0) (hf : 0 < fw) (hv : ∀ p, 0 ≤ v p) (hw : lw < fw + nw) (he : ∀ k, k < nw → -1000000000 ≤ e k ∧ e k ≤ 1000000000) (hp : p ≤ N) (hq : q ≤ 50) (h : pE c v fw lw 30 0 0 p q a = (true, p1, q1, cs, D)) (hA : At cd a (cs ++ [0])) (hl : a + cs.length + 1 ≤ len) (h5 : len ≤ 512) : rkv cd len nw e a = D e := by
  have x := rk_E (len := len) (nw := nw) (e := e) hN hf hv hw he 30 0 0 p q a p1 q1 cs D hp hq h (At_l hA) (by omega) [] (Nat.zero_le _)
  obtain ⟨f', k1, k2, k3⟩ := x 1000 (by omega)
  unfold rkv
  rw [if_neg (by omega), Int.toNat_natCast]
  cases hd : D e with
  | none => exact k2 hd
  | some w =>
    rw [k3 w hd]
    exact rk_stop k1 (by omega) (At_h (At_r hA)) (by simp)
theorem rk_test {p q a p1 q1 : Nat} {cs : List Int} {D : DenB} (hN : ∀ p, N ≤ p → c p = 0) (hf : 0 < fw) (hv : ∀ p, 0 ≤ v p) (hw : lw < fw + nw) (he : ∀ k, k < nw → -1000000000 ≤ e k ∧ e k ≤ 1000000000) (hp : p ≤ N) (hq : q ≤ 50) (h : pT c v fw lw 60 0 0 p q a = (true, p1, q1, cs, D)) (hA : At cd a (cs ++ [0])) (hl : a + cs.length + 1 ≤ len) (h5 : len ≤ 512) : rkv cd len nw e a = ob01 (D e) := by
  have x := rk_T (len := len) (nw := nw) (e := e) hN hf hv hw he 60 0 0 p q a p1 q1 cs D (by omega) hp hq h (At_l hA) (by omega) [] (Nat.zero_le _)
  obtain ⟨f', k1, k2, k3⟩ := x 1000 (by omega)
  unfold rkv
  rw [if_neg (by omega), Int.toNat_natCast]
  cases hd : ob01 (D e) with
  | none => exact k2 hd
  | some w =>
    rw [k3 w hd]
    exact rk_stop k1 (by omega) (At_h (At_r hA)) (by simp)
theorem pSs_ok (hN : ∀ p, N ≤ p → c p = 0) (hf : 0 < fw) : ∀ (ss : List Int) (p q a p1 q1 : Nat) (cs : List Int) (Ss : List (Nat × Den)), (∀ s, s ∈ ss → ¬ s = 0) → p ≤ N → q ≤ 50 → pSs c v fw lw ss p q a = (true, p1, q1, cs, Ss) → p < p1 ∧ p1 ≤ N ∧ q ≤ q1 ∧ q1 ≤ 50 ∧ cs.length ≤ p1 - p + 1 ∧ Ss.length = ss.length + 1
  | [], p, q, a, p1, q1, cs, Ss, _, hp, hq, h => by
    unfold pSs at h
    obtain ⟨p2, q2, cs2, D, e1, e2⟩ := pThen_ok (by rw [h])
    rw [e2] at h
    simp only [Prod.mk.injEq, true_and] at h
    obtain ⟨rfl, rfl, rfl, rfl⟩ := h
    have s := pE_ok (v := v) (lw := lw) hN hf 30 0 0 p q a hp hq
    rw [e1] at s
    obtain ⟨a1, a2, a3, a4, a5⟩ := s rfl
    simp only at a1 a2 a3 a4 a5
    exact ⟨a1, a2, a3, a4, by simp only [List.length_append, List.length_cons, List.length_nil]; omega, rfl⟩
  | s :: ss, p, q, a, p1, q1, cs, Ss, h0, hp, hq, h => by
    unfold pSs at h
    obtain ⟨p2, q2, cs2, D, e1, e2⟩ := pThen_ok (by rw [h])
    rw [e2] at h
    have so := pE_ok (v := v) (lw := lw) hN hf 30 0 0 p q a hp hq
    rw [e1] at so
    obtain ⟨a1, a2, a3, a4, a5⟩ := so rfl
    simp only at a1 a2 a3 a4 a5
    by_cases c1 : c p2 = s
    · rw [if_pos c1] at h
      obtain ⟨p3, q3, cs3, Ds, e3, e4⟩ := pThen_ok (by rw [h])
      rw [e4] at h
      simp only [Prod.mk.injEq, true_and] at h
      obtain ⟨rfl, rfl, rfl, rfl⟩ := h
      have hp2 : p2 < N := by
        rcases Nat.lt_or_ge p2 N with z | z
        · exact z
        · have := hN p2 z
          exact absurd (c1.symm.trans this) (h0 s List.mem_cons_self)
      obtain ⟨b1, b2, b3, b4, b5, b6⟩ := pSs_ok hN hf ss (p2 + 1) q2 _ p3 q3 cs3 Ds (fun s hs => h0 s (List.mem_cons_of_mem _ hs)) hp2 a4 e3
      exact ⟨by omega, b2, by omega, b4, by simp only [List.length_append, List.length_cons]; omega, by simp only [List.length_cons]; omega⟩
    · rw [if_neg c1] at h; cases h
theorem pSs_rk (hN : ∀ p, N ≤ p → c p = 0) (hf : 0 < fw) (hv : ∀ p, 0 ≤ v p) (hw : lw < fw + nw) (he : ∀ k, k < nw → -1000000000 ≤ e k ∧ e k ≤ 1000000000) (h5 : len ≤ 512) : ∀ (ss : List Int) (p q a p1 q1 : Nat) (cs : List Int) (Ss : List (Nat × Den)), (∀ s, s ∈ ss → ¬ s = 0) → p ≤ N → q ≤ 50 → pSs c v fw lw ss p q a = (true, p1, q1, cs, Ss) → At cd a cs → a + cs.length ≤ len → ∀ s, s ∈ Ss → s.1 ≤ 512 ∧ rkv cd len nw e s.1 = s.2 e
  | [], p, q, a, p1, q1, cs, Ss, _, hp, hq, h, hA, hl, s, hs => by
    unfold pSs at h
    obtain ⟨p2, q2, cs2, D, e1, e2⟩ := pThen_ok (by rw [h])
    rw [e2] at h
    simp only [Prod.mk.injEq, true_and] at h
    obtain ⟨rfl, rfl, rfl, rfl⟩ := h
    simp only [List.length_append, List.length_cons, List.length_nil] at hl
    rw [List.mem_singleton] at hs
    subst hs
    exact ⟨by simp only; omega, rk_sum hN hf hv hw he hp hq e1 hA (by omega) h5⟩
  | s0 :: ss, p, q, a, p1, q1, cs, Ss, h0, hp, hq, h, hA, hl, s, hs => by
    unfold pSs at h
    obtain ⟨p2, q2, cs2, D, e1, e2⟩ := pThen_ok (by rw [h])
    rw [e2] at h
    have so := pE_ok (v := v) (lw := lw) hN hf 30 0 0 p q a hp hq
    rw [e1] at so
    obtain ⟨a1, a2, a3, a4, a5⟩ := so rfl
    simp only at a1 a2 a3 a4 a5
    by_cases c1 : c p2 = s0
    · rw [if_pos c1] at h
      obtain ⟨p3, q3, cs3, Ds, e3, e4⟩ := pThen_ok (by rw [h])
      rw [e4] at h
      simp only [Prod.mk.injEq, true_and] at h
      obtain ⟨rfl, rfl, rfl, rfl⟩ := h
      have hp2 : p2 < N := by
        rcases Nat.lt_or_ge p2 N with z | z
        · exact z
        · have := hN p2 z
          exact absurd (c1.symm.trans this) (h0 s0 List.mem_cons_self)
      simp only [List.length_append, List.length_cons] at hl
      have A1 : At cd a (cs2 ++ [0]) := by
        have : At cd a ((cs2 ++ [0]) ++ cs3) := by rw [List.append_assoc]; exact hA
        exact At_l this
      have A2 : At cd (a + cs2.length + 1) cs3 := At_t (At_r hA)
      rcases List.mem_cons.mp hs with rfl | hs
      · exact ⟨by simp only; omega, rk_sum hN hf hv hw he hp hq e1 A1 (by omega) h5⟩
      · exact pSs_rk hN hf hv hw he h5 ss (p2 + 1) q2 _ p3 q3 cs3 Ds (fun s hs => h0 s (List.mem_cons_of_mem _ hs)) hp2 a4 e3 A2 (by omega) s hs
    · rw [if_neg c1] at h; cases h
end
theorem seps_nz {law : Bool} {k : Nat} {ss : List Int} (h : seps law k = some ss) : ∀ s, s ∈ ss → ¬ s = 0 := by
  unfold seps at h
  cases law with
  | true =>
    by_cases g : k ≤ 1
    · rw [if_pos rfl, if_pos g] at h; cases h; intro s hs; cases hs
    · rw [if_pos rfl, if_neg g] at h; cases h
  | false =>
    rw [if_neg (by decide)] at h
    by_cases g : k = 0
    · rw [if_pos g] at h; cases h
      intro s hs
      rcases List.mem_cons.mp hs with rfl | hs
      · decide
      · rcases List.mem_cons.mp hs with rfl | hs
        · decide
        · rcases List.mem_cons.mp hs with rfl | hs
          · decide
          · cases hs
    · by_cases g1 : k = 1
      · rw [if_neg g, if_pos g1] at h; cases h
        intro s hs
        rcases List.mem_cons.mp hs with rfl | hs
        · decide
        · cases hs
      · rw [if_neg g, if_neg g1] at h; cases h
theorem kOf_nz {law : Bool} {c : Int} (h : ¬ kOf law c = 9) : ¬ c = 0 := by
  intro q
  subst q
  apply h
  cases law <;> rfl
theorem fw_p (law : Bool) : 0 < fwOf law := by cases law <;> decide
/-- an item is bounded, and its code reckons what it means -/
theorem pItm_all {cd : Nat → Int} {len nw : Nat} {e c v : Nat → Int} {N : Nat} {law : Bool} (hN : ∀ p, N ≤ p → c p = 0) (hv : ∀ p, 0 ≤ v p) (hw : lwOf law < fwOf law + nw) (he : ∀ k, k < nw → -1000000000 ≤ e k ∧ e k ≤ 1000000000) {p q a p1 q1 : Nat} {cs : List Int} {it : Itm} (hp : p ≤ N) (hq : q ≤ 50) (h : pItm c v law p q a = (true, p1, q1, cs, it)) : (p < p1 ∧ p1 ≤ N ∧ q ≤ q1 ∧ q1 ≤ 50 ∧ cs.length ≤ p1 - p) ∧ (it.1 ≤ 3 ∧ (law = false → it.1 ≤ 2) ∧ 1 ≤ it.2.2.2 ∧ it.2.2.2 ≤ 20 ∧ (match seps law it.1 with
    | none => it.2.1 = []
    | some ss => it.2.1.length = ss.length + 1)) ∧ (At cd a cs → a + cs.length ≤ len → len ≤ 512 → (∀ s, s ∈ it.2.1 → s.1 ≤ 512 ∧ rkv cd len nw e s.1 = s.2 e) ∧ (∀ t, it.2.2.1 = some t → t.1 ≤ 512 ∧ rkv cd len nw e t.1 = ob01 (t.2 e))) := by
  unfold pItm at h
  by_cases k9 : kOf law (c p) = 9
  · rw [if_pos k9] at h; cases h
  · rw [if_neg k9] at h
    have hpN : p < N := by
      rcases Nat.lt_or_ge p N with z | z
      · exact z
      · exact absurd (hN p z) (kOf_nz k9)
    have kb : kOf law (c p) ≤ 3 ∧ (law = false → kOf law (c p) ≤ 2) := by
      cases law with
      | true => exact ⟨(kLaw_c k9).2.2, fun q => by cases q⟩
      | false =>
        have : kOrd (c p) ≤ 2 := by
          have k9 : ¬ kOrd (c p) = 9 := k9
          unfold kOrd at k9 ⊢
          repeat (first | omega | split at k9 | split)
        exact ⟨by show kOrd (c p) ≤ 3; omega, fun _ => this⟩
    generalize kOf law (c p) = kk at *
    obtain ⟨p2, q2, cs2, Ss, e1, e2⟩ := pThen_ok (by rw [h])
    rw [e2] at h
    obtain ⟨p3, q3, cs3, t, e3, e4⟩ := pThen_ok (by rw [h])
    rw [e4] at h
    obtain ⟨p4, q4, cs4, T, e5, e6⟩ := pThen_ok (by rw [h])
    rw [e6] at h
    simp only [Prod.mk.injEq, true_and] at h
    obtain ⟨rfl, rfl, rfl, rfl⟩ := h
    -- the SUMS
    have S : (p + 1 ≤ p2 ∧ p2 ≤ N ∧ q ≤ q2 ∧ q2 ≤ 50 ∧ cs2.length ≤ p2 - p) ∧ (match seps law kk with
      | none => Ss = []
      | some ss => Ss.length = ss.length + 1) ∧ (At cd a cs2 → a + cs2.length ≤ len → len ≤ 512 → ∀ s, s ∈ Ss → s.1 ≤ 512 ∧ rkv cd len nw e s.1 = s.2 e) := by
      cases hs : seps law kk with
      | none =>
        rw [hs] at e1
        have e1 : ((true, p + 1, q, [], []) : pR (List (Nat × Den))) = (true, p2, q2, cs2, Ss) := e1
        simp only [Prod.mk.injEq, true_and] at e1
        obtain ⟨rfl, rfl, rfl, rfl⟩ := e1
        exact ⟨⟨Nat.le_refl _, hpN, Nat.le_refl _, hq, by simp⟩, rfl, fun _ _ _ s hs => by cases hs⟩
      | some ss =>
        rw [hs] at e1
        have e1 : pSs c v (fwOf law) (lwOf law) ss (p + 1) q a = (true, p2, q2, cs2, Ss) := e1
        obtain ⟨b1, b2, b3, b4, b5, b6⟩ := pSs_ok hN (fw_p law) ss (p + 1) q a p2 q2 cs2 Ss (seps_nz hs) hpN hq e1
        exact ⟨⟨by omega, b2, b3, b4, by omega⟩, b6, fun hA hl h5 s hs' => pSs_rk hN (fw_p law) hv hw he h5 ss (p + 1) q a p2 q2 cs2 Ss (seps_nz hs) hpN hq e1 hA hl s hs'⟩
    obtain ⟨⟨b1, b2, b3, b4, b5⟩, b6, b7⟩ := S
    have tm : (p2 ≤ p3 ∧ p3 ≤ N ∧ q3 = q2) ∧ 1 ≤ t ∧ t ≤ 20 := by
      unfold pTimes at e3
      by_cases g : law = false ∧ c p2 = 30
      · rw [if_pos g] at e3
        by_cases g2 : c (p2 + 1) = 50 ∧ 1 ≤ v (p2 + 1) ∧ v (p2 + 1) ≤ 20
        · rw [if_pos g2] at e3
          simp only [Prod.mk.injEq, true_and] at e3
          obtain ⟨rfl, rfl, rfl, rfl⟩ := e3
          refine ⟨⟨by omega, ?_, rfl⟩, g2.2⟩
          rcases Nat.lt_or_ge (p2 + 1) N with z | z
          · exact z
          · have := hN _ z; omega
        · rw [if_neg g2] at e3; cases e3
      · rw [if_neg g] at e3
        simp only [Prod.mk.injEq, true_and] at e3
        obtain ⟨rfl, rfl, rfl, rfl⟩ := e3
        exact ⟨⟨Nat.le_refl _, b2, rfl⟩, by decide, by decide⟩
    obtain ⟨⟨t1, t2, t3⟩, t4⟩ := tm
    have io := pIf_ok hN (fw_p law) t2 (by omega) e5
    refine ⟨⟨by omega, io.2.1, by omega, io.2.2.2.1, by simp only [List.length_append]; omega⟩, ⟨kb.1, kb.2, t4.1, t4.2, b6⟩, fun hA hl h5 => ?_⟩
    simp only [List.length_append] at hl
    refine ⟨b7 (At_l hA) (by omega) h5, fun tt ht => ?_⟩
    have ht : T = some tt := ht
    subst ht
    unfold pIf at e5
    by_cases c5 : c p3 = 5
    · rw [if_pos c5] at e5
      obtain ⟨p5, q5, cs5, D, e7, e8⟩ := pThen_ok (by rw [e5])
      rw [e8] at e5
      simp only [Prod.mk.injEq, true_and] at e5
      obtain ⟨rfl, rfl, rfl, e9⟩ := e5
      cases e9
      simp only [List.length_append, List.length_cons, List.length_nil] at hl
      have hp3 : p3 < N := by
        rcases Nat.lt_or_ge p3 N with z | z
        · exact z
        · have := hN _ z; omega
      exact ⟨by simp only; omega, rk_test hN (fw_p law) hv hw he hp3 (by omega) e7 (At_r hA) (by omega) h5⟩
    · rw [if_neg c5] at e5
      simp only [Prod.mk.injEq, true_and] at e5
      obtain ⟨-, -, -, e9⟩ := e5
      cases e9

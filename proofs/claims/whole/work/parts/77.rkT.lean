section
variable {cd : Nat → Int} {len nw : Nat} {e : Nat → Int}
def ob01 (o : Option Bool) : Option Int := match o with
  | none => none
  | some b => some (b01 b)
theorem Rx_cmp {a m z : Nat} {st : List Int} {D D2 : Den} {op : Nat} (h1 : Rx cd len nw e a m st (D e)) (h2 : ∀ v, D e = some v → Rx cd len nw e m z (v :: st) (D2 e)) (ho : op = 11 ∨ op = 12 ∨ op = 13) (hx : cd z = op) (hz : z < len) (h64 : st.length < 62) : Rx cd len nw e a (z + 1) st (ob01 (dcmp op D D2 e)) := by
  intro f hf
  obtain ⟨f1, k1, k2, k3⟩ := h1 f hf
  unfold dcmp
  cases hd : D e with
  | none => exact ⟨len + 1, by omega, fun _ => k2 hd, fun v q => by cases q⟩
  | some x =>
    obtain ⟨f2, j1, j2, j3⟩ := h2 x hd f1 k1
    have k3 := k3 x hd
    cases hd2 : D2 e with
    | none => exact ⟨len + 1, by omega, fun _ => by rw [k3]; exact j2 hd2, fun v q => by cases q⟩
    | some y =>
      have j3 := j3 y hd2
      have nd : needs op = 2 := by unfold needs; rw [if_neg (by omega), if_neg (by omega)]
      obtain ⟨f3, m1, m2, m3⟩ := rk_one (nw := nw) (e := e) (n := f2) (i := z) (st := y :: x :: st) (op := op) (w := 0) j1 hz hx (by omega) (by omega) (by omega) (by rw [nd]; simp only [List.length_cons]; omega) (by simp only [List.length_cons]; omega)
      have em : rmade nw e op 0 (top1 (y :: x :: st)) (top0 (y :: x :: st)) = some (b01 (if op = 11 then decide (x < y) else if op = 12 then decide (y < x) else decide (x = y))) := by
        unfold rmade
        rw [if_neg (by omega), if_neg (by omega), if_neg (by omega), if_neg (by omega)]
        rfl
      rw [em] at m3
      refine ⟨f3, m1, fun q => (by cases q), fun v q => ?_⟩
      have q : some (b01 (if op = 11 then decide (x < y) else if op = 12 then decide (y < x) else decide (x = y))) = some v := q
      rw [k3, j3, m3 v q, nd]
      rfl
theorem Rx_not {a z : Nat} {st : List Int} {D : DenB} {s : Nat} (h1 : Rx cd len nw e a z st (ob01 (D e))) (hx : At cd z (cnot s)) (hz : z + (cnot s).length ≤ len) (h64 : st.length < 62) : Rx cd len nw e a (z + (cnot s).length) st (ob01 (dnot s D e)) := by
  unfold cnot at *
  by_cases m : s % 2 = 1
  · rw [if_pos m] at hx hz ⊢
    intro f hf
    obtain ⟨f1, k1, k2, k3⟩ := h1 f hf
    simp only [List.length_cons, List.length_nil] at hz ⊢
    cases hd : D e with
    | none =>
      have ed : dnot s D e = none := by unfold dnot; rw [hd]
      rw [ed]
      exact ⟨len + 1, by omega, fun _ => k2 (by rw [hd]; rfl), fun v q => by cases q⟩
    | some b =>
      have ed : dnot s D e = some (!b) := by unfold dnot; rw [hd]; simp only [if_pos m]
      rw [ed]
      have k3 := k3 (b01 b) (by rw [hd]; rfl)
      obtain ⟨f3, m1, m2, m3⟩ := rk_one (nw := nw) (e := e) (n := f1) (i := z) (st := b01 b :: st) (op := 5) (w := 0) k1 (by omega) (At_h hx) (by omega) (by omega) (by omega) (by simp only [List.length_cons]; show 1 ≤ st.length + 1; omega) (by simp only [List.length_cons]; omega)
      refine ⟨f3, by omega, fun q => (by cases q), fun v q => ?_⟩
      have em : rmade nw e 5 0 (top1 (b01 b :: st)) (top0 (b01 b :: st)) = some (b01 (!b)) := by cases b <;> rfl
      have q : some (b01 (!b)) = some v := q
      rw [k3, m3 (b01 (!b)) em]
      cases q
      rfl
  · rw [if_neg m] at hx hz ⊢
    have e0 : dnot s D e = D e := by
      unfold dnot
      cases D e with
      | none => rfl
      | some b => simp only [if_neg m]
    rw [e0]
    exact h1
theorem Rx_con {a m z : Nat} {st : List Int} {D D2 : DenB} {lv : Nat} (hlv : lv ≤ 1) (h1 : Rx cd len nw e a m st (ob01 (D e))) (h2 : Rx cd len nw e (m + 1) z st (ob01 (D2 e))) (hx : cd m = 3 + (lv : Int) + 16 * (z : Int)) (hm : m < z) (hz : z ≤ len) (h64 : st.length < 62) : Rx cd len nw e a z st (ob01 (dcon lv D D2 e)) := by
  intro f hf
  obtain ⟨f1, k1, k2, k3⟩ := h1 f hf
  unfold dcon
  cases hd : D e with
  | none => exact ⟨len + 1, by omega, fun _ => k2 (by rw [hd]; rfl), fun v q => by cases q⟩
  | some b =>
    have k3 := k3 (b01 b) (by rw [hd]; rfl)
    obtain ⟨c1, c2⟩ := rk_con (nw := nw) (e := e) (n := f1) (i := m) (st := st) (b := b) hlv k1 (by omega) hx hm (by omega)
    by_cases hb : b = decide (lv = 0)
    · obtain ⟨f2, j1, j2⟩ := c1 hb
      refine ⟨f2, j1, fun q => ?_, fun v q => ?_⟩
      · simp only [if_pos hb] at q; cases q
      · simp only [if_pos hb] at q
        cases q
        rw [k3, j2]
    · obtain ⟨f2, j1, j2⟩ := c2 hb
      obtain ⟨f3, m1, m2, m3⟩ := h2 f2 j1
      refine ⟨f3, m1, fun q => ?_, fun v q => ?_⟩
      · simp only [if_neg hb] at q
        rw [k3, j2]; exact m2 q
      · simp only [if_neg hb] at q
        rw [k3, j2]; exact m3 v q
theorem pTL_pre {c : Nat → Int} {lv a : Nat} {sub : Nat → Nat → Nat → pR DenB} : ∀ (k p q : Nat) (cs : List Int) (D : DenB), (pTL c lv a sub k p q cs D).1 = true → ∃ rest, (pTL c lv a sub k p q cs D).2.2.2.1 = cs ++ rest
  | 0, p, q, cs, D, h => by cases h
  | k + 1, p, q, cs, D, h => by
    unfold pTL at h ⊢
    by_cases e : c p = 6 + (lv : Int)
    · rw [if_neg (fun q => q e)] at h ⊢
      obtain ⟨p2, q2, cs2, D2, e2, e3⟩ := pThen_ok h
      rw [e3] at h ⊢
      obtain ⟨rest, hr⟩ := pTL_pre k p2 q2 _ _ h
      exact ⟨(3 + (lv : Int) + 16 * ((a + cs.length + 1 + cs2.length : Nat) : Int)) :: cs2 ++ rest, by rw [hr]; simp only [List.append_assoc, List.cons_append]⟩
    · rw [if_pos e]; exact ⟨[], by rw [List.append_nil]⟩
theorem rk_TL {c : Nat → Int} {lv a N : Nat} {sub : Nat → Nat → Nat → pR DenB} (hlv : lv ≤ 1) (hN : ∀ p, N ≤ p → c p = 0) (hs : ∀ p q a p1 q1 cs D, p ≤ N → q ≤ 50 → sub p q a = (true, p1, q1, cs, D) → (p1 ≤ N ∧ q ≤ q1 ∧ q1 ≤ 50) ∧ (At cd a cs → a + cs.length ≤ len → ∀ st : List Int, st.length ≤ q → Rx cd len nw e a (a + cs.length) st (ob01 (D e)))) {st : List Int} : ∀ (k p q : Nat) (cs : List Int) (D : DenB) (p1 q1 : Nat) (cs1 : List Int) (D1 : DenB), pTL c lv a sub k p q cs D = (true, p1, q1, cs1, D1) → p ≤ N → q ≤ 50 → At cd a cs1 → a + cs1.length ≤ len → st.length ≤ q → Rx cd len nw e a (a + cs.length) st (ob01 (D e)) → Rx cd len nw e a (a + cs1.length) st (ob01 (D1 e))
  | 0, p, q, cs, D, p1, q1, cs1, D1, h, _, _, _, _, _, _ => by cases h
  | k + 1, p, q, cs, D, p1, q1, cs1, D1, h, hp, hq, hA, hl, hst, hx => by
    unfold pTL at h
    by_cases e0 : c p = 6 + (lv : Int)
    · rw [if_neg (fun q => q e0)] at h
      obtain ⟨p2, q2, cs2, D2, e2, e3⟩ := pThen_ok (by rw [h])
      rw [e3] at h
      have hpN : p < N := by
        rcases Nat.lt_or_ge p N with z | z
        · exact z
        · have := hN p z; omega
      obtain ⟨⟨g1, g2, g3⟩, g4⟩ := hs (p + 1) q (a + cs.length + 1) p2 q2 cs2 D2 hpN hq e2
      obtain ⟨rest, hr⟩ := pTL_pre k p2 q2 _ _ (by rw [h])
      rw [h] at hr
      have hr : cs1 = (cs ++ (3 + (lv : Int) + 16 * ((a + cs.length + 1 + cs2.length : Nat) : Int)) :: cs2) ++ rest := hr
      have A0 := hA
      rw [hr] at A0 hl
      have A1 := At_l A0
      have A2 := At_r A1
      have A3 := At_h A2
      have A4 := At_t A2
      simp only [List.length_append, List.length_cons] at hl
      have hb := Rx_con (nw := nw) (e := e) (st := st) (D := D) (D2 := D2) (a := a) (m := a + cs.length) (z := a + cs.length + 1 + cs2.length) hlv hx (g4 A4 (by omega) st hst) A3 (by omega) (by omega) (by omega)
      refine rk_TL hlv hN hs k p2 q2 _ _ p1 q1 cs1 D1 h g1 g3 hA (by rw [hr]; simp only [List.length_append, List.length_cons]; omega) (by omega) ?_
      rw [show a + (cs ++ (3 + (lv : Int) + 16 * ((a + cs.length + 1 + cs2.length : Nat) : Int)) :: cs2).length = a + cs.length + 1 + cs2.length by simp only [List.length_append, List.length_cons]; omega]
      exact hb
    · rw [if_pos e0] at h
      simp only [Prod.mk.injEq, true_and] at h
      obtain ⟨rfl, rfl, rfl, rfl⟩ := h
      exact hx
theorem rk_T {c v : Nat → Int} {fw lw : Int} {N : Nat} (hN : ∀ p, N ≤ p → c p = 0) (hf : 0 < fw) (hv : ∀ p, 0 ≤ v p) (hw : lw < fw + nw) (he : ∀ k, k < nw → -1000000000 ≤ e k ∧ e k ≤ 1000000000) : ∀ (n lv deep p q a p1 q1 : Nat) (cs : List Int) (D : DenB), lv ≤ 2 → p ≤ N → q ≤ 50 → pT c v fw lw n lv deep p q a = (true, p1, q1, cs, D) → At cd a cs → a + cs.length ≤ len → ∀ st : List Int, st.length ≤ q → Rx cd len nw e a (a + cs.length) st (ob01 (D e))
  | 0, _, _, _, _, _, _, _, _, _, _, _, _, h, _, _, _, _ => by cases h
  | n + 1, lv, deep, p, q, a, p1, q1, cs, D, hlv, hp, hq, h, hA, hl, st, hst => by
    have hlt : ∀ p, ¬ c p = 0 → p < N := fun p q => by
      rcases Nat.lt_or_ge p N with z | z
      · exact z
      · exact absurd (hN p z) q
    have hn := nots_le hN 401 p hp
    unfold pT at h
    by_cases e0 : lv = 2
    · rw [if_pos e0] at h
      generalize nots c 401 p = s at *
      by_cases c1 : c (p + s) = 140
      · rw [if_pos c1] at h
        by_cases c2 : deep = 8
        · rw [if_pos c2] at h; cases h
        · rw [if_neg c2] at h
          obtain ⟨p2, q2, cs2, D2, e3, e4⟩ := pThen_ok (by rw [h])
          rw [e4] at h
          by_cases c3 : c p2 = 141
          · rw [if_pos c3] at h
            simp only [Prod.mk.injEq, true_and] at h
            obtain ⟨rfl, rfl, rfl, rfl⟩ := h
            rw [List.length_append] at hl ⊢
            rw [← Nat.add_assoc]
            exact Rx_not (rk_T hN hf hv hw he n 0 (deep + 1) (p + s + 1) q a p2 q2 cs2 D2 (by omega) (hlt _ (by omega)) hq e3 (At_l hA) (by omega) st hst) (At_r hA) (by omega) (by omega)
          · rw [if_neg c3] at h; cases h
      · rw [if_neg c1] at h
        obtain ⟨p2, q2, cs2, D2, e3, e4⟩ := pThen_ok (by rw [h])
        rw [e4] at h
        by_cases c3 : opC (c p2) = 0
        · rw [if_pos c3] at h; cases h
        · rw [if_neg c3] at h
          obtain ⟨p3, q3, cs3, D3, e5, e6⟩ := pThen_ok (by rw [h])
          rw [e6] at h
          simp only [Prod.mk.injEq, true_and] at h
          obtain ⟨rfl, rfl, rfl, rfl⟩ := h
          have so := pE_ok (v := v) (lw := lw) hN hf 30 0 deep (p + s) q a hn hq
          have sq := pE_q (c := c) (v := v) (fw := fw) (lw := lw) 30 0 deep (p + s) q a (by rw [e3])
          rw [e3] at so sq
          obtain ⟨a1, a2, a3, a4, a5⟩ := so rfl
          simp only at a1 a2 a3 a4 a5 sq
          have hp2 := hlt p2 (opC_s c3)
          have A1 := At_l hA
          have A2 := At_l A1
          have A3 := At_r A1
          have A4 := At_h (At_r hA)
          have A5 := At_t (At_r hA)
          simp only [List.length_append, List.length_cons] at hl A4 A5 ⊢
          have x1 := rk_E (len := len) (nw := nw) (e := e) hN hf hv hw he 30 0 deep (p + s) q a p2 q2 cs2 D2 hn hq e3 A2 (by omega) st hst
          have x2 := fun w : Int => rk_E (len := len) (nw := nw) (e := e) hN hf hv hw he 30 0 deep (p2 + 1) q2 (a + cs2.length) p3 q3 cs3 D3 hp2 a4 e5 A3 (by omega) (w :: st) (by simp only [List.length_cons]; omega)
          have x3 := Rx_cmp x1 (fun w _ => x2 w) (op := opC (c p2)) (by rcases opC_c c3 with ⟨k, -⟩ | ⟨k, -⟩ | ⟨k, -⟩ <;> omega) (by rw [Nat.add_assoc]; exact A4) (by omega) (by omega)
          have x4 := Rx_not (s := s) x3 (by rw [show a + cs2.length + cs3.length + 1 = a + (cs2.length + cs3.length) + 1 by omega]; exact A5) (by omega) (by omega)
          rw [show a + (cs2.length + cs3.length + ((cnot s).length + 1)) = a + cs2.length + cs3.length + 1 + (cnot s).length by omega]
          exact x4
    · rw [if_neg e0] at h
      obtain ⟨p2, q2, cs2, D2, e3, e4⟩ := pThen_ok (by rw [h])
      rw [e4] at h
      have sok := fun p q a h1 h2 => pT_ok (c := c) (v := v) (fw := fw) (lw := lw) (N := N) hN hf n (lv + 1) deep p q a h1 h2
      have hs : ∀ p q a p1 q1 cs D, p ≤ N → q ≤ 50 → pT c v fw lw n (lv + 1) deep p q a = (true, p1, q1, cs, D) → (p1 ≤ N ∧ q ≤ q1 ∧ q1 ≤ 50) ∧ (At cd a cs → a + cs.length ≤ len → ∀ st : List Int, st.length ≤ q → Rx cd len nw e a (a + cs.length) st (ob01 (D e))) := by
        intro p q a p1 q1 cs D g1 g2 g3
        have so := sok p q a g1 g2
        rw [g3] at so
        have so := so rfl
        exact ⟨⟨so.2.1, so.2.2.1, so.2.2.2.1⟩, fun hA hl st hst => rk_T hN hf hv hw he n (lv + 1) deep p q a p1 q1 cs D (by omega) g1 g2 g3 hA hl st hst⟩
      obtain ⟨⟨g1, g2, g3⟩, g4⟩ := hs p q a p2 q2 cs2 D2 hp hq e3
      obtain ⟨rest, hr⟩ := pTL_pre 401 p2 q2 cs2 D2 (by rw [h])
      rw [h] at hr
      have hr : cs = cs2 ++ rest := hr
      have A0 := hA
      have hl0 := hl
      rw [hr] at A0 hl0
      rw [List.length_append] at hl0
      exact rk_TL (by omega) hN hs 401 p2 q2 cs2 D2 p1 q1 cs D h g1 g3 hA hl (by omega) (g4 (At_l A0) (by omega) st hst)
end

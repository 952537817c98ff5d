/-! x's stack machine as a pure function; what was read is what it reckons -/
def needs (op : Nat) : Nat := if op = 1 ∨ op = 2 then 0 else if op = 0 ∨ op = 3 ∨ op = 4 ∨ op = 5 then 1 else 2
def top0 (st : List Int) : Int := match st with
  | [] => 0
  | x :: _ => x
def top1 (st : List Int) : Int := match st with
  | _ :: y :: _ => y
  | _ => 0
def b01 (b : Bool) : Int := if b then 1 else 0
/-- none: BROKEN -/
def rmade (nw : Nat) (e : Nat → Int) (op : Nat) (w l r : Int) : Option Int := if op = 1 then chk w else if op = 2 then (if w < nw then chk (e w.toNat) else none) else if op = 5 then chk (1 - r) else if op ≤ 10 then dop op l r else some (b01 (if op = 11 then decide (l < r) else if op = 12 then decide (r < l) else decide (l = r)))
def rk (cd : Nat → Int) (len nw : Nat) (e : Nat → Int) : Nat → Nat → List Int → Option Int
  | 0, _, _ => none
  | n + 1, i, st => if len ≤ i then none else if st.length < needs (cd i % 16).toNat ∨ 64 ≤ st.length then none else if cd i % 16 = 0 then some (top0 st) else if cd i % 16 = 3 ∨ cd i % 16 = 4 then (if top0 st = (if cd i % 16 = 3 then 1 else 0) then rk cd len nw e n (if (i : Int) < cd i / 16 then (cd i / 16).toNat else i + 1) st else rk cd len nw e n (i + 1) st.tail) else match rmade nw e (cd i % 16).toNat (cd i / 16) (top1 st) (top0 st) with
    | none => none
    | some z => rk cd len nw e n (i + 1) (z :: st.drop (needs (cd i % 16).toNat))
/-- the code cs lies from a on -/
def At (cd : Nat → Int) (a : Nat) (cs : List Int) : Prop := ∀ j x, cs[j]? = some x → cd (a + j) = x
theorem At_l {cd : Nat → Int} {a : Nat} {cs ds : List Int} (h : At cd a (cs ++ ds)) : At cd a cs := fun j x hj => by
  have hl : j < cs.length := by
    rcases Nat.lt_or_ge j cs.length with q | q
    · exact q
    · rw [List.getElem?_eq_none q] at hj; cases hj
  refine h j x ?_
  rw [List.getElem?_append_left hl]
  exact hj
theorem At_r {cd : Nat → Int} {a : Nat} {cs ds : List Int} (h : At cd a (cs ++ ds)) : At cd (a + cs.length) ds := fun j x hj => by
  have := h (cs.length + j) x (by rw [List.getElem?_append_right (by omega), Nat.add_sub_cancel_left]; exact hj)
  rw [← this, Nat.add_assoc]
theorem At_h {cd : Nat → Int} {a : Nat} {x : Int} {ds : List Int} (h : At cd a (x :: ds)) : cd a = x := h 0 x rfl
theorem At_t {cd : Nat → Int} {a : Nat} {x : Int} {ds : List Int} (h : At cd a (x :: ds)) : At cd (a + 1) ds := At_r (cs := [x]) h
section
variable {cd : Nat → Int} {len nw : Nat} {e : Nat → Int}
theorem rk_one {n i : Nat} {st : List Int} {x : Int} {op : Nat} {w : Int} (hl : len < n + i) (hi : i < len) (hx : cd i = x) (ho : x = (op : Int) + 16 * w) (o1 : op < 16) (o2 : ¬ op = 0 ∧ ¬ op = 3 ∧ ¬ op = 4) (hs : needs op ≤ st.length) (h64 : st.length < 64) : ∃ n', len < n' + (i + 1) ∧ (rmade nw e op w (top1 st) (top0 st) = none → rk cd len nw e n i st = none) ∧ (∀ z, rmade nw e op w (top1 st) (top0 st) = some z → rk cd len nw e n i st = rk cd len nw e n' (i + 1) (z :: st.drop (needs op))) := by
  cases n with
  | zero => omega
  | succ n =>
    have e1 : cd i % 16 = op := by omega
    have e2 : cd i / 16 = w := by omega
    have e3 : (cd i % 16).toNat = op := by omega
    refine ⟨n, by omega, fun q => ?_, fun z q => ?_⟩
    · unfold rk
      rw [if_neg (by omega), e3, if_neg (by omega), if_neg (by omega), if_neg (by omega), e2, q]
    · conv => lhs; unfold rk
      rw [if_neg (by omega), e3, if_neg (by omega), if_neg (by omega), if_neg (by omega), e2, q]
theorem rk_stop {n i : Nat} {st : List Int} {v : Int} (hl : len < n + i) (hi : i < len) (hx : cd i = 0) (h64 : st.length < 63) : rk cd len nw e n i (v :: st) = some v := by
  cases n with
  | zero => omega
  | succ n =>
    unfold rk
    rw [if_neg (by omega), hx]
    rw [if_neg (by simp only [List.length_cons]; show ¬ (st.length + 1 < 1 ∨ 64 ≤ st.length + 1); omega), if_pos (by decide)]
    rfl
theorem rk_con {n i lv : Nat} {st : List Int} {b : Bool} {J : Nat} (hlv : lv ≤ 1) (hl : len < n + i) (hi : i < len) (hx : cd i = 3 + (lv : Int) + 16 * (J : Int)) (hJ : i < J) (h64 : st.length < 63) : (b = decide (lv = 0) → ∃ n', len < n' + J ∧ rk cd len nw e n i (b01 b :: st) = rk cd len nw e n' J (b01 b :: st)) ∧ (¬ b = decide (lv = 0) → ∃ n', len < n' + (i + 1) ∧ rk cd len nw e n i (b01 b :: st) = rk cd len nw e n' (i + 1) st) := by
  cases n with
  | zero => omega
  | succ n =>
    have e1 : cd i % 16 = 3 + (lv : Int) := by omega
    have e2 : cd i / 16 = J := by omega
    have e3 : (cd i % 16).toNat = 3 + lv := by omega
    have e4 : needs (3 + lv) = 1 := by
      rcases (show lv = 0 ∨ lv = 1 by omega) with rfl | rfl <;> rfl
    have hd : rk cd len nw e (n + 1) i (b01 b :: st) = (if b01 b = (if (3 + (lv : Int)) = 3 then 1 else 0) then rk cd len nw e n J (b01 b :: st) else rk cd len nw e n (i + 1) st) := by
      conv => lhs; unfold rk
      rw [if_neg (by omega), e3, e4, if_neg (by simp only [List.length_cons]; omega), e1, if_neg (by omega), if_pos (show 3 + (lv : Int) = 3 ∨ 3 + (lv : Int) = 4 by omega), e2, if_pos (show (i : Int) < (J : Int) by omega), Int.toNat_natCast]
      rfl
    rw [hd]
    rcases (show lv = 0 ∨ lv = 1 by omega) with rfl | rfl
    · cases b
      · exact ⟨fun q => (by cases q), fun _ => ⟨n, by omega, rfl⟩⟩
      · exact ⟨fun _ => ⟨n, by omega, rfl⟩, fun q => (q rfl).elim⟩
    · cases b
      · exact ⟨fun _ => ⟨n, by omega, rfl⟩, fun q => (q rfl).elim⟩
      · exact ⟨fun q => (by cases q), fun _ => ⟨n, by omega, rfl⟩⟩
/-- the code from a to z makes o on the stack -/
def Rx (cd : Nat → Int) (len nw : Nat) (e : Nat → Int) (a z : Nat) (st : List Int) (o : Option Int) : Prop := ∀ f, len < f + a → ∃ f', len < f' + z ∧ (o = none → rk cd len nw e f a st = none) ∧ (∀ v, o = some v → rk cd len nw e f a st = rk cd len nw e f' z (v :: st))
theorem Rx_bin {a m z : Nat} {st : List Int} {D D2 : Den} {op : Nat} (h1 : Rx cd len nw e a m st (D e)) (h2 : ∀ v, D e = some v → Rx cd len nw e m z (v :: st) (D2 e)) (ho : 6 ≤ op ∧ op ≤ 10) (hx : cd z = op) (hz : z < len) (h64 : st.length < 62) : Rx cd len nw e a (z + 1) st (dbin op D D2 e) := by
  intro f hf
  obtain ⟨f1, k1, k2, k3⟩ := h1 f hf
  unfold dbin
  cases hd : D e with
  | none => exact ⟨len + 1, by omega, fun _ => k2 hd, fun v q => by cases q⟩
  | some x =>
    obtain ⟨f2, j1, j2, j3⟩ := h2 x hd f1 k1
    have k3 := k3 x hd
    cases hd2 : D2 e with
    | none => exact ⟨len + 1, by omega, fun _ => by rw [k3]; exact j2 hd2, fun v q => by cases q⟩
    | some y =>
      have j3 := j3 y hd2
      have nd : needs op = 2 := by unfold needs; rw [if_neg (by omega), if_neg (by omega)]
      obtain ⟨f3, m1, m2, m3⟩ := rk_one (nw := nw) (e := e) (n := f2) (i := z) (st := y :: x :: st) (op := op) (w := 0) j1 hz hx (by omega) (by omega) (by omega) (by rw [nd]; simp only [List.length_cons]; omega) (by simp only [List.length_cons]; omega)
      have em : rmade nw e op 0 (top1 (y :: x :: st)) (top0 (y :: x :: st)) = dop op x y := by
        unfold rmade
        rw [if_neg (by omega), if_neg (by omega), if_neg (by omega), if_pos (by omega)]
        rfl
      rw [em] at m2 m3
      refine ⟨f3, m1, fun q => by rw [k3, j3]; exact m2 q, fun v q => ?_⟩
      rw [k3, j3, m3 v q, nd]
      rfl
theorem Rx_push {a : Nat} {st : List Int} {x v w : Int} {op : Nat} (ho : op = 1 ∨ op = 2) (hx : cd a = x) (hw : x = (op : Int) + 16 * w) (ha : a < len) (h64 : st.length < 64) (hm : rmade nw e op w (top1 st) (top0 st) = some v) : Rx cd len nw e a (a + 1) st (some v) := by
  intro f hf
  have nd : needs op = 0 := by unfold needs; rw [if_pos ho]
  obtain ⟨f3, m1, m2, m3⟩ := rk_one (nw := nw) (e := e) (n := f) (i := a) (st := st) (op := op) (w := w) hf ha hx hw (by omega) (by omega) (by rw [nd]; omega) h64
  refine ⟨f3, m1, fun q => (by cases q), fun v' q => ?_⟩
  cases q
  rw [m3 v hm, nd]
  rfl
theorem pLo_q {c : Nat → Int} {lv a : Nat} {sub : Nat → Nat → Nat → pR Den} (hs : ∀ p q a, (sub p q a).1 = true → q < (sub p q a).2.2.1) : ∀ (k p q : Nat) (cs : List Int) (D : Den), (pLo c lv a sub k p q cs D).1 = true → q ≤ (pLo c lv a sub k p q cs D).2.2.1
  | 0, p, q, cs, D, h => by cases h
  | k + 1, p, q, cs, D, h => by
    unfold pLo at h ⊢
    by_cases e : opA lv (c p) = 0
    · rw [if_pos e]; exact Nat.le_refl _
    · rw [if_neg e] at h ⊢
      obtain ⟨p2, q2, cs2, D2, e2, e3⟩ := pThen_ok h
      rw [e3] at h ⊢
      have s := hs (p + 1) q (a + cs.length) (by rw [e2])
      rw [e2] at s
      exact Nat.le_trans (Nat.le_of_lt s) (pLo_q hs k p2 q2 _ _ h)
theorem pE_q {c v : Nat → Int} {fw lw : Int} : ∀ (n lv deep p q a : Nat), (pE c v fw lw n lv deep p q a).1 = true → q < (pE c v fw lw n lv deep p q a).2.2.1
  | 0, _, _, _, _, _, h => by cases h
  | n + 1, lv, deep, p, q, a, h => by
    unfold pE at h ⊢
    by_cases e : lv = 2
    · rw [if_pos e] at h ⊢
      by_cases e1 : c p = 191
      · rw [if_pos e1] at h ⊢
        by_cases e2 : deep = 8
        · rw [if_pos e2] at h; cases h
        · rw [if_neg e2] at h ⊢
          obtain ⟨p2, q2, cs2, D2, e3, e4⟩ := pThen_ok h
          have s := pE_q (c := c) (v := v) (fw := fw) (lw := lw) n 0 (deep + 1) (p + 1) q a (by rw [e3])
          rw [e3] at s
          rw [e4] at h ⊢
          by_cases e5 : c p2 = 193
          · rw [if_pos e5]; exact s
          · rw [if_neg e5] at h; cases h
      · rw [if_neg e1] at h ⊢
        by_cases e2 : q = 50
        · rw [if_pos e2] at h; cases h
        · rw [if_neg e2] at h ⊢
          by_cases e3 : c p = 50 ∧ v p ≤ 1000
          · rw [if_pos e3]; exact Nat.lt_succ_self _
          · rw [if_neg e3] at h ⊢
            by_cases e4 : fw ≤ c p ∧ c p ≤ lw
            · rw [if_pos e4]; exact Nat.lt_succ_self _
            · rw [if_neg e4] at h; cases h
    · rw [if_neg e] at h ⊢
      obtain ⟨p1, q1, cs1, D1, e3, e4⟩ := pThen_ok h
      have s := pE_q (c := c) (v := v) (fw := fw) (lw := lw) n (lv + 1) deep p q a (by rw [e3])
      rw [e3] at s
      rw [e4] at h ⊢
      exact Nat.lt_of_lt_of_le s (pLo_q (fun p q a => pE_q (c := c) (v := v) (fw := fw) (lw := lw) n (lv + 1) deep p q a) 401 p1 q1 cs1 D1 h)
end

/-! the two languages as pure functions: what is read, which code it makes, what it means -/
abbrev Den : Type := (Nat → Int) → Option Int
abbrev DenB : Type := (Nat → Int) → Option Bool
/-- read well; the token behind it, or where the fault is; the parts counted; the code; the meaning -/
abbrev pR (α : Type) : Type := Bool × Nat × Nat × List Int × α
def chk (z : Int) : Option Int := if -1000000000 ≤ z ∧ z ≤ 1000000000 then some z else none
def dop (op : Nat) (x y : Int) : Option Int := if op = 6 then chk (x + y) else if op = 7 then chk (x - y) else if op = 8 then chk (x * y) else if y = 0 then none else if op = 9 then chk (x.tdiv y) else chk (x.tmod y)
def dbin (op : Nat) (f g : Den) : Den := fun e => match f e with
  | none => none
  | some x => (match g e with
    | none => none
    | some y => dop op x y)
def pThen {α β : Type} (r : pR α) (z : β) (k : Nat → Nat → List Int → α → pR β) : pR β := match r with
  | (true, p, q, cs, D) => k p q cs D
  | (false, p, q, cs, _) => (false, p, q, cs, z)
theorem pThen_t {α β : Type} {p q : Nat} {cs : List Int} {D : α} {z : β} {k : Nat → Nat → List Int → α → pR β} : pThen (true, p, q, cs, D) z k = k p q cs D := rfl
theorem pThen_f {α β : Type} {p q : Nat} {cs : List Int} {D : α} {z : β} {k : Nat → Nat → List Int → α → pR β} : pThen (false, p, q, cs, D) z k = (false, p, q, cs, z) := rfl
theorem pThen_ok {α β : Type} {r : pR α} {z : β} {k : Nat → Nat → List Int → α → pR β} (h : (pThen r z k).1 = true) : ∃ p q cs D, r = (true, p, q, cs, D) ∧ pThen r z k = k p q cs D := by
  obtain ⟨b, p, q, cs, D⟩ := r
  cases b
  · cases h
  · exact ⟨p, q, cs, D, rfl, rfl⟩
/-- the op of a sign between TERMS (lv 0) or PARTS (lv 1), 0 if it is none -/
def opA (lv : Nat) (c : Int) : Nat := if lv = 0 then (if c = 143 then 6 else if c = 145 then 7 else 0) else (if c = 142 then 8 else if c = 147 then 9 else if c = 137 then 10 else 0)
def pLo (c : Nat → Int) (lv a : Nat) (sub : Nat → Nat → Nat → pR Den) : Nat → Nat → Nat → List Int → Den → pR Den
  | 0, p, q, cs, D => (false, p, q, cs, D)
  | k + 1, p, q, cs, D => if opA lv (c p) = 0 then (true, p, q, cs, D) else pThen (sub (p + 1) q (a + cs.length)) D (fun p2 q2 cs2 D2 => pLo c lv a sub k p2 q2 (cs ++ cs2 ++ [((opA lv (c p) : Nat) : Int)]) (dbin (opA lv (c p)) D D2))
def nod : Den := fun _ => none
/-- a SUM (lv 0), a TERM (1), a PART (2) -/
def pE (c v : Nat → Int) (fw lw : Int) : Nat → Nat → Nat → Nat → Nat → Nat → pR Den
  | 0, _, _, p, q, _ => (false, p, q, [], nod)
  | n + 1, lv, deep, p, q, a =>
    if lv = 2 then
      (if c p = 191 then
        (if deep = 8 then (false, p, q, [], nod) else pThen (pE c v fw lw n 0 (deep + 1) (p + 1) q a) nod (fun p1 q1 cs D => if c p1 = 193 then (true, p1 + 1, q1, cs, D) else (false, p1, q1, cs, D)))
      else if q = 50 then (false, p, q, [], nod)
      else if c p = 50 ∧ v p ≤ 1000 then (true, p + 1, q + 1, [1 + 16 * v p], fun _ => some (v p))
      else if fw ≤ c p ∧ c p ≤ lw then (true, p + 1, q + 1, [2 + 16 * (c p - fw)], fun e => some (e (c p - fw).toNat))
      else (false, p, q, [], nod))
    else pThen (pE c v fw lw n (lv + 1) deep p q a) nod (fun p1 q1 cs D => pLo c lv a (pE c v fw lw n (lv + 1) deep) 401 p1 q1 cs D)
def opC (c : Int) : Nat := if c = 160 then 11 else if c = 162 then 12 else if c = 161 then 13 else 0
def dcmp (op : Nat) (f g : Den) : DenB := fun e => match f e with
  | none => none
  | some x => (match g e with
    | none => none
    | some y => some (if op = 11 then decide (x < y) else if op = 12 then decide (y < x) else decide (x = y)))
def dnot (s : Nat) (f : DenB) : DenB := fun e => match f e with
  | none => none
  | some b => some (if s % 2 = 1 then !b else b)
/-- OR (lv 0), AND (lv 1): asked no further if it is settled -/
def dcon (lv : Nat) (f g : DenB) : DenB := fun e => match f e with
  | none => none
  | some b => if b = decide (lv = 0) then some b else g e
def nodB : DenB := fun _ => none
/-- how many NOTs from p on -/
def nots (c : Nat → Int) : Nat → Nat → Nat
  | 0, _ => 0
  | k + 1, p => if c p = 8 then nots c k (p + 1) + 1 else 0
def cnot (s : Nat) : List Int := if s % 2 = 1 then [5] else []
def pTL (c : Nat → Int) (lv a : Nat) (sub : Nat → Nat → Nat → pR DenB) : Nat → Nat → Nat → List Int → DenB → pR DenB
  | 0, p, q, cs, D => (false, p, q, cs, D)
  | k + 1, p, q, cs, D => if ¬ c p = 6 + (lv : Int) then (true, p, q, cs, D) else pThen (sub (p + 1) q (a + cs.length + 1)) D (fun p2 q2 cs2 D2 => pTL c lv a sub k p2 q2 (cs ++ (3 + (lv : Int) + 16 * ((a + cs.length + 1 + cs2.length : Nat) : Int)) :: cs2) (dcon lv D D2))
/-- a TEST (lv 0), a BOTH (1), a PLAIN (2) -/
def pT (c v : Nat → Int) (fw lw : Int) : Nat → Nat → Nat → Nat → Nat → Nat → pR DenB
  | 0, _, _, p, q, _ => (false, p, q, [], nodB)
  | n + 1, lv, deep, p, q, a =>
    if lv = 2 then
      (if c (p + nots c 401 p) = 140 then
        (if deep = 8 then (false, p + nots c 401 p, q, [], nodB) else pThen (pT c v fw lw n 0 (deep + 1) (p + nots c 401 p + 1) q a) nodB (fun p1 q1 cs D => if c p1 = 141 then (true, p1 + 1, q1, cs ++ cnot (nots c 401 p), dnot (nots c 401 p) D) else (false, p1, q1, cs, D)))
      else pThen (pE c v fw lw 30 0 deep (p + nots c 401 p) q a) nodB (fun p1 q1 cs D => if opC (c p1) = 0 then (false, p1, q1, cs, nodB) else pThen (pE c v fw lw 30 0 deep (p1 + 1) q1 (a + cs.length)) nodB (fun p2 q2 cs2 D2 => (true, p2, q2, cs ++ cs2 ++ ((opC (c p1) : Nat) : Int) :: cnot (nots c 401 p), dnot (nots c 401 p) (dcmp (opC (c p1)) D D2)))))
    else pThen (pT c v fw lw n (lv + 1) deep p q a) nodB (fun p1 q1 cs D => pTL c lv a (pT c v fw lw n (lv + 1) deep) 401 p1 q1 cs D)
/-- SUMS with words between: where each begins, what it means -/
def pSs (c v : Nat → Int) (fw lw : Int) : List Int → Nat → Nat → Nat → pR (List (Nat × Den))
  | [], p, q, a => pThen (pE c v fw lw 30 0 0 p q a) [] (fun p1 q1 cs D => (true, p1, q1, cs ++ [0], [(a, D)]))
  | s :: ss, p, q, a => pThen (pE c v fw lw 30 0 0 p q a) [] (fun p1 q1 cs D => if c p1 = s then pThen (pSs c v fw lw ss (p1 + 1) q1 (a + cs.length + 1)) [] (fun p2 q2 cs2 Ds => (true, p2, q2, cs ++ 0 :: cs2, (a, D) :: Ds)) else (false, p1, q1, cs, []))
/-- the kind, the SUMS, the TEST (where, what), how often -/
abbrev Itm : Type := Nat × List (Nat × Den) × Option (Nat × DenB) × Int
def noi : Itm := (0, [], none, 1)
def pIf (c v : Nat → Int) (fw lw : Int) (p q a : Nat) : pR (Option (Nat × DenB)) := if c p = 5 then pThen (pT c v fw lw 60 0 0 (p + 1) q a) none (fun p1 q1 cs D => (true, p1, q1, cs ++ [0], some (a, D))) else (true, p, q, [], none)
def kLaw (c : Int) : Nat := if c = 1 then 0 else if c = 2 then 1 else if c = 3 then 2 else if c = 4 then 3 else 9
def kOrd (c : Int) : Nat := if c = 23 then 0 else if c = 27 then 1 else if c = 29 then 2 else 9
/-- what lies between a kind's SUMS; none: it has no SUM -/
def seps (law : Bool) (k : Nat) : Option (List Int) := if law then (if k ≤ 1 then some [] else none) else (if k = 0 then some [24, 25, 26] else if k = 1 then some [28] else none)
def pSum0 (c v : Nat → Int) (fw lw : Int) (s : Option (List Int)) (p q a : Nat) : pR (List (Nat × Den)) := match s with
  | none => (true, p, q, [], [])
  | some ss => pSs c v fw lw ss p q a
def pTimes (c v : Nat → Int) (law : Bool) (p q : Nat) : pR Int := if law = false ∧ c p = 30 then (if c (p + 1) = 50 ∧ 1 ≤ v (p + 1) ∧ v (p + 1) ≤ 20 then (true, p + 2, q, [], v (p + 1)) else (false, p + 1, q, [], 1)) else (true, p, q, [], 1)
def kOf (law : Bool) (c : Int) : Nat := if law then kLaw c else kOrd c
def fwOf (law : Bool) : Int := if law then 9 else 17
def lwOf (law : Bool) : Int := if law then 17 else 22
/-- a CLAUSE or an ORDER -/
def pItm (c v : Nat → Int) (law : Bool) (p q a : Nat) : pR Itm := if kOf law (c p) = 9 then (false, p, q, [], noi) else
  pThen (pSum0 c v (fwOf law) (lwOf law) (seps law (kOf law (c p))) (p + 1) q a) noi (fun p1 q1 cs1 Ss =>
    pThen (pTimes c v law p1 q1) noi (fun p2 q2 _ t =>
      pThen (pIf c v (fwOf law) (lwOf law) p2 q2 (a + cs1.length)) noi (fun p3 q3 cs3 T => (true, p3, q3, cs1 ++ cs3, (kOf law (c p), Ss, T, t)))))
/-- all of a TEXT; m items may follow -/
def pTxt (c v : Nat → Int) (law : Bool) (N : Nat) : Nat → Nat → Nat → Nat → pR (List Itm)
  | 0, p, q, _ => (false, p, q, [], [])
  | m + 1, p, q, a => pThen (pItm c v law p q a) [] (fun p1 q1 cs i => if c p1 = 159 then pThen (pTxt c v law N m (p1 + 1) q1 (a + cs.length)) [] (fun p2 q2 cs2 is => (true, p2, q2, cs ++ cs2, i :: is)) else if p1 = N then (true, p1, q1, cs, [i]) else (false, p1, q1, cs, []))
def pText (c v : Nat → Int) (law : Bool) (N : Nat) : pR (List Itm) := pTxt c v law N 12 0 0 0
/-! what is asked of a LAW -/
def itest (T : Option (Nat × DenB)) (e : Nat → Int) : Option Bool := match T with
  | none => some true
  | some t => t.2 e
def isum (k : Nat) (Ss : List (Nat × Den)) (e : Nat → Int) : Option Int := if k ≤ 1 then (match Ss with
  | [] => none
  | s :: _ => s.2 e) else some 1
def clamp (hi x : Int) : Int := if x < 0 then 0 else if hi < x then hi else x
/-- what the last CLAUSE of a kind that HOLDS tells -/
def tolds (k : Nat) (hi : Int) (e : Nat → Int) : List Itm → Int → Int
  | [], w => w
  | i :: is, w => tolds k hi e is (if i.1 = k ∧ itest i.2.2.1 e = some true then (match isum i.1 i.2.1 e with
    | some s => clamp hi s
    | none => w) else w)
theorem opA_s {lv : Nat} {c : Int} (h : ¬ opA lv c = 0) : ¬ c = 0 := by
  intro q
  apply h
  subst q
  unfold opA
  split <;> rfl
theorem opA_b {lv : Nat} {c : Int} : opA lv c ≤ 10 := by
  unfold opA
  split
  · split
    · decide
    · split <;> decide
  · split
    · decide
    · split
      · decide
      · split <;> decide
/-- behind a reading that is well -/
def pOk {α : Type} (N p q a : Nat) (r : pR α) : Prop := r.1 = true → p < r.2.1 ∧ r.2.1 ≤ N ∧ q ≤ r.2.2.1 ∧ r.2.2.1 ≤ 50 ∧ r.2.2.2.1.length ≤ r.2.1 - p
theorem pLo_ok {c : Nat → Int} {lv a N p0 q0 : Nat} {sub : Nat → Nat → Nat → pR Den} (hs : ∀ p q a, p ≤ N → q ≤ 50 → pOk N p q a (sub p q a)) (hN : ∀ p, N ≤ p → c p = 0) : ∀ (k p q : Nat) (cs : List Int) (D : Den), p0 < p → p ≤ N → q0 ≤ q → q ≤ 50 → cs.length ≤ p - p0 → pOk N p0 q0 a (pLo c lv a sub k p q cs D)
  | 0, p, q, cs, D, _, _, _, _, _ => by intro h; cases h
  | k + 1, p, q, cs, D, h1, h2, h3, h4, h5 => by
    unfold pLo
    by_cases e : opA lv (c p) = 0
    · rw [if_pos e]
      intro _
      exact ⟨h1, h2, h3, h4, h5⟩
    · rw [if_neg e]
      intro ok
      obtain ⟨p2, q2, cs2, D2, e2, e3⟩ := pThen_ok ok
      have hp : p < N := by
        rcases Nat.lt_or_ge p N with z | z
        · exact z
        · exact absurd (hN p z) (opA_s e)
      have s2 := hs (p + 1) q (a + cs.length) hp h4
      rw [e2] at s2
      obtain ⟨a1, a2, a3, a4, a5⟩ := s2 rfl
      rw [e3] at ok ⊢
      simp only at a1 a2 a3 a4 a5
      exact pLo_ok hs hN k p2 q2 _ _ (by omega) a2 (by omega) a4 (by simp only [List.length_append, List.length_cons, List.length_nil]; omega) ok
theorem pE_ok {c v : Nat → Int} {fw lw : Int} {N : Nat} (hN : ∀ p, N ≤ p → c p = 0) (hf : 0 < fw) : ∀ (n lv deep p q a : Nat), p ≤ N → q ≤ 50 → pOk N p q a (pE c v fw lw n lv deep p q a)
  | 0, _, _, _, _, _, _, _ => by intro h; cases h
  | n + 1, lv, deep, p, q, a, h1, h2 => by
    have hlt : ¬ c p = 0 → p < N := fun q => by
      rcases Nat.lt_or_ge p N with z | z
      · exact z
      · exact absurd (hN p z) q
    unfold pE
    by_cases e : lv = 2
    · rw [if_pos e]
      by_cases e1 : c p = 191
      · rw [if_pos e1]
        by_cases e2 : deep = 8
        · rw [if_pos e2]; intro h; cases h
        · rw [if_neg e2]
          intro ok
          have hp := hlt (by omega)
          obtain ⟨p2, q2, cs2, D2, e3, e4⟩ := pThen_ok ok
          have s2 := pE_ok (v := v) (lw := lw) hN hf n 0 (deep + 1) (p + 1) q a (by omega) h2
          rw [e3] at s2
          obtain ⟨a1, a2, a3, a4, a5⟩ := s2 rfl
          simp only at a1 a2 a3 a4 a5
          rw [e4] at ok ⊢
          by_cases e5 : c p2 = 193
          · rw [if_pos e5]
            have : p2 < N := by
              rcases Nat.lt_or_ge p2 N with z | z
              · exact z
              · have := hN p2 z; omega
            exact ⟨by simp only; omega, this, a3, a4, by simp only; omega⟩
          · rw [if_neg e5] at ok; cases ok
      · rw [if_neg e1]
        by_cases e2 : q = 50
        · rw [if_pos e2]; intro h; cases h
        · rw [if_neg e2]
          by_cases e3 : c p = 50 ∧ v p ≤ 1000
          · rw [if_pos e3]
            have hp := hlt (by omega)
            intro _
            exact ⟨by simp only; omega, hp, by simp only; omega, by simp only; omega, by simp only [List.length_cons, List.length_nil]; omega⟩
          · rw [if_neg e3]
            by_cases e4 : fw ≤ c p ∧ c p ≤ lw
            · rw [if_pos e4]
              have hp := hlt (by omega)
              intro _
              exact ⟨by simp only; omega, hp, by simp only; omega, by simp only; omega, by simp only [List.length_cons, List.length_nil]; omega⟩
            · rw [if_neg e4]; intro h; cases h
    · rw [if_neg e]
      intro ok
      obtain ⟨p1, q1, cs1, D1, e3, e4⟩ := pThen_ok ok
      have s1 := pE_ok (v := v) (lw := lw) hN hf n (lv + 1) deep p q a h1 h2
      rw [e3] at s1
      obtain ⟨a1, a2, a3, a4, a5⟩ := s1 rfl
      simp only at a1 a2 a3 a4 a5
      rw [e4] at ok ⊢
      exact pLo_ok (fun p q a g1 g2 => pE_ok (v := v) (lw := lw) hN hf n (lv + 1) deep p q a g1 g2) hN 401 p1 q1 cs1 D1 a1 a2 a3 a4 a5 ok

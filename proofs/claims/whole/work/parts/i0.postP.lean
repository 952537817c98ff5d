/-! the POST as pure functions -/
def lhs (M : qMe) (l : Nat) : Int := mZ M 481 (228 + 2 * l)
def lwo (M : qMe) (l : Nat) : Int := mZ M 481 (229 + 2 * l)
/-- a THROW of WHEEL w comes to HOUSE h uneaten -/
def frP (M : qMe) (w h c : Int) : Prop := isT M c ∧ comeP M c ∧ c / 160 = w ∧ comeV M c = h
/-- the cheapest of the first c THROWS -/
noncomputable def frN (M : qMe) (w h : Int) : Nat → Int
  | 0 => -1
  | c + 1 => @ite _ (frP M w h (c : Int) ∧ (frN M w h c = -1 ∨ costP M (c : Int) < frN M w h c)) (Classical.propDecidable _) (costP M (c : Int)) (frN M w h c)
theorem frN_t {M : qMe} {w h : Int} {c : Nat} (q : frP M w h (c : Int) ∧ (frN M w h c = -1 ∨ costP M (c : Int) < frN M w h c)) : frN M w h (c + 1) = costP M (c : Int) := by rw [frN]; exact if_pos q
theorem frN_f {M : qMe} {w h : Int} {c : Nat} (q : ¬ (frP M w h (c : Int) ∧ (frN M w h c = -1 ∨ costP M (c : Int) < frN M w h c))) : frN M w h (c + 1) = frN M w h c := by rw [frN]; exact if_neg q
theorem frN_b {M : qMe} {w h : Int} : ∀ c : Nat, -1 ≤ frN M w h c ∧ frN M w h c ≤ 999
  | 0 => by rw [frN]; omega
  | c + 1 => by
    have ih := frN_b (M := M) (w := w) (h := h) c
    have cb := costP_b (M := M) (c := (c : Int))
    by_cases q : frP M w h (c : Int) ∧ (frN M w h c = -1 ∨ costP M (c : Int) < frN M w h c)
    · rw [frN_t q]; omega
    · rw [frN_f q]; exact ih
theorem frN_w {M : qMe} {w h : Int} (hw : mZ M 481 266 ≤ w) : ∀ c : Nat, frN M w h c = -1
  | 0 => rfl
  | c + 1 => by
    rw [frN_f (fun q => by
      have := q.1.1.2.2.1
      have := q.1.2.2.1
      omega)]
    exact frN_w hw c
theorem frP_k {M M1 : qMe} {w h c : Int} (h1 : ∀ k, mZ M1 481 k = mZ M 481 k) (h2 : ∀ k, mZ M1 493 k = mZ M 493 k) : frP M1 w h c = frP M w h c := by
  unfold frP
  rw [isT_k h1, comeP_k h1 h2, comeV_k h1 h2]
theorem frN_k {M M1 : qMe} {w h : Int} (h1 : ∀ k, mZ M1 481 k = mZ M 481 k) (h2 : ∀ k, mZ M1 493 k = mZ M 493 k) : ∀ c : Nat, frN M1 w h c = frN M w h c
  | 0 => rfl
  | c + 1 => by
    have ih := frN_k (w := w) (h := h) h1 h2 c
    by_cases q : frP M w h (c : Int) ∧ (frN M w h c = -1 ∨ costP M (c : Int) < frN M w h c)
    · rw [frN_t q, frN_t (by rw [frP_k h1 h2, ih, costP_k h1]; exact q), costP_k h1]
    · rw [frN_f q, frN_f (by rw [frP_k h1 h2, ih, costP_k h1]; exact q), ih]
noncomputable def fr (M : qMe) (l w : Nat) : Int := frN M (w : Int) (lhs M l) 1280
theorem fr_b {M : qMe} {l w : Nat} : -1 ≤ fr M l w ∧ fr M l w ≤ 999 := frN_b 1280
def mx (a b : Int) : Int := if a < b then b else a
theorem mx_le {a b : Int} : a ≤ mx a b ∧ b ≤ mx a b ∧ (mx a b = a ∨ mx a b = b) := by unfold mx; split <;> omega
noncomputable def fmax (p : Nat → Prop) (f : Nat → Int) (i : Int) : Nat → Int
  | 0 => i
  | n + 1 => @ite _ (p n) (Classical.propDecidable _) (mx (fmax p f i n) (f n)) (fmax p f i n)
theorem fmax_t {p : Nat → Prop} {f : Nat → Int} {i : Int} {n : Nat} (h : p n) : fmax p f i (n + 1) = mx (fmax p f i n) (f n) := by rw [fmax]; exact if_pos h
theorem fmax_f {p : Nat → Prop} {f : Nat → Int} {i : Int} {n : Nat} (h : ¬ p n) : fmax p f i (n + 1) = fmax p f i n := by rw [fmax]; exact if_neg h
theorem fmax_up {p : Nat → Prop} {f : Nat → Int} {i : Int} {n : Nat} : ∀ k : Nat, (∀ t, n ≤ t → t < n + k → ¬ p t) → fmax p f i (n + k) = fmax p f i n
  | 0, _ => rfl
  | k + 1, h => by rw [← Nat.add_assoc, fmax_f (h (n + k) (by omega) (by omega))]; exact fmax_up k (fun t q r => h t q (by omega))
theorem fmax_is {p : Nat → Prop} {f : Nat → Int} {i : Int} : ∀ n : Nat, i ≤ fmax p f i n ∧ (∀ t, t < n → p t → f t ≤ fmax p f i n) ∧ (fmax p f i n = i ∨ ∃ t, t < n ∧ p t ∧ fmax p f i n = f t)
  | 0 => ⟨Int.le_refl _, fun t q => by omega, Or.inl rfl⟩
  | n + 1 => by
    obtain ⟨a, b, c⟩ := fmax_is (p := p) (f := f) (i := i) n
    by_cases q : p n
    · rw [fmax_t q]
      obtain ⟨m1, m2, m3⟩ := mx_le (a := fmax p f i n) (b := f n)
      refine ⟨by omega, fun t q1 q2 => ?_, ?_⟩
      · by_cases e : t = n
        · rw [e]; exact m2
        · have := b t (by omega) q2; omega
      · rcases m3 with m3 | m3
        · rw [m3]
          rcases c with c | ⟨t, c1, c2, c3⟩
          · exact Or.inl c
          · exact Or.inr ⟨t, by omega, c2, c3⟩
        · exact Or.inr ⟨n, by omega, q, m3⟩
    · rw [fmax_f q]
      refine ⟨a, fun t q1 q2 => ?_, ?_⟩
      · by_cases e : t = n
        · rw [e] at q2; exact absurd q2 q
        · exact b t (by omega) q2
      · rcases c with c | ⟨t, c1, c2, c3⟩
        · exact Or.inl c
        · exact Or.inr ⟨t, by omega, c2, c3⟩
theorem fmax_i {p : Nat → Prop} {f : Nat → Int} {i j : Int} : ∀ n : Nat, mx (fmax p f i n) j = fmax p f (mx i j) n
  | 0 => rfl
  | n + 1 => by
    have ih := fmax_i (p := p) (f := f) (i := i) (j := j) n
    by_cases q : p n
    · rw [fmax_t q, fmax_t q, ← ih]
      unfold mx
      repeat' (first | omega | split)
    · rw [fmax_f q, fmax_f q, ih]
/-- WHEEL w can carry LETTER l -/
def canC (M : qMe) (l u w : Nat) : Prop := ¬ bt u w ∧ ¬ fr M l w = -1
/-- WORTH above COSTS, k LETTERS left -/
noncomputable def VQ (M : qMe) (n : Nat) : Nat → Nat → Int
  | 0, _ => 0
  | k + 1, u => fmax (canC M (n - (k + 1)) u) (fun w => 10000 * lwo M (n - (k + 1)) - fr M (n - (k + 1)) w + VQ M n k (u ||| 2 ^ w)) (VQ M n k u) 8
noncomputable def V (M : qMe) (n l u : Nat) : Int := VQ M n (n - l) u
noncomputable def gn (M : qMe) (n l u w : Nat) : Int := 10000 * lwo M l - fr M l w + V M n (l + 1) (u ||| 2 ^ w)
theorem V_n {M : qMe} {n u : Nat} : V M n n u = 0 := by unfold V; rw [Nat.sub_self, VQ]
theorem V_s {M : qMe} {n l u : Nat} (h : l < n) : V M n l u = fmax (canC M l u) (gn M n l u) (V M n (l + 1) u) 8 := by
  have e : n - l = (n - (l + 1)) + 1 := by omega
  unfold gn V
  rw [e, VQ, show n - (n - (l + 1) + 1) = l by omega]
/-- v is WORTH a less COSTS s -/
def vs (v a s : Int) : Prop := v = 10000 * a - s ∧ 0 ≤ a ∧ a ≤ 800 ∧ 0 ≤ s ∧ s ≤ 8000
theorem vs_u {v a s a2 s2 : Int} (h : vs v a s) (g : vs v a2 s2) : a = a2 ∧ s = s2 := by unfold vs at *; omega
theorem lwo_b {M : qMe} {n l : Nat} (hw : WFk M 481 0) (hn : (n : Int) = mZ M 481 267) (h : l < n) : (0 ≤ lhs M l ∧ lhs M l < mZ M 481 264) ∧ 1 ≤ lwo M l ∧ lwo M l ≤ 99 := by
  have a := hw.2.2.2.2.2.2.2.2.2.1 (l : Int) (by omega) (by rw [show ((0 : Int) + 267).toNat = 267 by decide]; omega)
  rw [show ((0 : Int) + (228 + 2 * (l : Int))).toNat = 228 + 2 * l by omega, show ((0 : Int) + (228 + 2 * (l : Int) + 1)).toNat = 229 + 2 * l by omega] at a
  exact a
theorem V_ok {M : qMe} {n : Nat} (hw : WFk M 481 0) (hn : (n : Int) = mZ M 481 267) : ∀ (k l u : Nat), l + k = n → ∃ a s : Int, V M n l u = 10000 * a - s ∧ 0 ≤ a ∧ a ≤ 99 * k ∧ 0 ≤ s ∧ s ≤ 999 * k
  | 0, l, u, e => by
    obtain rfl : l = n := by omega
    rw [V_n]
    exact ⟨0, 0, by decide, by decide, by omega, by decide, by omega⟩
  | k + 1, l, u, e => by
    rw [V_s (by omega)]
    obtain ⟨m1, m2, m3⟩ := fmax_is (p := canC M l u) (f := gn M n l u) (i := V M n (l + 1) u) 8
    rcases m3 with m3 | ⟨t, t1, t2, t3⟩
    · rw [m3]
      obtain ⟨a, s, q1, q2, q3, q4, q5⟩ := V_ok hw hn k (l + 1) u (by omega)
      exact ⟨a, s, q1, q2, by omega, q4, by omega⟩
    · rw [t3]
      obtain ⟨a, s, q1, q2, q3, q4, q5⟩ := V_ok hw hn k (l + 1) (u ||| 2 ^ t) (by omega)
      have lb := lwo_b hw hn (show l < n by omega)
      have fb := fr_b (M := M) (l := l) (w := t)
      have fn := t2.2
      refine ⟨a + lwo M l, s + fr M l t, ?_, by omega, by omega, by omega, by omega⟩
      unfold gn
      rw [q1]
      omega
theorem V_vs {M : qMe} {n l u : Nat} (hw : WFk M 481 0) (hn : (n : Int) = mZ M 481 267) (n8 : n ≤ 8) (hl : l ≤ n) : ∃ a s : Int, vs (V M n l u) a s := by
  obtain ⟨a, s, q1, q2, q3, q4, q5⟩ := V_ok (u := u) hw hn (n - l) l (by omega)
  exact ⟨a, s, q1, q2, by omega, q4, by omega⟩
/-- the WHEEL that LETTER l goes with -/
noncomputable def pick (M : qMe) (n l u : Nat) : Int := ffr (fun w => canC M l u w ∧ gn M n l u w = V M n l u) 0 8
/-- the WHEELS used ahead of LETTER l -/
noncomputable def uN (M : qMe) (n : Nat) : Nat → Nat
  | 0 => 0
  | l + 1 => if pick M n l (uN M n l) = -1 then uN M n l else uN M n l ||| 2 ^ (pick M n l (uN M n l)).toNat
noncomputable def pk (M : qMe) (n l : Nat) : Int := pick M n l (uN M n l)
theorem pk_b {M : qMe} {n l : Nat} : -1 ≤ pk M n l ∧ pk M n l < 8 := by
  have := ffr_ge (p := fun w => canC M l (uN M n l) w ∧ gn M n l (uN M n l) w = V M n l (uN M n l)) 0 8
  unfold pk pick
  omega
theorem uN_s {M : qMe} {n l : Nat} : uN M n (l + 1) = if pk M n l = -1 then uN M n l else uN M n l ||| 2 ^ (pk M n l).toNat := by rw [uN]; rfl
theorem or_8 {u w : Nat} (h : u < 256) (hw : w < 8) : u ||| 2 ^ w < 256 := Nat.or_lt_two_pow (n := 8) h (Nat.lt_of_lt_of_le (Nat.pow_lt_pow_right (by decide) hw) (by decide))
theorem uN_b {M : qMe} {n : Nat} : ∀ l : Nat, uN M n l < 256
  | 0 => by rw [uN]; decide
  | l + 1 => by
    have ih := uN_b (M := M) (n := n) l
    have pb := pk_b (M := M) (n := n) (l := l)
    rw [uN_s]
    split
    · exact ih
    · exact or_8 ih (by omega)
noncomputable def wS (M : qMe) (n : Nat) : Nat → Int
  | 0 => 0
  | l + 1 => if pk M n l = -1 then wS M n l else wS M n l + lwo M l
noncomputable def cS (M : qMe) (n : Nat) : Nat → Int
  | 0 => 0
  | l + 1 => if pk M n l = -1 then cS M n l else cS M n l + fr M l (pk M n l).toNat
noncomputable def nS (M : qMe) (n : Nat) : Nat → Int
  | 0 => 0
  | l + 1 => if pk M n l = -1 then nS M n l else nS M n l + 1
theorem pk_no {M : qMe} {n l : Nat} (hl : l < n) (h : pk M n l = -1) : V M n l (uN M n l) = V M n (l + 1) (uN M n l) := by
  have no : ∀ w, w < 8 → ¬ (canC M l (uN M n l) w ∧ gn M n l (uN M n l) w = V M n l (uN M n l)) := fun w hw q => by
    rcases ffr_cases (p := fun w => canC M l (uN M n l) w ∧ gn M n l (uN M n l) w = V M n l (uN M n l)) 8 0 with ⟨-, z⟩ | ⟨j, -, -, -, z, -⟩
    · exact z w (by omega) (by omega) q
    · unfold pk pick at h
      omega
  obtain ⟨m1, m2, m3⟩ := fmax_is (p := canC M l (uN M n l)) (f := gn M n l (uN M n l)) (i := V M n (l + 1) (uN M n l)) 8
  rw [← V_s hl] at m1 m2 m3
  rcases m3 with m3 | ⟨t, t1, t2, t3⟩
  · exact m3
  · exact absurd ⟨t2, t3.symm⟩ (no t t1)
theorem pk_yes {M : qMe} {n l : Nat} (h : ¬ pk M n l = -1) : canC M l (uN M n l) (pk M n l).toNat ∧ gn M n l (uN M n l) (pk M n l).toNat = V M n l (uN M n l) ∧ ∀ w : Nat, (w : Int) < pk M n l → ¬ (canC M l (uN M n l) w ∧ gn M n l (uN M n l) w = V M n l (uN M n l)) := by
  rcases ffr_cases (p := fun w => canC M l (uN M n l) w ∧ gn M n l (uN M n l) w = V M n l (uN M n l)) 8 0 with ⟨z, -⟩ | ⟨j, j1, j2, j3, j4, j5⟩
  · exact absurd z h
  · have e : pk M n l = (j : Int) := j4
    rw [e, Int.toNat_natCast]
    exact ⟨j3.1, j3.2, fun w hw => j5 w (by omega) (by omega)⟩
theorem V_sum {M : qMe} {n : Nat} : ∀ l : Nat, l ≤ n → V M n 0 0 = 10000 * wS M n l - cS M n l + V M n l (uN M n l)
  | 0, _ => by rw [wS, cS, uN]; omega
  | l + 1, h => by
    have ih := V_sum (M := M) (n := n) l (by omega)
    rw [wS, cS, uN_s]
    by_cases q : pk M n l = -1
    · rw [if_pos q, if_pos q, if_pos q, ih, pk_no (by omega) q]
    · rw [if_neg q, if_neg q, if_neg q, ih, ← (pk_yes q).2.1]
      unfold gn
      omega
theorem sum_b {M : qMe} {n : Nat} (hw : WFk M 481 0) (hn : (n : Int) = mZ M 481 267) : ∀ l : Nat, l ≤ n → (0 ≤ wS M n l ∧ wS M n l ≤ 99 * l) ∧ (0 ≤ cS M n l ∧ cS M n l ≤ 999 * l) ∧ (0 ≤ nS M n l ∧ nS M n l ≤ l)
  | 0, _ => by rw [wS, cS, nS]; omega
  | l + 1, h => by
    have ih := sum_b hw hn l (by omega)
    rw [wS, cS, nS]
    by_cases q : pk M n l = -1
    · rw [if_pos q, if_pos q, if_pos q]; omega
    · rw [if_neg q, if_neg q, if_neg q]
      have lb := lwo_b hw hn (show l < n by omega)
      have fb := fr_b (M := M) (l := l) (w := (pk M n l).toNat)
      have fn := (pk_yes q).1.2
      omega
theorem sum_vs {M : qMe} {n : Nat} (hw : WFk M 481 0) (hn : (n : Int) = mZ M 481 267) (n8 : n ≤ 8) : vs (V M n 0 0) (wS M n n) (cS M n n) := by
  have a := V_sum (M := M) (n := n) n (Nat.le_refl n)
  rw [V_n] at a
  have b := sum_b hw hn n (Nat.le_refl n)
  unfold vs
  omega

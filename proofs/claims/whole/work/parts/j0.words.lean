/-! the words of both languages -/
def XW : List (List Int) := [[115, 108, 111, 119, 115], [99, 111, 115, 116, 115], [115, 104, 117, 116, 115], [101, 97, 116, 115], [115, 101, 110, 100], [109, 101, 110, 100], [119, 97, 105, 116], [105, 102], [111, 114], [97, 110, 100], [110, 111, 116], [102, 114, 111, 109], [116, 111, 119, 97, 114, 100], [119, 105, 116, 104], [98, 121], [116, 105, 109, 101, 115], [120], [121], [104, 101, 105, 103, 104, 116], [102, 101, 110, 99, 101], [115, 112, 101, 101, 100], [115, 105, 122, 101], [114, 105, 112, 101], [104, 117, 110, 103, 101, 114], [100, 97, 121], [119, 104, 101, 101, 108, 115], [102, 101, 110, 99, 101, 115], [100, 111, 110, 101], [99, 97, 109, 101], [108, 97, 115, 116]]
def MW : List (List Int) := [[115, 108, 111, 119, 115], [99, 111, 115, 116, 115], [115, 104, 117, 116, 115], [101, 97, 116, 115], [105, 102], [111, 114], [97, 110, 100], [110, 111, 116], [120], [121], [104, 101, 105, 103, 104, 116], [102, 101, 110, 99, 101], [115, 112, 101, 101, 100], [115, 105, 122, 101], [114, 105, 112, 101], [104, 117, 110, 103, 101, 114], [100, 97, 121], [119, 104, 101, 101, 108, 115], [102, 101, 110, 99, 101, 115], [100, 111, 110, 101], [99, 97, 109, 101], [108, 97, 115, 116], [115, 101, 110, 100], [102, 114, 111, 109], [116, 111, 119, 97, 114, 100], [119, 105, 116, 104], [109, 101, 110, 100], [98, 121], [119, 97, 105, 116], [116, 105, 109, 101, 115]]
/-- the bytes of m's words -/
def mch : List Int := [115, 108, 111, 119, 115, 32, 99, 111, 115, 116, 115, 32, 115, 104, 117, 116, 115, 32, 101, 97, 116, 115, 32, 105, 102, 32, 111, 114, 32, 97, 110, 100, 32, 110, 111, 116, 32, 120, 32, 121, 32, 104, 101, 105, 103, 104, 116, 32, 102, 101, 110, 99, 101, 32, 115, 112, 101, 101, 100, 32, 115, 105, 122, 101, 32, 114, 105, 112, 101, 32, 104, 117, 110, 103, 101, 114, 32, 100, 97, 121, 32, 119, 104, 101, 101, 108, 115, 32, 102, 101, 110, 99, 101, 115, 32, 100, 111, 110, 101, 32, 99, 97, 109, 101, 32, 108, 97, 115, 116, 32, 115, 101, 110, 100, 32, 102, 114, 111, 109, 32, 116, 111, 119, 97, 114, 100, 32, 119, 105, 116, 104, 32, 109, 101, 110, 100, 32, 98, 121, 32, 119, 97, 105, 116, 32, 116, 105, 109, 101, 115, 32]
def mst : List Nat := [0, 6, 12, 18, 23, 26, 29, 33, 37, 39, 41, 48, 54, 60, 65, 70, 77, 81, 88, 95, 100, 105, 110, 115, 120, 127, 132, 137, 140, 145]
/-- where m's words are among x's -/
def sig : List Nat := [0, 1, 2, 3, 7, 8, 9, 10, 16, 17, 18, 19, 20, 21, 22, 23, 24, 25, 26, 27, 28, 29, 4, 11, 12, 13, 5, 14, 6, 15]
def txt (b : Nat → Int) (f n : Nat) : List Int := (List.range n).map (fun j => b (f + j))
theorem txt_len {b : Nat → Int} {f n : Nat} : (txt b f n).length = n := by unfold txt; rw [List.length_map, List.length_range]
theorem txt_get {b : Nat → Int} {f n j : Nat} (h : j < n) : (txt b f n)[j]? = some (b (f + j)) := by
  unfold txt
  rw [List.getElem?_map, List.getElem?_range h]
  rfl
/-- a list is the text from f on -/
theorem txt_eq {l : List Int} {b : Nat → Int} {f n : Nat} : l = txt b f n ↔ l.length = n ∧ ∀ j : Nat, j < n → l.getD j 0 = b (f + j) := by
  constructor
  · intro h
    rw [h]
    refine ⟨txt_len, fun j hj => ?_⟩
    rw [List.getD_eq_getElem?_getD, txt_get hj]
    rfl
  · intro h
    apply List.ext_getElem?
    intro i
    by_cases hi : i < n
    · rw [txt_get hi]
      have := h.2 i hi
      rw [List.getD_eq_getElem?_getD, List.getElem?_eq_getElem (by omega)] at this
      rw [List.getElem?_eq_getElem (by omega)]
      exact congrArg some this
    · rw [List.getElem?_eq_none (by omega), List.getElem?_eq_none (by rw [txt_len]; omega)]
noncomputable def xfind (b : Nat → Int) (f n : Nat) : Int := ffr (fun k => XW.getD k [] = txt b f n) 0 30
noncomputable def mfind (b : Nat → Int) (f n : Nat) : Int := ffr (fun k => MW.getD k [] = txt b f n) 0 30
theorem xfind_b {b : Nat → Int} {f n : Nat} : -1 ≤ xfind b f n ∧ xfind b f n < 30 := by
  have := ffr_ge (p := fun k => XW.getD k [] = txt b f n) 0 30
  unfold xfind
  omega
theorem mfind_b {b : Nat → Int} {f n : Nat} : -1 ≤ mfind b f n ∧ mfind b f n < 30 := by
  have := ffr_ge (p := fun k => MW.getD k [] = txt b f n) 0 30
  unfold mfind
  omega
theorem sig_w : ∀ k : Nat, k < 30 → sig.getD k 0 < 30 ∧ XW.getD (sig.getD k 0) [] = MW.getD k [] := by decide +kernel
theorem sig_s : ∀ j : Nat, j < 30 → ∃ k, k < 30 ∧ sig.getD k 0 = j := by decide +kernel
theorem XW_d : ∀ j : Nat, j < 30 → ∀ k : Nat, k < 30 → XW.getD j [] = XW.getD k [] → j = k := by decide +kernel
/-- the same word on both sides -/
theorem find_x {b : Nat → Int} {f n : Nat} : xfind b f n = if mfind b f n = -1 then (-1 : Int) else ((sig.getD (mfind b f n).toNat 0 : Nat) : Int) := by
  rcases ffr_cases (p := fun k => MW.getD k [] = txt b f n) 30 0 with ⟨e, no⟩ | ⟨k, k1, k2, k3, e, -⟩
  · have e : mfind b f n = -1 := e
    rw [if_pos e]
    refine ffr_none (fun j _ j2 q => ?_)
    obtain ⟨k, k1, k2⟩ := sig_s j (by omega)
    refine no k (by omega) (by omega) ?_
    rw [← (sig_w k k1).2, k2]
    exact q
  · have e : mfind b f n = (k : Int) := e
    rw [if_neg (by omega), e, Int.toNat_natCast]
    have s := sig_w k (by omega)
    have hh : XW.getD (sig.getD k 0) [] = txt b f n := by rw [s.2]; exact k3
    exact ffr_unique (p := fun k => XW.getD k [] = txt b f n) (by omega) (by omega) hh (fun j _ j2 q => by
      have := XW_d j (by omega) (sig.getD k 0) s.1 (q.trans hh.symm)
      omega)
/-! bytes -/
def isS (x : Int) : Prop := 97 ≤ x ∧ x ≤ 122
def isD (x : Int) : Prop := 48 ≤ x ∧ x ≤ 57
/-- the sort of a byte: letter, digit, other -/
def knd (x : Int) : Int := if 97 ≤ x ∧ x ≤ 122 then 300 else if 48 ≤ x ∧ x ≤ 57 then 256 else 257
/-- how far a run of one sort goes -/
def run (b : Nat → Int) (n : Nat) (kd : Int) : Nat → Nat → Nat
  | 0, e => e
  | k + 1, e => if e < n ∧ knd (b e) = kd then run b n kd k (e + 1) else e
/-- the end of the token that begins at s -/
def tend (b : Nat → Int) (n s : Nat) : Nat := if knd (b s) = 257 then s + 1 else run b n (knd (b s)) 400 (s + 1)
/-- the tokens from s on: where each begins and ends -/
def toks (b : Nat → Int) (n : Nat) : Nat → Nat → List (Nat × Nat)
  | 0, _ => []
  | k + 1, s => if n ≤ s then [] else if b s = 32 then toks b n k (s + 1) else (s, tend b n s) :: toks b n k (tend b n s)
/-- its number, as m counts and as x counts -/
def mval (b : Nat → Int) (s : Nat) : Nat → Int
  | 0 => 0
  | k + 1 => if 1000000 < mval b s k then mval b s k else 10 * mval b s k + b (s + k) - 48
def xval (b : Nat → Int) (s : Nat) : Nat → Int
  | 0 => 0
  | k + 1 => mn (xval b s k * 10 + b (s + k) - 48) 1001
noncomputable def mcode (b : Nat → Int) (s e : Nat) : Int := if knd (b s) = 300 then mfind b s (e - s) + 1 else if knd (b s) = 256 then 50 else 100 + b s
noncomputable def xsort (b : Nat → Int) (s e : Nat) : Int := if knd (b s) = 300 then (if xfind b s (e - s) = -1 then 257 else 300 + xfind b s (e - s)) else if knd (b s) = 256 then 256 else b s
def mnum (b : Nat → Int) (s e : Nat) : Int := if knd (b s) = 256 then mval b s (e - s) else 0
def xnum (b : Nat → Int) (s e : Nat) : Int := if knd (b s) = 256 then xval b s (e - s) else 0
theorem run_b {b : Nat → Int} {n : Nat} {kd : Int} : ∀ k e : Nat, e ≤ run b n kd k e ∧ (e ≤ n → run b n kd k e ≤ n) ∧ run b n kd k e ≤ e + k ∧ ∀ j, e ≤ j → j < run b n kd k e → knd (b j) = kd
  | 0, e => ⟨Nat.le_refl _, fun h => h, Nat.le_refl _, fun j h1 h2 => by have : j < e := h2; omega⟩
  | k + 1, e => by
    rw [run]
    by_cases q : e < n ∧ knd (b e) = kd
    · rw [if_pos q]
      obtain ⟨a1, a2, a3, a4⟩ := run_b (b := b) (n := n) (kd := kd) k (e + 1)
      refine ⟨by omega, fun _ => a2 (by omega), by omega, fun j h1 h2 => ?_⟩
      by_cases ej : j = e
      · rw [ej]; exact q.2
      · exact a4 j (by omega) h2
    · rw [if_neg q]
      exact ⟨Nat.le_refl _, fun h => h, by omega, fun j h1 h2 => by omega⟩
theorem tend_b {b : Nat → Int} {n s : Nat} (h : s < n) : s < tend b n s ∧ tend b n s ≤ n ∧ (¬ knd (b s) = 257 → ∀ j, s ≤ j → j < tend b n s → knd (b j) = knd (b s)) := by
  unfold tend
  by_cases q : knd (b s) = 257
  · rw [if_pos q]
    exact ⟨by omega, by omega, fun z => absurd q z⟩
  · rw [if_neg q]
    obtain ⟨a1, a2, a3, a4⟩ := run_b (b := b) (n := n) (kd := knd (b s)) 400 (s + 1)
    refine ⟨by omega, a2 (by omega), fun _ j h1 h2 => ?_⟩
    by_cases ej : j = s
    · rw [ej]
    · exact a4 j (by omega) h2
theorem toks_b {b : Nat → Int} {n : Nat} : ∀ (k s : Nat), (toks b n k s).length ≤ n - s ∧ ∀ x, x ∈ toks b n k s → s ≤ x.1 ∧ x.1 < n ∧ x.1 < x.2 ∧ x.2 ≤ n ∧ ¬ b x.1 = 32 ∧ x.2 = tend b n x.1
  | 0, s => ⟨by rw [toks]; exact Nat.zero_le _, fun x q => by cases q⟩
  | k + 1, s => by
    rw [toks]
    by_cases h1 : n ≤ s
    · rw [if_pos h1]
      exact ⟨Nat.zero_le _, fun x q => by cases q⟩
    · rw [if_neg h1]
      by_cases h2 : b s = 32
      · rw [if_pos h2]
        obtain ⟨a, c⟩ := toks_b (b := b) (n := n) k (s + 1)
        exact ⟨by omega, fun x q => by have := c x q; omega⟩
      · rw [if_neg h2]
        obtain ⟨a, c⟩ := toks_b (b := b) (n := n) k (tend b n s)
        have tb := tend_b (b := b) (n := n) (s := s) (by omega)
        refine ⟨by rw [List.length_cons]; omega, fun x q => ?_⟩
        rcases List.mem_cons.mp q with e | e
        · rw [e]; exact ⟨Nat.le_refl _, by omega, tb.1, tb.2.1, h2, rfl⟩
        · have := c x e; omega

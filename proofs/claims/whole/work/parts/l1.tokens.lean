/-! the tokens of a text, for both sides -/
noncomputable def cTK (b : Nat → Int) (n p : Nat) : Int := match (TK b n)[p]? with
  | some x => mcode b x.1 x.2
  | none => 0
noncomputable def vTK (b : Nat → Int) (n p : Nat) : Int := match (TK b n)[p]? with
  | some x => mnum b x.1 x.2
  | none => 0
noncomputable def sTK (b : Nat → Int) (n p : Nat) : Nat := match (TK b n)[p]? with
  | some x => x.1
  | none => n
noncomputable def nTK (b : Nat → Int) (n : Nat) : Nat := (TK b n).length
theorem cTK_s {b : Nat → Int} {n p : Nat} {x : Nat × Nat} (h : (TK b n)[p]? = some x) : cTK b n p = mcode b x.1 x.2 ∧ vTK b n p = mnum b x.1 x.2 ∧ sTK b n p = x.1 := by
  unfold cTK vTK sTK
  rw [h]
  exact ⟨rfl, rfl, rfl⟩
theorem cTK_n {b : Nat → Int} {n p : Nat} (h : nTK b n ≤ p) : cTK b n p = 0 ∧ vTK b n p = 0 ∧ sTK b n p = n := by
  unfold cTK vTK sTK
  rw [List.getElem?_eq_none h]
  exact ⟨rfl, rfl, rfl⟩
theorem TK_get {b : Nat → Int} {n p : Nat} (h : p < nTK b n) : ∃ x : Nat × Nat, (TK b n)[p]? = some x ∧ x.1 < n ∧ x.1 < x.2 ∧ x.2 ≤ n ∧ x.2 = tend b n x.1 := by
  have hp : p < (TK b n).length := h
  refine ⟨(TK b n)[p], List.getElem?_eq_getElem hp, ?_⟩
  have := (toks_b (b := b) (n := n) 401 0).2 _ (List.getElem_mem hp)
  exact ⟨this.2.1, this.2.2.1, this.2.2.2.1, this.2.2.2.2.2⟩
theorem sAt_tok {b : Nat → Int} {s e : Nat} (h : 0 ≤ b s ∧ b s ≤ 255) : xsort b s e = xof (mcode b s e) ∧ cok (mcode b s e) := by
  have mb := mfind_b (b := b) (f := s) (n := e - s)
  have fx := find_x (b := b) (f := s) (n := e - s)
  unfold xsort mcode
  by_cases k1 : knd (b s) = 300
  · rw [if_pos k1, if_pos k1]
    by_cases m1 : mfind b s (e - s) = -1
    · rw [fx, m1]
      refine ⟨?_, Or.inl ⟨by decide, by decide⟩⟩
      unfold xof
      rw [if_pos rfl, if_pos rfl, if_pos (by decide)]
    · rw [fx, if_neg m1]
      refine ⟨?_, Or.inl ⟨by omega, by omega⟩⟩
      unfold xof
      rw [if_neg (by omega), if_neg (by omega), if_pos (by omega), show mfind b s (e - s) + 1 - 1 = mfind b s (e - s) by omega]
  · rw [if_neg k1, if_neg k1]
    by_cases k2 : knd (b s) = 256
    · rw [if_pos k2, if_pos k2]
      refine ⟨?_, Or.inr (Or.inl rfl)⟩
      unfold xof
      rw [if_neg (by decide), if_neg (by decide), if_pos rfl]
    · rw [if_neg k2, if_neg k2]
      refine ⟨?_, Or.inr (Or.inr ⟨by omega, by omega⟩)⟩
      unfold xof
      rw [if_neg (by omega), if_neg (by omega), if_neg (by omega)]
      omega
theorem xval_m {b : Nat → Int} {s : Nat} : ∀ k : Nat, (∀ j, j < k → 48 ≤ b (s + j) ∧ b (s + j) ≤ 57) → xval b s k = (if mval b s k ≤ 1000 then mval b s k else 1001)
  | 0, _ => by
    rw [xval, mval, if_pos (by decide)]
  | k + 1, h => by
    have ih := xval_m (b := b) (s := s) k (fun j q => h j (by omega))
    have mb := mval_b (b := b) (s := s) k (fun j q => h j (by omega))
    have hk := h k (by omega)
    rw [xval, mval, ih]
    by_cases c1 : mval b s k ≤ 1000
    · rw [if_pos c1, if_neg (show ¬ 1000000 < mval b s k by omega)]
      unfold mn
      by_cases c2 : 10 * mval b s k + b (s + k) - 48 ≤ 1000
      · rw [if_pos c2, if_pos (by omega)]; omega
      · rw [if_neg c2]
        by_cases c3 : mval b s k * 10 + b (s + k) - 48 < 1001
        · omega
        · rw [if_neg c3]
    · rw [if_neg c1]
      unfold mn
      rw [if_neg (by omega)]
      by_cases c2 : 1000000 < mval b s k
      · rw [if_pos c2, if_neg c1]
      · rw [if_neg c2, if_neg (by omega)]
theorem num_tok {b : Nat → Int} {n s e : Nat} (hs : s < n) (he : e = tend b n s) : 0 ≤ mnum b s e ∧ mnum b s e ≤ 10000009 ∧ (knd (b s) = 256 → xnum b s e = if mnum b s e ≤ 1000 then mnum b s e else 1001) := by
  have tb := tend_b (b := b) (n := n) (s := s) hs
  rw [← he] at tb
  unfold mnum xnum
  by_cases k : knd (b s) = 256
  · have dg : ∀ j, j < e - s → 48 ≤ b (s + j) ∧ b (s + j) ≤ 57 := fun j q => knd_d (by rw [tb.2.2 (by omega) (s + j) (by omega) (by omega)]; exact k)
    have mb := mval_b (b := b) (s := s) (e - s) dg
    rw [if_pos k, if_pos k]
    exact ⟨mb.1, mb.2, fun _ => xval_m (e - s) dg⟩
  · rw [if_neg k, if_neg k]
    exact ⟨by decide, by decide, fun z => absurd z k⟩
theorem mcode_num {b : Nat → Int} {s e : Nat} (h : 0 ≤ b s ∧ b s ≤ 255) (hc : mcode b s e = 50) : knd (b s) = 256 := by
  have mb := mfind_b (b := b) (f := s) (n := e - s)
  unfold mcode at hc
  by_cases k1 : knd (b s) = 300
  · rw [if_pos k1] at hc; omega
  · rw [if_neg k1] at hc
    by_cases k2 : knd (b s) = 256
    · exact k2
    · rw [if_neg k2] at hc; omega
section
variable {b : Nat → Int} {n : Nat}
theorem nTK_n : nTK b n ≤ n := TK_len
theorem cTK_0 : ∀ p, nTK b n ≤ p → cTK b n p = 0 := fun _ h => (cTK_n h).1
theorem vTK_b : ∀ p, 0 ≤ vTK b n p ∧ vTK b n p ≤ 10000009 := fun p => by
  by_cases h : p < nTK b n
  · obtain ⟨x, x1, x2, x3, x4, x5⟩ := TK_get h
    rw [(cTK_s x1).2.1]
    have := num_tok (b := b) x2 x5
    exact ⟨this.1, this.2.1⟩
  · rw [(cTK_n (by omega)).2.1]; exact ⟨by decide, by decide⟩
theorem sTK_b : ∀ p, sTK b n p ≤ n := fun p => by
  by_cases h : p < nTK b n
  · obtain ⟨x, x1, x2, x3, x4, x5⟩ := TK_get h
    rw [(cTK_s x1).2.2]
    omega
  · rw [(cTK_n (by omega)).2.2]; exact Nat.le_refl _
theorem TX_of {M : qMe} {law : Bool} (hn : n ≤ 400) (hb : ∀ j : Nat, j < n → 0 ≤ b j ∧ b j ≤ 255) (hk : ∀ (j : Nat) (x : Nat × Nat), j < nTK b n → (TK b n)[j]? = some x → mZ M 191 j = xsort b x.1 x.2 ∧ mZ M 192 j = xnum b x.1 x.2) (he : mZ M 191 (nTK b n) = -1) (hl : mZ M 183 8 = (if law then 1 else 0)) : TX M (cTK b n) (vTK b n) (nTK b n) law := by
  refine ⟨Nat.le_trans nTK_n hn, cTK_0, fun p => (vTK_b p).1, fun p hp => ?_, fun p hp hc => ?_, hl⟩
  · by_cases h : p < nTK b n
    · obtain ⟨x, x1, x2, x3, x4, x5⟩ := TK_get h
      rw [(hk p x h x1).1, (cTK_s x1).1]
      exact Or.inl (sAt_tok (hb _ x2))
    · have e : p = nTK b n := by omega
      rw [e, he, cTK_0 _ (Nat.le_refl _)]
      exact Or.inr ⟨rfl, rfl⟩
  · obtain ⟨x, x1, x2, x3, x4, x5⟩ := TK_get hp
    rw [(cTK_s x1).1] at hc
    rw [(hk p x hp x1).2, (cTK_s x1).2.1]
    exact (num_tok (b := b) x2 x5).2.2 (mcode_num (hb _ x2) hc)
theorem TM_of {M : qMe} {law : Bool} (hn : n ≤ 400) (hb : ∀ j : Nat, j < n → 0 ≤ b j ∧ b j ≤ 255) (hk : TkM M b (TK b n) (nTK b n)) (h0 : mZ M 490 (nTK b n) = n ∧ mZ M 488 (nTK b n) = 0 ∧ mZ M 489 (nTK b n) = 0) (hf : mZ M 479 8 = fwOf law) (hl : mZ M 479 9 = lwOf law) : TM M (cTK b n) (vTK b n) (nTK b n) law ∧ ∀ p, p ≤ nTK b n → mZ M 490 p = sTK b n p := by
  have key : ∀ p, p ≤ nTK b n → mZ M 488 p = cTK b n p ∧ mZ M 489 p = vTK b n p ∧ mZ M 490 p = sTK b n p ∧ 0 ≤ cTK b n p ∧ cTK b n p ≤ 355 := fun p hp => by
    by_cases h : p < nTK b n
    · obtain ⟨x, x1, x2, x3, x4, x5⟩ := TK_get h
      obtain ⟨k1, k2, k3⟩ := hk p x h x1
      obtain ⟨e1, e2, e3⟩ := cTK_s x1
      have mb := mcode_b (b := b) (s := x.1) (e := x.2) (hb _ x2)
      rw [e1, e2, e3]
      exact ⟨k2, k3, k1, mb.1, mb.2⟩
    · have e : p = nTK b n := by omega
      obtain ⟨e1, e2, e3⟩ := cTK_n (b := b) (n := n) (p := p) (by omega)
      rw [e1, e2, e3, e]
      exact ⟨h0.2.1, h0.2.2, h0.1, by decide, by decide⟩
  refine ⟨⟨Nat.le_trans nTK_n hn, cTK_0, fun p => (vTK_b p).1, fun p hp => ?_, hf, hl⟩, fun p hp => (key p hp).2.2.1⟩
  obtain ⟨k1, k2, k3, k4, k5⟩ := key p hp
  have sb := sTK_b (b := b) (n := n) p
  exact ⟨k1, k2, by omega, by omega, k4, k5, (vTK_b p).2⟩
end

/-! what a change of some cells keeps -/
theorem mZ_nc {M : qMe} {i1 k1 i2 k2 : Nat} {x : Int32} (h : ¬ i2 = i1) : mZ (qsI M i1 k1 x) i2 k2 = mZ M i2 k2 := by rw [mZ_I, if_neg h]
theorem mZ_ni {M : qMe} {i1 k1 i2 k2 : Nat} {x : Int32} (h : ¬ k2 = k1) : mZ (qsI M i1 k1 x) i2 k2 = mZ M i2 k2 := by
  rw [mZ_I, if_neg h]
  split <;> rfl
theorem mZ_eq {M : qMe} {i k1 k2 : Nat} {n : Int} (h : k2 = k1) (h1 : -2147483648 ≤ n) (h2 : n < 2147483648) : mZ (qsI M i k1 (iz n)) i k2 = n := by rw [mZ_Iz h1 h2, if_pos rfl, if_pos h]
theorem hAt_of {M M2 : qMe} {arr : Nat} {off c : Int} (h0 : mZ M2 arr (off + 264).toNat = mZ M arr (off + 264).toNat) (hb : mZ M arr (off + 264).toNat ≤ 8) (h : ∀ k : Int, 0 ≤ k → k < 8 → mZ M2 arr (off + (160 + 5 * k)).toNat = mZ M arr (off + (160 + 5 * k)).toNat) : hAt M2 arr off c = hAt M arr off c := by
  unfold hAt
  rw [h0]
  refine ffr_congr _ _ (fun j g1 g2 => ?_)
  rw [h (j : Int) (by omega) (by omega)]
theorem WFk_of {M M2 : qMe} {arr : Nat} {off : Int} (hw : WFk M arr off) (h : ∀ k, mZ M2 arr k = mZ M arr k) : WFk M2 arr off := by
  unfold WFk at *
  simp only [h]
  exact hw
theorem hAt_eq {M M2 : qMe} {arr : Nat} {off c : Int} (h : ∀ k, mZ M2 arr k = mZ M arr k) : hAt M2 arr off c = hAt M arr off c := by
  unfold hAt
  simp only [h]
theorem Ra_of {M M2 : qMe} {a arr : Nat} {off : Int} (hR : Ra M a arr off) (h : ∀ k, mZ M2 arr k = mZ M arr k) (h2 : ∀ i, a ≤ i → i < a + 20 → ∀ k, mZ M2 i k = mZ M i k) : Ra M2 a arr off := by
  unfold Ra at *
  simp only [h, hAt_eq h, h2 (a + 2) (by omega) (by omega), h2 (a + 3) (by omega) (by omega), h2 (a + 4) (by omega) (by omega), h2 (a + 5) (by omega) (by omega), h2 (a + 6) (by omega) (by omega), h2 (a + 7) (by omega) (by omega), h2 (a + 8) (by omega) (by omega), h2 (a + 9) (by omega) (by omega), h2 (a + 10) (by omega) (by omega), h2 (a + 11) (by omega) (by omega), h2 (a + 12) (by omega) (by omega), h2 (a + 13) (by omega) (by omega), h2 (a + 14) (by omega) (by omega), h2 (a + 15) (by omega) (by omega), h2 (a + 16) (by omega) (by omega), h2 (a + 18) (by omega) (by omega), h2 (a + 19) (by omega) (by omega), h2 (a + 1) (by omega) (by omega), h2 a (by omega) (by omega)]
  exact hR
theorem WFk_I {M : qMe} {arr i k : Nat} {x : Int32} {off : Int} (hw : WFk M arr off) (hi : ¬ arr = i) : WFk (qsI M i k x) arr off := WFk_of hw (fun k => by rw [mZ_I, if_neg hi])
theorem Ra_I {M : qMe} {a arr i k : Nat} {x : Int32} {off : Int} (hR : Ra M a arr off) (hi : ¬ arr = i) (h2 : i < a ∨ a + 20 ≤ i) : Ra (qsI M i k x) a arr off := Ra_of hR (fun k => by rw [mZ_I, if_neg hi]) (fun j g1 g2 k => by rw [mZ_I, if_neg (by omega)])
/-- the row arr is the same from lo to hi, counted from off on -/
def reg (M M2 : qMe) (arr : Nat) (off : Int) (lo hi : Int) : Prop := ∀ k : Int, lo ≤ k → k < hi → mZ M2 arr (off + k).toNat = mZ M arr (off + k).toNat
def same (M M2 : qMe) (i : Nat) : Prop := ∀ k, mZ M2 i k = mZ M i k
/-- one row of x against a stretch of m's row -/
def RaX (M : qMe) (cell arr : Nat) (off n p q : Int) : Prop := ∀ c : Int, 0 ≤ c → c < n → mZ M cell c.toNat = mZ M arr (off + (p + q * c)).toNat
theorem RaX_k {M M2 : qMe} {cell arr : Nat} {off n p q lo hi : Int} (h : RaX M cell arr off n p q) (h1 : same M M2 cell) (h2 : reg M M2 arr off lo hi) (h3 : ∀ c : Int, 0 ≤ c → c < n → lo ≤ p + q * c ∧ p + q * c < hi) : RaX M2 cell arr off n p q := fun c g1 g2 => by
  rw [h1, h2 _ (h3 c g1 g2).1 (h3 c g1 g2).2]
  exact h c g1 g2
/-- houses and hunger by cell -/
def RaH (M : qMe) (a arr : Nat) (off : Int) : Prop := (∀ c : Int, 0 ≤ c → c < 80 → mZ M (a + 4) c.toNat = hAt M arr off c) ∧ (∀ c : Int, 0 ≤ c → c < 80 → mZ M (a + 6) c.toNat = if hAt M arr off c = -1 then -1 else mZ M arr (off + (160 + 5 * hAt M arr off c + 1)).toNat)
theorem RaH_k' {M M2 : qMe} {a arr : Nat} {off : Int} (h : RaH M a arr off) (hb : 0 ≤ mZ M arr (off + 264).toNat ∧ mZ M arr (off + 264).toNat ≤ 8) (h1 : same M M2 (a + 4)) (h2 : same M M2 (a + 6)) (h3 : ∀ k : Int, 0 ≤ k → k < 8 → mZ M2 arr (off + (160 + 5 * k)).toNat = mZ M arr (off + (160 + 5 * k)).toNat) (h5 : ∀ k : Int, 0 ≤ k → k < 8 → mZ M2 arr (off + (160 + 5 * k + 1)).toNat = mZ M arr (off + (160 + 5 * k + 1)).toNat) (h4 : mZ M2 arr (off + 264).toNat = mZ M arr (off + 264).toNat) : RaH M2 a arr off := by
  have hA : ∀ c, hAt M2 arr off c = hAt M arr off c := fun c => hAt_of h4 hb.2 h3
  refine ⟨fun c g1 g2 => ?_, fun c g1 g2 => ?_⟩
  · rw [h1, hA]; exact h.1 c g1 g2
  · rw [h2, hA, h.2 c g1 g2]
    have hz := hAt_b (M := M) (arr := arr) (off := off) (c := c)
    by_cases e : hAt M arr off c = -1
    · rw [if_pos e, if_pos e]
    · rw [if_neg e, if_neg e, h5 _ (by omega) (by have := hz.2.2 hb.1; omega)]
theorem RaH_k {M M2 : qMe} {a arr : Nat} {off : Int} (h : RaH M a arr off) (hb : 0 ≤ mZ M arr (off + 264).toNat ∧ mZ M arr (off + 264).toNat ≤ 8) (h1 : same M M2 (a + 4)) (h2 : same M M2 (a + 6)) (h3 : reg M M2 arr off 160 200) (h4 : mZ M2 arr (off + 264).toNat = mZ M arr (off + 264).toNat) : RaH M2 a arr off :=
  RaH_k' h hb h1 h2 (fun k g1 g2 => h3 _ (by omega) (by omega)) (fun k g1 g2 => h3 _ (by omega) (by omega)) h4
def RaS (M : qMe) (a arr : Nat) (off : Int) : Prop := mZ M (a + 1) 9 = mZ M arr (off + 264).toNat ∧ mZ M (a + 1) 10 = mZ M arr (off + 265).toNat ∧ mZ M a 10 = mZ M arr (off + 266).toNat ∧ mZ M a 11 = mZ M arr (off + 267).toNat ∧ mZ M a 14 = mZ M arr (off + 268).toNat ∧ mZ M a 12 = mZ M arr (off + 269).toNat ∧ mZ M a 13 = mZ M arr (off + 270).toNat
/-- the relation, cut up -/
theorem Ra_iff {M : qMe} {a arr : Nat} {off : Int} : Ra M a arr off ↔ RaX M (a + 2) arr off 80 0 1 ∧ RaX M (a + 3) arr off 80 80 1 ∧ RaX M (a + 5) arr off 8 160 5 ∧ RaX M (a + 7) arr off 8 162 5 ∧ RaX M (a + 8) arr off 8 163 5 ∧ RaX M (a + 9) arr off 8 164 5 ∧ RaX M (a + 10) arr off 4 200 1 ∧ RaX M (a + 11) arr off 8 204 3 ∧ RaX M (a + 12) arr off 8 205 3 ∧ RaX M (a + 13) arr off 8 206 3 ∧ RaX M (a + 14) arr off 8 228 2 ∧ RaX M (a + 15) arr off 8 229 2 ∧ RaX M (a + 16) arr off 4 260 1 ∧ RaX M (a + 18) arr off 8 244 2 ∧ RaX M (a + 19) arr off 8 245 2 ∧ RaH M a arr off ∧ RaS M a arr off := by
  constructor
  · rintro ⟨r1, r2, r3, r4, r5, r6, r7, r8, r9, r10, r11, r12, r13, r14, r15, r16, r17, r18⟩
    exact ⟨fun c g1 g2 => by rw [show (off + (0 + 1 * c)).toNat = (off + c).toNat from congrArg Int.toNat (by omega)]; exact r1 c g1 g2, fun c g1 g2 => by rw [show (off + (80 + 1 * c)).toNat = (off + (80 + c)).toNat from congrArg Int.toNat (by omega)]; exact r2 c g1 g2, fun c g1 g2 => by rw [show (off + (160 + 5 * c)).toNat = (off + (160 + 5 * c)).toNat from congrArg Int.toNat (by omega)]; exact r4 c g1 g2, fun c g1 g2 => by rw [show (off + (162 + 5 * c)).toNat = (off + (160 + 5 * c + 2)).toNat from congrArg Int.toNat (by omega)]; exact r6 c g1 g2, fun c g1 g2 => by rw [show (off + (163 + 5 * c)).toNat = (off + (160 + 5 * c + 3)).toNat from congrArg Int.toNat (by omega)]; exact r7 c g1 g2, fun c g1 g2 => by rw [show (off + (164 + 5 * c)).toNat = (off + (160 + 5 * c + 4)).toNat from congrArg Int.toNat (by omega)]; exact r8 c g1 g2, fun c g1 g2 => by rw [show (off + (200 + 1 * c)).toNat = (off + (200 + c)).toNat from congrArg Int.toNat (by omega)]; exact r9 c g1 g2, fun c g1 g2 => by rw [show (off + (204 + 3 * c)).toNat = (off + (204 + 3 * c)).toNat from congrArg Int.toNat (by omega)]; exact r10 c g1 g2, fun c g1 g2 => by rw [show (off + (205 + 3 * c)).toNat = (off + (204 + 3 * c + 1)).toNat from congrArg Int.toNat (by omega)]; exact r11 c g1 g2, fun c g1 g2 => by rw [show (off + (206 + 3 * c)).toNat = (off + (204 + 3 * c + 2)).toNat from congrArg Int.toNat (by omega)]; exact r12 c g1 g2, fun c g1 g2 => by rw [show (off + (228 + 2 * c)).toNat = (off + (228 + 2 * c)).toNat from congrArg Int.toNat (by omega)]; exact r13 c g1 g2, fun c g1 g2 => by rw [show (off + (229 + 2 * c)).toNat = (off + (228 + 2 * c + 1)).toNat from congrArg Int.toNat (by omega)]; exact r14 c g1 g2, fun c g1 g2 => by rw [show (off + (260 + 1 * c)).toNat = (off + (260 + c)).toNat from congrArg Int.toNat (by omega)]; exact r15 c g1 g2, fun c g1 g2 => by rw [show (off + (244 + 2 * c)).toNat = (off + (244 + 2 * c)).toNat from congrArg Int.toNat (by omega)]; exact r16 c g1 g2, fun c g1 g2 => by rw [show (off + (245 + 2 * c)).toNat = (off + (244 + 2 * c + 1)).toNat from congrArg Int.toNat (by omega)]; exact r17 c g1 g2, ⟨r3, r5⟩, r18⟩
  · rintro ⟨x2, x3, x5, x7, x8, x9, x10, x11, x12, x13, x14, x15, x16, x18, x19, xh, xs⟩
    exact ⟨fun c g1 g2 => by rw [show (off + c).toNat = (off + (0 + 1 * c)).toNat from congrArg Int.toNat (by omega)]; exact x2 c g1 g2, fun c g1 g2 => by rw [show (off + (80 + c)).toNat = (off + (80 + 1 * c)).toNat from congrArg Int.toNat (by omega)]; exact x3 c g1 g2, xh.1, fun c g1 g2 => by rw [show (off + (160 + 5 * c)).toNat = (off + (160 + 5 * c)).toNat from congrArg Int.toNat (by omega)]; exact x5 c g1 g2, xh.2, fun c g1 g2 => by rw [show (off + (160 + 5 * c + 2)).toNat = (off + (162 + 5 * c)).toNat from congrArg Int.toNat (by omega)]; exact x7 c g1 g2, fun c g1 g2 => by rw [show (off + (160 + 5 * c + 3)).toNat = (off + (163 + 5 * c)).toNat from congrArg Int.toNat (by omega)]; exact x8 c g1 g2, fun c g1 g2 => by rw [show (off + (160 + 5 * c + 4)).toNat = (off + (164 + 5 * c)).toNat from congrArg Int.toNat (by omega)]; exact x9 c g1 g2, fun c g1 g2 => by rw [show (off + (200 + c)).toNat = (off + (200 + 1 * c)).toNat from congrArg Int.toNat (by omega)]; exact x10 c g1 g2, fun c g1 g2 => by rw [show (off + (204 + 3 * c)).toNat = (off + (204 + 3 * c)).toNat from congrArg Int.toNat (by omega)]; exact x11 c g1 g2, fun c g1 g2 => by rw [show (off + (204 + 3 * c + 1)).toNat = (off + (205 + 3 * c)).toNat from congrArg Int.toNat (by omega)]; exact x12 c g1 g2, fun c g1 g2 => by rw [show (off + (204 + 3 * c + 2)).toNat = (off + (206 + 3 * c)).toNat from congrArg Int.toNat (by omega)]; exact x13 c g1 g2, fun c g1 g2 => by rw [show (off + (228 + 2 * c)).toNat = (off + (228 + 2 * c)).toNat from congrArg Int.toNat (by omega)]; exact x14 c g1 g2, fun c g1 g2 => by rw [show (off + (228 + 2 * c + 1)).toNat = (off + (229 + 2 * c)).toNat from congrArg Int.toNat (by omega)]; exact x15 c g1 g2, fun c g1 g2 => by rw [show (off + (260 + c)).toNat = (off + (260 + 1 * c)).toNat from congrArg Int.toNat (by omega)]; exact x16 c g1 g2, fun c g1 g2 => by rw [show (off + (244 + 2 * c)).toNat = (off + (244 + 2 * c)).toNat from congrArg Int.toNat (by omega)]; exact x18 c g1 g2, fun c g1 g2 => by rw [show (off + (244 + 2 * c + 1)).toNat = (off + (245 + 2 * c)).toNat from congrArg Int.toNat (by omega)]; exact x19 c g1 g2, xs⟩
/-- m's row in order, cut up -/
def WS (M : qMe) (arr : Nat) (off : Int) : Prop := (0 ≤ mZ M arr (off + 264).toNat ∧ mZ M arr (off + 264).toNat ≤ 8) ∧ (0 ≤ mZ M arr (off + 265).toNat ∧ mZ M arr (off + 265).toNat ≤ 4) ∧ (0 ≤ mZ M arr (off + 266).toNat ∧ mZ M arr (off + 266).toNat ≤ 8) ∧ (0 ≤ mZ M arr (off + 267).toNat ∧ mZ M arr (off + 267).toNat ≤ 8) ∧ (0 ≤ mZ M arr (off + 268).toNat ∧ mZ M arr (off + 268).toNat ≤ 8) ∧ (0 ≤ mZ M arr (off + 269).toNat ∧ mZ M arr (off + 269).toNat ≤ 6) ∧ (-1 ≤ mZ M arr (off + 270).toNat ∧ mZ M arr (off + 270).toNat < mZ M arr (off + 269).toNat) ∧ (0 ≤ mZ M arr (off + 260).toNat ∧ mZ M arr (off + 260).toNat ≤ 99) ∧ (0 ≤ mZ M arr (off + 261).toNat ∧ mZ M arr (off + 261).toNat ≤ 20) ∧ (1 ≤ mZ M arr (off + 262).toNat ∧ mZ M arr (off + 262).toNat ≤ 60) ∧ (0 ≤ mZ M arr (off + 263).toNat ∧ mZ M arr (off + 263).toNat ≤ 9)
def W2 (M : qMe) (arr : Nat) (off : Int) : Prop := ∀ c : Int, 0 ≤ c → c < 80 → 0 ≤ mZ M arr (off + c).toNat ∧ mZ M arr (off + c).toNat ≤ 99
def W3 (M : qMe) (arr : Nat) (off : Int) : Prop := ∀ c : Int, 0 ≤ c → c < 80 → 0 ≤ mZ M arr (off + (80 + c)).toNat ∧ mZ M arr (off + (80 + c)).toNat ≤ 9
def W4 (M : qMe) (arr : Nat) (off : Int) : Prop := (∀ h : Int, 0 ≤ h → h < mZ M arr (off + 264).toNat → (0 ≤ mZ M arr (off + (160 + 5 * h)).toNat ∧ mZ M arr (off + (160 + 5 * h)).toNat < 80) ∧ 0 ≤ mZ M arr (off + (160 + 5 * h + 1)).toNat ∧ mZ M arr (off + (160 + 5 * h + 1)).toNat ≤ 9) ∧
  (∀ h : Int, 0 ≤ h → h < 8 → 0 ≤ mZ M arr (off + (160 + 5 * h + 4)).toNat ∧ mZ M arr (off + (160 + 5 * h + 4)).toNat ≤ 9) ∧
  (∀ h k : Int, 0 ≤ h → h < k → k < mZ M arr (off + 264).toNat → ¬ mZ M arr (off + (160 + 5 * h)).toNat = mZ M arr (off + (160 + 5 * k)).toNat)
def W7 (M : qMe) (arr : Nat) (off : Int) : Prop := ∀ d : Int, 0 ≤ d → d < mZ M arr (off + 265).toNat → 0 ≤ mZ M arr (off + (200 + d)).toNat ∧ mZ M arr (off + (200 + d)).toNat < 80
def W8 (M : qMe) (arr : Nat) (off : Int) : Prop := (∀ w : Int, 0 ≤ w → w < mZ M arr (off + 266).toNat → (1 ≤ mZ M arr (off + (204 + 3 * w)).toNat ∧ mZ M arr (off + (204 + 3 * w)).toNat ≤ 9) ∧ 0 ≤ mZ M arr (off + (204 + 3 * w + 1)).toNat ∧ mZ M arr (off + (204 + 3 * w + 1)).toNat ≤ 9) ∧
  (∀ w : Int, 0 ≤ w → w < 8 → 0 ≤ mZ M arr (off + (204 + 3 * w + 2)).toNat ∧ mZ M arr (off + (204 + 3 * w + 2)).toNat ≤ 1)
def W10 (M : qMe) (arr : Nat) (off : Int) : Prop := ∀ l : Int, 0 ≤ l → l < mZ M arr (off + 267).toNat → (0 ≤ mZ M arr (off + (228 + 2 * l)).toNat ∧ mZ M arr (off + (228 + 2 * l)).toNat < mZ M arr (off + 264).toNat) ∧ 1 ≤ mZ M arr (off + (228 + 2 * l + 1)).toNat ∧ mZ M arr (off + (228 + 2 * l + 1)).toNat ≤ 99
def W11 (M : qMe) (arr : Nat) (off : Int) : Prop := ∀ t : Int, 0 ≤ t → t < mZ M arr (off + 268).toNat → (0 ≤ mZ M arr (off + (244 + 2 * t)).toNat ∧ mZ M arr (off + (244 + 2 * t)).toNat < 80) ∧ 0 ≤ mZ M arr (off + (244 + 2 * t + 1)).toNat ∧ mZ M arr (off + (244 + 2 * t + 1)).toNat ≤ 1
theorem WFk_iff {M : qMe} {arr : Nat} {off : Int} : WFk M arr off ↔ WS M arr off ∧ W2 M arr off ∧ W3 M arr off ∧ W4 M arr off ∧ W7 M arr off ∧ W8 M arr off ∧ W10 M arr off ∧ W11 M arr off := by
  constructor
  · rintro ⟨w1, w2, w3, w4, w5, w6, w7, w8, w9, w10, w11⟩
    exact ⟨w1, w2, w3, ⟨w4, w5, w6⟩, w7, ⟨w8, w9⟩, w10, w11⟩
  · rintro ⟨w1, w2, w3, ⟨w4, w5, w6⟩, w7, ⟨w8, w9⟩, w10, w11⟩
    exact ⟨w1, w2, w3, w4, w5, w6, w7, w8, w9, w10, w11⟩
section
variable {M M2 : qMe} {arr : Nat} {off : Int}
theorem WS_k (h : WS M arr off) (h1 : reg M M2 arr off 260 271) : WS M2 arr off := by
  unfold WS at *
  rw [h1 264 (by decide) (by decide), h1 265 (by decide) (by decide), h1 266 (by decide) (by decide), h1 267 (by decide) (by decide), h1 268 (by decide) (by decide), h1 269 (by decide) (by decide), h1 270 (by decide) (by decide), h1 260 (by decide) (by decide), h1 261 (by decide) (by decide), h1 262 (by decide) (by decide), h1 263 (by decide) (by decide)]
  exact h
theorem W2_k (h : W2 M arr off) (h1 : reg M M2 arr off 0 80) : W2 M2 arr off := fun c g1 g2 => by rw [h1 _ g1 g2]; exact h c g1 g2
theorem W3_k (h : W3 M arr off) (h1 : reg M M2 arr off 80 160) : W3 M2 arr off := fun c g1 g2 => by rw [h1 _ (by omega) (by omega)]; exact h c g1 g2
theorem W4_k (h : W4 M arr off) (hb : mZ M arr (off + 264).toNat ≤ 8) (h1 : reg M M2 arr off 160 200) (h2 : mZ M2 arr (off + 264).toNat = mZ M arr (off + 264).toNat) : W4 M2 arr off := by
  obtain ⟨a1, a2, a3⟩ := h
  refine ⟨fun c g1 g2 => ?_, fun c g1 g2 => ?_, fun c k g1 g2 g3 => ?_⟩
  · rw [h2] at g2
    rw [h1 _ (by omega) (by omega), h1 _ (by omega) (by omega)]; exact a1 c g1 g2
  · rw [h1 _ (by omega) (by omega)]; exact a2 c g1 g2
  · rw [h2] at g3
    rw [h1 (160 + 5 * c) (by omega) (by omega), h1 (160 + 5 * k) (by omega) (by omega)]; exact a3 c k g1 g2 g3
theorem W7_k (h : W7 M arr off) (hb : mZ M arr (off + 265).toNat ≤ 4) (h1 : reg M M2 arr off 200 204) (h2 : mZ M2 arr (off + 265).toNat = mZ M arr (off + 265).toNat) : W7 M2 arr off := fun c g1 g2 => by
  rw [h2] at g2
  rw [h1 _ (by omega) (by omega)]; exact h c g1 g2
theorem W8_k (h : W8 M arr off) (hb : mZ M arr (off + 266).toNat ≤ 8) (h1 : reg M M2 arr off 204 228) (h2 : mZ M2 arr (off + 266).toNat = mZ M arr (off + 266).toNat) : W8 M2 arr off := by
  refine ⟨fun c g1 g2 => ?_, fun c g1 g2 => ?_⟩
  · rw [h2] at g2
    rw [h1 _ (by omega) (by omega), h1 _ (by omega) (by omega)]; exact h.1 c g1 g2
  · rw [h1 _ (by omega) (by omega)]; exact h.2 c g1 g2
theorem W10_k (h : W10 M arr off) (hb : mZ M arr (off + 267).toNat ≤ 8) (h1 : reg M M2 arr off 228 244) (h2 : mZ M2 arr (off + 267).toNat = mZ M arr (off + 267).toNat) (h3 : mZ M arr (off + 264).toNat ≤ mZ M2 arr (off + 264).toNat) : W10 M2 arr off := fun c g1 g2 => by
  rw [h2] at g2
  rw [h1 (228 + 2 * c) (by omega) (by omega), h1 (228 + 2 * c + 1) (by omega) (by omega)]
  have := h c g1 g2
  omega
theorem W11_k (h : W11 M arr off) (hb : mZ M arr (off + 268).toNat ≤ 8) (h1 : reg M M2 arr off 244 260) (h2 : mZ M2 arr (off + 268).toNat = mZ M arr (off + 268).toNat) : W11 M2 arr off := fun c g1 g2 => by
  rw [h2] at g2
  rw [h1 _ (by omega) (by omega), h1 _ (by omega) (by omega)]; exact h c g1 g2
end

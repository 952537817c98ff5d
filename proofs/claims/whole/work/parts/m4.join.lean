/-! x's cells behind a step of ORDERS go with the new row -/
def Lk (M1 M3 : qMe) (r l : Nat → Int32) (u : Int32) : Prop := mN M3 = mN M1 ∧ (∀ i, mK M3 i = mK M1 i) ∧ (∀ i k, mR M3 i k = mR M1 i k) ∧ (∀ i k, Ax i → mZ M3 i k = mZ M1 i k) ∧ (∀ k, mI M3 481 k = r k) ∧ (∀ k, mI M3 501 k = l k) ∧ mI M3 479 47 = u
/-- the cells that x's Clerk writes -/
def DXt (i k : Nat) : Prop := i = 12 ∨ i = 16 ∨ i = 17 ∨ i = 22 ∨ (i = 25 ∧ k = 0) ∨ (74 ≤ i ∧ i ≤ 77) ∨ (i = 78 ∧ ¬ k = 11) ∨ i = 79 ∨ i = 80 ∨ (113 ≤ i ∧ i ≤ 182) ∨ (i = 193 ∧ (k = 10 ∨ k = 8 ∨ k = 9)) ∨ (214 ≤ i ∧ i ≤ 216)
theorem Lk_F {M M1 M3 : qMe} {r l : Nat → Int32} {u : Int32} (hF : Frm M M1 DXt) (h : Lk M1 M3 r l u) : Frm M M3 (fun i k => DXt i k ∨ ¬ Ax i) := by
  obtain ⟨a1, a2, a3, a4, -⟩ := h
  refine ⟨a1.trans hF.1, fun i => (a2 i).trans (hF.2.1 i), fun i k q => (a3 i k).trans (hF.2.2.1 i k q), fun i k q => ?_⟩
  have ax : Ax i := Classical.byContradiction (fun z => q (Or.inr z))
  exact (a4 i k ax).trans (hF.z (fun z => q (Or.inl z)))
theorem DXt_8 {i k : Nat} (hi : i < 8) : ¬ (DXt i k ∨ ¬ Ax i) := by unfold DXt Ax; omega
theorem DXt_513 {i k : Nat} (h : DXt i k ∨ ¬ Ax i) : i < 513 := by unfold DXt Ax at h; omega
/-- a send -/
theorem join_send {M M1 M3 : qMe} {s t : Nat} {c : Int} (hW : Wo M) (hc : 0 ≤ c ∧ c ≤ 1279) (h4 : ∀ j : Nat, j < s → En M ((t + 16 - s + j) % 16) (105 * j)) (s8 : s ≤ 8) (t6 : t < 16) (hF : Frm M M1 DXt) (hR : ∀ i k, 114 ≤ i → i ≤ 182 → ¬ DRe t i k → mZ M1 i k = mZ M i k) (h25 : mZ M1 25 0 = mZ M 25 0) (hL : LaX M M1 c) (hRg : RgX M M1 s t c) (hk : Lk M1 M3 (sendR M c) (leftR M s c) (iz ((s1R s : Nat) : Int))) : Wo M3 ∧ Un M3 := by
  have h := hW.1
  have F3 := Lk_F hF hk
  obtain ⟨a1, a2, a3, a4, a5, a6, a7⟩ := hk
  have sr : s1R s ≤ 8 := by unfold s1R; split <;> omega
  have z7 : mZ M3 479 47 = ((s1R s : Nat) : Int) := (congrArg Int32.toInt a7).trans (iz_toInt (by omega) (by omega))
  have hS3 : SdR M M3 c := SdR_of a5
  have hL3 : LfR M M3 s c := LfR_of hc s8 a6 z7
  have bx : ∀ i k, 8 ≤ i → i < 479 → mZ M3 i k = mZ M1 i k := fun i k g1 g2 => a4 i k (by unfold Ax; omega)
  obtain ⟨S1, S2, S3, S4, S5⟩ := hS3
  obtain ⟨L1, L2, L3, L4⟩ := hL
  have f12 := Ra12 hW.2.2.1
  have f22 := Ra22 hW.2.2.1
  have f16 := Ra16 hW.2.2.1
  have f17 := Ra17 hW.2.2.1
  have hw3 : WFk M3 481 0 := WFk_u hW.2.1 S5 (fun x q1 q2 => by
    have a := S1 x.toNat (by omega)
    have b := hW.2.1.2.2.1 x q1 q2
    rw [Int.zero_add] at b
    rw [show (80 + x).toNat = 80 + x.toNat by omega] at b ⊢
    rw [a]
    unfold cut0
    split
    · omega
    · exact b) (fun w q1 q2 => by
    have a := S2 w.toNat (by omega)
    have b := hW.2.1.2.2.2.2.2.2.2.2.1 w q1 q2
    rw [Int.zero_add] at b
    rw [show (204 + 3 * w + 2).toNat = 206 + 3 * w.toNat by omega] at b ⊢
    rw [a]
    split
    · omega
    · exact b)
  have hR3 : Ra M3 9 481 0 := Ra_u hW.2.1 hW.2.2.1 S5 (fun i k q1 q2 q3 => by
      rw [bx _ _ (by omega) (by omega)]
      by_cases e25 : i = 25 ∧ k = 0
      · rw [e25.1, e25.2]; exact h25
      · exact hF.z (by unfold DXt; omega)) (fun x q1 q2 => by
      rw [show (80 + x).toNat = 80 + x.toNat by omega, bx _ _ (by decide) (by decide), L1 _ (by omega), S1 _ (by omega)]
      unfold cut0
      rw [f12 _ (by omega)]) (fun w q1 q2 => by
      rw [show (204 + 3 * w + 2).toNat = 206 + 3 * w.toNat by omega, bx _ _ (by decide) (by decide), L2 _ (by omega), S2 _ (by omega), f22 _ (by omega)]) (fun w q1 q2 => by
      rw [show (160 + 5 * w + 2).toNat = 162 + 5 * w.toNat by omega, bx _ _ (by decide) (by decide), L3 _ (by omega), S3 _ (by omega)]
      unfold upn
      rw [f16 _ (by omega)]) (fun w q1 q2 => by
      rw [show (160 + 5 * w + 3).toNat = 163 + 5 * w.toNat by omega, bx _ _ (by decide) (by decide), L4 _ (by omega), S4 _ (by omega)]
      unfold upn
      rw [f17 _ (by omega)])
  refine ⟨⟨F3.shp h (fun i k hi => DXt_8 hi), hw3, hR3, LawsR_u hW F3 S5 (fun i k q => DXt_513 q)⟩, ?_⟩
  obtain ⟨s', o, hc', l1, l2, l3⟩ := hL3
  obtain ⟨y1, y2, y3, y4, y5, y6, y7⟩ := hRg
  refine Un_send hW.2.1 hW.2.2.1 h4 s8 t6 hc' (fun i k g1 g2 g3 => ?_) (fun j q => ?_) (fun j q => ?_) (fun j q => ?_) (fun j q => ?_) ?_ l1 l2 ?_ ?_ l3
  · rw [bx _ _ (by omega) (by omega)]; exact hR i k g1 g2 g3
  · rw [bx _ _ (by omega) (by omega)]; exact y1 j q
  · rw [bx _ _ (by omega) (by omega)]; exact y2 j q
  · rw [bx _ _ (by omega) (by omega)]; exact y3 j q
  · rw [bx _ _ (by omega) (by omega)]; exact y4 j q
  · rw [bx _ _ (by omega) (by omega)]; exact y5
  · rw [bx _ _ (by decide) (by decide), y6]
    split <;> omega
  · rw [bx _ _ (by decide) (by decide)]; exact y7
/-- a mended FENCE, or the next DAY -/
theorem join_row {M M1 M3 : qMe} {p : Nat} {x : Int} (hW : Wo M) (hU : Un M) (hF : Frm M M1 DXt) (hp : (80 ≤ p ∧ p < 160 ∧ 0 ≤ x ∧ x ≤ 9 ∧ (∀ k, mZ M1 12 k = if k = p - 80 then x else mZ M 12 k) ∧ mZ M1 25 0 = mZ M 25 0) ∨ (p = 260 ∧ 0 ≤ x ∧ x ≤ 99 ∧ (∀ k, mZ M1 12 k = mZ M 12 k) ∧ mZ M1 25 0 = x)) (h3 : ∀ i k, i = 16 ∨ i = 17 ∨ i = 22 ∨ (113 ≤ i ∧ i ≤ 182) → mZ M1 i k = mZ M i k) (hk : Lk M1 M3 (updR (mI M 481) p (iz x)) (mI M 501) (mI M 479 47)) : Wo M3 ∧ Un M3 := by
  have h := hW.1
  have F3 := Lk_F hF hk
  obtain ⟨a1, a2, a3, a4, a5, a6, a7⟩ := hk
  have bx : ∀ i k, 8 ≤ i → i < 479 → mZ M3 i k = mZ M1 i k := fun i k g1 g2 => a4 i k (by unfold Ax; omega)
  have xb : 0 ≤ x ∧ x ≤ 99 := by omega
  have rp : mZ M3 481 p = x := by
    have : mI M3 481 p = iz x := (a5 p).trans (if_pos rfl)
    exact (congrArg Int32.toInt this).trans (iz_toInt (by omega) (by omega))
  have rn : ∀ k, ¬ k = p → mZ M3 481 k = mZ M 481 k := fun k q => congrArg Int32.toInt ((a5 k).trans (if_neg q))
  obtain ⟨w1, w2, w3, w4, w7, w8, w10, w11⟩ := WFk_iff.mp hW.2.1
  have pr : (80 ≤ p ∧ p < 160) ∨ p = 260 := by omega
  have rg : ∀ lo hi : Int, 0 ≤ lo → ((p : Int) < lo ∨ hi ≤ (p : Int)) → reg M M3 481 0 lo hi := fun lo hi a b k g1 g2 => rn _ (by omega)
  have e0 : ∀ k : Int, (0 ≤ k ∧ ¬ k = (p : Int)) → mZ M3 481 ((0 : Int) + k).toNat = mZ M 481 ((0 : Int) + k).toNat := fun k a => rn _ (by omega)
  have e264 := e0 264 (by omega)
  have e265 := e0 265 (by omega)
  have e266 := e0 266 (by omega)
  have e267 := e0 267 (by omega)
  have e268 := e0 268 (by omega)
  have e269 := e0 269 (by omega)
  have e270 := e0 270 (by omega)
  have e261 := e0 261 (by omega)
  have e262 := e0 262 (by omega)
  have e263 := e0 263 (by omega)
  obtain ⟨s1, s2, s3, s4, s5, s6, s7, s8, s9, s10, s11⟩ := id w1
  have hw3 : WFk M3 481 0 := by
    refine WFk_iff.mpr ⟨⟨by rw [e264]; exact s1, by rw [e265]; exact s2, by rw [e266]; exact s3, by rw [e267]; exact s4, by rw [e268]; exact s5, by rw [e269]; exact s6, ?_, ?_, by rw [e261]; exact s9, by rw [e262]; exact s10, by rw [e263]; exact s11⟩, W2_k w2 (rg 0 80 (by decide) (by omega)), fun c g1 g2 => ?_, W4_k w4 s1.2 (rg 160 200 (by decide) (by omega)) e264, W7_k w7 s2.2 (rg 200 204 (by decide) (by omega)) e265, W8_k w8 s3.2 (rg 204 228 (by decide) (by omega)) e266, W10_k w10 s4.2 (rg 228 244 (by decide) (by omega)) e267 (by rw [e264]; exact Int.le_refl _), W11_k w11 s5.2 (rg 244 260 (by decide) (by omega)) e268⟩
    · have s7 : -1 ≤ mZ M 481 270 ∧ mZ M 481 270 < mZ M 481 269 := s7
      have e270 : mZ M3 481 270 = mZ M 481 270 := e270
      have e269 : mZ M3 481 269 = mZ M 481 269 := e269
      show -1 ≤ mZ M3 481 270 ∧ mZ M3 481 270 < mZ M3 481 269
      omega
    · show 0 ≤ mZ M3 481 260 ∧ mZ M3 481 260 ≤ 99
      have s8 : 0 ≤ mZ M 481 260 ∧ mZ M 481 260 ≤ 99 := s8
      by_cases e : 260 = p
      · rw [e, rp]; exact xb
      · rw [rn _ e]; exact s8
    · rw [show ((0 : Int) + (80 + c)).toNat = 80 + c.toNat by omega]
      have := w3 c g1 g2
      rw [show ((0 : Int) + (80 + c)).toNat = 80 + c.toNat by omega] at this
      by_cases e : 80 + c.toNat = p
      · rw [e, rp]; omega
      · rw [rn _ e]; exact this
  have y12 : ∀ k, k < 80 → mZ M1 12 k = mZ M3 481 (80 + k) := fun k kb => by
    by_cases e : 80 + k = p
    · rw [e, rp]
      rcases hp with ⟨_, _, _, _, q, _⟩ | ⟨q, _⟩
      · rw [q, if_pos (by omega)]
      · omega
    · rw [rn _ e, ← Ra12 hW.2.2.1 k kb]
      rcases hp with ⟨_, _, _, _, q, _⟩ | ⟨_, _, _, q, _⟩
      · rw [q, if_neg (by omega)]
      · exact q k
  have y25 : mZ M1 25 0 = mZ M3 481 260 := by
    by_cases e : 260 = p
    · rw [e, rp]
      rcases hp with ⟨_, _, _, _, _, _⟩ | ⟨_, _, _, _, q⟩
      · omega
      · exact q
    · rw [rn _ e]
      have r25 : mZ M 25 0 = mZ M 481 260 := Ra25 hW.2.2.1 0 (by decide)
      rcases hp with ⟨_, _, _, _, _, q⟩ | ⟨q, _⟩
      · rw [q]; exact r25
      · omega
  obtain ⟨x2, x3, x5, x7, x8, x9, x10, x11, x12, x13, x14, x15, x16, x18, x19, xh, xs⟩ := Ra_iff.mp hW.2.2.1
  have sm : ∀ i, 9 ≤ i → i < 29 → ¬ i = 12 → ¬ i = 25 → same M M3 i := fun i a b n1 n2 k => by
    rw [bx _ _ (by omega) (by omega)]
    by_cases q : i = 16 ∨ i = 17 ∨ i = 22
    · exact h3 i k (by omega)
    · exact hF.z (by unfold DXt; omega)
  obtain ⟨z1, z2, z3, z4, z5, z6, z7⟩ := xs
  have hR3 : Ra M3 9 481 0 := by
    refine Ra_iff.mpr ⟨RaX_k x2 (sm _ (by decide) (by decide) (by decide) (by decide)) (rg 0 80 (by decide) (by omega)) (fun c _ _ => by omega), fun c g1 g2 => ?_, RaX_k x5 (sm _ (by decide) (by decide) (by decide) (by decide)) (rg 160 200 (by decide) (by omega)) (fun c _ _ => by omega), RaX_k x7 (sm _ (by decide) (by decide) (by decide) (by decide)) (rg 160 200 (by decide) (by omega)) (fun c _ _ => by omega), RaX_k x8 (sm _ (by decide) (by decide) (by decide) (by decide)) (rg 160 200 (by decide) (by omega)) (fun c _ _ => by omega), RaX_k x9 (sm _ (by decide) (by decide) (by decide) (by decide)) (rg 160 200 (by decide) (by omega)) (fun c _ _ => by omega), RaX_k x10 (sm _ (by decide) (by decide) (by decide) (by decide)) (rg 200 204 (by decide) (by omega)) (fun c _ _ => by omega), RaX_k x11 (sm _ (by decide) (by decide) (by decide) (by decide)) (rg 204 228 (by decide) (by omega)) (fun c _ _ => by omega), RaX_k x12 (sm _ (by decide) (by decide) (by decide) (by decide)) (rg 204 228 (by decide) (by omega)) (fun c _ _ => by omega), RaX_k x13 (sm _ (by decide) (by decide) (by decide) (by decide)) (rg 204 229 (by decide) (by omega)) (fun c _ _ => by omega), RaX_k x14 (sm _ (by decide) (by decide) (by decide) (by decide)) (rg 228 244 (by decide) (by omega)) (fun c _ _ => by omega), RaX_k x15 (sm _ (by decide) (by decide) (by decide) (by decide)) (rg 228 245 (by decide) (by omega)) (fun c _ _ => by omega), fun c g1 g2 => ?_, RaX_k x18 (sm _ (by decide) (by decide) (by decide) (by decide)) (rg 244 260 (by decide) (by omega)) (fun c _ _ => by omega), RaX_k x19 (sm _ (by decide) (by decide) (by decide) (by decide)) (rg 244 260 (by decide) (by omega)) (fun c _ _ => by omega), RaH_k xh hW.2.1.1.1 (sm _ (by decide) (by decide) (by decide) (by decide)) (sm _ (by decide) (by decide) (by decide) (by decide)) (rg 160 200 (by decide) (by omega)) e264, ?_⟩
    · rw [show ((0 : Int) + (80 + 1 * c)).toNat = 80 + c.toNat by omega, bx _ _ (by decide) (by decide)]
      exact y12 _ (by omega)
    · rw [show ((0 : Int) + (260 + 1 * c)).toNat = 260 + c.toNat by omega, bx _ _ (by decide) (by decide)]
      by_cases c0 : c = 0
      · rw [c0]; exact y25
      · have := x16 c g1 g2
        rw [show ((0 : Int) + (260 + 1 * c)).toNat = 260 + c.toNat by omega] at this
        rw [rn _ (by omega), hF.z (by unfold DXt; omega)]
        exact this
    · refine ⟨?_, ?_, ?_, ?_, ?_, ?_, ?_⟩
      · rw [e264, sm _ (by decide) (by decide) (by decide) (by decide)]; exact z1
      · rw [e265, sm _ (by decide) (by decide) (by decide) (by decide)]; exact z2
      · rw [e266, sm _ (by decide) (by decide) (by decide) (by decide)]; exact z3
      · rw [e267, sm _ (by decide) (by decide) (by decide) (by decide)]; exact z4
      · rw [e268, sm _ (by decide) (by decide) (by decide) (by decide)]; exact z5
      · rw [e269, sm _ (by decide) (by decide) (by decide) (by decide)]; exact z6
      · rw [e270, sm _ (by decide) (by decide) (by decide) (by decide)]; exact z7
  have LR : LawsR M3 9 481 0 := LawsR_tr (fun j a _ b => by
    have := rn j.toNat (by omega)
    rw [show ((0 : Int) + j).toNat = j.toNat by omega]
    exact this) hW.2.1 hW.2.2.2 (fun k _ => F3.2.2.1 _ k (by omega)) (Nat.le_of_eq F3.1.symm) (fun i _ => F3.2.1 i) (fun i k g1 _ => F3.2.2.1 i k (by omega)) (fun i k g1 _ => F3.z (fun z => by have := DXt_513 z; omega))
  refine ⟨⟨F3.shp h (fun i k hi => DXt_8 hi), hw3, hR3, LR⟩, Un_k hU (fun i k q => ?_) (congrArg Int32.toInt a7)⟩
  by_cases e : i = 501
  · rw [e]; exact congrArg Int32.toInt (a6 k)
  · rw [bx _ _ (by omega) (by omega)]
    exact h3 i k (by omega)

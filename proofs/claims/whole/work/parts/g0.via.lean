/-! m's runs where x's Alps are others: over a ghost -/
/-- the cells that m sees -/
def Am (N i : Nat) : Prop := (479 ≤ i ∧ i ≤ 512) ∨ i < 8 ∨ N ≤ i
/-- the ints of x's Alps as m's row has them -/
noncomputable def alI (M : qMe) (i k : Nat) : Int32 :=
  if i = 9 then (if k = 10 then mI M 481 266 else if k = 11 then mI M 481 267 else if k = 14 then mI M 481 268 else if k = 12 then mI M 481 269 else mI M 481 270)
  else if i = 10 then (if k = 9 then mI M 481 264 else mI M 481 265)
  else if i = 11 then mI M 481 k else if i = 12 then mI M 481 (80 + k) else if i = 13 then iz (hAt M 481 0 k) else if i = 14 then mI M 481 (160 + 5 * k)
  else if i = 15 then iz (if hAt M 481 0 k = -1 then -1 else mZ M 481 (160 + 5 * hAt M 481 0 k + 1).toNat) else if i = 16 then mI M 481 (162 + 5 * k) else if i = 17 then mI M 481 (163 + 5 * k) else if i = 18 then mI M 481 (164 + 5 * k)
  else if i = 19 then mI M 481 (200 + k) else if i = 20 then mI M 481 (204 + 3 * k) else if i = 21 then mI M 481 (205 + 3 * k) else if i = 22 then mI M 481 (206 + 3 * k) else if i = 23 then mI M 481 (228 + 2 * k) else if i = 24 then mI M 481 (229 + 2 * k)
  else if i = 25 then mI M 481 (260 + k) else if i = 27 then mI M 481 (244 + 2 * k) else if i = 28 then mI M 481 (245 + 2 * k) else mI M i k
noncomputable def al (M : qMe) : qMe := (M.1, M.2.1, M.2.2.1, (fun i k => alI M i k), M.2.2.2.2.1, M.2.2.2.2.2)
theorem al_I {M : qMe} {i k : Nat} (h : ¬ (9 ≤ i ∧ i ≤ 28)) : mI (al M) i k = mI M i k := by
  show alI M i k = _
  unfold alI
  iterate 19 rw [if_neg (by omega)]
theorem al_Z {M : qMe} {i k : Nat} (h : ¬ (9 ≤ i ∧ i ≤ 28)) : mZ (al M) i k = mZ M i k := congrArg Int32.toInt (al_I h)
theorem al_D {M : qMe} : Dif M (al M) (fun i _ => 9 ≤ i ∧ i ≤ 28) := ⟨rfl, fun _ => rfl, fun _ _ => rfl, fun _ _ => rfl, fun i k q => al_I q⟩
theorem al_Ra {M : qMe} (hw : WFk M 481 0) : Ra (al M) 9 481 0 := by
  have e : ∀ k, mZ (al M) 481 k = mZ M 481 k := fun k => al_Z (by omega)
  have z : ∀ i k, mZ (al M) i k = (alI M i k).toInt := fun i k => rfl
  have s1 := (WFk_s hw).1
  have hb := fun c => hAt_lt (M := M) (c := c) s1
  refine Ra_iff.mpr ⟨?_, ?_, ?_, ?_, ?_, ?_, ?_, ?_, ?_, ?_, ?_, ?_, ?_, ?_, ?_, ⟨?_, ?_⟩, ?_⟩
  · intro c g1 g2; rw [e, z, show (0 + (0 + 1 * c)).toNat = c.toNat by omega]; rfl
  · intro c g1 g2; rw [e, z, show (0 + (80 + 1 * c)).toNat = 80 + c.toNat by omega]; rfl
  · intro c g1 g2; rw [e, z, show (0 + (160 + 5 * c)).toNat = 160 + 5 * c.toNat by omega]; rfl
  · intro c g1 g2; rw [e, z, show (0 + (162 + 5 * c)).toNat = 162 + 5 * c.toNat by omega]; rfl
  · intro c g1 g2; rw [e, z, show (0 + (163 + 5 * c)).toNat = 163 + 5 * c.toNat by omega]; rfl
  · intro c g1 g2; rw [e, z, show (0 + (164 + 5 * c)).toNat = 164 + 5 * c.toNat by omega]; rfl
  · intro c g1 g2; rw [e, z, show (0 + (200 + 1 * c)).toNat = 200 + c.toNat by omega]; rfl
  · intro c g1 g2; rw [e, z, show (0 + (204 + 3 * c)).toNat = 204 + 3 * c.toNat by omega]; rfl
  · intro c g1 g2; rw [e, z, show (0 + (205 + 3 * c)).toNat = 205 + 3 * c.toNat by omega]; rfl
  · intro c g1 g2; rw [e, z, show (0 + (206 + 3 * c)).toNat = 206 + 3 * c.toNat by omega]; rfl
  · intro c g1 g2; rw [e, z, show (0 + (228 + 2 * c)).toNat = 228 + 2 * c.toNat by omega]; rfl
  · intro c g1 g2; rw [e, z, show (0 + (229 + 2 * c)).toNat = 229 + 2 * c.toNat by omega]; rfl
  · intro c g1 g2; rw [e, z, show (0 + (260 + 1 * c)).toNat = 260 + c.toNat by omega]; rfl
  · intro c g1 g2; rw [e, z, show (0 + (244 + 2 * c)).toNat = 244 + 2 * c.toNat by omega]; rfl
  · intro c g1 g2; rw [e, z, show (0 + (245 + 2 * c)).toNat = 245 + 2 * c.toNat by omega]; rfl
  · intro c g1 g2
    rw [z, hAt_eq e]
    show (iz (hAt M 481 0 (c.toNat : Int))).toInt = _
    rw [Int.toNat_of_nonneg g1, iz_toInt (by have := hb c; omega) (by have := hb c; omega)]
  · intro c g1 g2
    rw [z, hAt_eq e]
    show (iz (if hAt M 481 0 (c.toNat : Int) = -1 then -1 else mZ M 481 (160 + 5 * hAt M 481 0 (c.toNat : Int) + 1).toNat)).toInt = _
    rw [Int.toNat_of_nonneg g1]
    by_cases q : hAt M 481 0 c = -1
    · rw [if_pos q, if_pos q]; rfl
    · rw [if_neg q, if_neg q, iz_toInt (mZ_ge _ _ _) (mZ_lt _ _ _), e, Int.zero_add]
  · unfold RaS
    rw [e, e, e, e, e, e, e]
    exact ⟨rfl, rfl, rfl, rfl, rfl, rfl, rfl⟩
/-- what m needs -/
def WoM (M : qMe) : Prop := shp M ∧ WFk M 481 0 ∧ LawsR M 9 481 0
theorem WoM_of {M : qMe} (h : Wo M) : WoM M := ⟨h.1, h.2.1, h.2.2.2⟩
theorem WoM_al {M : qMe} (h : WoM M) : Wo (al M) := ⟨al_D.shp h.1 (fun i k hi => by omega), WFk_of h.2.1 (fun k => al_Z (by omega)), al_Ra h.2.1, LawsR_k h.2.2 (fun k => al_Z (by omega)) (Nat.le_refl _) (fun _ _ => rfl) (fun _ _ _ _ => rfl) (fun _ => rfl) (fun i k g1 _ => al_Z (by omega))⟩
theorem sw_al {M : qMe} (hN : 29 ≤ mN M) : sw (Am (mN M)) (mI M) (al M) = M := by
  unfold sw
  refine congrArg (fun f => (M.1, M.2.1, M.2.2.1, f, M.2.2.2.2.1, M.2.2.2.2.2)) (funext (fun i => funext (fun k => ?_)))
  by_cases a : Am (mN M) i
  · refine (ifA_t a).trans (al_I ?_)
    unfold Am at a
    omega
  · exact ifA_f a
/-- back from the ghost -/
noncomputable def bk1 (M M1 : qMe) : qMe := sw (Am (mN M)) (mI M) M1
theorem m_via {M : qMe} {d y : Nat} {As : List Value} {r : qR} (hN : 29 ≤ mN M) (hA : okM (Am (mN M)) M) (hS : okS (Am (mN M)) As) (h : cal d y As (al M) = some r) : cal d y As M = some (r.1, bk1 M r.2) ∧ okM (Am (mN M)) r.2 := by
  have z := cal_loc (A := Am (mN M)) (g := mI M) d y As (al M) r h hS hA
  rw [sw_al hN] at z
  exact ⟨z.1, z.2.1⟩
theorem bk1_m {M M1 : qMe} {i k : Nat} (h : Am (mN M) i) : mZ (bk1 M M1) i k = mZ M1 i k := congrArg Int32.toInt (sw_I h)
theorem bk1_x {M M1 : qMe} {i k : Nat} (h : ¬ Am (mN M) i) : mZ (bk1 M M1) i k = mZ M i k := congrArg Int32.toInt (sw_In h)
theorem bk1_D {M M1 : qMe} {D : Nat → Nat → Prop} (hN : 29 ≤ mN M) (h : Dif (al M) M1 D) : Dif M (bk1 M M1) D := by
  refine ⟨h.1, h.2.1, h.2.2.1, h.2.2.2.1, fun i k q => ?_⟩
  by_cases a : Am (mN M) i
  · refine (sw_I a).trans ((h.2.2.2.2 i k q).trans (al_I ?_))
    unfold Am at a
    omega
  · exact sw_In a
theorem okS_479 {N : Nat} {s : List Value} (h : ∀ v, v ∈ s → ∃ x, v = .int x) : okS (Am N) (.ref 479 :: s) := by
  refine okS_r (fun i q => ?_) (Or.inl ⟨by decide, by decide⟩)
  obtain ⟨x, e⟩ := h _ q
  cases e

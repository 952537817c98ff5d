/-! x runs an ORDER once, over the ghost row -/
theorem gm_bkx {X M1 : qMe} {r l : Nat → Int32} {u : Int32} (hm : ∀ i k, ¬ Ax i → mI M1 i k = mI (gm X r l u) i k) : gm (bkx X M1) r l u = M1 := by
  refine congrArg (fun f => (M1.1, M1.2.1, M1.2.2.1, f, M1.2.2.2.2.1, M1.2.2.2.2.2)) (funext (fun i => funext (fun k => ?_)))
  by_cases a : Ax i
  · exact (gm_x (M := bkx X M1) a).trans (bkx_x a)
  · refine Eq.trans ?_ (hm i k a).symm
    show gmI (bkx X M1) r l u i k = gmI X r l u i k
    unfold gmI
    rw [bkx_m a]
theorem sendR_B {G1 G2 : qMe} {c : Int} (h : ∀ k, mI G1 481 k = mI G2 481 k) (h3 : ∀ k, mZ G1 493 k = mZ G2 493 k) : sendR G1 c = sendR G2 c := by
  have z : ∀ k, mZ G1 481 k = mZ G2 481 k := fun k => congrArg Int32.toInt (h k)
  funext k
  unfold sendR
  rw [castQ_k z h3, comeP_k z h3, comeV_k z h3, eatP_k z h3]
  simp only [z, h]
theorem leftR_B {G1 G2 : qMe} {s : Nat} {c : Int} (h : ∀ k, mI G1 481 k = mI G2 481 k) (h1 : ∀ k, mI G1 501 k = mI G2 501 k) : leftR G1 s c = leftR G2 s c := by
  funext k
  unfold leftR snapR
  simp only [h, h1]
theorem gO_B {B X : qMe} {o : OS} (h3 : ∀ k, mZ X 493 k = mZ B 493 k) : (∀ k, mI (gO X o) 481 k = mI (gO B o) 481 k) ∧ (∀ k, mI (gO X o) 501 k = mI (gO B o) 501 k) ∧ (∀ k, mZ (gO X o) 481 k = mZ (gO B o) 481 k) ∧ ∀ k, mZ (gO X o) 493 k = mZ (gO B o) 493 k := ⟨fun _ => rfl, fun _ => rfl, fun _ => rfl, fun k => (gm_Z (by decide) (by decide) (by omega)).trans ((h3 k).trans (gm_Z (by decide) (by decide) (by omega)).symm)⟩
theorem doO_B {B X : qMe} {o : OS} {k : Nat} {z : Nat → Int} (h3 : ∀ k, mZ X 493 k = mZ B 493 k) : doO X k z o = doO B k z o := by
  obtain ⟨g1, g2, g3, g4⟩ := gO_B (o := o) h3
  unfold doO
  rw [g3, sendR_B g1 g4, leftR_B g1 g2, comeP_k g3 g4, castQ_k g3 g4]
theorem tryO_B {B X : qMe} {o : OS} {it : Itm} (h3 : ∀ k, mZ X 493 k = mZ B 493 k) : tryO X it o = tryO B it o := by
  obtain ⟨g1, g2, g3, g4⟩ := gO_B (o := o) h3
  have e : eO X o = eO B o := envM_k g3
  have f : (fun zs : List Int => ifC (canO (gO X o) it.1 (fun j => zs.getD j 0)) (some (doO X it.1 (fun j => zs.getD j 0) o)) none) = (fun zs : List Int => ifC (canO (gO B o) it.1 (fun j => zs.getD j 0)) (some (doO B it.1 (fun j => zs.getD j 0) o)) none) := funext (fun zs => by
    rw [propext (canO_k (k := it.1) (z := fun j => zs.getD j 0) g3), doO_B h3])
  unfold tryO
  rw [e, f]
theorem oS_gm {X : qMe} {o : OS} : oS (gm X o.1 o.2.1 o.2.2.1) o.2.2.2.1 o.2.2.2.2.1 o.2.2.2.2.2 = o := rfl
theorem smI8 (f : Nat → Int) : smI f 0 8 0 = 0 + f 0 + f 1 + f 2 + f 3 + f 4 + f 5 + f 6 + f 7 := rfl
theorem smI8_u {f g : Nat → Int} {w : Nat} (hw : w < 8) (h0 : f w = 0) (h1 : g w = 1) (hn : ∀ j : Nat, j < 8 → ¬ j = w → g j = f j) : smI g 0 8 0 = smI f 0 8 0 + 1 := by
  rw [smI8, smI8]
  have n0 := hn 0 (by decide)
  have n1 := hn 1 (by decide)
  have n2 := hn 2 (by decide)
  have n3 := hn 3 (by decide)
  have n4 := hn 4 (by decide)
  have n5 := hn 5 (by decide)
  have n6 := hn 6 (by decide)
  have n7 := hn 7 (by decide)
  rcases (show w = 0 ∨ w = 1 ∨ w = 2 ∨ w = 3 ∨ w = 4 ∨ w = 5 ∨ w = 6 ∨ w = 7 by omega) with rfl | rfl | rfl | rfl | rfl | rfl | rfl | rfl <;> omega
/-- x's ring against the one before the ORDERS -/
def XRg (B X : qMe) (t0 : Nat) : Prop := (∀ j : Nat, j < 8 → 0 ≤ mZ X 22 j ∧ mZ X 22 j ≤ 1) ∧ ∃ q : Nat, mZ X 113 8 = (((t0 + q) % 16 : Nat) : Int) ∧ smI (fun j => mZ X 22 j) 0 8 0 = smI (fun j => mZ B 22 j) 0 8 0 + q ∧ ∀ i k, 114 ≤ i → i ≤ 182 → (∀ v : Nat, v < q → ¬ DRe ((t0 + v) % 16) i k) → mZ X i k = mZ B i k
theorem XRg_s {B X X2 : qMe} {t t0 : Nat} (h : XRg B X t0) (ht : mZ X 113 8 = (t : Int)) (hT : TRg X X2 t) : XRg B X2 t0 := by
  obtain ⟨h0, q, h1, h2, h3⟩ := h
  rcases hT with ⟨e1, e2, e3⟩ | ⟨e1, e2, w, w8, e3, e4, e5⟩
  · refine ⟨fun j p => by rw [e3 j p]; exact h0 j p, q, e1.trans h1, ?_, fun i k a b c => (e2 i k a b).trans (h3 i k a b c)⟩
    rw [smI_congr 8 0 0 (fun j _ b => e3 j (by omega))]
    exact h2
  · have et : t = (t0 + q) % 16 := by omega
    refine ⟨fun j p => ?_, q + 1, ?_, ?_, fun i k a b c => ?_⟩
    · by_cases e : j = w
      · rw [e, e4]; decide
      · rw [e5 j p e]; exact h0 j p
    · rw [e1, et]
      congr 1
      omega
    · have z := smI8_u (f := fun j => mZ X 22 j) (g := fun j => mZ X2 22 j) w8 e3 e4 e5
      omega
    · rw [e2 i k a b (by rw [et]; exact c q (by omega))]
      exact h3 i k a b (fun v hv => c v (by omega))
def Dxo (i k : Nat) : Prop := DXt i k ∨ i = 73
/-- x between two ORDERS, with the state o -/
def XI (B X : qMe) (t0 : Nat) (E : Int) (o : OS) (cs : List Int) (is : List Itm) : Prop := Wo (gO X o) ∧ Un (gO X o) ∧ JK X ∧ (0 ≤ mZ X 73 6 ∧ mZ X 73 6 ≤ E) ∧ Rid X ∧ okM Ax X ∧ CkX X o.2.2.2.1 o.2.2.2.2.1 o.2.2.2.2.2 ∧ XDr X cs is ∧ (∀ k, mZ X 493 k = mZ B 493 k) ∧ Frm B X Dxo ∧ XRg B X t0
/-- and where it has failed -/
def XF (B X : qMe) (t0 : Nat) (E : Int) : Prop := shp X ∧ JK X ∧ (0 ≤ mZ X 73 6 ∧ mZ X 73 6 ≤ E) ∧ okM Ax X ∧ Frm B X Dxo ∧ XRg B X t0
theorem XDr_z {M M1 : qMe} {cs : List Int} {is : List Itm} (h : XDr M cs is) (hz : ∀ i k, 184 ≤ i → i ≤ 189 → mZ M1 i k = mZ M i k) : XDr M1 cs is := by
  obtain ⟨a1, a2, a3, a4⟩ := h
  refine ⟨by rw [hz _ _ (by decide) (by decide)]; exact a1, by rw [hz _ _ (by decide) (by decide)]; exact a2, fun j x q => by rw [hz _ _ (by decide) (by decide)]; exact a3 j x q, fun j it q => ?_⟩
  obtain ⟨b1, b2, b3, b4⟩ := a4 j it q
  exact ⟨by rw [hz _ _ (by decide) (by decide)]; exact b1, by rw [hz _ _ (by decide) (by decide)]; exact b2, by rw [hz _ _ (by decide) (by decide)]; exact b3, fun j s q => by rw [hz _ _ (by decide) (by decide)]; exact b4 j s q⟩
theorem JK_z {M M1 : qMe} (h : JK M) (hz : ∀ i k, i = 73 ∨ i = 76 ∨ i = 77 → mZ M1 i k = mZ M i k) : JK M1 := fun p a b => by
  have := h p a b
  rw [hz 76 _ (by omega), hz 77 _ (by omega), hz 73 _ (by omega)]
  exact this
/-- the bounds behind a try -/
theorem boO_try {B G : qMe} {o o1 : OS} {it : Itm} {D : Int} (hW : Wo G) (hr : ∀ k, mZ G 481 k = mZ (gO B o) 481 k) (h3 : ∀ k, mZ G 493 k = mZ (gO B o) 493 k) (h : tryO B it o = some o1) (hb : boO o D) : boO o1 (D + 1) := by
  obtain ⟨b1, b2, b3⟩ := id hb
  have same : o = o1 → boO o1 (D + 1) := fun e => by
    rw [← e]
    exact ⟨by omega, by omega, b3⟩
  unfold tryO at h
  by_cases ti : itest it.2.2.1 (eO B o) = some true
  · rw [if_pos ti] at h
    cases ev : sumsV it.2.1 (eO B o) with
    | none => rw [ev] at h; cases h
    | some zs =>
      rw [ev] at h
      have h : ifC (canO (gO B o) it.1 (fun j => zs.getD j 0)) (some (doO B it.1 (fun j => zs.getD j 0) o)) none = some o1 := h
      by_cases hc : canO (gO B o) it.1 (fun j => zs.getD j 0)
      · rw [ifC_t hc] at h
        have h := Option.some.inj h
        rw [← h]
        unfold doO
        by_cases k2 : it.1 = 2
        · rw [if_pos k2]
          exact ⟨⟨by show 0 ≤ o.2.2.2.1 + 1; omega, by show o.2.2.2.1 + 1 ≤ D + 1; omega⟩, ⟨b2.1, Int.le_trans b2.2 (by omega)⟩, b3⟩
        · rw [if_neg k2]
          by_cases k1 : it.1 = 1
          · rw [if_pos k1]
            exact ⟨⟨by show 0 ≤ o.2.2.2.1 + 1; omega, by show o.2.2.2.1 + 1 ≤ D + 1; omega⟩, ⟨b2.1, Int.le_trans b2.2 (by omega)⟩, b3⟩
          · rw [if_neg k1]
            have ht : isT (gO B o) (castZ (fun j => zs.getD j 0)) := by
              rcases hc with q | q | q
              · exact absurd q.1 k2
              · exact absurd q.1 k1
              · exact q.2.2.2.2.2
            rw [← isT_k hr] at ht
            have qi := (castQ_I (wall := -1) hW ht).1
            rw [castQ_k hr h3] at qi
            have cb : ifC (comeP (gO B o) (castZ (fun j => zs.getD j 0))) (1 : Int) 0 = 0 ∨ ifC (comeP (gO B o) (castZ (fun j => zs.getD j 0))) (1 : Int) 0 = 1 := by
              by_cases q : comeP (gO B o) (castZ (fun j => zs.getD j 0))
              · exact Or.inr (ifC_t q)
              · exact Or.inl (ifC_f q)
            refine ⟨⟨by show 0 ≤ o.2.2.2.1 + 1; omega, by show o.2.2.2.1 + 1 ≤ D + 1; omega⟩, ⟨?_, ?_⟩, ?_⟩
            · show 0 ≤ o.2.2.2.2.1 + ifC (comeP (gO B o) (castZ (fun j => zs.getD j 0))) 1 0
              omega
            · show o.2.2.2.2.1 + ifC (comeP (gO B o) (castZ (fun j => zs.getD j 0))) 1 0 ≤ D + 1
              omega
            · show -1 ≤ qp (castQ (gO B o) (-1) (castZ (fun j => zs.getD j 0))) ∧ qp (castQ (gO B o) (-1) (castZ (fun j => zs.getD j 0))) ≤ 1000
              omega
      · rw [ifC_f hc] at h; cases h
  · rw [if_neg ti] at h
    exact same (Option.some.inj h)

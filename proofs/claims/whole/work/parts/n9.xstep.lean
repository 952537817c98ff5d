/-! one try of x, whatever m's row is -/
theorem okM_x {d y : Nat} {M : qMe} {As : List Value} {r : qR} (hA : okM Ax M) (hS : okS Ax As) (h : cal d y As M = some r) : okM Ax r.2 := by
  have e : gm M (mI M 481) (mI M 501) (mI M 479 47) = M := gm_own
  have z := x_via (M := M) (r := mI M 481) (l := mI M 501) (s := mI M 479 47) hA hS (by rw [e]; exact h)
  have z1 := z.1
  rw [h] at z1
  have z2 := congrArg Prod.snd (Option.some.inj z1)
  rw [z2]
  exact z.2
theorem Frm_I {G M1 : qMe} {D : Nat → Nat → Prop} (h : Frm G M1 D) (hD : ∀ i k, D i k → Ax i) : ∀ i k, ¬ Ax i → mI M1 i k = mI G i k := fun i k a => I_of_Z (h.z (fun z => a (hD i k z)))
set_option maxHeartbeats 2000000 in
theorem x_step {d i t0 : Nat} {B X : qMe} {E D : Int} {o : OS} {cs : List Int} {is : List Itm} {it : Itm} (hX : XI B X t0 E o cs is) (hE : E < 15999999) (h5 : cs.length ≤ 512) (hi : i < 12) (hit : is[i]? = some it) (hO : ∀ e : Nat → Int, (∀ k, -1000000000 ≤ e k ∧ e k ≤ 1000000000) → itO cs it e) (hb : boO o D) (hD : D ≤ 900) : ∃ X1, cal (d + 7) 255 [.ref 73] X = some (none, X1) ∧ shp X1 ∧ (∀ i k, ¬ i = 73 → mZ X1 i k = mZ X i k) ∧ ∃ y X2, cal (d + 7) 249 [.ref 193, .ref 184, .int (iz (i : Int))] X1 = some (some (.int (iz y)), X2) ∧ XF B X2 t0 (E + 1) ∧ ((y = 1 ∧ ∃ o1, tryO B it o = some o1 ∧ XI B X2 t0 (E + 1) o1 cs is ∧ boO o1 (D + 1)) ∨ (y = 0 ∧ tryO B it o = none)) := by
  obtain ⟨hW, hU, hK, he, hI, hA, hC, hXD, h93, hF, hR⟩ := hX
  obtain ⟨b1, b2, b3⟩ := id hb
  have xz : ∀ i k, Ax i → mZ (gO X o) i k = mZ X i k := fun i k a => gm_xZ a
  have gz : ∀ i k, ¬ i = 481 → ¬ i = 501 → ¬ (i = 479 ∧ k = 47) → mZ (gO X o) i k = mZ X i k := fun i k q1 q2 q3 => gm_Z q1 q2 q3
  have a8 : ∀ i, i < 479 → Ax i := fun i q => by unfold Ax; omega
  -- renew
  obtain ⟨M1, e1, F1, G1, ep1⟩ := x_renew (d := d + 5) hW.1 hW.2.1 hW.2.2.1 hW.2.2.2 (JK_z hK (fun i k q => xz i k (a8 _ (by omega)))) (by rw [xz _ _ (a8 _ (by decide))]; omega)
  rw [show d + 5 + 2 = d + 7 by omega] at e1
  rw [xz _ _ (a8 _ (by decide))] at ep1
  obtain ⟨v1, ok1⟩ := x_via hA (okS_r (fun i q => by cases q) (a8 73 (by decide))) e1
  have D73 : ∀ i k, (fun (i _ : Nat) => i = 73) i k → Ax i := fun i k q => a8 _ (by have : i = 73 := q; omega)
  have GM : gm (bkx X M1) o.1 o.2.1 o.2.2.1 = M1 := gm_bkx (Frm_I F1 D73)
  have FX1 : Frm X (bkx X M1) (fun i _ => i = 73) := bkx_F F1 D73
  have W1 : Wo M1 := Wo_k hW F1 (fun i k q => by unfold aside; omega)
  have I1 : Rid M1 := Rid_z hI (fun i k q => (F1.z (by omega)).trans (gz _ _ (by omega) (by omega) (by omega)))
  obtain ⟨s, t, s8, t6, u1, u2, u3, u4⟩ := id hU
  have f1 : ∀ i k, ¬ i = 73 → mZ M1 i k = mZ (gO X o) i k := fun i k q => F1.z q
  have f2 : ∀ i k, ¬ i = 73 → Ax i → mZ M1 i k = mZ X i k := fun i k q a => (f1 i k q).trans (xz i k a)
  have C1 : CkX M1 o.2.2.2.1 o.2.2.2.2.1 o.2.2.2.2.2 := CkX_k hC (fun k => f2 _ _ (by decide) (a8 _ (by decide)))
  have XD1 : XDr M1 cs is := XDr_z hXD (fun i k p q => f2 _ _ (by omega) (a8 _ (by omega)))
  have eb := envM_b (dn := o.2.2.2.1) (cm := o.2.2.2.2.1) (ls := o.2.2.2.2.2) W1.2.1 (by omega) (by omega) b3
  obtain ⟨y, M2, e2, res, F2, K2, ep2, T2⟩ := x_tries (d := d) (i := i) W1 G1 I1 ((f1 _ _ (by decide)).trans u1) ((f1 _ _ (by decide)).trans u2) ((f1 _ _ (by decide)).trans u3) s8 t6 (fun j q => En_k (u4 j q) (by omega) (fun i k p => f1 i k (by omega))) XD1 h5 hi hit (hO _ (fun k => by have := eb k; omega)) C1 (by omega) (by omega) b3
  obtain ⟨v2, ok2⟩ := x_via (M := bkx X M1) (r := o.1) (l := o.2.1) (s := o.2.2.1) ok1 (okS_r (okS_r (s := [.int (iz (i : Int))]) (fun j q => by rw [List.mem_singleton] at q; cases q) (a8 184 (by decide))) (a8 193 (by decide))) (by rw [GM]; exact e2)
  have DX : ∀ i k, DXt i k → Ax i := fun i k q => a8 _ (by unfold DXt at q; omega)
  have F2' : Frm (gm (bkx X M1) o.1 o.2.1 o.2.2.1) M2 DXt := by rw [GM]; exact F2
  have FX2 : Frm (bkx X M1) (bkx (bkx X M1) M2) DXt := bkx_F F2' DX
  have FB : Frm B (bkx (bkx X M1) M2) Dxo := hF.tr ((FX1.mono (fun i k q => Or.inr q)).tr (FX2.mono (fun i k q => Or.inl q)))
  have x2 : ∀ i k, Ax i → mZ (bkx (bkx X M1) M2) i k = mZ M2 i k := fun i k a => bkx_xZ a
  have hX1 : shp (bkx X M1) := FX1.shp (by
    have := (gm_F (M := X) (r := o.1) (l := o.2.1) (s := o.2.2.1))
    exact shp_of hW.1 (Nat.le_refl _) (fun i _ => rfl) (fun q _ => rfl) (fun i hi k => (gm_I (by omega) (by omega) (by omega)).symm)) (fun i k hi q => by omega)
  have hX2 : shp (bkx (bkx X M1) M2) := FX2.shp hX1 (fun i k hi q => by unfold DXt at q; omega)
  have K : JK (bkx (bkx X M1) M2) := JK_z K2 (fun i k q => x2 _ _ (a8 _ (by omega)))
  have ep : mZ (bkx (bkx X M1) M2) 73 6 = mZ X 73 6 + 1 := (x2 _ _ (a8 _ (by decide))).trans (ep2.trans ep1)
  have TR : TRg X (bkx (bkx X M1) M2) t := by
    rcases T2 with ⟨c1, c2, c3⟩ | ⟨c1, c2, w, w8, c3, c4, c5⟩
    · refine Or.inl ⟨?_, fun i k p q => ?_, fun j q => ?_⟩
      · rw [x2 _ _ (a8 _ (by decide)), c1]; exact f2 _ _ (by decide) (a8 _ (by decide))
      · rw [x2 _ _ (a8 _ (by omega)), c2 i k p q]; exact f2 _ _ (by omega) (a8 _ (by omega))
      · rw [x2 _ _ (a8 _ (by decide)), c3 j q]; exact f2 _ _ (by decide) (a8 _ (by decide))
    · refine Or.inr ⟨?_, fun i k p q r => ?_, w, w8, ?_, ?_, fun j q r => ?_⟩
      · rw [x2 _ _ (a8 _ (by decide)), c1]
      · rw [x2 _ _ (a8 _ (by omega)), c2 i k p q r]; exact f2 _ _ (by omega) (a8 _ (by omega))
      · rw [← f2 _ _ (by decide) (a8 _ (by decide))]; exact c3
      · rw [x2 _ _ (a8 _ (by decide))]; exact c4
      · rw [x2 _ _ (a8 _ (by decide)), c5 j q r]; exact f2 _ _ (by decide) (a8 _ (by decide))
  have RG := XRg_s hR (by rw [← xz _ _ (a8 _ (by decide))]; exact u2) TR
  have h93' : ∀ k, mZ (bkx (bkx X M1) M2) 493 k = mZ B 493 k := fun k => (FX2.z (by unfold DXt; omega)).trans ((FX1.z (by omega)).trans (h93 k))
  have XFr : XF B (bkx (bkx X M1) M2) t0 (E + 1) := ⟨hX2, K, by omega, ok2, FB, RG⟩
  have eq : tryO M1 it (oS M1 o.2.2.2.1 o.2.2.2.2.1 o.2.2.2.2.2) = tryO B it o := by
    have q1 : oS M1 o.2.2.2.1 o.2.2.2.2.1 o.2.2.2.2.2 = o := by rw [← GM]; exact oS_gm
    rw [q1]
    exact tryO_B (fun k => (f1 _ _ (by decide)).trans ((gz _ _ (by decide) (by decide) (by omega)).trans (h93 k)))
  rw [eq] at res
  refine ⟨bkx X M1, v1, hX1, fun i k q => FX1.z q, y, _, v2, XFr, ?_⟩
  rcases res with ⟨rfl, o1, r1, r2, r3⟩ | ⟨rfl, r1⟩
  · refine Or.inl ⟨rfl, o1, r1, ?_, boO_try (B := B) W1 (fun k => f1 481 k (by decide)) (fun k => (f1 493 k (by decide)).trans ((gz 493 k (by decide) (by decide) (by omega)).trans ((h93 k).trans (gm_Z (by decide) (by decide) (by omega)).symm))) r1 hb⟩
    have lk : Lk M2 (gO (bkx (bkx X M1) M2) o1) o1.1 o1.2.1 o1.2.2.1 := ⟨rfl, fun _ => rfl, fun _ _ => rfl, fun i k a => (gm_xZ a).trans (x2 i k a), fun _ => rfl, fun _ => rfl, rfl⟩
    obtain ⟨w2, n2⟩ := r3 _ lk
    have ck : CkX (bkx (bkx X M1) M2) o1.2.2.2.1 o1.2.2.2.2.1 o1.2.2.2.2.2 := CkX_k r2 (fun k => x2 _ _ (a8 _ (by decide)))
    have i2 : Rid (bkx (bkx X M1) M2) := Rid_z hI (fun i k q => (FX2.z (by unfold DXt; omega)).trans (FX1.z (by omega)))
    exact ⟨w2, n2, K, XFr.2.2.1, i2, ok2, ck, XDr_z XD1 (fun i k p q => by rw [x2 _ _ (a8 _ (by omega)), F2.z (by unfold DXt; omega)]), h93', FB, RG⟩
  · exact Or.inr ⟨rfl, r1⟩

/-- what a send changes -/
def Dsd (i k : Nat) : Prop := scr i k ∨ Drf i k ∨ (i = 12 ∨ i = 16 ∨ i = 17 ∨ i = 22) ∨ (113 ≤ i ∧ i ≤ 182) ∨ i = 481 ∨ i = 501 ∨ (i = 479 ∧ k = 47)
theorem DSx2_d {t i k : Nat} (h : DSx2 t i k) (ht : t < 16) : Dsd i k := by
  unfold DSx2 DLa DRe at h
  unfold Dsd scr Drf
  omega
theorem DGs_d {i k : Nat} (h : DGs i k ∨ (i = 479 ∧ k = 0)) : Dsd i k := by
  rcases h with (q | q | q | q) | q
  · unfold DKp at q; unfold Dsd; omega
  · exact Or.inl (DSt_scr q).1
  · unfold Dsd; omega
  · unfold Dsd scr; omega
  · unfold Dsd Drf; omega
theorem okM_m {M M1 : qMe} {D : Nat → Nat → Prop} (hA : okM (Am (mN M)) M) (hF : Frm M M1 D) (hN : 513 ≤ mN M) : okM (Am (mN M1)) M1 := by
  rw [hF.1]
  refine ⟨fun i k j a e => hA.1 i k j a ?_, fun i q => hA.2.1 i (by rw [hF.1] at q; exact q), hA.2.2⟩
  rw [← hF.2.2.1 i k (fun z => by unfold Am at a; omega)]
  exact e
theorem WoM_k {M M1 : qMe} {D : Nat → Nat → Prop} (hW : Wo M) (hF : Frm M M1 D) (hD : ∀ i k, D i k → 8 ≤ i ∧ i < 513 ∧ ¬ i = 481) : WoM M1 := by
  have k481 : ∀ k, mZ M1 481 k = mZ M 481 k := fun k => hF.z (fun z => (hD _ _ z).2.2 rfl)
  exact ⟨hF.shp hW.1 (fun i k hi z => by have := hD _ _ z; omega), WFk_of hW.2.1 k481, LawsR_k hW.2.2.2 k481 (Nat.le_of_eq hF.1.symm) (fun i _ => hF.2.1 i) (fun i k g1 _ => hF.2.2.1 i k (by omega)) (fun k => hF.2.2.1 _ k (by omega)) (fun i k g1 _ => hF.z (fun z => by have := hD _ _ z; omega))⟩
set_option maxHeartbeats 1000000 in
theorem o_send {d : Nat} {M : qMe} {c : Int} (hW : Wo M) (hB : Rb M) (hU : Un M) (hK : JK M) (hI : Rid M) (hA : okM (Am (mN M)) M) (he : 0 ≤ mZ M 73 6 ∧ mZ M 73 6 < 15999999) (c1 : -2147483648 ≤ c) (c2 : c < 2147483648) : SimZ M (d + 168) 27 168 [.int (iz c)] (fun M2 => Wo M2 ∧ Rb M2 ∧ Un M2 ∧ JK M2 ∧ Rid M2 ∧ Frm M M2 Dsd ∧ mZ M2 73 6 ≤ mZ M 73 6 + 1 ∧ mZ M 73 6 ≤ mZ M2 73 6) := by
  have h := hW.1
  have hN := h.1
  by_cases ht : isT M c
  · obtain ⟨s, t, s8, t6, h1, h2, h3, h4⟩ := id hU
    obtain ⟨z, M1, c0, hz, hF, hK1, hE, hL, hRg, st⟩ := x_send (d := d + 161) hW hK hI he ht h1 h2 s8 t6
    have k481 : ∀ k, mZ M1 481 k = mZ M 481 k := fun k => hF.z (by unfold DSx2 DLa DRe; omega)
    have k493 : ∀ k, mZ M1 493 k = mZ M 493 k := fun k => hF.z (by unfold DSx2 DLa DRe; omega)
    have k501 : ∀ k, mZ M1 501 k = mZ M 501 k := fun k => hF.z (by unfold DSx2 DLa DRe; omega)
    have hWM : WoM M1 := WoM_k hW hF (fun i k q => by unfold DSx2 DLa DRe at q; omega)
    have hWa := WoM_al hWM
    have hN1 := hWM.1.1
    have hA1 := okM_m hA hF hN
    have a481 : ∀ k, mZ (al M1) 481 k = mZ M 481 k := fun k => (al_Z (by omega)).trans (k481 k)
    have a493 : ∀ k, mZ (al M1) 493 k = mZ M 493 k := fun k => (al_Z (by omega)).trans (k493 k)
    have a501 : ∀ k, mZ (al M1) 501 k = mZ M 501 k := fun k => (al_Z (by omega)).trans (k501 k)
    have hI1 : Rid M1 := Rid_z hI (fun i k q => hF.z (by unfold DSx2 DLa DRe; omega))
    have hIa : Rid (al M1) := Rid_z hI1 (fun i k q => al_Z (by omega))
    obtain ⟨z2, M2, m0, hz2, hD, hS, hLf, st2M⟩ := m_send (d := d) (s := s) (c := c) hWa hIa (by rw [isT_k a481]; exact ht) (by rw [al_Z (by omega), hF.z (by unfold DSx2 DLa DRe; omega)]; exact h3) s8
    rw [castQ_k a481 a493, ← hz] at hz2
    subst hz2
    obtain ⟨m1, -⟩ := m_via (by omega) hA1 (okS_479 (fun v q => by rw [List.mem_singleton] at q; exact ⟨_, q⟩)) m0
    have hD' := bk1_D (by omega) hD
    have bm : ∀ i k, 479 ≤ i → i ≤ 512 → mZ (bk1 M1 M2) i k = mZ M2 i k := fun i k g1 g2 => bk1_m (Or.inl ⟨g1, g2⟩)
    have bx : ∀ i k, 8 ≤ i → i < 479 → mZ (bk1 M1 M2) i k = mZ M1 i k := fun i k g1 g2 => bk1_x (by unfold Am; omega)
    generalize bk1 M1 M2 = M3 at *
    have hS3 : SdR M M3 c := SdR_2 (fun k => bm _ _ (by decide) (by decide)) (SdR_k a481 a493 hS)
    have hL3 : LfR M M3 s c := LfR_k a481 a501 (fun k => bm _ _ (by decide) (by decide)) (bm _ _ (by decide) (by decide)) hLf
    have F3 : Frm M M3 Dsd := (hF.mono (fun i k q => DSx2_d q t6)).tr ((Frm.of hD').mono (fun i k q => DGs_d q))
    obtain ⟨S1, S2, S3, S4, S5⟩ := hS3
    obtain ⟨L1, L2, L3, L4⟩ := hL
    have r := Ra_iff.mp hW.2.2.1
    have f12 : ∀ j : Nat, j < 80 → mZ M 12 j = mZ M 481 (80 + j) := fun j q => by
      have a := r.2.1 (j : Int) (by omega) (by omega)
      rw [show ((0 : Int) + (80 + 1 * (j : Int))).toNat = 80 + j by omega, Int.toNat_natCast] at a
      exact a
    have f22 : ∀ j : Nat, j < 8 → mZ M 22 j = mZ M 481 (206 + 3 * j) := fun j q => by
      have a := r.2.2.2.2.2.2.2.2.2.1 (j : Int) (by omega) (by omega)
      rw [show ((0 : Int) + (206 + 3 * (j : Int))).toNat = 206 + 3 * j by omega, Int.toNat_natCast] at a
      exact a
    have f16 : ∀ j : Nat, j < 8 → mZ M 16 j = mZ M 481 (162 + 5 * j) := fun j q => by
      have a := r.2.2.2.1 (j : Int) (by omega) (by omega)
      rw [show ((0 : Int) + (162 + 5 * (j : Int))).toNat = 162 + 5 * j by omega, Int.toNat_natCast] at a
      exact a
    have f17 : ∀ j : Nat, j < 8 → mZ M 17 j = mZ M 481 (163 + 5 * j) := fun j q => by
      have a := r.2.2.2.2.1 (j : Int) (by omega) (by omega)
      rw [show ((0 : Int) + (163 + 5 * (j : Int))).toNat = 163 + 5 * j by omega, Int.toNat_natCast] at a
      exact a
    have hw3 : WFk M3 481 0 := WFk_u hW.2.1 S5 (fun x q1 q2 => by
      have a := S1 x.toNat (by omega)
      have b := hW.2.1.2.2.1 x q1 q2
      rw [Int.zero_add] at b
      rw [show (80 + x).toNat = 80 + x.toNat by omega] at b ⊢
      rw [a]
      unfold cut0
      split
      · omega
      · exact b) (fun w q1 q2 => by
      have a := S2 w.toNat (by omega)
      have b := hW.2.1.2.2.2.2.2.2.2.2.1 w q1 q2
      rw [Int.zero_add] at b
      rw [show (204 + 3 * w + 2).toNat = 206 + 3 * w.toNat by omega] at b ⊢
      rw [a]
      split
      · omega
      · exact b)
    have hR3 : Ra M3 9 481 0 := Ra_u hW.2.1 hW.2.2.1 S5 (fun i k q1 q2 q3 => by rw [bx _ _ (by omega) (by omega), hF.z (by unfold DSx2 DLa DRe; omega)]) (fun x q1 q2 => by
        rw [show (80 + x).toNat = 80 + x.toNat by omega, bx _ _ (by decide) (by decide), L1 _ (by omega), S1 _ (by omega)]
        unfold cut0
        rw [f12 _ (by omega)]) (fun w q1 q2 => by
        rw [show (204 + 3 * w + 2).toNat = 206 + 3 * w.toNat by omega, bx _ _ (by decide) (by decide), L2 _ (by omega), S2 _ (by omega), f22 _ (by omega)]) (fun w q1 q2 => by
        rw [show (160 + 5 * w + 2).toNat = 162 + 5 * w.toNat by omega, bx _ _ (by decide) (by decide), L3 _ (by omega), S3 _ (by omega)]
        unfold upn
        rw [f16 _ (by omega)]) (fun w q1 q2 => by
        rw [show (160 + 5 * w + 3).toNat = 163 + 5 * w.toNat by omega, bx _ _ (by decide) (by decide), L4 _ (by omega), S4 _ (by omega)]
        unfold upn
        rw [f17 _ (by omega)])
    refine ⟨_, M1, M3, c0, m1, ⟨F3.shp h (fun i k hi => by unfold Dsd scr Drf; omega), hw3, hR3, LawsR_u hW F3 S5 (fun i k q => by unfold Dsd scr Drf at q; omega)⟩, ?_, ?_, ?_, ?_, F3, ?_, ?_⟩
    · refine Rb_of hB (fun j => ?_) (fun j => ?_) ?_
      · rw [bx _ _ (by decide) (by decide), hF.z (by unfold DSx2 DLa DRe; omega)]
      · rw [bm _ _ (by decide) (by decide), hD.z (by unfold DGs DKp DSt DOp DTo; omega), al_Z (by omega), hF.z (by unfold DSx2 DLa DRe; omega)]
      · rw [bx _ _ (by decide) (by decide), st, bm _ _ (by decide) (by decide), st2M]
    · obtain ⟨s', o, hc, l1, l2, l3⟩ := hL3
      obtain ⟨y1, y2, y3, y4, y5, y6, y7⟩ := hRg
      refine Un_send hW.2.1 hW.2.2.1 h4 s8 t6 hc (fun i k g1 g2 g3 => ?_) (fun j q => ?_) (fun j q => ?_) (fun j q => ?_) (fun j q => ?_) ?_ l1 l2 ?_ ?_ l3
      · rw [bx _ _ (by omega) (by omega), hF.z (fun z => by
          rcases z with z | (z | z) | z
          · omega
          · exact g3 z
          · omega
          · omega)]
      · rw [bx _ _ (by omega) (by omega)]; exact y1 j q
      · rw [bx _ _ (by omega) (by omega)]; exact y2 j q
      · rw [bx _ _ (by omega) (by omega)]; exact y3 j q
      · rw [bx _ _ (by omega) (by omega)]; exact y4 j q
      · rw [bx _ _ (by omega) (by omega)]; exact y5
      · rw [bx _ _ (by decide) (by decide), y6]
        split <;> omega
      · rw [bx _ _ (by decide) (by decide)]; exact y7
    · exact JK_k hK1 (Frm.of hD') (fun i k q => by unfold DGs DKp DSt DOp DTo at q; omega)
    · exact Rid_z hI (fun i k q => F3.z (by unfold Dsd scr Drf; omega))
    · rw [bx _ _ (by decide) (by decide), hE]; omega
    · rw [bx _ _ (by decide) (by decide), hE]; omega
  · obtain ⟨b, hr, hb⟩ := rfS_of ht
    obtain ⟨w1, w2, w3⟩ := rf_all (M := M) hb hW hB
    have xD : Dif M (xrf M b) Drf := (Dif.rfl'.I (by unfold Drf; omega)).I (by unfold Drf; omega)
    have wx : Wo (xrf M b) := Wo_k2 hW (Frm.of xD) (fun i k q => Drf_a q)
    have k481 : ∀ k, mZ (xrf M b) 481 k = mZ M 481 k := fun k => xD.z (by unfold Drf; omega)
    have c0 := c_send_rf (d := d + 165) hW c1 c2 hr
    have m0 := m_send_rf (d := d + 164) (b := b) wx c1 c2 (by unfold rfS at *; simp only [k481]; exact hr)
    have e : ∀ i k, ¬ Drf i k → mZ (mrf (xrf M b) b) i k = mZ M i k := fun i k q => w3.z q
    refine ⟨_, _, _, c0, m0, w1, w2, Un_k hU (fun i k q => e _ _ (by unfold Drf; omega)) (e _ _ (by unfold Drf; omega)), JK_k hK w3 (fun i k q => by unfold Drf at q; omega), Rid_rf hI w3, w3.mono (fun i k q => Or.inr (Or.inl q)), ?_, ?_⟩
    · rw [e _ _ (by unfold Drf; omega)]; omega
    · rw [e _ _ (by unfold Drf; omega)]; omega

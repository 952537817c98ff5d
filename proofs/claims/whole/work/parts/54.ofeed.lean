/-! feed answers alike -/
theorem xP1_D {M : qMe} {t : Int} {x : Int32} {s : Int} : Dif M (xP1 M t x s) DT := (Dif.rfl'.I (by unfold DT; omega)).I (by unfold DT; omega)
theorem xP4_D {M : qMe} {t : Int} {x : Int32} : Dif M (xP4 M t x) DT := ((xP1_D.tr xP1_D).tr xP1_D).tr xP1_D
theorem xP1_k {M : qMe} {t : Int} {x : Int32} {s : Int} {i k : Nat} (h1 : ¬ i = 8) (h2 : ¬ i = 71) : mI (xP1 M t x s) i k = mI M i k := by
  unfold xP1
  rw [mI_nc h1, mI_nc h2]
theorem xP1_8 {M : qMe} {t : Int} {x : Int32} {s : Int} {k : Nat} (h1 : ¬ k = 4) : mI (xP1 M t x s) 8 k = mI M 8 k := by
  unfold xP1
  rw [mI_I, if_pos rfl, if_neg h1, mI_nc (by decide)]
theorem xP1_71 {M : qMe} {t : Int} {x : Int32} {s : Int} {k : Nat} : mI (xP1 M t x s) 71 k = if k = t.toNat then byA x s else mI M 71 k := by
  unfold xP1
  rw [mI_nc (by decide), mI_I, if_pos rfl]
theorem xP4_k {M : qMe} {t : Int} {x : Int32} {i k : Nat} (h1 : ¬ i = 8) (h2 : ¬ i = 71) : mI (xP4 M t x) i k = mI M i k := by
  unfold xP4
  rw [xP1_k h1 h2, xP1_k h1 h2, xP1_k h1 h2, xP1_k h1 h2]
theorem xP4_8 {M : qMe} {t : Int} {x : Int32} {k : Nat} (h1 : ¬ k = 4) : mI (xP4 M t x) 8 k = mI M 8 k := by
  unfold xP4
  rw [xP1_8 h1, xP1_8 h1, xP1_8 h1, xP1_8 h1]
theorem xP4_o {M : qMe} {t : Int} {x : Int32} {k : Nat} (h0 : 0 ≤ t) (h : (k : Int) < t ∨ t + 4 ≤ k) : mI (xP4 M t x) 71 k = mI M 71 k := by
  unfold xP4
  rw [xP1_71, if_neg (by omega), xP1_71, if_neg (by omega), xP1_71, if_neg (by omega), xP1_71, if_neg (by omega)]
theorem xP4_i {M : qMe} {t r : Int} {x : Int32} (h0 : 0 ≤ t) (h1 : 0 ≤ r) (h2 : r < 4) : mI (xP4 M t x) 71 (t + r).toNat = byA x (24 - 8 * r) := by
  unfold xP4
  rcases (show r = 0 ∨ r = 1 ∨ r = 2 ∨ r = 3 by omega) with rfl | rfl | rfl | rfl
  · rw [xP1_71, if_neg (by omega), xP1_71, if_neg (by omega), xP1_71, if_neg (by omega), xP1_71, if_pos (by omega)]; rfl
  · rw [xP1_71, if_neg (by omega), xP1_71, if_neg (by omega), xP1_71, if_pos (by omega)]; rfl
  · rw [xP1_71, if_neg (by omega), xP1_71, if_pos (by omega)]; rfl
  · rw [xP1_71, if_pos (by omega)]; rfl
def xP20 (M : qMe) (t : Int) (a b c e f : Int32) : qMe := xP4 (xP4 (xP4 (xP4 (xP4 M t a) (t + 4) b) (t + 4 + 4) c) (t + 4 + 4 + 4) e) (t + 4 + 4 + 4 + 4) f
def fiv (a b c e f : Int32) (q : Int) : Int32 := if q = 0 then a else if q = 1 then b else if q = 2 then c else if q = 3 then e else f
theorem xP20_i {M : qMe} {t k : Int} {a b c e f : Int32} (h0 : 0 ≤ t) (h1 : 0 ≤ k) (h2 : k < 20) : mI (xP20 M t a b c e f) 71 (t + k).toNat = byA (fiv a b c e f (k / 4)) (24 - 8 * (k % 4)) := by
  unfold xP20 fiv
  rcases (show k / 4 = 0 ∨ k / 4 = 1 ∨ k / 4 = 2 ∨ k / 4 = 3 ∨ k / 4 = 4 by omega) with q | q | q | q | q
  · rw [xP4_o (by omega) (by omega), xP4_o (by omega) (by omega), xP4_o (by omega) (by omega), xP4_o (by omega) (by omega), show t + k = t + k % 4 by omega, xP4_i h0 (by omega) (by omega), q, if_pos rfl]
  · rw [xP4_o (by omega) (by omega), xP4_o (by omega) (by omega), xP4_o (by omega) (by omega), show t + k = t + 4 + k % 4 by omega, xP4_i (by omega) (by omega) (by omega), q]; rfl
  · rw [xP4_o (by omega) (by omega), xP4_o (by omega) (by omega), show t + k = t + 4 + 4 + k % 4 by omega, xP4_i (by omega) (by omega) (by omega), q]; rfl
  · rw [xP4_o (by omega) (by omega), show t + k = t + 4 + 4 + 4 + k % 4 by omega, xP4_i (by omega) (by omega) (by omega), q]; rfl
  · rw [show t + k = t + 4 + 4 + 4 + 4 + k % 4 by omega, xP4_i (by omega) (by omega) (by omega), q]; rfl
theorem xP20_o {M : qMe} {t : Int} {k : Nat} {a b c e f : Int32} (h0 : 0 ≤ t) (h : (k : Int) < t) : mI (xP20 M t a b c e f) 71 k = mI M 71 k := by
  unfold xP20
  rw [xP4_o (by omega) (by omega), xP4_o (by omega) (by omega), xP4_o (by omega) (by omega), xP4_o (by omega) (by omega), xP4_o (by omega) (by omega)]
theorem xP20_k {M : qMe} {t : Int} {a b c e f : Int32} {i k : Nat} (h1 : ¬ i = 8) (h2 : ¬ i = 71) : mI (xP20 M t a b c e f) i k = mI M i k := by
  unfold xP20
  rw [xP4_k h1 h2, xP4_k h1 h2, xP4_k h1 h2, xP4_k h1 h2, xP4_k h1 h2]
theorem xP20_8 {M : qMe} {t : Int} {a b c e f : Int32} {k : Nat} (h1 : ¬ k = 4) : mI (xP20 M t a b c e f) 8 k = mI M 8 k := by
  unfold xP20
  rw [xP4_8 h1, xP4_8 h1, xP4_8 h1, xP4_8 h1, xP4_8 h1]
theorem xP20_D {M : qMe} {t : Int} {a b c e f : Int32} : Dif M (xP20 M t a b c e f) DT := (((xP4_D.tr xP4_D).tr xP4_D).tr xP4_D).tr xP4_D
theorem mFd_D {t : Int} : ∀ (k i : Nat) (M : qMe), Dif M (mFd M t i k) DT
  | 0, _, _ => Dif.rfl'
  | k + 1, i, M => (Dif.rfl'.I (by unfold DT; omega)).tr (mFd_D k (i + 1) _)
theorem mFd_486 {t : Int} (h0 : 0 ≤ t) : ∀ (k i : Nat) (M : qMe) (j : Int), 0 ≤ j → mI (mFd M t i k) 486 j.toNat = if t + i ≤ j ∧ j < t + i + k then vp_nar .byte (mBy M (j - t)) else mI M 486 j.toNat
  | 0, i, M, j, hj => by
    rw [if_neg (by omega)]
    rfl
  | k + 1, i, M, j, hj => by
    have ih := mFd_486 h0 k (i + 1) (qsI M 486 (t + (i : Int)).toNat (vp_nar .byte (mBy M i))) j hj
    have e : mBy (qsI M 486 (t + (i : Int)).toNat (vp_nar .byte (mBy M i))) (j - t) = mBy M (j - t) := by
      unfold mBy
      rw [mI_nc (by decide)]
    show mI (mFd (qsI M 486 (t + (i : Int)).toNat (vp_nar .byte (mBy M i))) t (i + 1) k) 486 j.toNat = _
    rw [ih, e]
    by_cases g : j = t + i
    · subst g
      rw [if_neg (by omega), if_pos (by omega), mI_same, show t + (i : Int) - t = i by omega]
    · by_cases g2 : t + i ≤ j ∧ j < t + i + (k + 1 : Nat)
      · rw [if_pos (by omega), if_pos g2]
      · rw [if_neg (by omega), if_neg g2, mI_I, if_pos rfl, if_neg (by omega)]
def m5 (M : qMe) (a b c e f : Int32) : qMe := qsI (qsI (qsI (qsI (qsI M 487 0 a) 487 1 b) 487 2 c) 487 3 e) 487 4 f
theorem m5_k {M : qMe} {a b c e f : Int32} {i k : Nat} (h : ¬ i = 487) : mI (m5 M a b c e f) i k = mI M i k := by
  unfold m5
  rw [mI_nc h, mI_nc h, mI_nc h, mI_nc h, mI_nc h]
theorem m5_487 {M : qMe} {a b c e f : Int32} {q : Int} (h1 : 0 ≤ q) (h2 : q < 5) : mI (m5 M a b c e f) 487 q.toNat = fiv a b c e f q := by
  unfold m5 fiv
  rcases (show q = 0 ∨ q = 1 ∨ q = 2 ∨ q = 3 ∨ q = 4 by omega) with rfl | rfl | rfl | rfl | rfl <;> rfl
theorem m5_D {M : qMe} {a b c e f : Int32} : Dif M (m5 M a b c e f) DT := ((((Dif.rfl'.I (by unfold DT; omega)).I (by unfold DT; omega)).I (by unfold DT; omega)).I (by unfold DT; omega)).I (by unfold DT; omega)
theorem mZ_ofI {M M2 : qMe} {i k : Nat} (h : mI M2 i k = mI M i k) : mZ M2 i k = mZ M i k := congrArg Int32.toInt h
theorem DT_8 : ∀ i k, i < 8 → ¬ DT i k := fun i k hi => by unfold DT DS; omega
theorem o_feed {d : Nat} {a b c e f : Int32} {M : qMe} (h : shp M) (hw : WFk M 481 0) (hR : Ra M 9 481 0) (hB : Rb M) (hT : Rt M) : SimP M (d + 2) 12 103 [.int a, .int b, .int c, .int e, .int f] DT Rt := by
  obtain ⟨⟨t1, t2, t3⟩, t4, t5, t6, t7⟩ := hT
  have c0 := c_feed (d := d) (a := a) (b := b) (c := c) (e := e) (f := f) h rfl t1 t2
  by_cases g : mZ M 8 4 + 20 ≤ 400
  · rw [if_pos g] at c0
    generalize ht : mZ M 8 4 = t at *
    have c0 : cal (d + 2) 12 [.ref 8, .int a, .int b, .int c, .int e, .int f] M = some (some (.int (iz (t + 4 + 4 + 4 + 4 + 4))), xP20 M t a b c e f) := c0
    have s1 : shp (xP20 M t a b c e f) := xP20_D.shp h DT_8
    have k1 : mI (xP20 M t a b c e f) 479 13 = iz t := by
      rw [xP20_k (by decide) (by decide), mI_Z, ← t3]
    have m0 := m_feed (d := d + 1) (a := a) (b := b) (c := c) (e := e) (f := f) s1 k1 t1 t2
    rw [if_pos g] at m0
    have m0 : cal (d + 2) 103 [.ref 479, .int a, .int b, .int c, .int e, .int f] (xP20 M t a b c e f) = some (some (.int (iz (t + 4 + 4 + 4 + 4 + 4))), qsI (mFd (m5 (xP20 M t a b c e f) a b c e f) t 0 20) 479 13 (iz (t + 20))) := by
      rw [show t + 4 + 4 + 4 + 4 + 4 = t + 20 by omega]; exact m0
    have k0 : ∀ i k, ¬ i = 8 → ¬ i = 71 → ¬ i = 486 → ¬ i = 487 → ¬ i = 479 → mI (qsI (mFd (m5 (xP20 M t a b c e f) a b c e f) t 0 20) 479 13 (iz (t + 20))) i k = mI M i k := by
      intro i k g1 g2 g3 g4 g5
      rw [mI_nc g5, (mFd_s 20 0 _ (m5_D.shp s1 DT_8)).2 i k g3, m5_k g4, xP20_k g1 g2]
    have k8 : ∀ k, ¬ k = 4 → mI (qsI (mFd (m5 (xP20 M t a b c e f) a b c e f) t 0 20) 479 13 (iz (t + 20))) 8 k = mI M 8 k := by
      intro k g1
      rw [mI_nc (by decide), (mFd_s 20 0 _ (m5_D.shp s1 DT_8)).2 8 k (by decide), m5_k (by decide), xP20_8 g1]
    have k479 : ∀ k, ¬ k = 13 → mI (qsI (mFd (m5 (xP20 M t a b c e f) a b c e f) t 0 20) 479 13 (iz (t + 20))) 479 k = mI M 479 k := by
      intro k g1
      rw [mI_I, if_pos rfl, if_neg g1, (mFd_s 20 0 _ (m5_D.shp s1 DT_8)).2 479 k (by decide), m5_k (by decide), xP20_k (by decide) (by decide)]
    have k71 : ∀ k, mI (qsI (mFd (m5 (xP20 M t a b c e f) a b c e f) t 0 20) 479 13 (iz (t + 20))) 71 k = mI (xP20 M t a b c e f) 71 k := by
      intro k
      rw [mI_nc (by decide), (mFd_s 20 0 _ (m5_D.shp s1 DT_8)).2 71 k (by decide), m5_k (by decide)]
    have kT : mZ (qsI (mFd (m5 (xP20 M t a b c e f) a b c e f) t 0 20) 479 13 (iz (t + 20))) 8 4 = t + 20 := by
      have e1 : mI (qsI (mFd (m5 (xP20 M t a b c e f) a b c e f) t 0 20) 479 13 (iz (t + 20))) 8 4 = mI (xP20 M t a b c e f) 8 4 := by
        rw [mI_nc (by decide), (mFd_s 20 0 _ (m5_D.shp s1 DT_8)).2 8 4 (by decide), m5_k (by decide)]
      rw [mZ_ofI e1]
      unfold xP20
      rw [xP4_t (by omega) (by omega)]
      omega
    refine ⟨_, _, _, c0, m0, WFk_of hw (fun k => mZ_ofI (k0 _ _ (by decide) (by decide) (by decide) (by decide) (by decide))), Ra_of hR (fun k => mZ_ofI (k0 _ _ (by decide) (by decide) (by decide) (by decide) (by decide))) (fun i g1 g2 k => mZ_ofI (k0 _ _ (by omega) (by omega) (by omega) (by omega) (by omega))), ?_, ?_, ?_⟩
    · unfold Rb at *
      simp only [k0 72 _ (by decide) (by decide) (by decide) (by decide) (by decide), k0 480 _ (by decide) (by decide) (by decide) (by decide) (by decide), k8 8 (by decide), k479 0 (by decide)]
      exact hB
    · exact ((xP20_D.tr m5_D).tr (mFd_D 20 0 _)).I (by unfold DT; omega)
    · refine ⟨⟨by omega, by omega, ?_⟩, ?_, ?_, ?_, ?_⟩
      · rw [kT]
        exact (mZ_eq rfl (by omega) (by omega)).symm
      · rw [kT]
        intro i g1 g2
        rw [mZ_ofI (k71 _)]
        have e2 : mI (qsI (mFd (m5 (xP20 M t a b c e f) a b c e f) t 0 20) 479 13 (iz (t + 20))) 486 i.toNat = mI (mFd (m5 (xP20 M t a b c e f) a b c e f) t 0 20) 486 i.toNat := mI_nc (by decide)
        rw [mZ_ofI e2]
        by_cases gi : i < t
        · rw [mZ_ofI (xP20_o t1 (by omega))]
          have e3 : mI (mFd (m5 (xP20 M t a b c e f) a b c e f) t 0 20) 486 i.toNat = mI M 486 i.toNat := by
            rw [mFd_486 t1 20 0 _ i g1, if_neg (by omega), m5_k (by decide), xP20_k (by decide) (by decide)]
          rw [mZ_ofI e3]
          exact t4 i g1 gi
        · have e3 : mI (mFd (m5 (xP20 M t a b c e f) a b c e f) t 0 20) 486 i.toNat = vp_nar .byte (fiv a b c e f ((i - t) / 4) >>> (iz (24 - 8 * ((i - t) % 4)) &&& 31)).toInt8.toInt32 := by
            rw [mFd_486 t1 20 0 _ i g1, if_pos (by omega)]
            unfold mBy
            rw [m5_487 (by omega) (by omega)]
          have e4 := xP20_i (M := M) (t := t) (k := i - t) (a := a) (b := b) (c := c) (e := e) (f := f) t1 (by omega) (by omega)
          rw [show t + (i - t) = i by omega] at e4
          unfold mZ
          rw [e3, e4, nar_byte]
          exact by_Z _
      · rw [k8 _ (by decide), k479 _ (by decide)]; exact t5
      · rw [k8 _ (by decide), k479 _ (by decide)]; exact t6
      · rw [k8 _ (by decide), k479 _ (by decide)]; exact t7
  · rw [if_neg g] at c0
    have m0 := m_feed (d := d + 1) (a := a) (b := b) (c := c) (e := e) (f := f) h (by rw [mI_Z]) (by rw [← t3]; exact t1) (by rw [← t3]; exact t2)
    rw [← t3, if_neg g] at m0
    exact ⟨_, _, _, c0, m0, hw, hR, hB, Dif.rfl', ⟨t1, t2, t3⟩, t4, t5, t6, t7⟩

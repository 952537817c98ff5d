/-! TRIPS as pure functions -/
theorem iz0 : (0 : Int32) = iz 0 := rfl
def ab (v : Int) : Int := if 0 ≤ v then v else 0 - v
theorem nz_abs {v : Int} (h1 : -2147483648 ≤ v) (h2 : v < 2147483648) : (if (0 : Int32) ≤ iz v then iz v else 0 - iz v) = iz (ab v) := by
  unfold ab
  by_cases q : 0 ≤ v
  · rw [if_pos q, if_pos (by rw [iz0, iz_le (by decide) (by decide) h1 h2]; exact q)]
  · rw [if_neg q, if_neg (by rw [iz0, iz_le (by decide) (by decide) h1 h2]; exact q), iz0, iz_sub]
theorem nz_min {x z : Int} (h1 : -2147483648 ≤ x) (h2 : x < 2147483648) (h3 : -2147483648 ≤ z) (h4 : z < 2147483648) : (if iz z < iz x then iz z else iz x) = iz (mn x z) := by
  unfold mn
  by_cases q : z < x
  · rw [if_pos (by rw [iz_lt h3 h4 h1 h2]; exact q), if_neg (by omega)]
  · rw [if_neg (by rw [iz_lt h3 h4 h1 h2]; exact q)]
    by_cases e : x < z
    · rw [if_pos e]
    · rw [if_neg e, show x = z by omega]
def ds (a b : Int) : Int := ab (a % 8 - b % 8) + ab (a / 8 - b / 8)
theorem ds_b {a b : Int} (h1 : 0 ≤ a ∧ a < 80) (h2 : 0 ≤ b ∧ b < 80) : 0 ≤ ds a b ∧ ds a b ≤ 16 := by
  unfold ds ab
  split <;> split <;> omega
def hcl (M : qMe) (h : Nat) : Int := mZ M 481 (160 + 5 * h)
def hwt (M : qMe) (h : Nat) : Int := mZ M 481 (164 + 5 * h)
/-- the least WAY from f through all of S with h the last -/
noncomputable def tourQ (M : qMe) (f : Int) : Nat → Nat → Nat → Int
  | 0, _, _ => 0
  | n + 1, S, h => if S = 2 ^ h then ds f (hcl M h) else fmin (bt (andn S (2 ^ h))) (fun o => tourQ M f n (andn S (2 ^ h)) o + ds (hcl M o) (hcl M h)) 1000000 8
noncomputable def tourP (M : qMe) (f : Int) (S h : Nat) : Int := tourQ M f (pc S) S h
theorem tourP_1 {M : qMe} {f : Int} {S h : Nat} (hS : S < 256) (hh : h < 8) (hb : bt S h) (e : andn S (2 ^ h) = 0) : tourP M f S h = ds f (hcl M h) := by
  have p := pc_1 S hS h hh hb
  unfold tourP
  obtain ⟨k, hk⟩ : ∃ k, pc S = k + 1 := ⟨pc (andn S (2 ^ h)), p.1.symm⟩
  rw [hk, tourQ]
  have : ∀ S : Nat, S < 256 → ∀ h : Nat, h < 8 → S / 2 ^ h % 2 = 1 → andn S (2 ^ h) = 0 → S = 2 ^ h := by decide +kernel
  exact if_pos (this S hS h hh hb e)
theorem tourP_n {M : qMe} {f : Int} {S h : Nat} (hS : S < 256) (hh : h < 8) (hb : bt S h) (e : ¬ andn S (2 ^ h) = 0) : tourP M f S h = fmin (bt (andn S (2 ^ h))) (fun o => tourP M f (andn S (2 ^ h)) o + ds (hcl M o) (hcl M h)) 1000000 8 := by
  have p := pc_1 S hS h hh hb
  unfold tourP
  have hk : pc S = pc (andn S (2 ^ h)) + 1 := p.1.symm
  rw [hk, tourQ]
  have : ∀ h : Nat, h < 8 → andn (2 ^ h) (2 ^ h) = 0 := by decide +kernel
  exact if_neg (fun q => e (by rw [q]; exact this h hh))
/-- in sets of HOUSES -/
def inH (M : qMe) (S : Nat) : Prop := ∀ h : Nat, h < 8 → bt S h → (h : Int) < mZ M 481 264
theorem inH_n {M : qMe} {S h : Nat} (hS : S < 256) (hh : h < 8) (hi : inH M S) : inH M (andn S (2 ^ h)) := fun o ho hb => hi o ho ((bt_n S hS h hh o ho).mp hb).2
theorem hcl_b {M : qMe} {h : Nat} (hw : WFk M 481 0) (hh : (h : Int) < mZ M 481 264) : 0 ≤ hcl M h ∧ hcl M h < 80 := by
  have a := hw.2.2.2.1 (h : Int) (by omega) (by rw [show ((0 : Int) + 264).toNat = 264 by decide]; exact hh)
  rw [show ((0 : Int) + (160 + 5 * (h : Int))).toNat = 160 + 5 * h by omega] at a
  exact a.1
theorem hwt_b {M : qMe} {h : Nat} (hw : WFk M 481 0) (hh : h < 8) : 0 ≤ hwt M h ∧ hwt M h ≤ 9 := by
  have a := hw.2.2.2.2.1 (h : Int) (by omega) (by omega)
  rw [show ((0 : Int) + (160 + 5 * (h : Int) + 4)).toNat = 164 + 5 * h by omega] at a
  exact a
theorem ex_bt : ∀ S : Nat, S < 256 → ¬ S = 0 → ∃ h, h < 8 ∧ S / 2 ^ h % 2 = 1 := by decide +kernel
theorem tourP_b {M : qMe} {f : Int} (hw : WFk M 481 0) (hf : 0 ≤ f ∧ f < 80) : ∀ (n S h : Nat), pc S = n → S < 256 → h < 8 → bt S h → inH M S → 0 ≤ tourP M f S h ∧ tourP M f S h ≤ 16 * n
  | 0, S, h, e, hS, hh, hb, _ => by have := (pc_1 S hS h hh hb).1; omega
  | n + 1, S, h, e, hS, hh, hb, hi => by
    have p := pc_1 S hS h hh hb
    have ch := hcl_b hw (hi h hh hb)
    by_cases z : andn S (2 ^ h) = 0
    · rw [tourP_1 hS hh hb z]
      have := ds_b hf ch
      omega
    · rw [tourP_n hS hh hb z]
      obtain ⟨m1, m2, m3⟩ := fmin_is (p := bt (andn S (2 ^ h))) (f := fun o => tourP M f (andn S (2 ^ h)) o + ds (hcl M o) (hcl M h)) (i := 1000000) 8
      have ih : ∀ o, o < 8 → bt (andn S (2 ^ h)) o → 0 ≤ tourP M f (andn S (2 ^ h)) o + ds (hcl M o) (hcl M h) ∧ tourP M f (andn S (2 ^ h)) o + ds (hcl M o) (hcl M h) ≤ 16 * (n + 1) := fun o ho hbo => by
        have a := tourP_b hw hf n (andn S (2 ^ h)) o (by omega) (by omega) ho hbo (inH_n hS hh hi)
        have b := ds_b (hcl_b hw (inH_n hS hh hi o ho hbo)) ch
        omega
      obtain ⟨o, ho, hbo⟩ := ex_bt _ (by omega) z
      have a := ih o ho hbo
      have b := m2 o ho hbo
      simp only at b
      refine ⟨?_, by omega⟩
      rcases m3 with m3 | ⟨t, t1, t2, t3⟩
      · omega
      · rw [t3]; exact (ih t t1 t2).1
/-- the least WAY through all of S and home -/
noncomputable def wayS (M : qMe) (f : Int) (S : Nat) : Int := fmin (bt S) (fun h => tourP M f S h + ds (hcl M h) f) 1000000 8
theorem wayS_b {M : qMe} {f : Int} {S : Nat} (hw : WFk M 481 0) (hf : 0 ≤ f ∧ f < 80) (hS : S < 256) (h0 : ¬ S = 0) (hi : inH M S) : 0 ≤ wayS M f S ∧ wayS M f S ≤ 144 := by
  obtain ⟨m1, m2, m3⟩ := fmin_is (p := bt S) (f := fun h => tourP M f S h + ds (hcl M h) f) (i := 1000000) 8
  have ih : ∀ o, o < 8 → bt S o → 0 ≤ tourP M f S o + ds (hcl M o) f ∧ tourP M f S o + ds (hcl M o) f ≤ 144 := fun o ho hbo => by
    have a := tourP_b hw hf (pc S) S o rfl hS ho hbo hi
    have b := ds_b (hcl_b hw (hi o ho hbo)) hf
    have := pc_le (s := S)
    omega
  obtain ⟨o, ho, hbo⟩ := ex_bt _ hS h0
  have a := ih o ho hbo
  have b := m2 o ho hbo
  simp only at b
  unfold wayS
  refine ⟨?_, by omega⟩
  rcases m3 with m3 | ⟨t, t1, t2, t3⟩
  · omega
  · rw [t3]; exact (ih t t1 t2).1
/-- the load of S -/
noncomputable def loadN (M : qMe) (S : Nat) : Nat → Int
  | 0 => 0
  | h + 1 => @ite _ (bt S h) (Classical.propDecidable _) (loadN M S h + hwt M h) (loadN M S h)
theorem loadN_t {M : qMe} {S h : Nat} (b : bt S h) : loadN M S (h + 1) = loadN M S h + hwt M h := by rw [loadN]; exact if_pos b
theorem loadN_f {M : qMe} {S h : Nat} (b : ¬ bt S h) : loadN M S (h + 1) = loadN M S h := by rw [loadN]; exact if_neg b
theorem loadN_b {M : qMe} {S : Nat} (hw : WFk M 481 0) : ∀ h : Nat, h ≤ 8 → 0 ≤ loadN M S h ∧ loadN M S h ≤ 9 * h
  | 0, _ => by rw [loadN]; omega
  | h + 1, q => by
    have ih := loadN_b (S := S) hw h (by omega)
    by_cases b : bt S h
    · rw [loadN_t b]
      have := hwt_b hw (show h < 8 by omega)
      omega
    · rw [loadN_f b]; omega
/-- t can be the lowest one's TRIP of S -/
def okT (M : qMe) (S t : Nat) : Prop := t &&& S = t ∧ ¬ andn t (S - 1) = 0 ∧ loadN M t 8 ≤ mZ M 481 262
theorem okT_0 {M : qMe} {S t : Nat} (h : okT M S t) : ¬ t = 0 := fun q => h.2.1 (by
  subst q
  unfold andn
  rw [Nat.zero_and]
  rfl)
noncomputable def planQ (M : qMe) (f : Int) : Nat → Nat → Int
  | 0, _ => 0
  | n + 1, S => if S = 0 then 0 else fmin (okT M S) (fun t => 10000 + wayS M f t + planQ M f n (andn S t)) 1000000 (S + 1)
theorem planQ_n {M : qMe} {f : Int} : ∀ (n m S : Nat), S < 256 → pc S ≤ n → pc S ≤ m → planQ M f n S = planQ M f m S := by
  have z0 : ∀ S : Nat, S < 256 → pc S = 0 → S = 0 := by decide +kernel
  intro n
  induction n with
  | zero =>
    intro m S hS h1 h2
    have : S = 0 := z0 S hS (by omega)
    subst this
    cases m with
    | zero => rfl
    | succ m => rw [planQ, planQ, if_pos rfl]
  | succ n ih =>
    intro m S hS h1 h2
    by_cases e : S = 0
    · subst e
      cases m with
      | zero => rw [planQ, planQ, if_pos rfl]
      | succ m => rw [planQ, planQ, if_pos rfl, if_pos rfl]
    · cases m with
      | zero => exact absurd (z0 S hS (by omega)) e
      | succ m =>
        rw [planQ, planQ, if_neg e, if_neg e]
        refine fmin_c _ (fun _ _ => Iff.rfl) (fun t t1 t2 => ?_)
        have p := sub_pc S hS t (by omega) t2.1 (okT_0 t2)
        rw [ih m (andn S t) (by omega) (by omega) (by omega)]
noncomputable def planP (M : qMe) (f : Int) (S : Nat) : Int := planQ M f 8 S
theorem planP_0 {M : qMe} {f : Int} : planP M f 0 = 0 := by unfold planP; rw [planQ, if_pos rfl]
theorem planP_s {M : qMe} {f : Int} {S : Nat} (hS : S < 256) (h0 : ¬ S = 0) : planP M f S = fmin (okT M S) (fun t => 10000 + wayS M f t + planP M f (andn S t)) 1000000 (S + 1) := by
  show planQ M f 8 S = _
  rw [planQ, if_neg h0]
  refine fmin_c _ (fun _ _ => Iff.rfl) (fun t t1 t2 => ?_)
  have p := sub_pc S hS t (by omega) t2.1 (okT_0 t2)
  have q := pc_le (s := S)
  show 10000 + wayS M f t + planQ M f 7 (andn S t) = 10000 + wayS M f t + planQ M f 8 (andn S t)
  rw [planQ_n 7 8 (andn S t) (by omega) (by omega) (by omega)]
theorem inH_t {M : qMe} {S t : Nat} (hS : S < 256) (ht : t < 256) (hs : t &&& S = t) (hi : inH M S) : inH M t := fun h hh hb => hi h hh (by
  have : ∀ S : Nat, S < 256 → ∀ t : Nat, t < 256 → t &&& S = t → ∀ h : Nat, h < 8 → t / 2 ^ h % 2 = 1 → S / 2 ^ h % 2 = 1 := by decide +kernel
  exact this S hS t ht hs h hh hb)
theorem andn_sub : ∀ S : Nat, S < 256 → ∀ t : Nat, t < 256 → andn S t &&& S = andn S t := by decide +kernel
/-- how many TRIPS, which WAY -/
def planOk (S : Nat) (v : Int) : Prop := v = 1000000 ∨ ∃ k w : Int, v = 10000 * k + w ∧ 0 ≤ k ∧ k ≤ pc S ∧ 0 ≤ w ∧ w ≤ 144 * k
theorem planP_ok {M : qMe} {f : Int} (hw : WFk M 481 0) (hf : 0 ≤ f ∧ f < 80) : ∀ (n S : Nat), pc S ≤ n → S < 256 → inH M S → planOk S (planP M f S) := by
  have z0 : ∀ S : Nat, S < 256 → pc S = 0 → S = 0 := by decide +kernel
  intro n
  induction n with
  | zero =>
    intro S h1 hS hi
    rw [z0 S hS (by omega), planP_0]
    exact Or.inr ⟨0, 0, by decide, by decide, by decide, by decide, by decide⟩
  | succ n ih =>
    intro S h1 hS hi
    by_cases e : S = 0
    · subst e
      rw [planP_0]
      exact Or.inr ⟨0, 0, by decide, by decide, by decide, by decide, by decide⟩
    · obtain ⟨m1, m2, m3⟩ := fmin_is (p := okT M S) (f := fun t => 10000 + wayS M f t + planP M f (andn S t)) (i := 1000000) (S + 1)
      rw [← planP_s hS e] at m1 m2 m3
      rcases m3 with m3 | ⟨t, t1, t2, t3⟩
      · exact Or.inl m3
      · have p := sub_pc S hS t (by omega) t2.1 (okT_0 t2)
        have wb := wayS_b hw hf (show t < 256 by omega) (okT_0 t2) (inH_t hS (by omega) t2.1 hi)
        rcases ih (andn S t) (by omega) (by omega) (inH_t hS (by omega) (andn_sub S hS t (by omega)) hi) with q | ⟨k, w, q1, q2, q3, q4, q5⟩
        · simp only at t3; omega
        · refine Or.inr ⟨k + 1, wayS M f t + w, ?_, by omega, by omega, by omega, by omega⟩
          simp only at t3
          omega

/-! x's runs where m's row is another: over a ghost row -/
def Ax (i : Nat) : Prop := ¬ (479 ≤ i ∧ i ≤ 512)
def gmI (M : qMe) (r l : Nat → Int32) (s : Int32) (i k : Nat) : Int32 := if i = 481 then r k else if i = 501 then l k else if i = 479 ∧ k = 47 then s else mI M i k
def gm (M : qMe) (r l : Nat → Int32) (s : Int32) : qMe := (M.1, M.2.1, M.2.2.1, (fun i k => gmI M r l s i k), M.2.2.2.2.1, M.2.2.2.2.2)
section
variable {M : qMe} {r l : Nat → Int32} {s : Int32}
theorem gm_I {i k : Nat} (h1 : ¬ i = 481) (h2 : ¬ i = 501) (h3 : ¬ (i = 479 ∧ k = 47)) : mI (gm M r l s) i k = mI M i k := by
  show gmI M r l s i k = _
  unfold gmI
  rw [if_neg h1, if_neg h2, if_neg h3]
theorem gm_Z {i k : Nat} (h1 : ¬ i = 481) (h2 : ¬ i = 501) (h3 : ¬ (i = 479 ∧ k = 47)) : mZ (gm M r l s) i k = mZ M i k := congrArg Int32.toInt (gm_I h1 h2 h3)
theorem gm_r {k : Nat} : mI (gm M r l s) 481 k = r k := rfl
theorem gm_l {k : Nat} : mI (gm M r l s) 501 k = l k := rfl
theorem gm_s : mI (gm M r l s) 479 47 = s := rfl
theorem gm_x {i k : Nat} (h : Ax i) : mI (gm M r l s) i k = mI M i k := by
  unfold Ax at h
  exact gm_I (by omega) (by omega) (by omega)
theorem gm_xZ {i k : Nat} (h : Ax i) : mZ (gm M r l s) i k = mZ M i k := congrArg Int32.toInt (gm_x h)
theorem gm_F : Fr M (gm M r l s) (fun i k => i = 481 ∨ i = 501 ∨ (i = 479 ∧ k = 47)) := ⟨rfl, fun _ => rfl, fun _ _ => rfl, fun i k q => gm_Z (fun z => q (Or.inl z)) (fun z => q (Or.inr (Or.inl z))) (fun z => q (Or.inr (Or.inr z))), fun _ _ _ => rfl⟩
theorem sw_gm : sw Ax (mI M) (gm M r l s) = M := by
  unfold sw
  refine congrArg (fun f => (M.1, M.2.1, M.2.2.1, f, M.2.2.2.2.1, M.2.2.2.2.2)) (funext (fun i => funext (fun k => ?_)))
  by_cases a : Ax i
  · exact (ifA_t a).trans (gm_x a)
  · exact ifA_f a
end
/-- back from the ghost row -/
noncomputable def bkx (M M1 : qMe) : qMe := sw Ax (mI M) M1
theorem x_via {M : qMe} {r l : Nat → Int32} {s : Int32} {d y : Nat} {As : List Value} {rr : qR} (hA : okM Ax M) (hS : okS Ax As) (h : cal d y As (gm M r l s) = some rr) : cal d y As M = some (rr.1, bkx M rr.2) ∧ okM Ax (bkx M rr.2) := by
  have z := cal_loc (A := Ax) (g := mI M) d y As (gm M r l s) rr h hS hA
  rw [sw_gm] at z
  exact ⟨z.1, z.2.1⟩
theorem bkx_x {M M1 : qMe} {i k : Nat} (h : Ax i) : mI (bkx M M1) i k = mI M1 i k := sw_I h
theorem bkx_m {M M1 : qMe} {i k : Nat} (h : ¬ Ax i) : mI (bkx M M1) i k = mI M i k := sw_In h
theorem bkx_xZ {M M1 : qMe} {i k : Nat} (h : Ax i) : mZ (bkx M M1) i k = mZ M1 i k := congrArg Int32.toInt (bkx_x h)
theorem bkx_mZ {M M1 : qMe} {i k : Nat} (h : ¬ Ax i) : mZ (bkx M M1) i k = mZ M i k := congrArg Int32.toInt (bkx_m h)
/-- the ghosts of a memory are its own -/
theorem gm_own {M : qMe} : gm M (mI M 481) (mI M 501) (mI M 479 47) = M := by
  refine congrArg (fun f => (M.1, M.2.1, M.2.2.1, f, M.2.2.2.2.1, M.2.2.2.2.2)) (funext (fun i => funext (fun k => ?_)))
  show gmI M _ _ _ i k = M.2.2.2.1 i k
  unfold gmI
  by_cases a : i = 481
  · rw [if_pos a, a]; rfl
  · rw [if_neg a]
    by_cases b : i = 501
    · rw [if_pos b, b]; rfl
    · rw [if_neg b]
      by_cases c : i = 479 ∧ k = 47
      · rw [if_pos c, c.1, c.2]; rfl
      · rw [if_neg c]; rfl
/-- a run over the ghost that leaves m's cells alone: what comes back -/
theorem bkx_F {M M1 : qMe} {r l : Nat → Int32} {s : Int32} {D : Nat → Nat → Prop} (h : Frm (gm M r l s) M1 D) (hD : ∀ i k, D i k → Ax i) : Frm M (bkx M M1) D := by
  refine ⟨h.1, h.2.1, h.2.2.1, fun i k q => ?_⟩
  by_cases a : Ax i
  · rw [bkx_xZ a, h.z q]
    exact gm_xZ a
  · exact bkx_mZ a

/-! the whole of it -/
theorem DS_law : ∀ k, DS 481 k → k < 269 ∨ k = 270 := fun k q => by
  unfold DS at q
  omega
theorem whole_start {p : Program} {e : Env} {s : State} {m : MethodId} {below : List Frame} {meth : Method} {c : Code} (l : Launch) {b L : Nat} {xs : Nat → Int32} (hL : L ≤ 3584) (C0 : lw_At p s m meth c b L xs) : W p l e room_1 s m #[Value.ref b] below meth c s.heap [] 0 0 (lw_Z below #[Value.ref b] s) (entryFrame m ([Value.ref b] : List Value).toArray 4) := by
  have hw : wp (cal (200 + 1) 0 [.ref 0] (st_M L xs)) (fun v M' => v = some (.int (iz 1)) ∧ mN M' ≤ 3585 ∧ M'.2.1 ≤ 2843200) := by
    refine law_run (n := L) DS_law hL rfl rfl (fun _ _ => rfl) (fun i k q => ?_) rfl ⟨rfl, rfl, rfl⟩ (fun k _ => rfl) (fun k _ => rfl) (fun k _ => rfl) (fun M' a b => ⟨rfl, a, b⟩)
    show st_v xs i k = 0
    unfold st_v
    rw [if_neg (by omega), if_neg (by omega), if_neg (by omega), if_neg (by omega)]
  obtain ⟨v, M', hrun, rfl, h1, h2⟩ := hw
  have e1 : iz 1 = (1 : Int32) := by decide +kernel
  rw [e1] at hrun
  have h1 : M'.1 ≤ 3585 := h1
  exact st_walk l C0 hrun (by omega) (by omega)

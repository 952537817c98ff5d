/-! memory: what a store does -/
def qu2 {α : Type} (f : Nat → Nat → α) (i k : Nat) (x : α) : Nat → Nat → α := fun a j => if a = i then (if j = k then x else f a j) else f a j
def qsI (M : qMe) (i k : Nat) (x : Int32) : qMe := (M.1, M.2.1, M.2.2.1, qu2 M.2.2.2.1 i k x, M.2.2.2.2.1, M.2.2.2.2.2)
def qsJ (M : qMe) (i k : Nat) (x : Int64) : qMe := (M.1, M.2.1, M.2.2.1, M.2.2.2.1, qu2 M.2.2.2.2.1 i k x, M.2.2.2.2.2)
def qsR (M : qMe) (i k : Nat) (x : Option Nat) : qMe := (M.1, M.2.1, M.2.2.1, M.2.2.2.1, M.2.2.2.2.1, qu2 M.2.2.2.2.2 i k x)
theorem q_nolaw : ¬ (qnm 0).name = "<init>" := by decide +kernel
theorem qu2_ne {α : Type} {f : Nat → Nat → α} {i k : Nat} {x : α} {a : Nat} (h : a ≠ i) (j : Nat) : qu2 f i k x a j = f a j := by simp [qu2, h]
theorem qu2_nk {α : Type} {f : Nat → Nat → α} {i k : Nat} {x : α} {a j : Nat} (h : j ≠ k) : qu2 f i k x a j = f a j := by
  unfold qu2
  split
  · rfl
  · rfl
theorem qu2_self {α : Type} {f : Nat → Nat → α} {i k : Nat} {x : α} : qu2 f i k x i k = x := by simp [qu2]
theorem qmv_I_ne {M : qMe} {i k : Nat} {x : Int32} {kd a j : Nat} (h : a ≠ i) : qmv (qsI M i k x) kd a j = qmv M kd a j := by
  unfold qmv qsI; split <;> simp [qu2_ne h]
theorem qmv_J_ne {M : qMe} {i k : Nat} {x : Int64} {kd a j : Nat} (h : a ≠ i) : qmv (qsJ M i k x) kd a j = qmv M kd a j := by
  unfold qmv qsJ; split <;> simp [qu2_ne h]
theorem qmv_R_ne {M : qMe} {i k : Nat} {x : Option Nat} {kd a j : Nat} (h : a ≠ i) : qmv (qsR M i k x) kd a j = qmv M kd a j := by
  unfold qmv qsR; split <;> simp [qu2_ne h]
theorem qmv_I_k {M : qMe} {i k : Nat} {x : Int32} {kd a j : Nat} (h : j ≠ k) : qmv (qsI M i k x) kd a j = qmv M kd a j := by
  unfold qmv qsI; split <;> simp [qu2_nk h]
theorem qmv_J_k {M : qMe} {i k : Nat} {x : Int64} {kd a j : Nat} (h : j ≠ k) : qmv (qsJ M i k x) kd a j = qmv M kd a j := by
  unfold qmv qsJ; split <;> simp [qu2_nk h]
theorem qmv_R_k {M : qMe} {i k : Nat} {x : Option Nat} {kd a j : Nat} (h : j ≠ k) : qmv (qsR M i k x) kd a j = qmv M kd a j := by
  unfold qmv qsR; split <;> simp [qu2_nk h]
theorem qmv_I_self {M : qMe} {i k : Nat} {x : Int32} {kd : Nat} (h : qsk kd k = 0) : qmv (qsI M i k x) kd i k = .int x := by
  unfold qmv qsI; rw [h]; simp [qu2_self]
theorem qmv_J_self {M : qMe} {i k : Nat} {x : Int64} {kd : Nat} (h : qsk kd k = 1) : qmv (qsJ M i k x) kd i k = .long x := by
  unfold qmv qsJ; rw [h]; simp [qu2_self]
theorem qmv_R_self {M : qMe} {i k : Nat} {x : Option Nat} {kd : Nat} (h : qsk kd k = 2) : qmv (qsR M i k x) kd i k = qrv x := by
  unfold qmv qsR; rw [h]; simp [qu2_self]
theorem qad_ne {G : qG} (ha : ∀ i, 8 ≤ i → G.2.2.1 i + 8 = G.2.2.2.1.size + i) {i j : Nat} (hi : 8 ≤ i) (hj : 8 ≤ j) (h : i ≠ j) : G.2.2.1 i ≠ G.2.2.1 j := by
  have h1 := ha i hi
  have h2 := ha j hj
  omega
theorem qad_ge {G : qG} (ha : ∀ i, 8 ≤ i → G.2.2.1 i + 8 = G.2.2.2.1.size + i) {i : Nat} (hi : 8 ≤ i) : G.2.2.2.1.size ≤ G.2.2.1 i := by
  have h1 := ha i hi
  omega
theorem qat_kept {G : qG} {M M' : qMe} {i : Nat} {H H' : Heap} (h : qat G M i H) (hs : M'.2.2.1 i = M.2.2.1 i) (hv : ∀ kd k, qmv M' kd i k = qmv M kd i k) (hH : H'[G.2.2.1 i]? = H[G.2.2.1 i]?) : qat G M' i H' := by
  unfold qat at h ⊢
  rw [hs]
  split
  · next hk =>
    rw [if_pos hk] at h
    obtain ⟨q, h1, h2⟩ := h
    exact ⟨q, h1, (h2.kept hH).to (fun k _ => by rw [hv])⟩
  · next hk =>
    rw [if_neg hk] at h
    rw [hH, h]
    congr 2
    funext k
    rw [hv]
/-- one cell changed -/
theorem qrep_upd {G : qG} {M M' : qMe} {H H' : Heap} {i : Nat} (ha : ∀ i, 8 ≤ i → G.2.2.1 i + 8 = G.2.2.2.1.size + i) (hM : qrep G M H) (hi : 8 ≤ i) (e1 : M'.1 = M.1) (e2 : M'.2.2.1 = M.2.2.1) (hI : ∀ a, a < 8 → M'.2.2.2.1 a = M.2.2.2.1 a) (hv : ∀ a, a ≠ i → ∀ kd k, qmv M' kd a k = qmv M kd a k) (hz : H'.size = H.size) (hq : ∀ q, q ≠ G.2.2.1 i → H'[q]? = H[q]?) (hn : qat G M' i H') : qrep G M' H' := by
  obtain ⟨h1, h2, h3, h4, h5⟩ := hM
  refine ⟨by rw [hz, e1]; exact h1, by rw [e1]; exact h2, fun q hlt => ?_, fun a h => ?_, fun a g1 g2 => ?_⟩
  · rw [hq q (fun z => by have := qad_ge ha hi; omega)]
    exact h3 q hlt
  · rw [e2, hI a h]
    exact h4 a h
  · rw [e1] at g2
    rw [e2]
    refine ⟨(h5 a g1 g2).1, ?_⟩
    by_cases z : a = i
    · subst z; exact hn
    · exact qat_kept (h5 a g1 g2).2 (by rw [e2]) (hv a z) (hq _ (qad_ne ha g1 hi z))
section QF
variable {G : qG} {d y pc : Nat} {L : List (Option Value)} {st : List Value} {M : qMe} {r : Option Value × qMe}
theorem q_getfield {i ci k n : Nat} {C : String} {T : u_T} {N : Nat} (hd : decode (qB y) pc = .ok (.getfield n, 3)) (hi : 8 ≤ i) (hm : i < M.1) (hk : (M.2.2.1 i).1 = ci) (h100 : ci < 100) (hc : qcl[ci]? = some (C, T, N)) (hkN : k < N) (hw : Cond.fieldLink (qnm y).cls n (T k).1 (T k).2.1 (T k).2.2.1 ∈ qtb)
    (h : qsem G d y (pc + 3) L (qmv M ci i k :: st) M r) : qsem G d y pc L (.ref i :: st) M r := by
  refine ⟨h.1, fun p l e R s m args below meth c H locs cells slots mc ms ls C0 hR hM hl hL h1 h2 h3 h4 => ?_⟩
  have hat := (hM.2.2.2.2 i hi hm).2
  unfold qat at hat
  rw [hk, if_pos h100] at hat
  obtain ⟨q, hq, cell, q1, q2, q3, q4⟩ := hat
  rw [hc] at hq
  cases hq
  obtain ⟨hall, hKK, -, -⟩ := C0.2.2.2.2.2.2.2
  obtain ⟨hS, hfc, kC, hkC, hkind⟩ := hKK.1 ci _ hc
  obtain ⟨cf, kf, fi, f, hf, hsl⟩ := hS k hkN
  have hts : ∀ w ∈ qtb, w.before args s = true := fun w hw => hall w hw args
  refine W.getf C0.1 C0.2.1 C0.2.2.2.2.1 (hts _ hw) hf (u_facts hfc hkC (u_lays hts (qclok ci C T N hc).1 hkN) hf).1 q1 (by rw [q3]; exact fun h => by cases h) (v := qtr G.2.2.1 (qmv M ci i k)) ?_ rfl rfl hd ?_
  · rw [hsl, q4 k hkN]
  · exact h.2 p l e R s m args below meth c H locs cells slots mc ms ls C0 hR hM hl hL h1 h2 h3 h4
/-- what a store into a field asks of the value -/
theorem q_put0 {M' : qMe} {i ci k n : Nat} {v : Value} {C : String} {T : u_T} {N : Nat} (hd : decode (qB y) pc = .ok (.putfield n, 3)) (hi : 8 ≤ i) (hm : i < M.1) (hk : (M.2.2.1 i).1 = ci) (h100 : ci < 100) (hc : qcl[ci]? = some (C, T, N)) (hkN : k < N) (hw : Cond.fieldLink (qnm y).cls n (T k).1 (T k).2.1 (T k).2.2.1 ∈ qtb)
    (hfin : (T k).2.2.2 = false ∨ ((T k).2.2.2 = true ∧ (qnm y).name = "<init>" ∧ (T k).1 = (qnm y).cls))
    (hn : ∀ ad, narrow (qty ci k) (qtr ad v) = qtr ad v) (hfit : ∀ ad, fits (qty ci k) (qtr ad v) = true)
    (e1 : M'.1 = M.1) (e0 : M'.2.1 = M.2.1) (e2 : M'.2.2.1 = M.2.2.1) (hI : ∀ a, a < 8 → M'.2.2.2.1 a = M.2.2.2.1 a) (hv : ∀ a, a ≠ i → ∀ kd k, qmv M' kd a k = qmv M kd a k) (hvk : ∀ j, j ≠ k → qmv M' ci i j = qmv M ci i j) (hself : qmv M' ci i k = v)
    (h : qsem G d y (pc + 3) L st M' r) : qsem G d y pc L (v :: .ref i :: st) M r := by
  refine ⟨⟨by rw [← e1]; exact h.1.1, by rw [← e0]; exact h.1.2⟩, fun p l e R s m args below meth c H locs cells slots mc ms ls C0 hR hM hl hL h1 h2 h3 h4 => ?_⟩
  have hat := (hM.2.2.2.2 i hi hm).2
  unfold qat at hat
  rw [hk, if_pos h100] at hat
  obtain ⟨q, hq, cell, q1, q2, q3, q4⟩ := hat
  rw [hc] at hq
  cases hq
  obtain ⟨hall, hKK, had, -⟩ := C0.2.2.2.2.2.2.2
  obtain ⟨hS, hfc, kC, hkC, hkind⟩ := hKK.1 ci _ hc
  obtain ⟨cf, kf, fi, f, hf, hsl⟩ := hS k hkN
  have hts : ∀ w ∈ qtb, w.before args s = true := fun w hw => hall w hw args
  obtain ⟨hin, hnm, hty, -, -⟩ := qclok ci C T N hc
  have hap := va_apart (own := "") hts hin (qty ci) hty hnm hKK hc
  have hst := (u_facts hfc hkC (u_lays hts hin hkN) hf).1
  have hlay := hts _ (hin _ (u_in_lay hkN))
  have hend : ∀ H' : Heap, H'[G.2.2.1 i]? = some (cell.setSlot f.slot (qtr G.2.2.1 v)) → H'.size = H.size → (∀ q, q ≠ G.2.2.1 i → H'[q]? = H[q]?) → W p l e R s m args below meth c H' (locs ++ [⟨G.2.2.1 i, f.slot⟩]) cells slots (MQ below (qQ G r) args s mc ms (fun q => G.2.2.2.1.size ≤ q)) (F0 m (pc + 3) ls (st.map (qtr G.2.2.1))) := by
    intro H' g1 g2 g3
    have hM' : qrep G M' H' := by
      refine qrep_upd had hM hi e1 e2 hI hv g2 g3 ?_
      unfold qat
      rw [e2, hk, if_pos h100]
      refine ⟨_, hc, t_OB.to (V := updV (fun j => qtr G.2.2.1 (qmv M ci i j)) k (qtr G.2.2.1 v)) ⟨cell.setSlot (G.1.2 ci k) (qtr G.2.2.1 v), by rw [← hsl]; exact g1, q2, q3, t_set q4 hap hkN _⟩ (fun j _ => ?_)⟩
      unfold updV
      split
      · next z => subst z; rw [hself]
      · next z => rw [hvk j z]
    refine h.2 p l e R s m args below meth c H' _ cells slots mc ms ls C0 hR hM' ?_ hL (by rw [e1]; exact h1) (by rw [e0]; exact h2) h3 h4
    intro q hq
    rcases List.mem_append.mp hq with z | z
    · exact hl q z
    · rw [List.mem_singleton.mp z]
      exact qad_ge had hi
  rcases hfin with hfin | ⟨hfin, hini, hdecl⟩
  · unfold u_lay at hlay
    rw [if_neg (by rw [hfin]; decide)] at hlay
    have h6 := u_store hfc hkC hkind hlay hf (hty k hkN) (hn G.2.2.1) (hfit G.2.2.1)
    exact W.putK C0.1 C0.2.1 (f := f) ⟨C0.2.2.2.2.1, hts _ hw, ⟨_, _, _, hf⟩, hst⟩ (by rw [q2]; exact h6) q1 q3 (by rw [hsl]; exact k2_hasslot (q4 k hkN)) rfl rfl hd hend
  · unfold u_lay at hlay
    rw [if_pos hfin] at hlay
    have hcf : m.cls = cf := by
      obtain ⟨_, _, c', _, _, _, -, -, hf', -, -, -, hown2, -⟩ := Cond.laysFinal_spec hlay
      have e1 : c' = cf := by have := hf.symm.trans hf'; simp at this; exact this.1.symm
      rw [hdecl] at hown2
      rw [← e1]; exact Option.some.inj (C0.2.2.2.2.1.symm.trans hown2)
    have h6 := u_fits hfc hkC hkind (Or.inr hlay) hf (hty k hkN) (hn G.2.2.1) (hfit G.2.2.1)
    exact W.putFinK C0.1 C0.2.1 C0.2.2.2.2.1 (hts _ hw) hf hst hcf ((C0.2.2.2.2.2.2.1.resolve_left (fun e => q_nolaw (e ▸ hini))).trans hini) (by rw [q2]; exact h6) q1 q3 (by rw [hsl]; exact k2_hasslot (q4 k hkN)) rfl rfl hd hend
theorem q_putI {i ci k n : Nat} {x : Int32} {C : String} {T : u_T} {N : Nat} (hd : decode (qB y) pc = .ok (.putfield n, 3)) (hi : 8 ≤ i) (hm : i < M.1) (hk : (M.2.2.1 i).1 = ci) (h100 : ci < 100) (hc : qcl[ci]? = some (C, T, N)) (hkN : k < N) (hw : Cond.fieldLink (qnm y).cls n (T k).1 (T k).2.1 (T k).2.2.1 ∈ qtb)
    (hfin : (T k).2.2.2 = false ∨ ((T k).2.2.2 = true ∧ (qnm y).name = "<init>" ∧ (T k).1 = (qnm y).cls)) (hs : qsk ci k = 0) (hn : narrow (qty ci k) (.int x) = .int x) (hfit : fits (qty ci k) (.int x) = true)
    (h : qsem G d y (pc + 3) L st (qsI M i k x) r) : qsem G d y pc L (.int x :: .ref i :: st) M r :=
  q_put0 (M' := qsI M i k x) hd hi hm hk h100 hc hkN hw hfin (fun _ => hn) (fun _ => hfit) rfl rfl rfl (fun a ha => funext fun j => qu2_ne (by omega) j) (fun a ha kd j => qmv_I_ne ha) (fun j hj => qmv_I_k hj) (qmv_I_self hs) h
theorem q_putJ {i ci k n : Nat} {x : Int64} {C : String} {T : u_T} {N : Nat} (hd : decode (qB y) pc = .ok (.putfield n, 3)) (hi : 8 ≤ i) (hm : i < M.1) (hk : (M.2.2.1 i).1 = ci) (h100 : ci < 100) (hc : qcl[ci]? = some (C, T, N)) (hkN : k < N) (hw : Cond.fieldLink (qnm y).cls n (T k).1 (T k).2.1 (T k).2.2.1 ∈ qtb)
    (hfin : (T k).2.2.2 = false ∨ ((T k).2.2.2 = true ∧ (qnm y).name = "<init>" ∧ (T k).1 = (qnm y).cls)) (hs : qsk ci k = 1) (hn : narrow (qty ci k) (.long x) = .long x) (hfit : fits (qty ci k) (.long x) = true)
    (h : qsem G d y (pc + 3) L st (qsJ M i k x) r) : qsem G d y pc L (.long x :: .ref i :: st) M r :=
  q_put0 (M' := qsJ M i k x) hd hi hm hk h100 hc hkN hw hfin (fun _ => hn) (fun _ => hfit) rfl rfl rfl (fun a ha => rfl) (fun a ha kd j => qmv_J_ne ha) (fun j hj => qmv_J_k hj) (qmv_J_self hs) h
theorem q_putR {i ci k n : Nat} {x : Option Nat} {C : String} {T : u_T} {N : Nat} (hd : decode (qB y) pc = .ok (.putfield n, 3)) (hi : 8 ≤ i) (hm : i < M.1) (hk : (M.2.2.1 i).1 = ci) (h100 : ci < 100) (hc : qcl[ci]? = some (C, T, N)) (hkN : k < N) (hw : Cond.fieldLink (qnm y).cls n (T k).1 (T k).2.1 (T k).2.2.1 ∈ qtb)
    (hfin : (T k).2.2.2 = false ∨ ((T k).2.2.2 = true ∧ (qnm y).name = "<init>" ∧ (T k).1 = (qnm y).cls)) (hs : qsk ci k = 2) (hn : ∀ a, narrow (qty ci k) (.ref a) = .ref a) (hfit : ∀ a, fits (qty ci k) (.ref a) = true) (hn0 : narrow (qty ci k) .null = .null) (hfit0 : fits (qty ci k) .null = true)
    (h : qsem G d y (pc + 3) L st (qsR M i k x) r) : qsem G d y pc L (qrv x :: .ref i :: st) M r :=
  q_put0 (M' := qsR M i k x) hd hi hm hk h100 hc hkN hw hfin (fun ad => by cases x <;> simp [qrv, qtr, hn, hn0]) (fun ad => by cases x <;> simp [qrv, qtr, hfit, hfit0]) rfl rfl rfl (fun a ha => rfl) (fun a ha kd j => qmv_R_ne ha) (fun j hj => qmv_R_k hj) (qmv_R_self hs) h
end QF
section QA
variable {G : qG} {d y pc : Nat} {L : List (Option Value)} {st : List Value} {M : qMe} {r : Option Value × qMe}
/-- an array among the cells that were made -/
theorem q_arr {H : Heap} {i kd n : Nat} (hM : qrep G M H) (hi : 8 ≤ i) (hm : i < M.1) (hk : M.2.2.1 i = (kd, n)) (h100 : ¬ kd < 100) : H[G.2.2.1 i]? = some (arrV (G.2.1 kd) n (fun k => qtr G.2.2.1 (qmv M kd i k))) := by
  have hat := (hM.2.2.2.2 i hi hm).2
  unfold qat at hat
  rw [hk, if_neg h100] at hat
  exact hat
theorem q_ld {i kd n : Nat} {j : Int32} (hi : 8 ≤ i) (hm : i < M.1) (hk : M.2.2.1 i = (kd, n)) (h100 : ¬ kd < 100) (hj : vp_in j n)
    (hrow : ∀ (p : Program) (l : Launch) (e : Env) (R : Room) (s : State) (m : MethodId) (args : Array Value) (below : List Frame) (meth : Method) (c : Code) (H : Heap) (locs : List Loc) (cells slots : Nat) (Q : State → Prop) (ls : Array Slot) (cell : Cell), qctx G y p s m meth c → H[G.2.2.1 i]? = some cell → cell = arrV (G.2.1 kd) n (fun k => qtr G.2.2.1 (qmv M kd i k)) → ¬ (j < 0 ∨ cell.slots.size ≤ j.toNatClampNeg) → cell.slots[j.toNatClampNeg]? = some (qtr G.2.2.1 (qmv M kd i j.toNatClampNeg)) → W p l e R s m args below meth c H locs cells slots Q (F0 m (pc + 1) ls (qtr G.2.2.1 (qmv M kd i j.toNatClampNeg) :: st.map (qtr G.2.2.1))) → W p l e R s m args below meth c H locs cells slots Q (F0 m pc ls (.int j :: .ref (G.2.2.1 i) :: st.map (qtr G.2.2.1))))
    (h : qsem G d y (pc + 1) L (qmv M kd i j.toNatClampNeg :: st) M r) : qsem G d y pc L (.int j :: .ref i :: st) M r := by
  refine ⟨h.1, fun p l e R s m args below meth c H locs cells slots mc ms ls C0 hR hM hl hL h1 h2 h3 h4 => ?_⟩
  have hlt : j.toNatClampNeg < n := Nat.not_le.mp fun q => hj (Or.inr q)
  exact hrow p l e R s m args below meth c H locs cells slots _ ls _ C0 (q_arr hM hi hm hk h100) rfl (by rw [arrV_size]; exact hj) (by rw [arrV_read _ _ hlt]) (h.2 p l e R s m args below meth c H locs cells slots mc ms ls C0 hR hM hl hL h1 h2 h3 h4)
theorem q_iaload {i n : Nat} {j : Int32} (hd : decode (qB y) pc = .ok (.iaload, 1)) (hi : 8 ≤ i) (hm : i < M.1) (hk : M.2.2.1 i = (100, n)) (hj : vp_in j n)
    (h : qsem G d y (pc + 1) L (.int (M.2.2.2.1 i j.toNatClampNeg) :: st) M r) : qsem G d y pc L (.int j :: .ref i :: st) M r :=
  q_ld hi hm hk (by decide) hj (fun p l e R s m args below meth c H locs cells slots Q ls cell C hc e h1 h2 k => W.iald C.1 C.2.1 hc (by subst e; exact (C.2.2.2.2.2.2.2.2.1.2 0 _ rfl).1 n _) (by subst e; exact fun q => by cases q) h1 h2 rfl rfl hd k) h
theorem q_baload {i n : Nat} {j : Int32} (hd : decode (qB y) pc = .ok (.baload, 1)) (hi : 8 ≤ i) (hm : i < M.1) (hk : M.2.2.1 i = (101, n)) (hj : vp_in j n)
    (h : qsem G d y (pc + 1) L (.int (M.2.2.2.1 i j.toNatClampNeg) :: st) M r) : qsem G d y pc L (.int j :: .ref i :: st) M r :=
  q_ld hi hm hk (by decide) hj (fun p l e R s m args below meth c H locs cells slots Q ls cell C hc e h1 h2 k => W.bald C.1 C.2.1 hc (by subst e; exact (C.2.2.2.2.2.2.2.2.1.2 1 _ rfl).1 n _) (by subst e; exact fun q => by cases q) h1 h2 rfl rfl hd k) h
theorem q_zaload {i n : Nat} {j : Int32} (hd : decode (qB y) pc = .ok (.baload, 1)) (hi : 8 ≤ i) (hm : i < M.1) (hk : M.2.2.1 i = (102, n)) (hj : vp_in j n)
    (h : qsem G d y (pc + 1) L (.int (M.2.2.2.1 i j.toNatClampNeg) :: st) M r) : qsem G d y pc L (.int j :: .ref i :: st) M r :=
  q_ld hi hm hk (by decide) hj (fun p l e R s m args below meth c H locs cells slots Q ls cell C hc e h1 h2 k => W.zald C.1 C.2.1 hc (by subst e; exact (C.2.2.2.2.2.2.2.2.1.2 2 _ rfl).1 n _) (by subst e; exact fun q => by cases q) h1 h2 rfl rfl hd k) h
theorem q_laload {i n : Nat} {j : Int32} (hd : decode (qB y) pc = .ok (.laload, 1)) (hi : 8 ≤ i) (hm : i < M.1) (hk : M.2.2.1 i = (103, n)) (hj : vp_in j n)
    (h : qsem G d y (pc + 1) L (.long (M.2.2.2.2.1 i j.toNatClampNeg) :: st) M r) : qsem G d y pc L (.int j :: .ref i :: st) M r :=
  q_ld hi hm hk (by decide) hj (fun p l e R s m args below meth c H locs cells slots Q ls cell C hc e h1 h2 k => W.lald C.1 C.2.1 hc (by subst e; exact (C.2.2.2.2.2.2.2.2.1.2 3 _ rfl).1 n _) (by subst e; exact fun q => by cases q) h1 h2 rfl rfl hd k) h
theorem q_aaload {i kd n : Nat} {j : Int32} (hd : decode (qB y) pc = .ok (.aaload, 1)) (hi : 8 ≤ i) (hm : i < M.1) (hk : M.2.2.1 i = (kd, n)) (hkd : kd = 104 ∨ kd = 105 ∨ kd = 106 ∨ kd = 107) (hj : vp_in j n)
    (h : qsem G d y (pc + 1) L (qrv (M.2.2.2.2.2 i j.toNatClampNeg) :: st) M r) : qsem G d y pc L (.int j :: .ref i :: st) M r := by
  rcases hkd with rfl | rfl | rfl | rfl
  · exact q_ld hi hm hk (by decide) hj (fun p l e R s m args below meth c H locs cells slots Q ls cell C hc e h1 h2 k => W.aald C.1 C.2.1 hc (by subst e; exact (C.2.2.2.2.2.2.2.2.1.2 4 _ rfl).1 n _) rfl (by subst e; exact fun q => by cases q) h1 h2 rfl rfl hd k) h
  · exact q_ld hi hm hk (by decide) hj (fun p l e R s m args below meth c H locs cells slots Q ls cell C hc e h1 h2 k => W.aald C.1 C.2.1 hc (by subst e; exact (C.2.2.2.2.2.2.2.2.1.2 5 _ rfl).1 n _) rfl (by subst e; exact fun q => by cases q) h1 h2 rfl rfl hd k) h
  · exact q_ld hi hm hk (by decide) hj (fun p l e R s m args below meth c H locs cells slots Q ls cell C hc e h1 h2 k => W.aald C.1 C.2.1 hc (by subst e; exact (C.2.2.2.2.2.2.2.2.1.2 6 _ rfl).1 n _) rfl (by subst e; exact fun q => by cases q) h1 h2 rfl rfl hd k) h
  · exact q_ld hi hm hk (by decide) hj (fun p l e R s m args below meth c H locs cells slots Q ls cell C hc e h1 h2 k => W.aald C.1 C.2.1 hc (by subst e; exact (C.2.2.2.2.2.2.2.2.1.2 7 _ rfl).1 n _) rfl (by subst e; exact fun q => by cases q) h1 h2 rfl rfl hd k) h
theorem q_arraylength {i kd n : Nat} (hd : decode (qB y) pc = .ok (.arraylength, 1)) (hi : 8 ≤ i) (hm : i < M.1) (hk : M.2.2.1 i = (kd, n)) (h100 : ¬ kd < 100)
    (h : qsem G d y (pc + 1) L (.int (Int32.ofNat n) :: st) M r) : qsem G d y pc L (.ref i :: st) M r := by
  refine ⟨h.1, fun p l e R s m args below meth c H locs cells slots mc ms ls C0 hR hM hl hL h1 h2 h3 h4 => ?_⟩
  have hlt := (hM.2.2.2.2 i hi hm).1
  rw [hk] at hlt
  have hk' := h.2 p l e R s m args below meth c H locs cells slots mc ms ls C0 hR hM hl hL h1 h2 h3 h4
  have hA := C0.2.2.2.2.2.2.2.2.1.2
  have key : ∀ (t : Nat) (ty : FieldType), (qtys G.2.1)[t]? = some (G.2.1 kd, ty) → W p l e R s m args below meth c H locs cells slots (MQ below (qQ G r) args s mc ms (fun q => G.2.2.2.1.size ≤ q)) (F0 m pc ls ((.ref i :: st).map (qtr G.2.2.1))) := by
    intro t ty ht
    exact W.alen (n := Int32.ofNat n) C0.1 C0.2.1 (q_arr hM hi hm hk h100) ((hA t _ ht).1 n _) (by rw [arrV_size]) rfl rfl hd hk'
  rcases (show kd = 100 ∨ kd = 101 ∨ kd = 102 ∨ kd = 103 ∨ kd = 104 ∨ kd = 105 ∨ kd = 106 ∨ kd = 107 by dsimp only at hlt; omega) with rfl | rfl | rfl | rfl | rfl | rfl | rfl | rfl
  · exact key 0 _ rfl
  · exact key 1 _ rfl
  · exact key 2 _ rfl
  · exact key 3 _ rfl
  · exact key 4 _ rfl
  · exact key 5 _ rfl
  · exact key 6 _ rfl
  · exact key 7 _ rfl
/-- arrays that nobody writes -/
theorem q_ialoadS {i n : Nat} {j : Int32} (hd : decode (qB y) pc = .ok (.iaload, 1)) (hi : i < 4) (hk : M.2.2.1 i = (110, n)) (hj : vp_in j n)
    (h : qsem G d y (pc + 1) L (.int (M.2.2.2.1 i j.toNatClampNeg) :: st) M r) : qsem G d y pc L (.int j :: .ref i :: st) M r := by
  refine ⟨h.1, fun p l e R s m args below meth c H locs cells slots mc ms ls C0 hR hM hl hL h1 h2 h3 h4 => ?_⟩
  have hlt : j.toNatClampNeg < n := Nat.not_le.mp fun q => hj (Or.inr q)
  obtain ⟨hs, hI⟩ := hM.2.2.2.1 i (Nat.lt_of_lt_of_le hi (by decide))
  have hn : n = G.2.2.2.2.1 i := by rw [hk] at hs; exact congrArg Prod.snd hs
  subst hn
  obtain ⟨hb, cell, c1, c2, c3, c4, c5, c6⟩ := C0.2.2.2.2.2.2.2.2.2.2.1 i hi
  refine W.iald C0.1 C0.2.1 (by rw [hM.2.2.1 _ hb]; exact c1) c2 c3 (fun q => q.elim (fun z => hj (Or.inl z)) (fun z => by omega)) (c6 _ hlt) rfl rfl hd ?_
  rw [← hI]
  exact h.2 p l e R s m args below meth c H locs cells slots mc ms ls C0 hR hM hl hL h1 h2 h3 h4
theorem q_arraylengthS {i n : Nat} (hd : decode (qB y) pc = .ok (.arraylength, 1)) (hi : i < 4) (hk : M.2.2.1 i = (110, n))
    (h : qsem G d y (pc + 1) L (.int (Int32.ofNat n) :: st) M r) : qsem G d y pc L (.ref i :: st) M r := by
  refine ⟨h.1, fun p l e R s m args below meth c H locs cells slots mc ms ls C0 hR hM hl hL h1 h2 h3 h4 => ?_⟩
  obtain ⟨hs, hI⟩ := hM.2.2.2.1 i (Nat.lt_of_lt_of_le hi (by decide))
  have hn : n = G.2.2.2.2.1 i := by rw [hk] at hs; exact congrArg Prod.snd hs
  subst hn
  obtain ⟨hb, cell, c1, c2, c3, c4, c5, c6⟩ := C0.2.2.2.2.2.2.2.2.2.2.1 i hi
  exact W.alen C0.1 C0.2.1 (by rw [hM.2.2.1 _ hb]; exact c1) c2 c5 rfl rfl hd (h.2 p l e R s m args below meth c H locs cells slots mc ms ls C0 hR hM hl hL h1 h2 h3 h4)
/-- a store into an array -/
theorem q_sto {M' : qMe} {i kd n : Nat} {j : Int32} {v : Value} (hi : 8 ≤ i) (hm : i < M.1) (hk : M.2.2.1 i = (kd, n)) (h100 : ¬ kd < 100) (hj : vp_in j n)
    (hrow : ∀ (p : Program) (l : Launch) (e : Env) (R : Room) (s : State) (m : MethodId) (args : Array Value) (below : List Frame) (meth : Method) (c : Code) (H : Heap) (locs : List Loc) (cells slots : Nat) (Q : State → Prop) (ls : Array Slot) (cell : Cell), qctx G y p s m meth c → qrep G M H → H[G.2.2.1 i]? = some cell → cell = arrV (G.2.1 kd) n (fun k => qtr G.2.2.1 (qmv M kd i k)) → ¬ (j < 0 ∨ cell.slots.size ≤ j.toNatClampNeg) →
      (∀ H' : Heap, H'[G.2.2.1 i]? = some (cell.setSlot j.toNatClampNeg (qtr G.2.2.1 (qmv M' kd i j.toNatClampNeg))) → H'.size = H.size → (∀ q, q ≠ G.2.2.1 i → H'[q]? = H[q]?) → W p l e R s m args below meth c H' (locs ++ [⟨G.2.2.1 i, j.toNatClampNeg⟩]) cells slots Q (F0 m (pc + 1) ls (st.map (qtr G.2.2.1)))) → W p l e R s m args below meth c H locs cells slots Q (F0 m pc ls (qtr G.2.2.1 v :: .int j :: .ref (G.2.2.1 i) :: st.map (qtr G.2.2.1))))
    (e1 : M'.1 = M.1) (e0 : M'.2.1 = M.2.1) (e2 : M'.2.2.1 = M.2.2.1) (hI : ∀ a, a < 8 → M'.2.2.2.1 a = M.2.2.2.1 a) (hv : ∀ a, a ≠ i → ∀ kd k, qmv M' kd a k = qmv M kd a k) (hvk : ∀ q, q ≠ j.toNatClampNeg → qmv M' kd i q = qmv M kd i q)
    (h : qsem G d y (pc + 1) L st M' r) : qsem G d y pc L (v :: .int j :: .ref i :: st) M r := by
  refine ⟨⟨by rw [← e1]; exact h.1.1, by rw [← e0]; exact h.1.2⟩, fun p l e R s m args below meth c H locs cells slots mc ms ls C0 hR hM hl hL h1 h2 h3 h4 => ?_⟩
  obtain ⟨hall, hKK, had, -⟩ := C0.2.2.2.2.2.2.2
  refine hrow p l e R s m args below meth c H locs cells slots _ ls _ C0 hM (q_arr hM hi hm hk h100) rfl (by rw [arrV_size]; exact hj) (fun H' g1 g2 g3 => ?_)
  have hM' : qrep G M' H' := by
    refine qrep_upd had hM hi e1 e2 hI hv g2 g3 ?_
    unfold qat
    rw [e2, hk, if_neg h100, g1, arrV_store]
    congr 2
    funext q
    unfold updV
    split
    · next z => subst z; rfl
    · next z => rw [hvk q z]
  refine h.2 p l e R s m args below meth c H' _ cells slots mc ms ls C0 hR hM' ?_ hL (by rw [e1]; exact h1) (by rw [e0]; exact h2) h3 h4
  intro q hq
  rcases List.mem_append.mp hq with z | z
  · exact hl q z
  · rw [List.mem_singleton.mp z]
    exact qad_ge had hi
theorem q_iastore {i n : Nat} {j x : Int32} (hd : decode (qB y) pc = .ok (.iastore, 1)) (hi : 8 ≤ i) (hm : i < M.1) (hk : M.2.2.1 i = (100, n)) (hj : vp_in j n)
    (h : qsem G d y (pc + 1) L st (qsI M i j.toNatClampNeg x) r) : qsem G d y pc L (.int x :: .int j :: .ref i :: st) M r :=
  q_sto (M' := qsI M i j.toNatClampNeg x) hi hm hk (by decide) hj (fun p l e R s m args below meth c H locs cells slots Q ls cell C hM hc e h1 k => W.iast C.1 C.2.1 hc (by subst e; exact (C.2.2.2.2.2.2.2.2.1.2 0 _ rfl).1 n _) (by subst e; exact fun q => by cases q) h1 rfl rfl hd (fun H' g1 => k H' (by rw [qmv_I_self rfl]; exact g1))) rfl rfl rfl (fun a ha => funext fun j => qu2_ne (by omega) j) (fun a ha kd j => qmv_I_ne ha) (fun q hq => qmv_I_k hq) h
theorem q_bastore {i n : Nat} {j x : Int32} (hd : decode (qB y) pc = .ok (.bastore, 1)) (hi : 8 ≤ i) (hm : i < M.1) (hk : M.2.2.1 i = (101, n)) (hj : vp_in j n)
    (h : qsem G d y (pc + 1) L st (qsI M i j.toNatClampNeg (vp_nar .byte x)) r) : qsem G d y pc L (.int x :: .int j :: .ref i :: st) M r :=
  q_sto (M' := qsI M i j.toNatClampNeg (vp_nar .byte x)) hi hm hk (by decide) hj (fun p l e R s m args below meth c H locs cells slots Q ls cell C hM hc e h1 k => W.bast C.1 C.2.1 hc (by subst e; exact (C.2.2.2.2.2.2.2.2.1.2 1 _ rfl).1 n _) (by subst e; exact fun q => by cases q) h1 rfl rfl hd (fun H' g1 => k H' (by rw [qmv_I_self rfl]; exact g1))) rfl rfl rfl (fun a ha => funext fun j => qu2_ne (by omega) j) (fun a ha kd j => qmv_I_ne ha) (fun q hq => qmv_I_k hq) h
theorem q_zastore {i n : Nat} {j x : Int32} (hd : decode (qB y) pc = .ok (.bastore, 1)) (hi : 8 ≤ i) (hm : i < M.1) (hk : M.2.2.1 i = (102, n)) (hj : vp_in j n)
    (h : qsem G d y (pc + 1) L st (qsI M i j.toNatClampNeg (vp_nar .boolean x)) r) : qsem G d y pc L (.int x :: .int j :: .ref i :: st) M r :=
  q_sto (M' := qsI M i j.toNatClampNeg (vp_nar .boolean x)) hi hm hk (by decide) hj (fun p l e R s m args below meth c H locs cells slots Q ls cell C hM hc e h1 k => W.zast C.1 C.2.1 hc (by subst e; exact (C.2.2.2.2.2.2.2.2.1.2 2 _ rfl).1 n _) (by subst e; exact fun q => by cases q) h1 rfl rfl hd (fun H' g1 => k H' (by rw [qmv_I_self rfl]; exact g1))) rfl rfl rfl (fun a ha => funext fun j => qu2_ne (by omega) j) (fun a ha kd j => qmv_I_ne ha) (fun q hq => qmv_I_k hq) h
theorem q_lastore {i n : Nat} {j : Int32} {x : Int64} (hd : decode (qB y) pc = .ok (.lastore, 1)) (hi : 8 ≤ i) (hm : i < M.1) (hk : M.2.2.1 i = (103, n)) (hj : vp_in j n)
    (h : qsem G d y (pc + 1) L st (qsJ M i j.toNatClampNeg x) r) : qsem G d y pc L (.long x :: .int j :: .ref i :: st) M r :=
  q_sto (M' := qsJ M i j.toNatClampNeg x) hi hm hk (by decide) hj (fun p l e R s m args below meth c H locs cells slots Q ls cell C hM hc e h1 k => W.last C.1 C.2.1 hc (by subst e; exact (C.2.2.2.2.2.2.2.2.1.2 3 _ rfl).1 n _) (by subst e; exact fun q => by cases q) h1 rfl rfl hd (fun H' g1 => k H' (by rw [qmv_J_self rfl]; exact g1))) rfl rfl rfl (fun a ha => rfl) (fun a ha kd j => qmv_J_ne ha) (fun q hq => qmv_J_k hq) h
end QA

/-! new cells -/
def qdef (kd k : Nat) : Value := match qsk kd k with
  | 0 => .int 0
  | 1 => .long 0
  | _ => .null
def qnew (M : qMe) (kd n : Nat) : qMe := (M.1 + 1, M.2.1 + n, (fun a => if a = M.1 then (kd, n) else M.2.2.1 a), (fun a j => if a = M.1 then 0 else M.2.2.2.1 a j), (fun a j => if a = M.1 then 0 else M.2.2.2.2.1 a j), (fun a j => if a = M.1 then none else M.2.2.2.2.2 a j))
theorem qnew_old {M : qMe} {kd n a : Nat} (h : a ≠ M.1) (c k : Nat) : qmv (qnew M kd n) c a k = qmv M c a k := by
  unfold qmv qnew; split <;> simp [h]
theorem qnew_new {M : qMe} {kd n : Nat} (c k : Nat) : qmv (qnew M kd n) c M.1 k = qdef c k := by
  unfold qmv qnew qdef
  simp only [if_true]
  generalize qsk c k = z
  match z with
  | 0 => rfl
  | 1 => rfl
  | _ + 2 => rfl
theorem qtr_def (ad : Nat → Nat) (kd k : Nat) : qtr ad (qdef kd k) = qdef kd k := by unfold qdef; split <;> rfl
theorem qad_new {G : qG} (ha : ∀ i, 8 ≤ i → G.2.2.1 i + 8 = G.2.2.2.1.size + i) {M : qMe} {H : Heap} (hM : qrep G M H) : G.2.2.1 M.1 = H.size := by
  have h1 := ha M.1 hM.2.1
  have h2 := hM.1
  omega
theorem qrep_push {G : qG} {M : qMe} {H H' : Heap} {kd n : Nat} (ha : ∀ i, 8 ≤ i → G.2.2.1 i + 8 = G.2.2.2.1.size + i) (hM : qrep G M H) (hkd : kd < 108) (hz : H'.size = H.size + 1) (hq : ∀ q, q < H.size → H'[q]? = H[q]?) (hn : qat G (qnew M kd n) M.1 H') : qrep G (qnew M kd n) H' := by
  obtain ⟨h1, h2, h3, h4, h5⟩ := id hM
  refine ⟨by show H'.size + 8 = _ + (M.1 + 1); omega, by show 8 ≤ M.1 + 1; omega, fun q hlt => ?_, fun a h => ?_, fun a g1 g2 => ?_⟩
  · rw [hq q (by omega)]
    exact h3 q hlt
  · have hne : a ≠ M.1 := by omega
    refine ⟨?_, ?_⟩
    · show (if a = M.1 then (kd, n) else M.2.2.1 a) = _
      rw [if_neg hne]; exact (h4 a h).1
    · show (fun j => if a = M.1 then (0 : Int32) else M.2.2.2.1 a j) = _
      funext j
      rw [if_neg hne, (h4 a h).2]
  · by_cases e : a = M.1
    · subst e
      refine ⟨?_, hn⟩
      show (if M.1 = M.1 then (kd, n) else M.2.2.1 M.1).1 < 108
      rw [if_pos rfl]; exact hkd
    · have g3 : a < M.1 := by
        have : a < M.1 + 1 := g2
        omega
      have hs : (qnew M kd n).2.2.1 a = M.2.2.1 a := by
        show (if a = M.1 then (kd, n) else M.2.2.1 a) = _
        rw [if_neg e]
      rw [hs]
      refine ⟨(h5 a g1 g3).1, qat_kept (h5 a g1 g3).2 hs (fun c k => qnew_old e c k) (hq _ ?_)⟩
      have := ha a g1
      omega
section QN
variable {G : qG} {d y pc : Nat} {L : List (Option Value)} {st : List Value} {M : qMe} {r : Option Value × qMe}
theorem q_new {idx ci : Nat} {C : String} {T : u_T} {N : Nat} (hd : decode (qB y) pc = .ok (.new idx, 3)) (hc : qcl[ci]? = some (C, T, N)) (h100 : ci < 100) (hw : Cond.classLink (qnm y).cls idx C ∈ qtb) (hdf : ∀ k, k < N → defaultValue (qty ci k) = qdef ci k)
    (h : qsem G d y (pc + 3) L (.ref M.1 :: st) (qnew M ci N) r) : qsem G d y pc L st M r := by
  have g1 : M.1 + 1 ≤ r.2.1 := h.1.1
  have g2 : M.2.1 + N ≤ r.2.2.1 := h.1.2
  refine ⟨⟨by omega, by omega⟩, fun p l e R s m args below meth c H locs cells slots mc ms ls C0 hR hM hl hL h1 h2 h3 h4 => ?_⟩
  obtain ⟨hall, hKK, had, -⟩ := C0.2.2.2.2.2.2.2
  obtain ⟨hin, hnm, hty, hinst, hini⟩ := qclok ci C T N hc
  have hKn := hKK.1 ci _ hc
  refine W.newcK C0.1 C0.2.1 C0.2.2.2.2.1 (hall _ hw _) (hall _ hinst _) (hall _ hini _) rfl hd (by omega) (by omega) hKn.2.1 rfl fun H1 kC hkC e1 z1 o1 => ?_
  have hnew := qad_new had hM
  have hM' : qrep G (qnew M ci N) H1 := by
    refine qrep_push had hM (by omega) z1 o1 ?_
    unfold qat
    have hs : (qnew M ci N).2.2.1 M.1 = (ci, N) := by show (if M.1 = M.1 then (ci, N) else _) = _; rw [if_pos rfl]
    rw [hs, if_pos h100]
    refine ⟨_, hc, (u_born (qty ci) (fun w hw => hall w hw args) hin hKn hkC (by rw [hnew]; exact e1) hty).to (fun k hk => ?_)⟩
    rw [qnew_new, qtr_def]
    exact hdf k hk
  have := h.2 p l e R s m args below meth c H1 locs (cells + 1) (slots + N) mc ms ls C0 hR hM' hl hL (by show cells + 1 + _ ≤ mc + (M.1 + 1); omega) (by show slots + N + _ ≤ ms + (M.2.1 + N); omega) h3 h4
  simp only [List.map_cons, qtr, hnew] at this
  exact this
theorem q_newarr {kd : Nat} {atype : ArrayType} {n : Int32} {N t0 : Nat} (hd : decode (qB y) pc = .ok (.newarray atype, 2)) (ht : ∀ cA : Nat → ClassId, (qtys cA)[t0]? = some (cA kd, newarray.typeOf atype)) (hkd : kd = 100 ∨ kd = 101 ∨ kd = 102 ∨ kd = 103) (hra : ∀ (U : State) (cA : ClassId), va_RA U cA (newarray.typeOf atype) → U.vm.findClass ("[" ++ (newarray.typeOf atype).toString) = some cA) (hdf : ∀ k, defaultValue (newarray.typeOf atype) = qdef kd k) (hw : Cond.arrayClass (newarray.typeOf atype) ∈ qtb) (hn : ¬ n < 0) (hN : n.toNatClampNeg = N) (hb : N * componentBytes (newarray.typeOf atype) ≤ 536870912)
    (h : qsem G d y (pc + 2) L (.ref M.1 :: st) (qnew M kd N) r) : qsem G d y pc L (.int n :: st) M r := by
  have g1 : M.1 + 1 ≤ r.2.1 := h.1.1
  have g2 : M.2.1 + N ≤ r.2.2.1 := h.1.2
  have h100 : ¬ kd < 100 := by omega
  refine ⟨⟨by omega, by omega⟩, fun p l e R s m args below meth c H locs cells slots mc ms ls C0 hR hM hl hL h1 h2 h3 h4 => ?_⟩
  obtain ⟨hall, hKK, had, -⟩ := C0.2.2.2.2.2.2.2
  refine va_newaK C0.1 C0.2.1 (hall _ hw _) rfl hd rfl hn hN hb (by omega) (by omega) rfl fun H1 cA e1 z1 o1 hAr hNm => ?_
  have hnew := qad_new had hM
  have hcA : cA = G.2.1 kd := Option.some.inj (hNm.symm.trans (hra _ _ (hKK.2 t0 _ (ht G.2.1)).2))
  subst hcA
  have hM' : qrep G (qnew M kd N) H1 := by
    refine qrep_push had hM (by omega) z1 o1 ?_
    unfold qat
    have hs : (qnew M kd N).2.2.1 M.1 = (kd, N) := by show (if M.1 = M.1 then (kd, N) else _) = _; rw [if_pos rfl]
    rw [hs, if_neg h100, hnew, e1]
    congr 2
    funext k
    rw [qnew_new, qtr_def]
    exact hdf k
  have := h.2 p l e R s m args below meth c H1 locs (cells + 1) (slots + N) mc ms ls C0 hR hM' hl hL (by show cells + 1 + _ ≤ mc + (M.1 + 1); omega) (by show slots + N + _ ≤ ms + (M.2.1 + N); omega) h3 h4
  simp only [List.map_cons, qtr, hnew] at this
  exact this
theorem q_anewarray {kd idx : Nat} {n : Int32} {C : String} {N t0 : Nat} (hd : decode (qB y) pc = .ok (.anewarray idx, 3)) (ht : ∀ cA : Nat → ClassId, (qtys cA)[t0]? = some (cA kd, .object C)) (hkd : 104 ≤ kd ∧ kd < 107) (hao : ∀ s, qext G s → va_AO C s) (hw : Cond.classLink (qnm y).cls idx C ∈ qtb) (hn : ¬ n < 0) (hN : n.toNatClampNeg = N) (hb : N * 4 ≤ 536870912)
    (h : qsem G d y (pc + 3) L (.ref M.1 :: st) (qnew M kd N) r) : qsem G d y pc L (.int n :: st) M r := by
  subst hN
  have g1 : M.1 + 1 ≤ r.2.1 := h.1.1
  have g2 : M.2.1 + n.toNatClampNeg ≤ r.2.2.1 := h.1.2
  have h100 : ¬ kd < 100 := by omega
  refine ⟨⟨by omega, by omega⟩, fun p l e R s m args below meth c H locs cells slots mc ms ls C0 hR hM hl hL h1 h2 h3 h4 => ?_⟩
  obtain ⟨hall, hKK, had, -, hx⟩ := C0.2.2.2.2.2.2.2
  refine W.anew C0.1 C0.2.1 C0.2.2.2.2.1 (hall _ hw _) (hao s hx).use rfl hd rfl hn hb (by omega) (by omega) fun cA kA comp k1 k2 k3 k4 => ?_
  have hnew := qad_new had hM
  have hcA : cA = G.2.1 kd := by
    obtain ⟨kA', comp', -, -, -, hz⟩ := (hKK.2 t0 _ (ht G.2.1)).2
    exact Option.some.inj (k1.symm.trans hz)
  subst hcA
  have hM' : qrep G (qnew M kd n.toNatClampNeg) (H.push { cls := G.2.1 kd, slots := Array.replicate n.toNatClampNeg .null, vm := .none }) := by
    refine qrep_push had hM (by omega) (by simp) (fun q hq => by rw [Array.getElem?_push, if_neg (Nat.ne_of_lt hq)]) ?_
    unfold qat
    have hs : (qnew M kd n.toNatClampNeg).2.2.1 M.1 = (kd, n.toNatClampNeg) := by show (if M.1 = M.1 then (kd, n.toNatClampNeg) else _) = _; rw [if_pos rfl]
    rw [hs, if_neg h100, hnew, arrV_new]
    simp only [Array.getElem?_push_size]
    congr 2
    funext k
    rw [qnew_new, qtr_def]
    unfold qdef qsk
    rw [if_neg h100, if_neg (by omega), if_neg (by omega)]
    rfl
  have := h.2 p l e R s m args below meth c _ locs (cells + 1) (slots + n.toNatClampNeg) mc ms ls C0 hR hM' hl hL (by show cells + 1 + _ ≤ mc + (M.1 + 1); omega) (by show slots + n.toNatClampNeg + _ ≤ ms + (M.2.1 + n.toNatClampNeg); omega) h3 h4
  simp only [List.map_cons, qtr, hnew] at this
  exact this
theorem q_aastore {i kd n v ci t0 : Nat} {j : Int32} {C : String} {T : u_T} {N : Nat} (hd : decode (qB y) pc = .ok (.aastore, 1)) (hi : 8 ≤ i) (hm : i < M.1) (hk : M.2.2.1 i = (kd, n)) (hkd : 104 ≤ kd ∧ kd < 107) (ht : ∀ cA : Nat → ClassId, (qtys cA)[t0]? = some (cA kd, .object C)) (hj : vp_in j n) (hv : 8 ≤ v) (hvm : v < M.1) (hvk : (M.2.2.1 v).1 = ci) (h100 : ci < 100) (hc : qcl[ci]? = some (C, T, N))
    (h : qsem G d y (pc + 1) L st (qsR M i j.toNatClampNeg (some v)) r) : qsem G d y pc L (.ref v :: .int j :: .ref i :: st) M r := by
  have hsk : qsk kd j.toNatClampNeg = 2 := by unfold qsk; rw [if_neg (by omega), if_neg (by omega), if_neg (by omega)]
  refine q_sto (M' := qsR M i j.toNatClampNeg (some v)) (v := .ref v) hi hm hk (by omega) hj (fun p l e R s m args below meth c H locs cells slots Q ls cell C0 hM hcell e1 hin k => ?_) rfl rfl rfl (fun a ha => rfl) (fun a ha kd j => qmv_R_ne ha) (fun q hq => qmv_R_k hq) h
  obtain ⟨hall, hKK, had, -⟩ := C0.2.2.2.2.2.2.2
  have hat := (hM.2.2.2.2 v hv hvm).2
  unfold qat at hat
  rw [hvk, if_pos h100] at hat
  obtain ⟨q, hq, cellV, q1, q2, q3, q4⟩ := hat
  rw [hc] at hq
  cases hq
  have hcls := (hKK.1 ci _ hc).2
  obtain ⟨kA, comp, k1, k2, k3, -⟩ := (hKK.2 t0 _ (ht G.2.1)).2
  have hcomp : comp = G.1.1 ci := Option.some.inj (k3.symm.trans hcls.1)
  subst hcomp
  obtain ⟨kC, hkC, -⟩ := hcls.2
  refine W.aast C0.1 C0.2.1 hcell (fun q h => by rw [e1] at h; cases h) (fun h => by rw [e1] at h; cases h) (by rw [e1]; exact k1) k2 rfl hkC ⟨fun z => hin (Or.inl z), Nat.not_le.mp fun z => hin (Or.inr z)⟩ q1 (fun q h => by rw [q3] at h; cases h) (by rw [q2]; exact hkC) (by rw [q2]; exact va_assign hcls) rfl rfl hd (fun H' g1 => k H' (by rw [qmv_R_self hsk]; exact g1))
theorem q_aastoreN {i kd n t0 : Nat} {j : Int32} {C : String} (hd : decode (qB y) pc = .ok (.aastore, 1)) (hi : 8 ≤ i) (hm : i < M.1) (hk : M.2.2.1 i = (kd, n)) (hkd : 104 ≤ kd ∧ kd < 107) (ht : ∀ cA : Nat → ClassId, (qtys cA)[t0]? = some (cA kd, .object C)) (hj : vp_in j n)
    (h : qsem G d y (pc + 1) L st (qsR M i j.toNatClampNeg none) r) : qsem G d y pc L (.null :: .int j :: .ref i :: st) M r := by
  have hsk : qsk kd j.toNatClampNeg = 2 := by unfold qsk; rw [if_neg (by omega), if_neg (by omega), if_neg (by omega)]
  refine q_sto (M' := qsR M i j.toNatClampNeg none) (v := .null) hi hm hk (by omega) hj (fun p l e R s m args below meth c H locs cells slots Q ls cell C0 hM hcell e1 hin k => ?_) rfl rfl rfl (fun a ha => rfl) (fun a ha kd j => qmv_R_ne ha) (fun q hq => qmv_R_k hq) h
  obtain ⟨hall, hKK, had, -⟩ := C0.2.2.2.2.2.2.2
  exact va_WaastN (C := C) C0.1 C0.2.1 hcell (by rw [e1]; exact (hKK.2 t0 _ (ht G.2.1)).1 n _) (fun h => by rw [e1] at h; cases h) hin rfl rfl hd (fun H' g1 => k H' (by rw [qmv_R_self hsk]; exact g1))
/-- a static field that holds one of the rows that nobody writes -/
theorem q_getstatic {idx i : Nat} {C n dd : String} (hd : decode (qB y) pc = .ok (.getstatic idx, 3)) (hz : ∀ s, qext G s → qzz G C n dd (.ref (G.2.2.1 i)) s) (hlk : Cond.fieldLink (qnm y).cls idx C n dd ∈ qtb ∨ ∃ host, Cond.fieldLinkNest (qnm y).cls idx C n dd host ∈ qtb)
    (h : qsem G d y (pc + 3) L (.ref i :: st) M r) : qsem G d y pc L st M r := by
  refine ⟨h.1, fun p l e R s m args below meth c H locs cells slots mc ms ls C0 hR hM hl hL h1 h2 h3 h4 => ?_⟩
  obtain ⟨hall, hKK, had, -, hx⟩ := C0.2.2.2.2.2.2.2
  obtain ⟨cf, kf, fi, f, a, cell, z1, z2, z3, z4, z5, z6, z7, z8⟩ := hz s hx
  have hk := h.2 p l e R s m args below meth c H locs cells slots mc ms ls C0 hR hM hl hL h1 h2 h3 h4
  have ha : H[a]? = some cell := by rw [hM.2.2.1 a (Array.getElem?_eq_some_iff.mp z5).1]; exact z5
  rcases hlk with hlk | ⟨host, hlk⟩
  · exact W.gets C0.1 C0.2.1 C0.2.2.2.2.1 (hall _ hlk _) z1 z2 z3 z4 ha (fun e => by rw [e] at z6; cases z6) z7 rfl hd hk
  · exact va_WgetsN C0.1 C0.2.1 C0.2.2.2.2.1 (hall _ hlk _) z1 z2 z3 z4 ha (fun e => by rw [e] at z6; cases z6) z7 rfl hd hk
end QN

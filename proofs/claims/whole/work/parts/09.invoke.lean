/-! the calls -/
def qcal (y1 n : Nat) : Prop := Cond.code (qnm y1) (qB y1) (qml y1) (qret y1) ∈ qtb ∧ Cond.initialized (qnm y1).cls ∈ qtb ∧ ((qnm y1).cls ≠ "java/lang/invoke/MethodHandle" ∧ (qnm y1).cls ≠ "java/lang/invoke/VarHandle") ∧ plainName (qnm y1).cls = true ∧ (parseMethodDescriptor (qnm y1).desc).map (fun d => d.parameters.length) = some n ∧ qml y1 ≤ 40
def qlinked (y n y1 : Nat) : Prop := Cond.methodLink (qnm y).cls n (qnm y1) ∈ qtb ∨ ∃ host, Cond.methodLinkNest (qnm y).cls n (qnm y1) host ∈ qtb
section QI
variable {G : qG} {d y pc : Nat} {L : List (Option Value)} {st : List Value} {M : qMe} {r : Option Value × qMe}
theorem q_callB {y1 n idx mc1 ms1 : Nat} {s : State} {R : Room} {args : Array Value} (hall : qall s) (hR : qroom (d + 1) R) (hc : qcal y1 n) (hlk : Cond.methodLink (qnm y).cls idx (qnm y1) ∈ qtb) :
    CallB R s args (qnm y).cls idx (qnm y1) (qB y1) (qml y1) (qret y1) [Cond.code (qnm y1) (qB y1) (qml y1) (qret y1)] ⟨d + 4, mc1, ms1, 128 * d⟩ mc1 ms1 n := by
  obtain ⟨c1, c2, c3, c4, c5, c6⟩ := hc
  refine ⟨rfl, rfl, (by have := hR.1; show d + 4 + 1 ≤ R.frames; omega), ?_, ?_, List.mem_cons_self, hall _ c1 _, hall _ c2 _, c3, fun sig h => ?_, hall _ hlk _⟩
  · have := hR.2
    show 8 + (qml y1 + 11) + 128 * d ≤ R.locals
    omega
  · intro w hw a' U hW
    rw [List.mem_singleton.mp hw]
    exact qall_moved hW hall _ c1 a'
  · rw [h] at c5
    exact (Option.some.inj c5).symm
theorem q_callN {y1 n idx mc1 ms1 : Nat} {host : String} {s : State} {R : Room} {args : Array Value} (hall : qall s) (hR : qroom (d + 1) R) (hc : qcal y1 n) (hlk : Cond.methodLinkNest (qnm y).cls idx (qnm y1) host ∈ qtb) :
    va_CN R s args (qnm y).cls idx (qnm y1) host (qB y1) (qml y1) (qret y1) [Cond.code (qnm y1) (qB y1) (qml y1) (qret y1)] ⟨d + 4, mc1, ms1, 128 * d⟩ mc1 ms1 n := by
  obtain ⟨c1, c2, c3, c4, c5, c6⟩ := hc
  refine ⟨⟨rfl, rfl, (by have := hR.1; show d + 4 + 1 ≤ R.frames; omega), ?_, ?_, List.mem_cons_self⟩, hall _ c1 _, hall _ c2 _, c3, fun sig h => ?_, hall _ hlk _⟩
  · have := hR.2
    show 8 + (qml y1 + 11) + 128 * d ≤ R.locals
    omega
  · intro w hw a' U hW
    rw [List.mem_singleton.mp hw]
    exact qall_moved hW hall _ c1 a'
  · rw [h] at c5
    exact (Option.some.inj c5).symm
theorem q_mapst {ad : Nat → Nat} {As st : List Value} : (As.reverse ++ st).map (qtr ad) = (As.map (qtr ad)).reverse ++ st.map (qtr ad) := by simp
theorem q_cat {ad : Nat → Nat} {st : List Value} : ((st.map (qtr ad)).map fun v => v.category).sum = (st.map fun v => v.category).sum := by
  rw [List.map_map]
  congr 1
  apply List.map_congr_left
  intro v _
  exact qtr_cat ad v
theorem q_invokestatic {y1 n idx : Nat} {As : List Value} {r1 : Option Value × qMe} (hd : decode (qB y) pc = .ok (.invokestatic idx, 3)) (hc : qcal y1 n) (hst : Cond.static (qnm y1) ∈ qtb) (hlk : qlinked y idx y1) (hn : As.length = n) (hcat : (st.map fun v => v.category).sum ≤ 8) (hlen : (As.flatMap (fun v => if v.category = 2 then [some v, none] else [some v])).length ≤ qml y1)
    (h1 : qsem G d y1 0 (qL0 As (qml y1)) [] M r1) (h : qsem G (d + 1) y (pc + 3) L (r1.1.toList ++ st) r1.2 r) : qsem G (d + 1) y pc L (As.reverse ++ st) M r := by
  refine ⟨⟨Nat.le_trans h1.1.1 h.1.1, Nat.le_trans h1.1.2 h.1.2⟩, fun p l e R s m args below meth c H locs cells slots mc ms ls C0 hR hM hl hL g1 g2 g3 g4 => ?_⟩
  obtain ⟨k1, k2⟩ := h1.1
  obtain ⟨k3, k4⟩ := h.1
  have hmet := q_met l hc.2.2.2.1 hlen h1 ⟨d + 4, r1.2.1 - M.1, r1.2.2.1 - M.2.1, 128 * d⟩ ⟨Nat.le_refl _, Nat.le_refl _⟩ (by show _ ≤ r1.2.1 - M.1 + M.1; omega) (by show _ ≤ r1.2.2.1 - M.2.1 + M.2.1; omega)
  have hall := C0.2.2.2.2.2.2.2.1
  have hp : PreS s H (qPc G As M) (As.map (qtr G.2.2.1)) := ⟨qPc_blind, fun U hU hW => ⟨rfl, by rw [hU]; exact hM, qK_moved hW C0.2.2.2.2.2.2.2⟩⟩
  have hfit : cells + (r1.2.1 - M.1) ≤ R.cells ∧ slots + (r1.2.2.1 - M.2.1) ≤ R.slots := by omega
  rw [q_mapst]
  rcases hlk with hlk | ⟨host, hlk⟩
  · exact q_after (mc1 := r1.2.1 - M.1) (ms1 := r1.2.2.1 - M.2.1) C0 hR hl hL (by omega) (by omega) g3 g4 (va_runS (g := F0 m pc ls _) ⟨C0.1, C0.2.1, C0.2.2.2.1, C0.2.2.2.2.1, fun w hw => hall w hw args⟩ hmet ⟨q_callB hall hR hc hlk, hall _ hst _⟩ hp rfl (by rw [List.length_map]; exact hn) hL.1 rfl (by rw [q_cat]; simpa using hcat) hd hfit) h
  · exact q_after (mc1 := r1.2.1 - M.1) (ms1 := r1.2.2.1 - M.2.1) C0 hR hl hL (by omega) (by omega) g3 g4 (va_runSN (g := F0 m pc ls _) ⟨C0.1, C0.2.1, C0.2.2.2.1, C0.2.2.2.2.1, fun w hw => hall w hw args⟩ hmet ⟨q_callN hall hR hc hlk, hall _ hst _, trivial⟩ hp rfl (by rw [List.length_map]; exact hn) hL.1 rfl (by rw [q_cat]; simpa using hcat) hd hfit) h
theorem q_invokevirtual {y1 n idx i ci : Nat} {As : List Value} {r1 : Option Value × qMe} {T : u_T} {N : Nat} (hd : decode (qB y) pc = .ok (.invokevirtual idx, 3)) (hc : qcal y1 n) (hin : Cond.instanceMethod (qnm y1) ∈ qtb) (hse : Cond.selects (qnm y1).cls (qnm y1) (qnm y1) ∈ qtb) (hlk : qlinked y idx y1) (hn : As.length = n) (hcat : (st.map fun v => v.category).sum ≤ 8) (hlen : ((Value.ref i :: As).flatMap (fun v => if v.category = 2 then [some v, none] else [some v])).length ≤ qml y1)
    (hi : 8 ≤ i) (hm : i < M.1) (hk : (M.2.2.1 i).1 = ci) (h100 : ci < 100) (hcl : qcl[ci]? = some ((qnm y1).cls, T, N))
    (h1 : qsem G d y1 0 (qL0 (.ref i :: As) (qml y1)) [] M r1) (h : qsem G (d + 1) y (pc + 3) L (r1.1.toList ++ st) r1.2 r) : qsem G (d + 1) y pc L (As.reverse ++ .ref i :: st) M r := by
  refine ⟨⟨Nat.le_trans h1.1.1 h.1.1, Nat.le_trans h1.1.2 h.1.2⟩, fun p l e R s m args below meth c H locs cells slots mc ms ls C0 hR hM hl hL g1 g2 g3 g4 => ?_⟩
  obtain ⟨k1, k2⟩ := h1.1
  obtain ⟨k3, k4⟩ := h.1
  have hmet := q_met l hc.2.2.2.1 hlen h1 ⟨d + 4, r1.2.1 - M.1, r1.2.2.1 - M.2.1, 128 * d⟩ ⟨Nat.le_refl _, Nat.le_refl _⟩ (by show _ ≤ r1.2.1 - M.1 + M.1; omega) (by show _ ≤ r1.2.2.1 - M.2.1 + M.2.1; omega)
  have hall := C0.2.2.2.2.2.2.2.1
  have hat := (hM.2.2.2.2 i hi hm).2
  unfold qat at hat
  rw [hk, if_pos h100] at hat
  obtain ⟨q, hq, cell, q1, q2, q3, q4⟩ := hat
  rw [hcl] at hq
  cases hq
  have hfc := (C0.2.2.2.2.2.2.2.2.1.1 ci _ hcl).2.1
  have hp : PreV s H (qnm y1).cls (G.2.2.1 i) (qPc G (.ref i :: As) M) (As.map (qtr G.2.2.1)) := ⟨qPc_blind, ⟨cell, q1, by rw [q3]; rfl, by rw [q2]; exact hfc⟩, fun U hU hW => ⟨rfl, by rw [hU]; exact hM, qK_moved hW C0.2.2.2.2.2.2.2⟩⟩
  have hfit : cells + (r1.2.1 - M.1) ≤ R.cells ∧ slots + (r1.2.2.1 - M.2.1) ≤ R.slots := by omega
  rw [q_mapst]
  rcases hlk with hlk | ⟨host, hlk⟩
  · exact q_after (mc1 := r1.2.1 - M.1) (ms1 := r1.2.2.1 - M.2.1) C0 hR hl hL (by omega) (by omega) g3 g4 (va_runV (g := F0 m pc ls _) ⟨C0.1, C0.2.1, C0.2.2.2.1, C0.2.2.2.2.1, fun w hw => hall w hw args⟩ hmet ⟨q_callB hall hR hc hlk, hall _ hin _, hall _ hse _⟩ hp rfl (by rw [List.length_map]; exact hn) hL.1 rfl (by rw [q_cat]; simpa using hcat) hd hfit) h
  · exact q_after (mc1 := r1.2.1 - M.1) (ms1 := r1.2.2.1 - M.2.1) C0 hR hl hL (by omega) (by omega) g3 g4 (va_runVN (g := F0 m pc ls _) ⟨C0.1, C0.2.1, C0.2.2.2.1, C0.2.2.2.2.1, fun w hw => hall w hw args⟩ hmet ⟨q_callN hall hR hc hlk, hall _ hin _, hall _ hse _⟩ hp rfl (by rw [List.length_map]; exact hn) hL.1 rfl (by rw [q_cat]; simpa using hcat) hd hfit) h
theorem q_invokespecial {y1 n idx i : Nat} {As : List Value} {r1 : Option Value × qMe} (hd : decode (qB y) pc = .ok (.invokespecial idx, 3)) (hc : qcal y1 n) (hin : Cond.instanceMethod (qnm y1) ∈ qtb) (hnm : (qnm y1).name = "<init>") (hrt : qret y1 = none) (hlk : qlinked y idx y1) (hn : As.length = n) (hcat : (st.map fun v => v.category).sum ≤ 8) (hlen : ((Value.ref i :: As).flatMap (fun v => if v.category = 2 then [some v, none] else [some v])).length ≤ qml y1)
    (h1 : qsem G d y1 0 (qL0 (.ref i :: As) (qml y1)) [] M r1) (h : qsem G (d + 1) y (pc + 3) L (r1.1.toList ++ st) r1.2 r) : qsem G (d + 1) y pc L (As.reverse ++ .ref i :: st) M r := by
  refine ⟨⟨Nat.le_trans h1.1.1 h.1.1, Nat.le_trans h1.1.2 h.1.2⟩, fun p l e R s m args below meth c H locs cells slots mc ms ls C0 hR hM hl hL g1 g2 g3 g4 => ?_⟩
  obtain ⟨k1, k2⟩ := h1.1
  obtain ⟨k3, k4⟩ := h.1
  have hmet := q_met l hc.2.2.2.1 hlen h1 ⟨d + 4, r1.2.1 - M.1, r1.2.2.1 - M.2.1, 128 * d⟩ ⟨Nat.le_refl _, Nat.le_refl _⟩ (by show _ ≤ r1.2.1 - M.1 + M.1; omega) (by show _ ≤ r1.2.2.1 - M.2.1 + M.2.1; omega)
  have hall := C0.2.2.2.2.2.2.2.1
  have hp : PreS s H (qPc G (.ref i :: As) M) (.ref (G.2.2.1 i) :: As.map (qtr G.2.2.1)) := ⟨qPc_blind, fun U hU hW => ⟨rfl, by rw [hU]; exact hM, qK_moved hW C0.2.2.2.2.2.2.2⟩⟩
  have hfit : cells + (r1.2.1 - M.1) ≤ R.cells ∧ slots + (r1.2.2.1 - M.2.1) ≤ R.slots := by omega
  rw [q_mapst]
  have hB : ∀ hlk, CallB R s args (qnm y).cls idx (qnm y1) (qB y1) (qml y1) none _ ⟨d + 4, r1.2.1 - M.1, r1.2.2.1 - M.2.1, 128 * d⟩ _ _ n := fun hlk => hrt ▸ q_callB (args := args) (mc1 := r1.2.1 - M.1) (ms1 := r1.2.2.1 - M.2.1) hall hR hc hlk
  rcases hlk with hlk | ⟨host, hlk⟩
  · exact q_after (mc1 := r1.2.1 - M.1) (ms1 := r1.2.2.1 - M.2.1) C0 hR hl hL (by omega) (by omega) g3 g4 (va_runI (g := F0 m pc ls _) ⟨C0.1, C0.2.1, C0.2.2.2.1, C0.2.2.2.2.1, fun w hw => hall w hw args⟩ hmet ⟨by have := q_callB (args := args) (mc1 := r1.2.1 - M.1) (ms1 := r1.2.2.1 - M.2.1) hall hR hc hlk; rw [hrt] at this ⊢; exact this, hnm, hall _ hin _⟩ hp rfl (by rw [List.length_map]; exact hn) hL.1 rfl (by rw [q_cat]; simpa using hcat) hd hfit) h
  · exact q_after (mc1 := r1.2.1 - M.1) (ms1 := r1.2.2.1 - M.2.1) C0 hR hl hL (by omega) (by omega) g3 g4 (va_runIN (g := F0 m pc ls _) ⟨C0.1, C0.2.1, C0.2.2.2.1, C0.2.2.2.2.1, fun w hw => hall w hw args⟩ hmet ⟨by have := q_callN (args := args) (mc1 := r1.2.1 - M.1) (ms1 := r1.2.2.1 - M.2.1) hall hR hc hlk; rw [hrt] at this ⊢; exact this, hnm, hall _ hin _⟩ hp rfl (by rw [List.length_map]; exact hn) hL.1 rfl (by rw [q_cat]; simpa using hcat) hd hfit) h
/-- Object's own constructor -/
theorem q_objInit {idx i : Nat} (hd : decode (qB y) pc = .ok (.invokespecial idx, 3)) (hlk : Cond.methodLink (qnm y).cls idx Lib.objectInit ∈ qtb) (hin : Cond.instanceMethod Lib.objectInit ∈ qtb) (hco : Cond.code Lib.objectInit ⟨#[0xb1]⟩ 1 none ∈ qtb) (hcat : (st.map fun v => v.category).sum ≤ 8)
    (h : qsem G (d + 1) y (pc + 3) L st M r) : qsem G (d + 1) y pc L (.ref i :: st) M r := by
  refine ⟨h.1, fun p l e R s m args below meth c H locs cells slots mc ms ls C0 hR hM hl hL g1 g2 g3 g4 => ?_⟩
  have hall := C0.2.2.2.2.2.2.2.1
  refine W.objInit C0.1 C0.2.1 C0.2.2.2.2.1 (hall _ hlk _) (hall _ hin _) (hall _ hco _) rfl (hL.1.trans C0.2.2.2.1.symm) rfl hd ?_ ?_ (h.2 p l e R s m args below meth c H locs cells slots mc ms ls C0 hR hM hl hL g1 g2 g3 g4)
  · have := hR.1; omega
  · have := hR.2
    rw [q_cat]
    show 2 * 0 + _ + 12 ≤ _
    omega
end QI

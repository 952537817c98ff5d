/-! calls and returns -/
theorem qall_moved {s U : State} (hW : s.WarmedH U.vm) (h : qall s) : qall U := by
  intro w hw a
  have hg := (List.mem_filter.mp hw).2
  have hs := h w hw
  cases w <;> first
    | exact va_Nw.use rfl (va_Nw.warmM hW (hs #[]))
    | exact va_Nw.use rfl (va_Nw.warmF hW (hs #[]))
    | exact word_at hW (good_of_word hg) (hs #[])
theorem qstat_moved {G : qG} {s U : State} (hvm : s.vm.Alike U.vm) (h : qstat G s) : qstat G U := by
  intro i hi
  obtain ⟨h0, cell, h1, h2, h3⟩ := h i hi
  exact ⟨h0, cell, h1, State.isArrayOf_alike hvm h2, h3⟩
theorem qAOA_moved {u U : State} (hvm : u.vm.Alike U.vm) (h : qAOA u) : qAOA U := by
  obtain ⟨comp, c, k, h1, h2, h3, h4, h5⟩ := arrayOverA_spec h
  obtain ⟨k', hk', he⟩ := hvm.2.2 _ _ h3
  have hi : (U.vm.classes.findIdx? fun (x : Class) => match x.kind with | .array component _ => component == comp | _ => false) = some c := by
    rw [hvm.findIdx?_eq _ (fun _ => rfl)]
    exact h2
  have hkind : k'.kind = .array comp (.array .int) := by rw [he]; exact h4
  have f1 : U.vm.findClass (FieldType.array .int).toString = some comp := by rw [hvm.findClass]; exact h1
  have f2 : U.vm.findClass ("[" ++ (FieldType.array .int).toString) = some c := by rw [hvm.findClass]; exact h5
  unfold qAOA Cond.before Cond.holds
  simp only [Cond.value]
  rw [f1, Option.bind_some]
  refine (congrArg (fun o : Option Nat => (o.bind (fun c => (U.vm.classes[c]?).map fun (k : Class) => match k.kind with | .array _ ty => decide (ty = FieldType.array .int) && decide (U.vm.findClass ("[" ++ (FieldType.array .int).toString) = some c) | _ => false) == some true)) hi).trans ?_
  simp [hk', hkind, f2]
theorem qext_moved {G : qG} {s U : State} (hW : s.WarmedH U.vm) (h : qext G s) : qext G U := ⟨h.1.moved hW.alike, h.2.1.moved hW.alike, h.2.2.1.moved hW.alike, qAOA_moved hW.alike h.2.2.2.1, h.2.2.2.2.1.moved hW.alike, h.2.2.2.2.2.1.moved hW.alike, h.2.2.2.2.2.2.1.moved hW.alike, ⟨h.2.2.2.2.2.2.2.1.1.moved hW.alike, h.2.2.2.2.2.2.2.1.2.imp (fun _ q => ⟨q.1, q.2.moved hW.alike⟩)⟩, h.2.2.2.2.2.2.2.2.1.warm hW, h.2.2.2.2.2.2.2.2.2.imp (fun _ q => q.moved hW.alike)⟩
theorem qK_moved {G : qG} {s U : State} (hW : s.WarmedH U.vm) (h : qK G s) : qK G U := ⟨qall_moved hW h.1, va_K.moved hW.alike h.2.1, h.2.2.1, qstat_moved hW.alike h.2.2.2.1, qext_moved hW h.2.2.2.2⟩
/-- the locals at a method's entry -/
def qL0 (As : List Value) (n : Nat) : List (Option Value) := As.flatMap (fun v => if v.category = 2 then [some v, none] else [some v]) ++ List.replicate (n - (As.flatMap (fun v => if v.category = 2 then [some v, none] else [some v])).length) none
theorem qL0_len (ad : Nat → Nat) (As : List Value) : (lg_sl (As.map (qtr ad))).length = (As.flatMap (fun v => if v.category = 2 then [some v, none] else [some v])).length := by
  induction As with
  | nil => rfl
  | cons v t ih =>
    unfold lg_sl at ih ⊢
    simp only [List.map_cons, List.flatMap_cons, List.length_append, qtr_cat]
    rw [ih]
    split <;> rfl
theorem qL0_at (ad : Nat → Nat) (As : List Value) : ∀ (i : Nat) (v : Value), (As.flatMap (fun v => if v.category = 2 then [some v, none] else [some v]))[i]? = some (some v) → (lg_sl (As.map (qtr ad)))[i]? = some (.val (qtr ad v)) := by
  induction As with
  | nil => intro i v h; simp at h
  | cons w t ih =>
    intro i v h
    unfold lg_sl at ih ⊢
    simp only [List.map_cons, List.flatMap_cons, qtr_cat] at h ⊢
    by_cases hc : w.category = 2
    · rw [if_pos hc] at h ⊢
      match i with
      | 0 => simp at h; subst h; rfl
      | 1 => simp at h
      | k + 2 => exact ih k v (by simpa using h)
    · rw [if_neg hc] at h ⊢
      match i with
      | 0 => simp at h; subst h; rfl
      | k + 1 => exact ih k v (by simpa using h)
theorem qhas_entry (ad : Nat → Nat) (As : List Value) (n : Nat) (hn : (lg_sl (As.map (qtr ad))).length ≤ n) : qhas ad (qL0 As n) ((lg_sl (As.map (qtr ad)) ++ List.replicate (n - (lg_sl (As.map (qtr ad))).length) Slot.unset).toArray) n := by
  have h := lv_entry (As.map (qtr ad)) hn
  refine ⟨h.1, h.2.1, fun i v hi => ?_⟩
  unfold qL0 at hi
  have hlen := qL0_len ad As
  by_cases hl : i < (As.flatMap (fun v => if v.category = 2 then [some v, none] else [some v])).length
  · rw [List.getElem?_append_left hl] at hi
    have h1 := qL0_at ad As i v hi
    rw [List.getElem?_toArray, List.getElem?_append_left (by omega)]
    exact h1
  · rw [List.getElem?_append_right (by omega), List.getElem?_replicate] at hi
    split at hi <;> cases hi
def qPc (G : qG) (As : List Value) (M : qMe) : Array Value → State → Prop := fun v U => v = (As.map (qtr G.2.2.1)).toArray ∧ qrep G M U.heap ∧ qK G U
theorem qPc_blind {G : qG} {As : List Value} {M : qMe} : FrameBlind (qPc G As M) := by
  intro a U g mk ⟨h1, h2, h3⟩
  exact ⟨h1, h2, qK_moved (s := U) (U := U.calling g mk a) (State.WarmedH.refl U) h3⟩
/-- a method's contract out of its walk from the entry -/
theorem q_met {G : qG} {d y : Nat} {As : List Value} {M : qMe} {r : Option Value × qMe} (l : Launch) (hy : plainName (qnm y).cls = true) (hlen : (As.flatMap (fun v => if v.category = 2 then [some v, none] else [some v])).length ≤ qml y) (h : qsem G d y 0 (qL0 As (qml y)) [] M r) (rm : Room) (hrm : qroom d rm) (hc : r.2.1 ≤ rm.cells + M.1) (hs : r.2.2.1 ≤ rm.slots + M.2.1) :
    Met l (qnm y) [Cond.code (qnm y) (qB y) (qml y) (qret y)] rm (qPc G As M) (qQ G r) rm.cells rm.slots (fun q => G.2.2.2.1.size ≤ q) := by
  refine Met.ofW (cc := qB y) (maxL := qml y) (ret := qret y) hy rfl ?_
  intro p e s m args below meth c s₁ B hml ⟨ha, hM, hK⟩
  subst ha
  have hnm := (name_of_methodNamed B.named B.method).1
  rw [lg_entry_eq]
  exact h.2 p l e _ s m _ below meth c s.heap [] 0 0 rm.cells rm.slots _ ⟨B.exec, B.bytes, B.returns, hml, findClass_of_methodNamed B.named, B.notSynchronized, Or.inr hnm, hK⟩ hrm hM (fun q hq => by cases hq) (qhas_entry _ As _ (by rw [qL0_len]; exact hlen)) (by omega) (by omega) (Nat.le_refl _) (Nat.le_refl _)
section QC
variable {G : qG} {d y pc : Nat} {L : List (Option Value)} {st : List Value} {M : qMe} {r : Option Value × qMe}
theorem q_zreturn {x : Int32} {ty : FieldType} (hd : decode (qB y) pc = .ok (.ireturn, 1)) (hr : qret y = some ty) (hn : narrow ty (.int x) = .int x) (e : r = (some (.int x), M)) : qsem G d y pc L [.int x] M r := by
  subst e
  refine ⟨⟨Nat.le_refl _, Nat.le_refl _⟩, fun p l e R s m args below meth c H locs cells slots mc ms ls C hR hM hl hL h1 h2 h3 h4 => ?_⟩
  refine W.widen (k := mc) (n := ms) (by dsimp only at h1; omega) (by dsimp only at h2; omega) ?_
  exact W.zret C.1 C.2.1 (C.2.2.1.trans hr) hn (fun t ht hw => ⟨rfl, by rw [ht]; exact hM⟩) hl hd C.2.2.2.2.2.1
theorem q_lreturn {x : Int64} (hd : decode (qB y) pc = .ok (.lreturn, 1)) (hr : qret y = some .long) (e : r = (some (.long x), M)) : qsem G d y pc L [.long x] M r := by
  subst e
  refine ⟨⟨Nat.le_refl _, Nat.le_refl _⟩, fun p l e R s m args below meth c H locs cells slots mc ms ls C hR hM hl hL h1 h2 h3 h4 => ?_⟩
  refine W.widen (k := mc) (n := ms) (by dsimp only at h1; omega) (by dsimp only at h2; omega) ?_
  exact W.lret C.1 C.2.1 (C.2.2.1.trans hr) (fun t ht hw => ⟨rfl, by rw [ht]; exact hM⟩) hl hd C.2.2.2.2.2.1
theorem q_return (hd : decode (qB y) pc = .ok (.return_, 1)) (hr : qret y = none) (e : r = (none, M)) : qsem G d y pc L [] M r := by
  subst e
  refine ⟨⟨Nat.le_refl _, Nat.le_refl _⟩, fun p l e R s m args below meth c H locs cells slots mc ms ls C hR hM hl hL h1 h2 h3 h4 => ?_⟩
  refine W.widen (k := mc) (n := ms) (by dsimp only at h1; omega) (by dsimp only at h2; omega) ?_
  exact W.vret C.1 C.2.1 (C.2.2.1.trans hr) (fun t ht hw => ⟨rfl, by rw [ht]; exact hM⟩) hl hd C.2.2.2.2.2.1
theorem q_areturn {x : Nat} {C0 : String} (hd : decode (qB y) pc = .ok (.areturn, 1)) (hr : qret y = some (.object C0)) (e : r = (some (.ref x), M)) : qsem G d y pc L [.ref x] M r := by
  subst e
  refine ⟨⟨Nat.le_refl _, Nat.le_refl _⟩, fun p l e R s m args below meth c H locs cells slots mc ms ls C hR hM hl hL h1 h2 h3 h4 => ?_⟩
  refine W.widen (k := mc) (n := ms) (by dsimp only at h1; omega) (by dsimp only at h2; omega) ?_
  exact W.aret C.1 C.2.1 (C.2.2.1.trans hr) (Or.inl ⟨_, rfl⟩) (Or.inr ⟨_, rfl⟩) (fun t ht hw => ⟨rfl, by rw [ht]; exact hM⟩) hl hd C.2.2.2.2.2.1
/-- behind a call: what every kind of call comes to -/
theorem q_after {r1 : Option Value × qMe} {p : Program} {l : Launch} {e : Env} {R : Room} {s : State} {m : MethodId} {args : Array Value} {below : List Frame} {meth : Method} {c : Code} {H : Heap} {locs : List Loc} {cells slots mc ms mc1 ms1 : Nat} {ls : Array Slot} {st0 : List Value} {a : Array Value}
    (C0 : qctx G y p s m meth c) (hR : qroom d R) (hl : ∀ q ∈ locs, G.2.2.2.1.size ≤ q.base) (hL : qhas G.2.2.1 L ls (qml y)) (h1 : cells + mc1 + r.2.1 ≤ mc + r1.2.1) (h2 : slots + ms1 + r.2.2.1 ≤ ms + r1.2.2.1) (h3 : mc ≤ R.cells) (h4 : ms ≤ R.slots)
    (hrun : va_Run p l e R s m args below meth c H locs cells slots mc1 ms1 (F0 m pc ls st0) (st.map (qtr G.2.2.1)) (qQ G r1 a) (fun q => G.2.2.2.1.size ≤ q))
    (h : qsem G d y (pc + 3) L (r1.1.toList ++ st) r1.2 r) : W p l e R s m args below meth c H locs cells slots (MQ below (qQ G r) args s mc ms (fun q => G.2.2.2.1.size ≤ q)) (F0 m pc ls st0) := by
  intro T hT X
  obtain ⟨v, s0, t, T', L2, g0, X', hL2, e1, e2, ⟨hv, hq⟩, stp⟩ := hrun T hT X
  cases hv
  have hk := h.2 p l e R s m args below meth c T'.heap (locs ++ L2) (cells + mc1) (slots + ms1) mc ms ls C0 hR (by rw [e1]; exact hq) (fun q hq => (List.mem_append.mp hq).elim (hl q) (hL2 q)) hL h1 h2 h3 h4
  obtain ⟨t2, a1, b1⟩ := hk T' rfl X'
  refine ⟨t2, stp t2 ?_, b1⟩
  have : (r1.1.map (qtr G.2.2.1)).toList ++ st.map (qtr G.2.2.1) = (r1.1.toList ++ st).map (qtr G.2.2.1) := by
    cases r1.1 <;> simp
  dsimp only [F0] at a1 ⊢
  rw [this]
  exact a1
end QC

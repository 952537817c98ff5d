/-! a row of n rows of m ints: multianewarray -/
def muI (kC : ClassId) (m : Nat) : Cell := { cls := kC, slots := Array.replicate m (.int 0), vm := .none }
def muO (kA : ClassId) (n h : Nat) : Nat → Cell
  | 0 => { cls := kA, slots := Array.replicate n .null, vm := .none }
  | i + 1 => (muO kA n h i).setSlot i (.ref (h + 1 + i))
/-- the state when i of the inner rows are made -/
def muS (T : State) (kA kC : ClassId) (n m : Nat) : Nat → State
  | 0 => T.pushCell (muO kA n T.heap.size 0)
  | i + 1 => ((muS T kA kC n m i).pushCell (muI kC m)).setCell T.heap.size (muO kA n T.heap.size (i + 1))
theorem muO_f (kA : ClassId) (n h : Nat) : ∀ i, (muO kA n h i).cls = kA ∧ (muO kA n h i).vm = .none ∧ (muO kA n h i).slots.size = n
  | 0 => ⟨rfl, rfl, Array.size_replicate⟩
  | i + 1 => by
    obtain ⟨a, b, d⟩ := muO_f kA n h i
    refine ⟨?_, ?_, ?_⟩
    · show ((muO kA n h i).setSlot i (.ref (h + 1 + i))).cls = kA
      simp only [Cell.setSlot, a]
    · show ((muO kA n h i).setSlot i (.ref (h + 1 + i))).vm = .none
      simp only [Cell.setSlot, b]
    · show ((muO kA n h i).setSlot i (.ref (h + 1 + i))).slots.size = n
      simp only [Cell.setSlot, Array.size_setIfInBounds, d]
section MU
variable {kA kC : ClassId} {n m : Nat}
theorem muS_f (T : State) : ∀ i, (muS T kA kC n m i).heap.size = T.heap.size + 1 + i ∧ (muS T kA kC n m i).heap[T.heap.size]? = some (muO kA n T.heap.size i) ∧ (muS T kA kC n m i).vm = T.vm ∧ (muS T kA kC n m i).slotsUsed = T.slotsUsed + n + i * m
  | 0 => ⟨by simp [muS], by simp [muS], rfl, by simp [muS, muO]⟩
  | i + 1 => by
    obtain ⟨a, b, d, u⟩ := muS_f T i
    have lt : T.heap.size < (muS T kA kC n m i).heap.size := by omega
    have b' : ((muS T kA kC n m i).pushCell (muI kC m)).heap[T.heap.size]? = some (muO kA n T.heap.size i) := by rw [State.heap_pushCell_of_lt (h := lt)]; exact b
    refine ⟨?_, State.heap_setCell_self b', by simp [muS, d], ?_⟩
    · simp [muS, State.setCell, a]; omega
    · simp [muS, u, muI, Nat.succ_mul]; omega
theorem muS_top (T : State) (f : JFrame) : ∀ i, muS (T.setTop f) kA kC n m i = (muS T kA kC n m i).setTop f
  | 0 => rfl
  | i + 1 => by simp only [muS, muS_top T f i, State.heap_setTop, State.pushCell_setTop, State.setCell_setTop]
section
variable {E : CtlPost} {e : Env} {d : Bool} {acts : List Action} {s : State}
/-- one row of defaults -/
theorem mu_new {k : ClassId} {comp : ClassId} {K : Class} {ty : FieldType} {len : Nat} {v : Value} (hk : s.vm.classes[k]? = some K) (hkind : K.kind = .array comp ty) (g1 : ¬ len > e.platform.arrayLengthLimit) (g2 : ¬ len * componentBytes ty > e.platform.maxHeapBytes) (hf : fits ty v = true) (hd : v.isDefault = true) {Q : Addr → Pre}
    (h1 : s.heap.size < e.platform.maxCells) (h2 : s.slotsUsed + len ≤ e.platform.maxSlots) (hq : Q s.heap.size d acts (s.pushCell { cls := k, slots := Array.replicate len v, vm := .none })) : Sem.wp (Jvm.newArray k len v) Q E e d acts s := by
  have fit : ∀ i w, (Array.replicate len v)[i]? = some w → s.fitsSlot k .none i w = true := by
    intro i w hw
    rw [Array.getElem?_replicate] at hw
    split at hw
    · cases hw
      simp [State.fitsSlot, State.slotType?, hk, hkind, hf]
    · cases hw
  have noacts : allocActs (Array.replicate len v) s.heap.size acts = acts := by
    have all : ((Array.replicate len v).all (·.isDefault)) = true := by
      rw [Array.all_replicate]
      split <;> simp [hd]
    unfold allocActs
    rw [if_pos all]
  simp only [Jvm.newArray, Jvm.arrayFits, wp_bind', W.ask, W.ite, g1, if_false, wp_pure', W.theClass, hk, hkind, g2, W.alloc, W.stop, Option.some.injEq, exists_eq_left', Array.size_replicate, noacts]
  rw [if_neg (by omega)]
  exact ⟨h1, h2, fit, hq⟩
theorem mu_in {K : Class} {cc : ClassId} {z : Int32} (hk : s.vm.classes[kC]? = some K) (hkind : K.kind = .array cc .int) (hz : ¬ z < 0) (g1 : ¬ z.toNatClampNeg > e.platform.arrayLengthLimit) (g2 : ¬ z.toNatClampNeg * 4 > e.platform.maxHeapBytes)
    (h1 : s.heap.size < e.platform.maxCells) (h2 : s.slotsUsed + z.toNatClampNeg ≤ e.platform.maxSlots) {Q : Addr → Pre} (hq : Q s.heap.size d acts (s.pushCell (muI kC z.toNatClampNeg))) : Sem.wp (multianewarray.make kC [z]) Q E e d acts s := by
  rw [multianewarray.make]
  simp only [wp_bind', W.ite, hz, if_false, wp_pure', W.theClass, hk, hkind, Option.some.injEq, exists_eq_left']
  exact mu_new hk hkind g1 g2 rfl rfl h1 h2 hq
theorem mu_out {K K2 : Class} {cc : ClassId} {x z : Int32} (hk : s.vm.classes[kA]? = some K) (hkind : K.kind = .array kC (.array .int)) (hk2 : s.vm.classes[kC]? = some K2) (hkind2 : K2.kind = .array cc .int) (hx : ¬ x < 0) (hz : ¬ z < 0) (g1 : ¬ x.toNatClampNeg > e.platform.arrayLengthLimit) (g2 : ¬ x.toNatClampNeg * 4 > e.platform.maxHeapBytes) (g3 : ¬ z.toNatClampNeg > e.platform.arrayLengthLimit) (g4 : ¬ z.toNatClampNeg * 4 > e.platform.maxHeapBytes)
    (h1 : s.heap.size + 1 + x.toNatClampNeg ≤ e.platform.maxCells) (h2 : s.slotsUsed + x.toNatClampNeg + x.toNatClampNeg * z.toNatClampNeg ≤ e.platform.maxSlots) {Q : Addr → Pre} (hq : ∀ d' acts', Q s.heap.size d' acts' (muS s kA kC x.toNatClampNeg z.toNatClampNeg x.toNatClampNeg)) : Sem.wp (multianewarray.make kA [x, z]) Q E e d acts s := by
  have nf : ([z].find? (· < 0)) = none := by simp [hz]
  rw [multianewarray.make]
  simp only [wp_bind', W.ite, hx, if_false, wp_pure', W.theClass, hk, hkind, Option.some.injEq, exists_eq_left']
  generalize hN : x.toNatClampNeg = N at *
  refine mu_new hk hkind g1 g2 rfl rfl (by omega) (by have := Nat.zero_le (N * z.toNatClampNeg); omega) ?_
  simp only [nf]
  rw [ite_self, wp_bind', Std.Legacy.Range.forIn_eq_forIn_range', show ([:N] : Std.Legacy.Range).size = N by simp [Std.Legacy.Range.size]]
  show Sem.wp (forIn (List.range' 0 N 1) PUnit.unit _) _ E e d acts _
  refine wp_forIn_inv (fun rest s' => ∃ i, i ≤ N ∧ rest = List.range' i (N - i) ∧ s' = muS s kA kC N z.toNatClampNeg i) _ _ ⟨0, Nat.zero_le _, rfl, rfl⟩ ?_ ?_
  · rintro j rest s' d' acts' Q' ⟨i, hi, hl, rfl⟩ go
    have lt : i < N := by
      rcases Nat.lt_or_ge i N with h | h
      · exact h
      · rw [show N - i = 0 by omega] at hl
        cases hl
    rw [show N - i = (N - (i + 1)) + 1 by omega, List.range'_succ] at hl
    obtain ⟨rfl, hrest⟩ := List.cons.inj hl
    obtain ⟨f1, f2, f3, f4⟩ := muS_f (kA := kA) (kC := kC) (n := N) (m := z.toNatClampNeg) s j
    obtain ⟨o1, o2, o3⟩ := muO_f kA N s.heap.size j
    have room : j * z.toNatClampNeg + z.toNatClampNeg ≤ N * z.toNatClampNeg := by
      rw [← Nat.succ_mul]
      exact Nat.mul_le_mul_right _ lt
    simp only [wp_bind']
    refine mu_in (by rw [f3]; exact hk2) hkind2 hz g3 g4 (by rw [f1]; omega) (by rw [f4]; omega) ?_
    have lt0 : s.heap.size < (muS s kA kC N z.toNatClampNeg j).heap.size := by omega
    simp only [wp_bind', W.writeLoc, wp_pure']
    refine ⟨muO kA N s.heap.size j, by rw [State.heap_pushCell_of_lt (h := lt0)]; exact f2, by rw [o2]; simp, by rw [o3]; exact lt, ?_, go _ _ _ ⟨j + 1, lt, hrest, ?_⟩⟩
    · rw [o1, o2]
      simp [State.fitsSlot, State.slotType?, f3, hk, hkind, fits]
    · rw [f1]
      rfl
  · rintro s' d' acts' ⟨i, hi, hl, rfl⟩
    have e : i = N := by
      rcases Nat.lt_or_ge i N with h | h
      · rw [show N - i = (N - (i + 1)) + 1 by omega, List.range'_succ] at hl
        cases hl
      · omega
    subst e
    simp only [wp_pure']
    exact hq _ _
end
variable {p : Program} {l : Launch} {e : Env} {R : Room} {s : State} {mm : MethodId} {args : Array Value} {below : List Frame} {meth : Method} {c : Code} {T : State} {locs : List Loc} {cells slots : Nat} {H : Heap} {Q : State → Prop}
theorem mu_stand (X : Stand p l e R s mm args below meth c T locs cells slots) : ∀ i, Stand p l e R s mm args below meth c (muS T kA kC n m i) (locs ++ (List.range i).map fun j => ⟨T.heap.size, j⟩) (cells + 1 + i) (slots + n + i * m)
  | 0 => by
    have h := X.pushed (muO kA n T.heap.size 0)
    rw [(muO_f kA n T.heap.size 0).2.2] at h
    simpa [muS] using h
  | i + 1 => by
    have Y := mu_stand X i
    obtain ⟨f1, f2, f3, f4⟩ := muS_f (kA := kA) (kC := kC) (n := n) (m := m) T i
    have lt0 : T.heap.size < (muS T kA kC n m i).heap.size := by omega
    have hc : ((muS T kA kC n m i).pushCell (muI kC m)).heap[T.heap.size]? = some (muO kA n T.heap.size i) := by rw [State.heap_pushCell_of_lt (h := lt0)]; exact f2
    have h := (Y.pushed (muI kC m)).stored hc i (.ref (T.heap.size + 1 + i))
    rw [show (muI kC m).slots.size = m by simp [muI]] at h
    rw [show (locs ++ (List.range (i + 1)).map fun j => (⟨T.heap.size, j⟩ : Loc)) = (locs ++ (List.range i).map fun j => (⟨T.heap.size, j⟩ : Loc)) ++ [⟨T.heap.size, i⟩] by simp [List.range_succ, List.append_assoc], show slots + n + (i + 1) * m = slots + n + i * m + m by rw [Nat.succ_mul]; omega]
    exact h
end MU
section MR
variable {G : qG} {M : qMe} {T : State}
theorem muN (M : qMe) (a m : Nat) : ∀ i, (qmlp M a m i).1 = M.1 + i ∧ (qmlp M a m i).2.1 = M.2.1 + i * m
  | 0 => ⟨rfl, by show M.2.1 = _; rw [Nat.zero_mul, Nat.add_zero]⟩
  | i + 1 => by
    obtain ⟨a1, a2⟩ := muN M a m i
    refine ⟨?_, ?_⟩
    · show (qmlp M a m i).1 + 1 = _
      omega
    · show (qmlp M a m i).2.1 + m = _
      rw [a2, Nat.succ_mul]
      omega
theorem mu_rep (had : ∀ i, 8 ≤ i → G.2.2.1 i + 8 = G.2.2.2.1.size + i) (hM : qrep G M T.heap) (n m : Nat) : ∀ i, i ≤ n → qrep G (qmlp (qnew M 107 n) M.1 m i) (muS T (G.2.1 107) (G.2.1 100) n m i).heap ∧ (qmlp (qnew M 107 n) M.1 m i).2.2.1 M.1 = (107, n)
  | 0, _ => by
    have hnew := qad_new had hM
    have hs : (qnew M 107 n).2.2.1 M.1 = (107, n) := by show (if M.1 = M.1 then (107, n) else _) = _; rw [if_pos rfl]
    refine ⟨qrep_push had hM (by decide) (by simp [muS]) (fun q hq => by show (T.pushCell _).heap[q]? = _; rw [State.heap_pushCell_of_lt (h := hq)]) ?_, hs⟩
    unfold qat
    rw [hs, if_neg (show ¬ (107 : Nat) < 100 by decide), hnew]
    show (T.pushCell (muO (G.2.1 107) n T.heap.size 0)).heap[T.heap.size]? = _
    rw [State.heap_pushCell_size]
    show some ({ cls := G.2.1 107, slots := Array.replicate n .null, vm := .none } : Cell) = _
    rw [arrV_new]
    congr 2
    funext k
    rw [qnew_new, qtr_def]
    rfl
  | i + 1, hi => by
    obtain ⟨ih, hk⟩ := mu_rep had hM n m i (by omega)
    obtain ⟨f1, f2, f3, f4⟩ := muS_f (kA := G.2.1 107) (kC := G.2.1 100) (n := n) (m := m) T i
    have hN := (muN (qnew M 107 n) M.1 m i).1
    have hnew0 := qad_new had hM
    have hN : (qmlp (qnew M 107 n) M.1 m i).1 = M.1 + 1 + i := hN
    have h8 := hM.2.1
    have hnew := qad_new had ih
    show qrep G (qsR (qnew (qmlp (qnew M 107 n) M.1 m i) 100 m) M.1 i (some (qmlp (qnew M 107 n) M.1 m i).1)) (((muS T (G.2.1 107) (G.2.1 100) n m i).pushCell (muI (G.2.1 100) m)).setCell T.heap.size (muO (G.2.1 107) n T.heap.size (i + 1))).heap ∧ (qnew (qmlp (qnew M 107 n) M.1 m i) 100 m).2.2.1 M.1 = (107, n)
    generalize hMi : qmlp (qnew M 107 n) M.1 m i = Mi at *
    generalize hSi : muS T (G.2.1 107) (G.2.1 100) n m i = Si at *
    have hs : (qnew Mi 100 m).2.2.1 Mi.1 = (100, m) := by show (if Mi.1 = Mi.1 then (100, m) else _) = _; rw [if_pos rfl]
    have hs1 : (qnew Mi 100 m).2.2.1 M.1 = (107, n) := by show (if M.1 = Mi.1 then (100, m) else _) = _; rw [if_neg (by omega)]; exact hk
    have lt0 : T.heap.size < Si.heap.size := by omega
    have p1 : qrep G (qnew Mi 100 m) (Si.pushCell (muI (G.2.1 100) m)).heap := by
      refine qrep_push had ih (by decide) (by simp) (fun q hq => by rw [State.heap_pushCell_of_lt (h := hq)]) ?_
      unfold qat
      rw [hs, if_neg (show ¬ (100 : Nat) < 100 by decide), hnew, State.heap_pushCell_size]
      show some ({ cls := G.2.1 100, slots := Array.replicate m (.int 0), vm := .none } : Cell) = _
      rw [arrV_new]
      congr 2
      funext k
      rw [qnew_new, qtr_def]
      rfl
    have p2 : (Si.pushCell (muI (G.2.1 100) m)).heap[T.heap.size]? = some (muO (G.2.1 107) n T.heap.size i) := by rw [State.heap_pushCell_of_lt (h := lt0)]; exact f2
    have p3 := q_arr p1 h8 (show M.1 < Mi.1 + 1 by omega) hs1 (by decide)
    rw [hnew0, p2] at p3
    have p3 := Option.some.inj p3
    refine ⟨qrep_upd (M := qnew Mi 100 m) had p1 h8 rfl rfl (fun a _ => rfl) (fun a ha kd k => qmv_R_ne ha) (by simp [State.setCell]) (fun q hq => by rw [hnew0] at hq; exact State.heap_setCell_other (Ne.symm hq)) ?_, hs1⟩
    unfold qat
    have hs2 : (qsR (qnew Mi 100 m) M.1 i (some Mi.1)).2.2.1 M.1 = (107, n) := hs1
    rw [hs2, if_neg (show ¬ (107 : Nat) < 100 by decide), hnew0, State.heap_setCell_self p2]
    show some ((muO (G.2.1 107) n T.heap.size i).setSlot i (.ref (T.heap.size + 1 + i))) = _
    rw [p3, arrV_store]
    congr 2
    funext q
    unfold updV
    split
    · next z =>
      subst z
      rw [qmv_R_self rfl]
      show Value.ref (T.heap.size + 1 + q) = .ref (G.2.2.1 Mi.1)
      rw [hnew, f1]
    · next z => rw [qmv_R_k z]
end MR
section MQ
variable {G : qG} {d y pc a b : Nat} {cc : Int} {L : List (Option Value)} {st : List Value} {M : qMe} {r : qR}
set_option maxHeartbeats 1000000 in
theorem q_multi {n dd : Nat} {x z : Int32} (hd : decode (qB y) pc = .ok (.multianewarray n dd, 4)) (hy : (qnm y).cls = qocn (qoc y)) (hl : qlnk y pc (.multianewarray n dd, 4, a, b, cc) = true) (h0 : 0 ≤ x ∧ 0 ≤ z ∧ x.toNatClampNeg ≤ 300 ∧ z.toNatClampNeg ≤ 300) (h : qsem G d y (pc + 4) L (.ref (mN M) :: st) (qmul M x.toNatClampNeg z.toNatClampNeg) r) : qsem G d y pc L (.int z :: .int x :: st) M r := by
  simp only [qlnk, Bool.and_eq_true] at hl
  obtain ⟨hdd, hlk⟩ := hl
  have hdd : dd = 2 := Nat.eq_of_beq_eq_true hdd
  subst hdd
  have hlk : Cond.classLink (qnm y).cls n "[[I" ∈ qtb := by rw [hy]; exact qmmk_in _ (of_decide_eq_true hlk)
  obtain ⟨x0, z0, x3, z3⟩ := h0
  have hx : ¬ x < 0 := Int32.not_lt.mpr x0
  have hz : ¬ z < 0 := Int32.not_lt.mpr z0
  obtain ⟨n1, n2⟩ := muN (qnew M 107 x.toNatClampNeg) M.1 z.toNatClampNeg x.toNatClampNeg
  have n1 : (qmul M x.toNatClampNeg z.toNatClampNeg).1 = M.1 + 1 + x.toNatClampNeg := n1
  have n2 : (qmul M x.toNatClampNeg z.toNatClampNeg).2.1 = M.2.1 + x.toNatClampNeg + x.toNatClampNeg * z.toNatClampNeg := n2
  have g1 := h.1.1
  have g2 := h.1.2
  rw [n1] at g1
  rw [n2] at g2
  refine ⟨⟨by omega, by omega⟩, fun p l e R s m args below meth c H locs cells slots mc ms ls C0 hR hM hl hL h1 h2 h3 h4 => ?_⟩
  obtain ⟨hall, hKK, had, -, hext⟩ := id C0.2.2.2.2.2.2.2
  have hnew := qad_new had hM
  show W p l e R s m args below meth c H locs cells slots _ (F0 m pc ls (.int z :: .int x :: st.map (qtr G.2.2.1)))
  intro T hT X
  subst hT
  have hpl : e.platform.magicAccessors = ({} : Platform).magicAccessors := by rw [X.admits.platform]
  obtain ⟨comp, kA, KA, hcomp, -, hKA, hkindA, hnameA⟩ := arrayOverA_spec hext.2.2.2.1
  obtain ⟨comp', KC, cc', hcomp', hKC, hkindC⟩ := Cond.arrayClass_spec (hall _ qac_int args)
  have ecomp : comp' = comp := Option.some.inj (hcomp'.symm.trans hcomp)
  subst ecomp
  have eA : kA = G.2.1 107 := Option.some.inj (hnameA.symm.trans (hKK.2 7 _ rfl).2)
  have eC : comp' = G.2.1 100 := Option.some.inj (hcomp'.symm.trans (hKK.2 0 _ rfl).2)
  subst eA
  subst eC
  obtain ⟨c0, hfc0, hcl⟩ := Cond.classLink_spec C0.2.2.2.2.1 (hall _ hlk args) e.platform hpl
  have e0 : c0 = G.2.1 107 := Option.some.inj (hfc0.symm.trans hnameA)
  subst e0
  obtain ⟨q1, q2, q3⟩ := State.classEntry (e := e) X.warmed hcl
  generalize T.vm.noted m.cls n (.cls (G.2.1 107)) = vm₁ at q1 q2 q3
  have hal : s.vm.Alike vm₁ := q2.alike
  obtain ⟨KA1, hKA1, heA⟩ := hal.2.2 _ _ hKA
  obtain ⟨KC1, hKC1, heC⟩ := hal.2.2 _ _ hKC
  have X1 := X.noted q2
  have XF := mu_stand (kA := G.2.1 107) (kC := G.2.1 100) (n := x.toNatClampNeg) (m := z.toNatClampNeg) X1 x.toNatClampNeg
  have hrep := (mu_rep (T := T.setVm vm₁) had hM x.toNatClampNeg z.toNatClampNeg x.toNatClampNeg (Nat.le_refl _)).1
  obtain ⟨r1, r2⟩ := X.roomAbove (show cells + (1 + x.toNatClampNeg) ≤ R.cells by omega) (show slots + (x.toNatClampNeg + x.toNatClampNeg * z.toNatClampNeg) ≤ R.slots by omega)
  have hk := h.2 p l e R s m args below meth c _ (locs ++ (List.range x.toNatClampNeg).map fun j => ⟨T.heap.size, j⟩) (cells + 1 + x.toNatClampNeg) (slots + x.toNatClampNeg + x.toNatClampNeg * z.toNatClampNeg) mc ms ls C0 hR hrep (fun q hq => (List.mem_append.mp hq).elim (hl q) (fun hq => by
    obtain ⟨j, -, rfl⟩ := List.mem_map.mp hq
    show G.2.2.2.1.size ≤ T.heap.size
    have := hM.1
    have := hM.2.1
    omega)) hL (by rw [n1]; omega) (by rw [n2]; omega) h3 h4
  obtain ⟨t, a1, b1⟩ := hk _ rfl XF
  refine ⟨t, ?_, b1⟩
  have hx2 := C0.1
  have hb2 := C0.2.1
  have hl1 : ¬ x.toNatClampNeg > e.platform.arrayLengthLimit := by rw [Launch.admits_arrayLengthLimit X.admits]; omega
  have hl2 : ¬ x.toNatClampNeg * 4 > e.platform.maxHeapBytes := by rw [Launch.admits_maxHeapBytes X.admits]; omega
  have hl3 : ¬ z.toNatClampNeg > e.platform.arrayLengthLimit := by rw [Launch.admits_arrayLengthLimit X.admits]; omega
  have hl4 : ¬ z.toNatClampNeg * 4 > e.platform.maxHeapBytes := by rw [Launch.admits_maxHeapBytes X.admits]; omega
  have hd' : decode c.code pc = .ok (.multianewarray n 2, 4) := by rw [hb2]; exact hd
  jvm_step X.here [X.here.top, hx2, hd']
  simp only [multianewarray.sem, wp_bind', W.resolveClassAt_links (State.method?_setTop (F0 m pc ls (.int z :: .int x :: st.map (qtr G.2.2.1))) X.here.top) q1]
  rw [W.popN, if_neg (by decide)]
  refine ⟨F0 m pc ls (.int z :: .int x :: st.map (qtr G.2.2.1)), State.topJava?_setTop' (s := T.setVm vm₁) _ X.here.top, [.int x, .int z], st.map (qtr G.2.2.1), rfl, rfl, ?_⟩
  simp only [List.mapM_cons, List.mapM_nil, wp_bind', wp_pure']
  refine mu_out hKA1 (by rw [heA]; exact hkindA) hKC1 (by rw [heC]; exact hkindC) hx hz hl1 hl2 hl3 hl4 (by show T.heap.size + 1 + _ ≤ _; omega) (by show T.slotsUsed + _ + _ ≤ _; omega) (fun d' acts' => ?_)
  have eS : ((T.setTop (F0 m pc ls (.int z :: .int x :: st.map (qtr G.2.2.1)))).setVm vm₁).setTop { F0 m pc ls (.int z :: .int x :: st.map (qtr G.2.2.1)) with stack := st.map (qtr G.2.2.1) } = (T.setVm vm₁).setTop { F0 m pc ls (.int z :: .int x :: st.map (qtr G.2.2.1)) with stack := st.map (qtr G.2.2.1) } := by
    show ((T.setVm vm₁).setTop _).setTop _ = _
    rw [State.setTop_setTop]
  rw [eS, muS_top]
  simp only [wp_bind', W.mark, W.pushRef, State.topJava?_setTop' _ XF.here.top, Option.some.injEq, exists_eq_left', State.setTop_setTop, State.heap_setTop]
  intro acts
  simp [jvm, XF.here.top]
  have e9 : G.2.2.1 M.1 = T.heap.size := hnew
  have a1' : Steps p.tables e below ((muS (T.setVm vm₁) (G.2.1 107) (G.2.1 100) x.toNatClampNeg z.toNatClampNeg x.toNatClampNeg).setTop (F0 m (pc + 4) ls (.ref T.heap.size :: st.map (qtr G.2.2.1)))) t := by
    rw [← e9]
    exact a1
  exact a1'
end MQ

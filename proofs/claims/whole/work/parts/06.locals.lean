/-! locals: stores -/
def qkill (L : List (Option Value)) (i : Nat) : List (Option Value) := match i with
  | 0 => L
  | j + 1 => match L[j]? with
    | some (some (.long _)) => L.set j none
    | some (some (.double _)) => L.set j none
    | _ => L
def qst1 (L : List (Option Value)) (i : Nat) (v : Value) : List (Option Value) := (qkill L i).set i (some v)
def qst2 (L : List (Option Value)) (i : Nat) (v : Value) : List (Option Value) := ((qkill L i).set i (some v)).set (i + 1) none
def qls (ad : Nat → Nat) (L : List (Option Value)) : List (Nat × Value) := (List.range L.length).filterMap (fun i => match L[i]? with
  | some (some v) => some (i, qtr ad v)
  | _ => none)
theorem qls_mem {ad : Nat → Nat} {L : List (Option Value)} {i : Nat} {v : Value} (h : L[i]? = some (some v)) : (i, qtr ad v) ∈ qls ad L := by
  refine List.mem_filterMap.mpr ⟨i, List.mem_range.mpr (List.getElem?_eq_some_iff.mp h).1, ?_⟩
  rw [h]
theorem qhas_lv {ad : Nat → Nat} {L : List (Option Value)} {ls : Array Slot} {nL : Nat} (h : qhas ad L ls nL) : lv_has ls nL (qls ad L) := by
  refine ⟨h.1, h.2.1, fun q hq => ?_⟩
  obtain ⟨i, -, hi⟩ := List.mem_filterMap.mp hq
  split at hi
  · next v hv =>
    cases hi
    exact h.2.2 i v hv
  · cases hi
theorem qkill_get {L : List (Option Value)} {i j : Nat} {v : Value} (h : (qkill L i)[j]? = some (some v)) : L[j]? = some (some v) ∧ ¬ (j + 1 = i ∧ v.category = 2) := by
  unfold qkill at h
  split at h
  · exact ⟨h, fun q => by omega⟩
  · next k =>
    have hset : ∀ (L : List (Option Value)), (L.set k none)[j]? = some (some v) → L[j]? = some (some v) ∧ ¬ (j + 1 = k + 1 ∧ v.category = 2) := by
      intro L h
      rw [List.getElem?_set] at h
      split at h
      · split at h <;> cases h
      · next hn => exact ⟨h, fun q => hn (by omega)⟩
    split at h
    · exact hset L h
    · exact hset L h
    · next h1 h2 =>
      refine ⟨h, fun ⟨q1, q2⟩ => ?_⟩
      have e : j = k := by omega
      subst e
      cases v <;> simp [Value.category] at q2
      · exact h1 _ h
      · exact h2 _ h
theorem qst1_get {L : List (Option Value)} {i j : Nat} {v w : Value} (h : (qst1 L i v)[j]? = some (some w)) : (j = i ∧ w = v) ∨ (j ≠ i ∧ L[j]? = some (some w) ∧ ¬ (j + 1 = i ∧ w.category = 2)) := by
  unfold qst1 at h
  rw [List.getElem?_set] at h
  split at h
  · next e =>
    split at h
    · cases h; exact Or.inl ⟨e.symm, rfl⟩
    · cases h
  · next e => exact Or.inr ⟨fun q => e q.symm, qkill_get h⟩
theorem qst2_get {L : List (Option Value)} {i j : Nat} {v w : Value} (h : (qst2 L i v)[j]? = some (some w)) : (j = i ∧ w = v) ∨ (j ≠ i ∧ j ≠ i + 1 ∧ L[j]? = some (some w) ∧ ¬ (j + 1 = i ∧ w.category = 2)) := by
  unfold qst2 at h
  rw [List.getElem?_set] at h
  split at h
  · split at h <;> cases h
  · next e =>
    rcases qst1_get (L := L) (v := v) h with q | q
    · exact Or.inl q
    · exact Or.inr ⟨q.1, fun z => e z.symm, q.2⟩
theorem qhas_1 {ad : Nat → Nat} {L : List (Option Value)} {ls' : Array Slot} {nL i : Nat} {v : Value} (h : lv_has ls' nL ((i, qtr ad v) :: (qls ad L).filter (fun q => !(q.1 == i) && !(q.1 + 1 == i && q.2.category == 2)))) : qhas ad (qst1 L i v) ls' nL := by
  refine ⟨h.1, h.2.1, fun j w hw => ?_⟩
  rcases qst1_get hw with ⟨rfl, rfl⟩ | ⟨h1, h2, h3⟩
  · exact h.2.2 _ List.mem_cons_self
  · refine h.2.2 (j, qtr ad w) (List.mem_cons_of_mem _ (List.mem_filter.mpr ⟨qls_mem h2, ?_⟩))
    simp only [Bool.and_eq_true, Bool.not_eq_true', beq_eq_false_iff_ne, Bool.and_eq_false_iff, qtr_cat]
    refine ⟨h1, ?_⟩
    by_cases q : j + 1 = i
    · exact Or.inr (fun z => h3 ⟨q, z⟩)
    · exact Or.inl q
theorem qhas_2 {ad : Nat → Nat} {L : List (Option Value)} {ls' : Array Slot} {nL i : Nat} {v : Value} (h : lv_has ls' nL ((i, qtr ad v) :: (qls ad L).filter (fun q => !(q.1 == i) && (!(q.1 == i + 1) && !(q.1 + 1 == i && q.2.category == 2))))) : qhas ad (qst2 L i v) ls' nL := by
  refine ⟨h.1, h.2.1, fun j w hw => ?_⟩
  rcases qst2_get hw with ⟨rfl, rfl⟩ | ⟨h1, h0, h2, h3⟩
  · exact h.2.2 _ List.mem_cons_self
  · refine h.2.2 (j, qtr ad w) (List.mem_cons_of_mem _ (List.mem_filter.mpr ⟨qls_mem h2, ?_⟩))
    simp only [Bool.and_eq_true, Bool.not_eq_true', beq_eq_false_iff_ne, Bool.and_eq_false_iff, qtr_cat]
    refine ⟨h1, h0, ?_⟩
    by_cases q : j + 1 = i
    · exact Or.inr (fun z => h3 ⟨q, z⟩)
    · exact Or.inl q
section QL
variable {G : qG} {d y pc : Nat} {L : List (Option Value)} {st : List Value} {M : qMe} {r : Option Value × qMe}
theorem q_loc {pc' : Nat} {st' : List Value} {L' : List (Option Value)}
    (hW : ∀ (p : Program) (l : Launch) (e : Env) (R : Room) (s : State) (m : MethodId) (args : Array Value) (below : List Frame) (meth : Method) (c : Code) (H : Heap) (locs : List Loc) (cells slots : Nat) (Q : State → Prop) (ls : Array Slot),
      qctx G y p s m meth c → qhas G.2.2.1 L ls (qml y) → (∀ ls', qhas G.2.2.1 L' ls' (qml y) → W p l e R s m args below meth c H locs cells slots Q (F0 m pc' ls' (st'.map (qtr G.2.2.1)))) → W p l e R s m args below meth c H locs cells slots Q (F0 m pc ls (st.map (qtr G.2.2.1))))
    (h : qsem G d y pc' L' st' M r) : qsem G d y pc L st M r :=
  ⟨h.1, fun p l e R s m args below meth c H locs cells slots mc ms ls C hR hM hl hL h1 h2 h3 h4 => hW p l e R s m args below meth c H locs cells slots _ ls C hL (fun ls' hL' => h.2 p l e R s m args below meth c H locs cells slots mc ms ls' C hR hM hl hL' h1 h2 h3 h4)⟩
theorem q_istore_n {k : Fin 4} {x : Int32} (hd : decode (qB y) pc = .ok (.istore_n k, 1)) (hn : (k : Nat) < qml y) (h : qsem G d y (pc + 1) (qst1 L k (.int x)) st M r) : qsem G d y pc L (.int x :: st) M r :=
  q_loc (fun p l e R s m args below meth c H locs cells slots Q ls C hL kk => lv_istore_n C.1 C.2.1 hd rfl (qhas_lv hL) hn rfl (fun ls' h' => kk ls' (qhas_1 h'))) h
theorem q_istore {i : Nat} {x : Int32} (hd : decode (qB y) pc = .ok (.istore i, 2)) (hn : i < qml y) (h : qsem G d y (pc + 2) (qst1 L i (.int x)) st M r) : qsem G d y pc L (.int x :: st) M r :=
  q_loc (fun p l e R s m args below meth c H locs cells slots Q ls C hL kk => lv_istore C.1 C.2.1 hd (qhas_lv hL) hn rfl (fun ls' h' => kk ls' (qhas_1 h'))) h
theorem q_lstore_n {k : Fin 4} {x : Int64} (hd : decode (qB y) pc = .ok (.lstore_n k, 1)) (hn : (k : Nat) + 1 < qml y) (h : qsem G d y (pc + 1) (qst2 L k (.long x)) st M r) : qsem G d y pc L (.long x :: st) M r :=
  q_loc (fun p l e R s m args below meth c H locs cells slots Q ls C hL kk => lv_lstore_n C.1 C.2.1 hd rfl (qhas_lv hL) hn rfl (fun ls' h' => kk ls' (qhas_2 h'))) h
theorem q_lstore {i : Nat} {x : Int64} (hd : decode (qB y) pc = .ok (.lstore i, 2)) (hn : i + 1 < qml y) (h : qsem G d y (pc + 2) (qst2 L i (.long x)) st M r) : qsem G d y pc L (.long x :: st) M r :=
  q_loc (fun p l e R s m args below meth c H locs cells slots Q ls C hL kk => lv_lstore C.1 C.2.1 hd (qhas_lv hL) hn rfl (fun ls' h' => kk ls' (qhas_2 h'))) h
theorem q_astore_n {k : Fin 4} {x : Nat} (hd : decode (qB y) pc = .ok (.astore_n k, 1)) (hn : (k : Nat) < qml y) (h : qsem G d y (pc + 1) (qst1 L k (.ref x)) st M r) : qsem G d y pc L (.ref x :: st) M r :=
  q_loc (fun p l e R s m args below meth c H locs cells slots Q ls C hL kk => lv_astore_n C.1 C.2.1 hd rfl (qhas_lv hL) hn rfl (fun ls' h' => kk ls' (qhas_1 (v := .ref x) h'))) h
theorem q_astore {i x : Nat} (hd : decode (qB y) pc = .ok (.astore i, 2)) (hn : i < qml y) (h : qsem G d y (pc + 2) (qst1 L i (.ref x)) st M r) : qsem G d y pc L (.ref x :: st) M r :=
  q_loc (fun p l e R s m args below meth c H locs cells slots Q ls C hL kk => lv_astore C.1 C.2.1 hd (qhas_lv hL) hn rfl (fun ls' h' => kk ls' (qhas_1 (v := .ref x) h'))) h
theorem q_iinc {i : Nat} {n : Int} {x : Int32} (hd : decode (qB y) pc = .ok (.iinc i n, 3)) (hl : L[i]? = some (some (.int x))) (hn : i < qml y) (h : qsem G d y (pc + 3) (qst1 L i (.int (x + Int32.ofInt n))) st M r) : qsem G d y pc L st M r :=
  q_loc (fun p l e R s m args below meth c H locs cells slots Q ls C hL kk => by
    obtain ⟨k, hk⟩ := List.getElem?_of_mem (qls_mem (ad := G.2.2.1) hl)
    exact lv_iinc C.1 C.2.1 hd (qhas_lv hL) hk rfl hn rfl (fun ls' h' => kk ls' (qhas_1 h'))) h
end QL

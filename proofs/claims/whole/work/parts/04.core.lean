/-! A SMALL MACHINE over the kit's rows: memory as numbered cells of ints, longs and references; 'qsem' says of a place in a method that from there the method comes to its end with answer and memory r. -/
abbrev qMe : Type := Nat × Nat × (Nat → Nat × Nat) × (Nat → Nat → Int32) × (Nat → Nat → Int64) × (Nat → Nat → Option Nat)
abbrev qG : Type := va_G × (Nat → ClassId) × (Nat → Nat) × Heap × (Nat → Nat) × (Nat → Nat → Int32)
abbrev qtys (cA : Nat → ClassId) : List (ClassId × FieldType) := [(cA 100, .int), (cA 101, .byte), (cA 102, .boolean), (cA 103, .long), (cA 104, .object "CheesePost$Alps"), (cA 105, .object "CheesePost$Text"), (cA 106, .object "CheesePost$Ride"), (cA 107, .array .int)]
def qfk (ty : FieldType) : Nat := match ty with
  | .long => 1
  | .object _ => 2
  | .array _ => 2
  | _ => 0
/-- what a slot of a kind of cell holds: 0 an int, 1 a long, 2 a reference -/
def qsk (kd k : Nat) : Nat := if kd < 100 then qfk (qty kd k) else if kd < 103 then 0 else if kd = 103 then 1 else 2
def qrv (r : Option Nat) : Value := match r with
  | none => .null
  | some i => .ref i
def qmv (M : qMe) (kd i k : Nat) : Value := match qsk kd k with
  | 0 => .int (M.2.2.2.1 i k)
  | 1 => .long (M.2.2.2.2.1 i k)
  | _ => qrv (M.2.2.2.2.2 i k)
def qtr (ad : Nat → Nat) (v : Value) : Value := match v with
  | .ref i => .ref (ad i)
  | w => w
theorem qtr_cat (ad : Nat → Nat) (v : Value) : (qtr ad v).category = v.category := by cases v <;> rfl
def qat (G : qG) (M : qMe) (i : Nat) (H : Heap) : Prop :=
  if (M.2.2.1 i).1 < 100 then ∃ r : vw_C, qcl[(M.2.2.1 i).1]? = some r ∧ t_OB (G.2.2.1 i) (G.1.1 (M.2.2.1 i).1) r.2.2 (G.1.2 (M.2.2.1 i).1) H (fun k => qtr G.2.2.1 (qmv M (M.2.2.1 i).1 i k))
  else H[G.2.2.1 i]? = some (arrV (G.2.1 (M.2.2.1 i).1) (M.2.2.1 i).2 (fun k => qtr G.2.2.1 (qmv M (M.2.2.1 i).1 i k)))
/-- the heap is the memory: cells 0 .. 7 are arrays of ints that nobody writes, those from 8 on are what was made since the law's entry -/
def qrep (G : qG) (M : qMe) (H : Heap) : Prop :=
  H.size + 8 = G.2.2.2.1.size + M.1 ∧ 8 ≤ M.1 ∧ (∀ q, q < G.2.2.2.1.size → H[q]? = G.2.2.2.1[q]?) ∧ (∀ i, i < 8 → M.2.2.1 i = (110, G.2.2.2.2.1 i) ∧ M.2.2.2.1 i = G.2.2.2.2.2 i) ∧ ∀ i, 8 ≤ i → i < M.1 → (M.2.2.1 i).1 < 108 ∧ qat G M i H
def qall (s : State) : Prop := ∀ w ∈ qtb, ∀ a : Array Value, w.before a s = true
def qstat (G : qG) (s : State) : Prop := ∀ i, i < 4 → G.2.2.1 i < G.2.2.2.1.size ∧ ∃ cell : Cell, G.2.2.2.1[G.2.2.1 i]? = some cell ∧ s.isArrayOf cell .int ∧ cell.vm ≠ .unknown ∧ G.2.2.2.2.1 i ≤ cell.slots.size ∧ cell.slots.size.toInt32 = Int32.ofNat (G.2.2.2.2.1 i) ∧ ∀ j, j < G.2.2.2.2.1 i → cell.slots[j]? = some (.int (G.2.2.2.2.2 i j))
/-- a class over whose objects (or int rows) there are arrays -/
def qAOA (s : State) : Prop := (Cond.arrayOver (.array .int)).before #[] s = true
/-- a static field that nobody writes -/
def qzz (G : qG) (C n d : String) (v : Value) (s : State) : Prop := va_Z C n d v (fun q => G.2.2.2.1.size ≤ q) s G.2.2.2.1
/-- the String constant of x's Reader, and its bytes -/
def qTX : String := "slows costs shuts eats send mend wait if or and not from toward with by times x y height fence speed size ripe hunger day wheels fences done came last "
def qtxb : List Int32 := [115, 108, 111, 119, 115, 32, 99, 111, 115, 116, 115, 32, 115, 104, 117, 116, 115, 32, 101, 97, 116, 115, 32, 115, 101, 110, 100, 32, 109, 101, 110, 100, 32, 119, 97, 105, 116, 32, 105, 102, 32, 111, 114, 32, 97, 110, 100, 32, 110, 111, 116, 32, 102, 114, 111, 109, 32, 116, 111, 119, 97, 114, 100, 32, 119, 105, 116, 104, 32, 98, 121, 32, 116, 105, 109, 101, 115, 32, 120, 32, 121, 32, 104, 101, 105, 103, 104, 116, 32, 102, 101, 110, 99, 101, 32, 115, 112, 101, 101, 100, 32, 115, 105, 122, 101, 32, 114, 105, 112, 101, 32, 104, 117, 110, 103, 101, 114, 32, 100, 97, 121, 32, 119, 104, 101, 101, 108, 115, 32, 102, 101, 110, 99, 101, 115, 32, 100, 111, 110, 101, 32, 99, 97, 109, 101, 32, 108, 97, 115, 116, 32]
def qstr (G : qG) (s : State) : Prop := vk_R "CheesePost$Reader" 85 qTX (G.2.2.1 4) s ∧ ∃ adV : Nat → Nat, vk_S 1 [qtxb.length] [qtxb] (fun _ => G.2.2.1 4) adV (fun q => G.2.2.2.1.size ≤ q) s G.2.2.2.1
/-- the statics of the JDK that its readers look at -/
def qjdk (G : qG) (s : State) : Prop := qzz G "java/lang/String" "COMPACT_STRINGS" "Z" (.int 1) s ∧ ∃ v : Value, (v = .null ∨ ∃ a : Nat, v = .ref a) ∧ qzz G "jdk/internal/util/Preconditions" "SIOOBE_FORMATTER" "Ljava/util/function/BiFunction;" v s
def qext (G : qG) (s : State) : Prop := va_AO "CheesePost$Alps" s ∧ va_AO "CheesePost$Text" s ∧ va_AO "CheesePost$Ride" s ∧ qAOA s ∧ qzz G "CheesePost" "TERM_LEAST" "[I" (.ref (G.2.2.1 1)) s ∧ qzz G "CheesePost" "TERM_MOST" "[I" (.ref (G.2.2.1 2)) s ∧ qzz G "CheesePost" "OP_NEEDS" "[I" (.ref (G.2.2.1 3)) s ∧ qjdk G s ∧ qstr G s
def qK (G : qG) (s : State) : Prop := qall s ∧ va_K G.1 qcl (qtys G.2.1) s ∧ (∀ i, 8 ≤ i → G.2.2.1 i + 8 = G.2.2.2.1.size + i) ∧ qstat G s ∧ qext G s
def qctx (G : qG) (y : Nat) (p : Program) (s : State) (m : MethodId) (meth : Method) (c : Code) : Prop :=
  p.tables.exec = Jvm.exec ∧ c.code = qB y ∧ meth.sig.returnType = qret y ∧ c.maxLocals = qml y ∧ s.vm.findClass (qnm y).cls = some m.cls ∧ meth.locks = false ∧ (y = 0 ∨ meth.name = (qnm y).name) ∧ qK G s
def qroom (d : Nat) (R : Room) : Prop := d + 4 ≤ R.frames ∧ 128 * d ≤ R.locals
def qhas (ad : Nat → Nat) (L : List (Option Value)) (ls : Array Slot) (nL : Nat) : Prop := ls.size = nL ∧ lv_wf ls ∧ ∀ (i : Nat) (v : Value), L[i]? = some (some v) → ls[i]? = some (.val (qtr ad v))
def qQ (G : qG) (r : Option Value × qMe) : Array Value → State → Outcome → State → Prop := fun _ _ o t => o = .returned (r.1.map (qtr G.2.2.1)) ∧ qrep G r.2 t.heap
def qsem (G : qG) (d y pc : Nat) (L : List (Option Value)) (st : List Value) (M : qMe) (r : Option Value × qMe) : Prop :=
  (M.1 ≤ r.2.1 ∧ M.2.1 ≤ r.2.2.1) ∧ ∀ (p : Program) (l : Launch) (e : Env) (R : Room) (s : State) (m : MethodId) (args : Array Value) (below : List Frame) (meth : Method) (c : Code) (H : Heap) (locs : List Loc) (cells slots mc ms : Nat) (ls : Array Slot),
    qctx G y p s m meth c → qroom d R → qrep G M H → (∀ q ∈ locs, G.2.2.2.1.size ≤ q.base) → qhas G.2.2.1 L ls (qml y) → cells + r.2.1 ≤ mc + M.1 → slots + r.2.2.1 ≤ ms + M.2.1 → mc ≤ R.cells → ms ≤ R.slots →
    W p l e R s m args below meth c H locs cells slots (MQ below (qQ G r) args s mc ms (fun q => G.2.2.2.1.size ≤ q)) (F0 m pc ls (st.map (qtr G.2.2.1)))
section QM
variable {G : qG} {d y pc : Nat} {L : List (Option Value)} {st : List Value} {M : qMe} {r : Option Value × qMe}
/-- a step that touches the stack alone -/
theorem q_stack {pc' : Nat} {st' : List Value}
    (hW : ∀ (p : Program) (l : Launch) (e : Env) (R : Room) (s : State) (m : MethodId) (args : Array Value) (below : List Frame) (meth : Method) (c : Code) (H : Heap) (locs : List Loc) (cells slots : Nat) (Q : State → Prop) (ls : Array Slot),
      qctx G y p s m meth c → qhas G.2.2.1 L ls (qml y) → W p l e R s m args below meth c H locs cells slots Q (F0 m pc' ls (st'.map (qtr G.2.2.1))) → W p l e R s m args below meth c H locs cells slots Q (F0 m pc ls (st.map (qtr G.2.2.1))))
    (h : qsem G d y pc' L st' M r) : qsem G d y pc L st M r :=
  ⟨h.1, fun p l e R s m args below meth c H locs cells slots mc ms ls C hR hM hl hL h1 h2 h3 h4 => hW p l e R s m args below meth c H locs cells slots _ ls C hL (h.2 p l e R s m args below meth c H locs cells slots mc ms ls C hR hM hl hL h1 h2 h3 h4)⟩
theorem q_br {c : Prop} {pc1 pc2 : Nat} {st1 : List Value}
    (hW : ∀ (p : Program) (l : Launch) (e : Env) (R : Room) (s : State) (m : MethodId) (args : Array Value) (below : List Frame) (meth : Method) (cd : Code) (H : Heap) (locs : List Loc) (cells slots : Nat) (Q : State → Prop) (ls : Array Slot),
      qctx G y p s m meth cd → (c → W p l e R s m args below meth cd H locs cells slots Q (F0 m pc1 ls (st1.map (qtr G.2.2.1)))) → (¬ c → W p l e R s m args below meth cd H locs cells slots Q (F0 m pc2 ls (st1.map (qtr G.2.2.1)))) → W p l e R s m args below meth cd H locs cells slots Q (F0 m pc ls (st.map (qtr G.2.2.1))))
    (ht : c → qsem G d y pc1 L st1 M r) (hf : ¬ c → qsem G d y pc2 L st1 M r) : qsem G d y pc L st M r := by
  refine ⟨(Classical.em c).elim (fun q => (ht q).1) (fun q => (hf q).1), fun p l e R s m args below meth cd H locs cells slots mc ms ls C hR hM hl hL h1 h2 h3 h4 => hW p l e R s m args below meth cd H locs cells slots _ ls C (fun q => (ht q).2 p l e R s m args below meth cd H locs cells slots mc ms ls C hR hM hl hL h1 h2 h3 h4) (fun q => (hf q).2 p l e R s m args below meth cd H locs cells slots mc ms ls C hR hM hl hL h1 h2 h3 h4)⟩
theorem q_weaken {L' : List (Option Value)} (hs : ∀ (i : Nat) (v : Value), L'[i]? = some (some v) → L[i]? = some (some v)) (h : qsem G d y pc L' st M r) : qsem G d y pc L st M r :=
  ⟨h.1, fun p l e R s m args below meth c H locs cells slots mc ms ls C hR hM hl hL h1 h2 h3 h4 => h.2 p l e R s m args below meth c H locs cells slots mc ms ls C hR hM hl ⟨hL.1, hL.2.1, fun i v q => hL.2.2 i v (hs i v q)⟩ h1 h2 h3 h4⟩
theorem q_iadd {x z : Int32} (hd : decode (qB y) pc = .ok (.iadd, 1)) (h : qsem G d y (pc + 1) L (.int (x + z) :: st) M r) : qsem G d y pc L (.int z :: .int x :: st) M r :=
  q_stack (fun p l e R s m args below meth c H locs cells slots Q ls C hL k => lv_iadd C.1 C.2.1 hd k) h
theorem q_icmp_lt {x z : Int32} {off : Int} {tgt : Nat} (hd : decode (qB y) pc = .ok (.if_icmp .lt off, 3)) (ht : (pc : Int) + off = (tgt : Int)) (h1 : x < z → qsem G d y tgt L st M r) (h2 : ¬ x < z → qsem G d y (pc + 3) L st M r) : qsem G d y pc L (.int z :: .int x :: st) M r :=
  q_br (fun p l e R s m args below meth c H locs cells slots Q ls C k1 k2 => lv_icmp_lt C.1 C.2.1 hd ht k1 k2) h1 h2
theorem q_iload_n {k : Fin 4} {x : Int32} (hd : decode (qB y) pc = .ok (.iload_n k, 1)) (hl : L[(k : Nat)]? = some (some (.int x))) (h : qsem G d y (pc + 1) L (.int x :: st) M r) : qsem G d y pc L st M r :=
  q_stack (fun p l e R s m args below meth c H locs cells slots Q ls C hL k => lv_iload_n C.1 C.2.1 hd rfl (hL.2.2 _ _ hl) k) h
theorem q_ireturn {x : Int32} (hd : decode (qB y) pc = .ok (.ireturn, 1)) (hr : qret y = some .int) (e : r = (some (.int x), M)) : qsem G d y pc L [.int x] M r := by
  subst e
  refine ⟨⟨Nat.le_refl _, Nat.le_refl _⟩, fun p l e R s m args below meth c H locs cells slots mc ms ls C hR hM hl hL h1 h2 h3 h4 => ?_⟩
  refine W.widen (k := mc) (n := ms) (by dsimp only at h1; omega) (by dsimp only at h2; omega) ?_
  exact W.iret C.1 C.2.1 (C.2.2.1.trans hr) (fun t ht hw => ⟨rfl, by rw [ht]; exact hM⟩) hl hd C.2.2.2.2.2.1
end QM

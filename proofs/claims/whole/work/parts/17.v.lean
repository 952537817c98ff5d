/-! the JDK's String, on the constant: walked (printed by wip/whole/gen/gen_str.py) -/
theorem jd_len_0 : decode jb_len 0 = .ok (.aload_n 0, 1) := by decide +kernel
theorem jd_len_1 : decode jb_len 1 = .ok (.getfield 9, 3) := by decide +kernel
theorem jd_len_4 : decode jb_len 4 = .ok (.arraylength, 1) := by decide +kernel
theorem jd_len_5 : decode jb_len 5 = .ok (.aload_n 0, 1) := by decide +kernel
theorem jd_len_6 : decode jb_len 6 = .ok (.invokevirtual 335, 3) := by decide +kernel
theorem jd_len_9 : decode jb_len 9 = .ok (.ishr, 1) := by decide +kernel
theorem jd_len_10 : decode jb_len 10 = .ok (.ireturn, 1) := by decide +kernel
theorem jd_cod_0 : decode jb_cod 0 = .ok (.getstatic 38, 3) := by decide +kernel
theorem jd_cod_3 : decode jb_cod 3 = .ok (.ifCond .eq 10, 3) := by decide +kernel
theorem jd_cod_6 : decode jb_cod 6 = .ok (.aload_n 0, 1) := by decide +kernel
theorem jd_cod_7 : decode jb_cod 7 = .ok (.getfield 15, 3) := by decide +kernel
theorem jd_cod_10 : decode jb_cod 10 = .ok (.goto 4, 3) := by decide +kernel
theorem jd_cod_14 : decode jb_cod 14 = .ok (.ireturn, 1) := by decide +kernel
theorem jd_cha_0 : decode jb_cha 0 = .ok (.aload_n 0, 1) := by decide +kernel
theorem jd_cha_1 : decode jb_cha 1 = .ok (.invokevirtual 492, 3) := by decide +kernel
theorem jd_cha_4 : decode jb_cha 4 = .ok (.ifCond .eq 12, 3) := by decide +kernel
theorem jd_cha_7 : decode jb_cha 7 = .ok (.aload_n 0, 1) := by decide +kernel
theorem jd_cha_8 : decode jb_cha 8 = .ok (.getfield 9, 3) := by decide +kernel
theorem jd_cha_11 : decode jb_cha 11 = .ok (.iload_n 1, 1) := by decide +kernel
theorem jd_cha_12 : decode jb_cha 12 = .ok (.invokestatic 495, 3) := by decide +kernel
theorem jd_cha_15 : decode jb_cha 15 = .ok (.ireturn, 1) := by decide +kernel
theorem jd_lat_0 : decode jb_lat 0 = .ok (.getstatic 38, 3) := by decide +kernel
theorem jd_lat_3 : decode jb_lat 3 = .ok (.ifCond .eq 14, 3) := by decide +kernel
theorem jd_lat_6 : decode jb_lat 6 = .ok (.aload_n 0, 1) := by decide +kernel
theorem jd_lat_7 : decode jb_lat 7 = .ok (.getfield 15, 3) := by decide +kernel
theorem jd_lat_10 : decode jb_lat 10 = .ok (.ifCond .ne 7, 3) := by decide +kernel
theorem jd_lat_13 : decode jb_lat 13 = .ok (.iconst 1, 1) := by decide +kernel
theorem jd_lat_14 : decode jb_lat 14 = .ok (.goto 4, 3) := by decide +kernel
theorem jd_lat_18 : decode jb_lat 18 = .ok (.ireturn, 1) := by decide +kernel
theorem jd_lch_0 : decode jb_lch 0 = .ok (.iload_n 1, 1) := by decide +kernel
theorem jd_lch_1 : decode jb_lch 1 = .ok (.aload_n 0, 1) := by decide +kernel
theorem jd_lch_2 : decode jb_lch 2 = .ok (.arraylength, 1) := by decide +kernel
theorem jd_lch_3 : decode jb_lch 3 = .ok (.invokestatic 9, 3) := by decide +kernel
theorem jd_lch_6 : decode jb_lch 6 = .ok (.aload_n 0, 1) := by decide +kernel
theorem jd_lch_7 : decode jb_lch 7 = .ok (.iload_n 1, 1) := by decide +kernel
theorem jd_lch_8 : decode jb_lch 8 = .ok (.baload, 1) := by decide +kernel
theorem jd_lch_9 : decode jb_lch 9 = .ok (.sipush 255, 3) := by decide +kernel
theorem jd_lch_12 : decode jb_lch 12 = .ok (.iand, 1) := by decide +kernel
theorem jd_lch_13 : decode jb_lch 13 = .ok (.i2c, 1) := by decide +kernel
theorem jd_lch_14 : decode jb_lch 14 = .ok (.ireturn, 1) := by decide +kernel
theorem jd_chk_0 : decode jb_chk 0 = .ok (.iload_n 0, 1) := by decide +kernel
theorem jd_chk_1 : decode jb_chk 1 = .ok (.iload_n 1, 1) := by decide +kernel
theorem jd_chk_2 : decode jb_chk 2 = .ok (.getstatic 1053, 3) := by decide +kernel
theorem jd_chk_5 : decode jb_chk 5 = .ok (.invokestatic 1059, 3) := by decide +kernel
theorem jd_chk_8 : decode jb_chk 8 = .ok (.pop, 1) := by decide +kernel
theorem jd_chk_9 : decode jb_chk 9 = .ok (.return_, 1) := by decide +kernel
theorem jd_pre_0 : decode jb_pre 0 = .ok (.iload_n 0, 1) := by decide +kernel
theorem jd_pre_1 : decode jb_pre 1 = .ok (.ifCond .lt 8, 3) := by decide +kernel
theorem jd_pre_4 : decode jb_pre 4 = .ok (.iload_n 0, 1) := by decide +kernel
theorem jd_pre_5 : decode jb_pre 5 = .ok (.iload_n 1, 1) := by decide +kernel
theorem jd_pre_6 : decode jb_pre 6 = .ok (.if_icmp .lt 10, 3) := by decide +kernel
theorem jd_pre_16 : decode jb_pre 16 = .ok (.iload_n 0, 1) := by decide +kernel
theorem jd_pre_17 : decode jb_pre 17 = .ok (.ireturn, 1) := by decide +kernel
theorem jd_len_p : (parseMethodDescriptor jn_len.desc).map (fun d => d.parameters.length) = some 0 := by decide +kernel
theorem jd_cod_p : (parseMethodDescriptor jn_cod.desc).map (fun d => d.parameters.length) = some 0 := by decide +kernel
theorem jd_cha_p : (parseMethodDescriptor jn_cha.desc).map (fun d => d.parameters.length) = some 1 := by decide +kernel
theorem jd_lat_p : (parseMethodDescriptor jn_lat.desc).map (fun d => d.parameters.length) = some 0 := by decide +kernel
theorem jd_lch_p : (parseMethodDescriptor jn_lch.desc).map (fun d => d.parameters.length) = some 2 := by decide +kernel
theorem jd_chk_p : (parseMethodDescriptor jn_chk.desc).map (fun d => d.parameters.length) = some 2 := by decide +kernel
theorem jd_pre_p : (parseMethodDescriptor jn_pre.desc).map (fun d => d.parameters.length) = some 3 := by decide +kernel
def jP (G : qG) (H : Heap) (B : State → Prop) (vs : List Value) : Array Value → State → Prop := fun a U => a = vs.toArray ∧ U.heap = H ∧ (∀ q, q < G.2.2.2.1.size → H[q]? = G.2.2.2.1[q]?) ∧ qK G U ∧ B U
def jQ (H : Heap) (v : Option Value) : Array Value → State → Outcome → State → Prop := fun _ _ o t => o = .returned v ∧ t.heap = H
def jB (B : State → Prop) : Prop := ∀ s U : State, s.WarmedH U.vm → B s → B U
def jF (G : qG) : Addr → Prop := fun q => G.2.2.2.1.size ≤ q
def jhas (ls : Array Slot) (vs : List Value) (n : Nat) : Prop := ls.size = n ∧ ∀ q ∈ lv_args 0 vs, ls[q.1]? = some (.val q.2)
theorem jB_T : jB (fun _ => True) := fun _ _ _ _ => trivial
theorem jP_blind {G : qG} {H : Heap} {B : State → Prop} {vs : List Value} (hB : jB B) : FrameBlind (jP G H B vs) := by
  intro a U g mk ⟨h1, h2, h3, h4, h5⟩
  exact ⟨h1, h2, h3, qK_moved (s := U) (U := U.calling g mk a) (State.WarmedH.refl U) h4, hB U (U.calling g mk a) (State.WarmedH.refl U) h5⟩
/-- a contract out of a walk from the entry -/
theorem j_met {G : qG} {H : Heap} {B : State → Prop} {vs : List Value} {l : Launch} {y : MethodName} {cb : ByteArray} {ml : Nat} {ret : Option FieldType} {rm : Room} {v : Option Value} (hy : plainFor y = true) (hlen : (lg_sl vs).length ≤ ml)
    (body : ∀ (p : Program) (e : Env) (s : State) (m : MethodId) (args : Array Value) (below : List Frame) (meth : Method) (c : Code) (ls : Array Slot), p.tables.exec = Jvm.exec → c.code = cb → meth.sig.returnType = ret → meth.locks = false → c.maxLocals = ml → s.vm.findClass y.cls = some m.cls → (∀ q, q < G.2.2.2.1.size → H[q]? = G.2.2.2.1[q]?) → qK G s → B s → jhas ls vs ml → W p l e rm s m args below meth c H [] 0 0 (MQ below (jQ H v) args s 0 0 (jF G)) (F0 m 0 ls [])) : Met l y [Cond.code y cb ml ret] rm (jP G H B vs) (jQ H v) 0 0 (jF G) := by
  refine q_ofW (cc := cb) (maxL := ml) (ret := ret) hy rfl ?_
  intro p e s m args below meth c s₁ B0 hml ⟨ha, hH, hh, hK, hB⟩
  subst ha
  rw [lg_entry_eq, hH]
  have h := lv_entry vs hlen
  exact body p e s m _ below meth c _ B0.exec B0.bytes B0.returns B0.notSynchronized hml (findClass_of_methodNamed B0.named) hh hK hB ⟨h.1, h.2.2⟩
section J
variable {G : qG} {p : Program} {l : Launch} {e : Env} {R : Room} {s : State} {m : MethodId} {args : Array Value} {below : List Frame} {meth : Method} {c : Code} {H : Heap} {locs : List Loc} {cells slots : Nat} {Q : State → Prop} {cc : ByteArray} {pc : Nat} {ls : Array Slot} {rest st0 : List Value} {B : State → Prop} {v : Option Value} {y : MethodName} {cb : ByteArray} {ml idx : Nat} {ret : Option FieldType} {rm : Room} {own : String} {a : Array Value}
theorem j_back (hrun : va_Run p l e R s m args below meth c H locs cells slots 0 0 (F0 m pc ls st0) rest (jQ H v a) (jF G)) (hl : ∀ q ∈ locs, G.2.2.2.1.size ≤ q.base)
    (k : ∀ locs' : List Loc, (∀ q ∈ locs', G.2.2.2.1.size ≤ q.base) → W p l e R s m args below meth c H locs' cells slots Q (F0 m (pc + 3) ls (v.toList ++ rest))) : W p l e R s m args below meth c H locs cells slots Q (F0 m pc ls st0) := by
  intro T hT X
  obtain ⟨v1, s0, t, T', L2, g0, X', hL2, e1, e2, ⟨hv, hq⟩, stp⟩ := hrun T hT X
  cases hv
  obtain ⟨t2, a1, b1⟩ := k (locs ++ L2) (fun q hq => (List.mem_append.mp hq).elim (hl q) (hL2 q)) T' (e1.trans hq) X'
  exact ⟨t2, stp t2 a1, b1⟩
theorem j_callB {n : Nat} (hall : qall s) (hrm : rm.cells = 0 ∧ rm.slots = 0) (hf : rm.frames + 1 ≤ R.frames) (hlo : 8 + (ml + 11) + rm.locals ≤ R.locals) (hcode : Cond.code y cb ml ret ∈ qtb) (hini : Cond.initialized y.cls ∈ qtb) (hne : y.cls ≠ "java/lang/invoke/MethodHandle" ∧ y.cls ≠ "java/lang/invoke/VarHandle") (hpar : (parseMethodDescriptor y.desc).map (fun d => d.parameters.length) = some n) (hlk : Cond.methodLink own idx y ∈ qtb) :
    CallB R s args own idx y cb ml ret [Cond.code y cb ml ret] rm 0 0 n := by
  refine ⟨hrm.1, hrm.2, hf, hlo, ?_, List.mem_cons_self, hall _ hcode _, hall _ hini _, hne, fun sig hs => ?_, hall _ hlk _⟩
  · intro w hw a' U hW
    rw [List.mem_singleton.mp hw]
    exact qall_moved hW hall _ hcode a'
  · rw [hs] at hpar
    exact (Option.some.inj hpar).symm
theorem j_callS {vs : List Value} (hx : p.tables.exec = Jvm.exec) (hb : c.code = cc) (hml : c.maxLocals = ls.size) (hown : s.vm.findClass own = some m.cls) (hK : qK G s) (hh : ∀ q, q < G.2.2.2.1.size → H[q]? = G.2.2.2.1[q]?) (hM : Met l y [Cond.code y cb ml ret] rm (jP G H B vs) (jQ H v) 0 0 (jF G)) (hB : jB B) (hBs : B s) (hst : Cond.static y ∈ qtb)
    (hcb : CallB R s args own idx y cb ml ret [Cond.code y cb ml ret] rm 0 0 vs.length) (hcat : (rest.map fun v => v.category).sum ≤ 8) (hd : decode cc pc = .ok (.invokestatic idx, 3)) (hc : cells ≤ R.cells ∧ slots ≤ R.slots) (hl : ∀ q ∈ locs, G.2.2.2.1.size ≤ q.base)
    (k : ∀ locs' : List Loc, (∀ q ∈ locs', G.2.2.2.1.size ≤ q.base) → W p l e R s m args below meth c H locs' cells slots Q (F0 m (pc + 3) ls (v.toList ++ rest))) : W p l e R s m args below meth c H locs cells slots Q (F0 m pc ls (vs.reverse ++ rest)) :=
  j_back (va_runS (g := F0 m pc ls _) ⟨hx, hb, hml, hown, fun w hw => hK.1 w hw args⟩ hM ⟨hcb, hK.1 _ hst _⟩ ⟨jP_blind hB, fun U hU hW => ⟨rfl, hU, hh, qK_moved hW hK, hB s U hW hBs⟩⟩ rfl rfl rfl rfl (by simpa using hcat) hd ⟨hc.1, hc.2⟩) hl k
theorem j_callV {b : Nat} {As : List Value} {C : String} (hx : p.tables.exec = Jvm.exec) (hb : c.code = cc) (hml : c.maxLocals = ls.size) (hown : s.vm.findClass own = some m.cls) (hK : qK G s) (hh : ∀ q, q < G.2.2.2.1.size → H[q]? = G.2.2.2.1[q]?) (hM : Met l y [Cond.code y cb ml ret] rm (jP G H B (.ref b :: As)) (jQ H v) 0 0 (jF G)) (hB : jB B) (hBs : B s) (hin : Cond.instanceMethod y ∈ qtb) (hse : Cond.selects C y y ∈ qtb)
    (hO : va_O C b (jF G) s G.2.2.2.1) (hcb : CallB R s args own idx y cb ml ret [Cond.code y cb ml ret] rm 0 0 As.length) (hcat : (rest.map fun v => v.category).sum ≤ 8) (hd : decode cc pc = .ok (.invokevirtual idx, 3)) (hc : cells ≤ R.cells ∧ slots ≤ R.slots) (hl : ∀ q ∈ locs, G.2.2.2.1.size ≤ q.base)
    (k : ∀ locs' : List Loc, (∀ q ∈ locs', G.2.2.2.1.size ≤ q.base) → W p l e R s m args below meth c H locs' cells slots Q (F0 m (pc + 3) ls (v.toList ++ rest))) : W p l e R s m args below meth c H locs cells slots Q (F0 m pc ls (As.reverse ++ .ref b :: rest)) := by
  obtain ⟨cell, h1, h2, h3, h4⟩ := hO
  have hcell : H[b]? = some cell := by rw [hh b (Array.getElem?_eq_some_iff.mp h1).1]; exact h1
  exact j_back (va_runV (g := F0 m pc ls _) ⟨hx, hb, hml, hown, fun w hw => hK.1 w hw args⟩ hM ⟨hcb, hK.1 _ hin _, hK.1 _ hse _⟩ ⟨jP_blind hB, ⟨cell, hcell, h2, h3⟩, fun U hU hW => ⟨rfl, hU, hh, qK_moved hW hK, hB s U hW hBs⟩⟩ rfl rfl rfl rfl (by simpa using hcat) hd ⟨hc.1, hc.2⟩) hl k
theorem j_gets {C n d : String} {z : Value} (hx : p.tables.exec = Jvm.exec) (hb : c.code = cc) (hown : s.vm.findClass own = some m.cls) (hall : qall s) (hh : ∀ q, q < G.2.2.2.1.size → H[q]? = G.2.2.2.1[q]?) (hz : qzz G C n d z s) (hlk : Cond.fieldLink own idx C n d ∈ qtb) (hd : decode cc pc = .ok (.getstatic idx, 3))
    (k : W p l e R s m args below meth c H locs cells slots Q (F0 m (pc + 3) ls (z :: rest))) : W p l e R s m args below meth c H locs cells slots Q (F0 m pc ls rest) := by
  obtain ⟨cf, kf, fi, f, a, cell, z1, z2, z3, z4, z5, z6, z7, z8⟩ := hz
  have ha : H[a]? = some cell := by rw [hh a (Array.getElem?_eq_some_iff.mp z5).1]; exact z5
  exact W.gets hx hb hown (hall _ hlk _) z1 z2 z3 z4 ha (fun e => by rw [e] at z6; cases z6) z7 rfl hd k
theorem j_getf {C n d : String} {z : Value} {q : Nat} (hx : p.tables.exec = Jvm.exec) (hb : c.code = cc) (hown : s.vm.findClass own = some m.cls) (hall : qall s) (hh : ∀ q, q < G.2.2.2.1.size → H[q]? = G.2.2.2.1[q]?) (hE : va_OF C n d z q (jF G) s G.2.2.2.1) (hlk : Cond.fieldLink own idx C n d ∈ qtb) (hd : decode cc pc = .ok (.getfield idx, 3))
    (k : W p l e R s m args below meth c H locs cells slots Q (F0 m (pc + 3) ls (z :: rest))) : W p l e R s m args below meth c H locs cells slots Q (F0 m pc ls (.ref q :: rest)) := by
  obtain ⟨cf, kf, fi, f, cell, h1, h2, h3, h4, h5, h6⟩ := hE
  exact W.getf hx hb hown (hall _ hlk _) h1 h2 (by rw [hh q (Array.getElem?_eq_some_iff.mp h3).1]; exact h3) h4 h5 rfl rfl hd k
theorem j_pre {i n : Int32} {w : Value} (hw : (lg_sl [.int i, .int n, w]).length ≤ 3) (hi : ¬ i < 0) (hn : i < n) : Met l jn_pre [Cond.code jn_pre jb_pre 3 (some .int)] ⟨1, 0, 0, 0⟩ (jP G H B [.int i, .int n, w]) (jQ H (some (.int i))) 0 0 (jF G) := by
  refine j_met (by decide +kernel) hw ?_
  intro p e s m args below meth c ls hx hb hr hlo hml hown hh hK hB hL
  have l0 : ls[0]? = some (.val (.int i)) := hL.2 (0, _) List.mem_cons_self
  have l1 : ls[1]? = some (.val (.int n)) := hL.2 (1, _) (List.mem_cons_of_mem _ List.mem_cons_self)
  refine lv_iload_n hx hb jd_pre_0 rfl l0 ?_
  refine lv_if_lt hx hb jd_pre_1 (tgt := 9) (by decide) (fun q => absurd q hi) (fun _ => ?_)
  refine lv_iload_n hx hb jd_pre_4 rfl l0 ?_
  refine lv_iload_n hx hb jd_pre_5 rfl l1 ?_
  refine lv_icmp_lt hx hb jd_pre_6 (tgt := 16) (by decide) (fun _ => ?_) (fun q => absurd hn q)
  refine lv_iload_n hx hb jd_pre_16 rfl l0 ?_
  exact W.iret hx hb hr (fun t ht hw => ⟨rfl, ht⟩) (fun q hq => by cases hq) jd_pre_17 hlo
theorem j_chk {i n : Int32} (hi : ¬ i < 0) (hn : i < n) : Met l jn_chk [Cond.code jn_chk jb_chk 2 none] ⟨2, 0, 0, 22⟩ (jP G H (fun _ => True) [.int i, .int n]) (jQ H none) 0 0 (jF G) := by
  refine j_met (by decide +kernel) (by show 2 ≤ 2; decide) ?_
  intro p e s m args below meth c ls hx hb hr hlo hml hown hh hK hB hL
  have l0 : ls[0]? = some (.val (.int i)) := hL.2 (0, _) List.mem_cons_self
  have l1 : ls[1]? = some (.val (.int n)) := hL.2 (1, _) (List.mem_cons_of_mem _ List.mem_cons_self)
  have hx2 := hK.2.2.2.2
  obtain ⟨w, hw, hz⟩ := hx2.2.2.2.2.2.2.2.1.2
  have hw3 : (lg_sl [.int i, .int n, w]).length ≤ 3 := by
    rcases hw with rfl | ⟨q, rfl⟩
    · show 3 ≤ 3; decide
    · show 3 ≤ 3; decide
  refine lv_iload_n hx hb jd_chk_0 rfl l0 ?_
  refine lv_iload_n hx hb jd_chk_1 rfl l1 ?_
  refine j_gets hx hb hown hK.1 hh hz jw_f_sio jd_chk_2 ?_
  refine j_callS (vs := [.int i, .int n, w]) (rest := []) (B := fun _ => True) hx hb (hml.trans hL.1.symm) hown hK hh (j_pre hw3 hi hn) jB_T trivial jw_pre_s (j_callB hK.1 ⟨rfl, rfl⟩ (by decide) (by decide) jw_pre_c jw_ini_pre ⟨by decide, by decide⟩ jd_pre_p jw_lk_pre) (Nat.zero_le _) jd_chk_5 ⟨Nat.le_refl _, Nat.le_refl _⟩ (fun q hq => by cases hq) (fun locs' hl => ?_)
  refine lv_pop hx hb jd_chk_8 rfl ?_
  exact W.vret hx hb hr (fun t ht hw => ⟨rfl, ht⟩) hl jd_chk_9 hlo
theorem qtxb_c : ∀ j, j < 151 → ((qtxb.getD j 0 &&& 255).toUInt32 % 65536).toInt32 = qtxb.getD j 0 ∧ narrow .char (.int (qtxb.getD j 0)) = .int (qtxb.getD j 0) := by decide +kernel
theorem qtxb_n : qtxb.length = 151 := by decide +kernel
def jT (G : qG) (q : Nat) (s : State) : Prop := va_T .byte q 151 (fun j => .int (qtxb.getD j 0)) (jF G) s G.2.2.2.1
theorem jT_B {q : Nat} : jB (jT G q) := fun _ _ hW h => va_T.moved hW.alike h
theorem k151 {k : Int32} (h0 : ¬ k < 0) (h1 : k.toNatClampNeg < 151) : k < 151 := by
  rw [Int32.lt_iff_toInt_lt] at h0 ⊢
  have e : k.toNatClampNeg = k.toInt.toNat := rfl
  have e0 : (0 : Int32).toInt = 0 := rfl
  have e1 : (151 : Int32).toInt = 151 := rfl
  omega
theorem j_lch {q : Nat} {k : Int32} (h0 : ¬ k < 0) (h1 : k.toNatClampNeg < 151) : Met l jn_lch [Cond.code jn_lch jb_lch 2 (some .char)] ⟨3, 0, 0, 43⟩ (jP G H (jT G q) [.ref q, .int k]) (jQ H (some (.int (qtxb.getD k.toNatClampNeg 0)))) 0 0 (jF G) := by
  refine j_met (by decide +kernel) (by show 2 ≤ 2; decide) ?_
  intro p e s m args below meth c ls hx hb hr hlo hml hown hh hK hB hL
  have l0 : ls[0]? = some (.val (.ref q)) := hL.2 (0, _) List.mem_cons_self
  have l1 : ls[1]? = some (.val (.int k)) := hL.2 (1, _) (List.mem_cons_of_mem _ List.mem_cons_self)
  obtain ⟨cell, t1, t2, t3, t4, t5, t6, t7⟩ := hB
  have hcell : H[q]? = some cell := by rw [hh q (Array.getElem?_eq_some_iff.mp t1).1]; exact t1
  refine lv_iload_n hx hb jd_lch_0 rfl l1 ?_
  refine lv_aload_n hx hb jd_lch_1 rfl l0 ?_
  refine W.alen (n := 151) hx hb hcell t2 t5 rfl rfl jd_lch_2 ?_
  refine j_callS (vs := [.int k, .int 151]) (rest := []) (B := fun _ => True) hx hb (hml.trans hL.1.symm) hown hK hh (j_chk h0 (k151 h0 h1)) jB_T trivial jw_chk_s (j_callB hK.1 ⟨rfl, rfl⟩ (by decide) (by decide) jw_chk_c jw_ini_str ⟨by decide, by decide⟩ jd_chk_p jw_lk_chk) (Nat.zero_le _) jd_lch_3 ⟨Nat.le_refl _, Nat.le_refl _⟩ (fun q hq => by cases hq) (fun locs' hl => ?_)
  refine lv_aload_n hx hb jd_lch_6 rfl l0 ?_
  refine lv_iload_n hx hb jd_lch_7 rfl l1 ?_
  refine W.bald hx hb hcell t2 t3 (fun w => w.elim h0 (fun w => by omega)) (t6 _ h1) rfl rfl jd_lch_8 ?_
  refine lv_sipush hx hb (v := 255) jd_lch_9 (by decide) ?_
  refine lv_iand hx hb jd_lch_12 ?_
  refine lv_i2c hx hb jd_lch_13 (qtxb_c _ h1).1 ?_
  exact W.zret hx hb hr (qtxb_c _ h1).2 (fun t ht hw => ⟨rfl, ht⟩) hl jd_lch_14 hlo
/-- what is known of the constant -/
theorem j_str (hK : qK G s) : ∃ q : Nat, va_O "java/lang/String" (G.2.2.1 4) (jF G) s G.2.2.2.1 ∧ va_OF "java/lang/String" "coder" "B" (.int 0) (G.2.2.1 4) (jF G) s G.2.2.2.1 ∧ va_OF "java/lang/String" "value" "[B" (.ref q) (G.2.2.1 4) (jF G) s G.2.2.2.1 ∧ jT G q s := by
  obtain ⟨adV, hS, -⟩ := hK.2.2.2.2.2.2.2.2.2.2.2.2.2
  obtain ⟨a1, a2, a3, a4⟩ := hS 0 (by decide)
  have e : [qtxb.length].getD 0 0 = 151 := qtxb_n
  rw [e] at a4
  exact ⟨adV 0, a1, a2, a3, a4⟩
theorem j_cod : Met l jn_cod [Cond.code jn_cod jb_cod 1 (some .byte)] ⟨1, 0, 0, 0⟩ (jP G H (fun _ => True) [.ref (G.2.2.1 4)]) (jQ H (some (.int 0))) 0 0 (jF G) := by
  refine j_met (by decide +kernel) (by show 1 ≤ 1; decide) ?_
  intro p e s m args below meth c ls hx hb hr hlo hml hown hh hK hB hL
  have l0 : ls[0]? = some (.val (.ref (G.2.2.1 4))) := hL.2 (0, _) List.mem_cons_self
  obtain ⟨q, a1, a2, a3, a4⟩ := j_str hK
  refine j_gets hx hb hown hK.1 hh hK.2.2.2.2.2.2.2.2.2.2.2.1.1 jw_f_com jd_cod_0 ?_
  refine lv_if_eq hx hb jd_cod_3 (tgt := 13) (by decide) (fun q => absurd q (by decide)) (fun _ => ?_)
  refine lv_aload_n hx hb jd_cod_6 rfl l0 ?_
  refine j_getf hx hb hown hK.1 hh a2 jw_f_cod jd_cod_7 ?_
  refine lv_goto hx hb jd_cod_10 (tgt := 14) (by decide) ?_
  exact W.zret hx hb hr (by decide) (fun t ht hw => ⟨rfl, ht⟩) (fun q hq => by cases hq) jd_cod_14 hlo
theorem j_lat : Met l jn_lat [Cond.code jn_lat jb_lat 1 (some .boolean)] ⟨1, 0, 0, 0⟩ (jP G H (fun _ => True) [.ref (G.2.2.1 4)]) (jQ H (some (.int 1))) 0 0 (jF G) := by
  refine j_met (by decide +kernel) (by show 1 ≤ 1; decide) ?_
  intro p e s m args below meth c ls hx hb hr hlo hml hown hh hK hB hL
  have l0 : ls[0]? = some (.val (.ref (G.2.2.1 4))) := hL.2 (0, _) List.mem_cons_self
  obtain ⟨q, a1, a2, a3, a4⟩ := j_str hK
  refine j_gets hx hb hown hK.1 hh hK.2.2.2.2.2.2.2.2.2.2.2.1.1 jw_f_com jd_lat_0 ?_
  refine lv_if_eq hx hb jd_lat_3 (tgt := 17) (by decide) (fun q => absurd q (by decide)) (fun _ => ?_)
  refine lv_aload_n hx hb jd_lat_6 rfl l0 ?_
  refine j_getf hx hb hown hK.1 hh a2 jw_f_cod jd_lat_7 ?_
  refine lv_if_ne hx hb jd_lat_10 (tgt := 17) (by decide) (fun q => absurd rfl q) (fun _ => ?_)
  refine lv_iconst hx hb (v := 1) jd_lat_13 (by decide) ?_
  refine lv_goto hx hb jd_lat_14 (tgt := 18) (by decide) ?_
  exact W.zret hx hb hr (by decide) (fun t ht hw => ⟨rfl, ht⟩) (fun q hq => by cases hq) jd_lat_18 hlo
theorem j_len : Met l jn_len [Cond.code jn_len jb_len 1 (some .int)] ⟨2, 0, 0, 20⟩ (jP G H (fun _ => True) [.ref (G.2.2.1 4)]) (jQ H (some (.int 151))) 0 0 (jF G) := by
  refine j_met (by decide +kernel) (by show 1 ≤ 1; decide) ?_
  intro p e s m args below meth c ls hx hb hr hlo hml hown hh hK hB hL
  have l0 : ls[0]? = some (.val (.ref (G.2.2.1 4))) := hL.2 (0, _) List.mem_cons_self
  obtain ⟨q, a1, a2, a3, a4⟩ := j_str hK
  obtain ⟨cell, t1, t2, t3, t4, t5, t6, t7⟩ := a4
  have hcell : H[q]? = some cell := by rw [hh q (Array.getElem?_eq_some_iff.mp t1).1]; exact t1
  refine lv_aload_n hx hb jd_len_0 rfl l0 ?_
  refine j_getf hx hb hown hK.1 hh a3 jw_f_val jd_len_1 ?_
  refine W.alen (n := 151) hx hb hcell t2 t5 rfl rfl jd_len_4 ?_
  refine lv_aload_n hx hb jd_len_5 rfl l0 ?_
  refine j_callV (As := []) (rest := [.int 151]) (B := fun _ => True) hx hb (hml.trans hL.1.symm) hown hK hh j_cod jB_T trivial jw_cod_i jw_cod_v a1 (j_callB hK.1 ⟨rfl, rfl⟩ (by decide) (by decide) jw_cod_c jw_ini_str ⟨by decide, by decide⟩ jd_cod_p jw_lk_cod) (by show 1 ≤ 8; decide) jd_len_6 ⟨Nat.le_refl _, Nat.le_refl _⟩ (fun q hq => by cases hq) (fun locs' hl => ?_)
  refine lv_ishr hx hb jd_len_9 ?_
  exact W.iret hx hb hr (fun t ht hw => ⟨rfl, ht⟩) hl jd_len_10 hlo
theorem j_cha {k : Int32} (h0 : ¬ k < 0) (h1 : k.toNatClampNeg < 151) : Met l jn_cha [Cond.code jn_cha jb_cha 2 (some .char)] ⟨4, 0, 0, 64⟩ (jP G H (fun _ => True) [.ref (G.2.2.1 4), .int k]) (jQ H (some (.int (qtxb.getD k.toNatClampNeg 0)))) 0 0 (jF G) := by
  refine j_met (by decide +kernel) (by show 2 ≤ 2; decide) ?_
  intro p e s m args below meth c ls hx hb hr hlo hml hown hh hK hB hL
  have l0 : ls[0]? = some (.val (.ref (G.2.2.1 4))) := hL.2 (0, _) List.mem_cons_self
  have l1 : ls[1]? = some (.val (.int k)) := hL.2 (1, _) (List.mem_cons_of_mem _ List.mem_cons_self)
  obtain ⟨q, a1, a2, a3, a4⟩ := j_str hK
  refine lv_aload_n hx hb jd_cha_0 rfl l0 ?_
  refine j_callV (As := []) (rest := []) (B := fun _ => True) hx hb (hml.trans hL.1.symm) hown hK hh j_lat jB_T trivial jw_lat_i jw_lat_v a1 (j_callB hK.1 ⟨rfl, rfl⟩ (by decide) (by decide) jw_lat_c jw_ini_str ⟨by decide, by decide⟩ jd_lat_p jw_lk_lat) (Nat.zero_le _) jd_cha_1 ⟨Nat.le_refl _, Nat.le_refl _⟩ (fun q hq => by cases hq) (fun locs' hl => ?_)
  refine lv_if_eq hx hb jd_cha_4 (tgt := 16) (by decide) (fun q => absurd q (by decide)) (fun _ => ?_)
  refine lv_aload_n hx hb jd_cha_7 rfl l0 ?_
  refine j_getf hx hb hown hK.1 hh a3 jw_f_val jd_cha_8 ?_
  refine lv_iload_n hx hb jd_cha_11 rfl l1 ?_
  refine j_callS (vs := [.ref q, .int k]) (rest := []) (B := jT G q) hx hb (hml.trans hL.1.symm) hown hK hh (j_lch h0 h1) jT_B a4 jw_lch_s (j_callB hK.1 ⟨rfl, rfl⟩ (by decide) (by decide) jw_lch_c jw_ini_lat ⟨by decide, by decide⟩ jd_lch_p jw_lk_lch) (Nat.zero_le _) jd_cha_12 ⟨Nat.le_refl _, Nat.le_refl _⟩ hl (fun locs2 hl2 => ?_)
  exact W.zret hx hb hr (qtxb_c _ h1).2 (fun t ht hw => ⟨rfl, ht⟩) hl2 jd_cha_15 hlo
end J
section JQ
variable {G : qG} {d y pc : Nat} {L : List (Option Value)} {st : List Value} {M : qMe} {r : qR}
theorem q_len {idx : Nat} (hd : decode (qB y) pc = .ok (.invokevirtual idx, 3)) (hlk : Cond.methodLink (qnm y).cls idx jn_len ∈ qtb) (hcat : qcats st ≤ 8) (h : qsem G (d + 1) y (pc + 3) L (.int 151 :: st) M r) : qsem G (d + 1) y pc L (.ref 4 :: st) M r := by
  refine ⟨h.1, fun p l e R s m args below meth c H locs cells slots mc ms ls C0 hR hM hl hL g1 g2 g3 g4 => ?_⟩
  obtain ⟨k1, k2⟩ := h.1
  have hK := C0.2.2.2.2.2.2.2
  obtain ⟨q, a1, a2, a3, a4⟩ := j_str hK
  obtain ⟨r1, r2⟩ := hR
  have hcat' : ((st.map (qtr G.2.2.1)).map fun v => v.category).sum ≤ 8 := by rw [q_cat, qcats_sum]; exact hcat
  exact j_callV (As := []) (rest := st.map (qtr G.2.2.1)) (B := fun _ => True) C0.1 C0.2.1 (C0.2.2.2.1.trans hL.1.symm) C0.2.2.2.2.1 hK hM.2.2.1 j_len jB_T trivial jw_len_i jw_len_v a1 (j_callB hK.1 ⟨rfl, rfl⟩ (by show 2 + 1 ≤ R.frames; omega) (by show 8 + (1 + 11) + 20 ≤ R.locals; omega) jw_len_c jw_ini_str ⟨by decide, by decide⟩ jd_len_p hlk) hcat' hd ⟨by omega, by omega⟩ hl (fun locs' hl' => h.2 p l e R s m args below meth c H locs' cells slots mc ms ls C0 ⟨r1, r2⟩ hM hl' hL g1 g2 g3 g4)
theorem q_cha {idx : Nat} {k : Int32} (hd : decode (qB y) pc = .ok (.invokevirtual idx, 3)) (hlk : Cond.methodLink (qnm y).cls idx jn_cha ∈ qtb) (hcat : qcats st ≤ 8) (h0 : ¬ k < 0) (h1 : k.toNatClampNeg < 151) (h : qsem G (d + 1) y (pc + 3) L (.int (qtxb.getD k.toNatClampNeg 0) :: st) M r) : qsem G (d + 1) y pc L (.int k :: .ref 4 :: st) M r := by
  refine ⟨h.1, fun p l e R s m args below meth c H locs cells slots mc ms ls C0 hR hM hl hL g1 g2 g3 g4 => ?_⟩
  obtain ⟨k1, k2⟩ := h.1
  have hK := C0.2.2.2.2.2.2.2
  obtain ⟨q, a1, a2, a3, a4⟩ := j_str hK
  obtain ⟨r1, r2⟩ := hR
  have hcat' : ((st.map (qtr G.2.2.1)).map fun v => v.category).sum ≤ 8 := by rw [q_cat, qcats_sum]; exact hcat
  exact j_callV (As := [.int k]) (rest := st.map (qtr G.2.2.1)) (B := fun _ => True) C0.1 C0.2.1 (C0.2.2.2.1.trans hL.1.symm) C0.2.2.2.2.1 hK hM.2.2.1 (j_cha h0 h1) jB_T trivial jw_cha_i jw_cha_v a1 (j_callB hK.1 ⟨rfl, rfl⟩ (by show 4 + 1 ≤ R.frames; omega) (by show 8 + (2 + 11) + 64 ≤ R.locals; omega) jw_cha_c jw_ini_str ⟨by decide, by decide⟩ jd_cha_p hlk) hcat' hd ⟨by omega, by omega⟩ hl (fun locs' hl' => h.2 p l e R s m args below meth c H locs' cells slots mc ms ls C0 ⟨r1, r2⟩ hM hl' hL g1 g2 g3 g4)
end JQ

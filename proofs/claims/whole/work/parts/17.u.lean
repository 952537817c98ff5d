/-! Math.floorMod -/
theorem fm_d0 : decode prog_14_method_50_code 0 = .ok (.iload_n 0, 1) := by decide +kernel
theorem fm_d1 : decode prog_14_method_50_code 1 = .ok (.iload_n 1, 1) := by decide +kernel
theorem fm_d2 : decode prog_14_method_50_code 2 = .ok (.irem, 1) := by decide +kernel
theorem fm_d3 : decode prog_14_method_50_code 3 = .ok (.istore_n 2, 1) := by decide +kernel
theorem fm_d4 : decode prog_14_method_50_code 4 = .ok (.iload_n 0, 1) := by decide +kernel
theorem fm_d5 : decode prog_14_method_50_code 5 = .ok (.iload_n 1, 1) := by decide +kernel
theorem fm_d6 : decode prog_14_method_50_code 6 = .ok (.ixor, 1) := by decide +kernel
theorem fm_d7 : decode prog_14_method_50_code 7 = .ok (.ifCond .ge 11, 3) := by decide +kernel
theorem fm_d10 : decode prog_14_method_50_code 10 = .ok (.iload_n 2, 1) := by decide +kernel
theorem fm_d11 : decode prog_14_method_50_code 11 = .ok (.ifCond .eq 7, 3) := by decide +kernel
theorem fm_d14 : decode prog_14_method_50_code 14 = .ok (.iload_n 2, 1) := by decide +kernel
theorem fm_d15 : decode prog_14_method_50_code 15 = .ok (.iload_n 1, 1) := by decide +kernel
theorem fm_d16 : decode prog_14_method_50_code 16 = .ok (.iadd, 1) := by decide +kernel
theorem fm_d17 : decode prog_14_method_50_code 17 = .ok (.ireturn, 1) := by decide +kernel
theorem fm_d18 : decode prog_14_method_50_code 18 = .ok (.iload_n 2, 1) := by decide +kernel
theorem fm_d19 : decode prog_14_method_50_code 19 = .ok (.ireturn, 1) := by decide +kernel
theorem fm_plain : plainFor (qmathn 992) = true := by decide +kernel
/-- a contract out of a walk: her class need not be plainly named, the method has no row among the natives -/
theorem q_ofW {l : Launch} {y : MethodName} {ws ws' : List Cond} {rm : Room} {Pc : Array Value → State → Prop} {Qc : Array Value → State → Outcome → State → Prop} {mc ms : Nat} {free : Addr → Prop} {cc : ByteArray} {maxL : Nat} {ret : Option FieldType}
    (hy : plainFor y = true) (hw : ws = Cond.code y cc maxL ret :: ws')
    (body : ∀ p e s m args below meth c s₁, BodyLoose p l y (headSpec ws rm) cc maxL ret e s m args below meth c s₁ → c.maxLocals = maxL → Pc args s →
      W p l e (headSpec ws rm).room s m args below meth c s.heap [] 0 0 (MQ below Qc args s mc ms free) (entryFrame m args maxL)) : Met l y ws rm Pc Qc mc ms free := by
  refine MetFree.of_bodySF (code := cc) (maxLocals := maxL) (ret := ret) hy ?_ ?_
  · intro args s m h hn
    obtain ⟨meth, c, h1, h2, h3, h4, h5, h6, -, -⟩ := Cond.code_spec hn (atoms_spec (ws := ws) h _ (by rw [hw]; exact List.mem_cons_self))
    exact ⟨meth, c, h1, h2, h3, h4, h5, h6⟩
  · intro p e s m args below meth c s₁ B hml hP _
    obtain ⟨t, a1, o, b1, b2, b3⟩ := body p e s m args below meth c s₁ B hml hP s₁ (by rw [B.state]; rfl) (Stand.of_body B)
    exact ⟨t, o, a1, b1, b2, b3⟩
theorem fm_rem {x z : Int32} : (x - x / z * z).toInt = x.toInt.tmod z.toInt := by
  have h2 : x / z = Int32.ofInt (x.toInt.tdiv z.toInt) := Int32.toInt_inj.mp (by rw [Int32.toInt_div, Int32.toInt_ofInt])
  have e : x - x / z * z = Int32.ofInt (x.toInt.tmod z.toInt) := by
    have e1 : x - x / z * z = Int32.ofInt x.toInt - Int32.ofInt (x.toInt.tdiv z.toInt) * Int32.ofInt z.toInt := by rw [Int32.ofInt_toInt, Int32.ofInt_toInt, h2]
    rw [e1, ← Int32.ofInt_mul, ← Int32.ofInt_sub, Int.tmod_def, Int.mul_comm]
  have b := Int.natAbs_tmod x.toInt z.toInt
  have b2 : x.toInt.natAbs % z.toInt.natAbs ≤ x.toInt.natAbs := Nat.mod_le _ _
  have x1 := Int32.le_toInt x
  have x2 := Int32.toInt_lt x
  have t0 : 0 ≤ x.toInt → 0 ≤ x.toInt.tmod z.toInt := Int.tmod_nonneg _
  have t1 : 0 ≤ - x.toInt → 0 ≤ (- x.toInt).tmod z.toInt := Int.tmod_nonneg _
  rw [Int.neg_tmod] at t1
  rw [e, Int32.toInt_ofInt_of_le (by omega) (by omega)]
theorem neg_msb (a : Int32) : a < 0 ↔ a.toBitVec.msb = true := BitVec.slt_zero_iff_msb_cond
theorem xor_neg (a b : Int32) : (a ^^^ b) < 0 ↔ ¬ (a < 0 ↔ b < 0) := by
  rw [neg_msb, neg_msb, neg_msb, Int32.toBitVec_xor, BitVec.msb_xor]
  cases a.toBitVec.msb <;> cases b.toBitVec.msb <;> simp
theorem fm_sign {x z : Int32} (hr : ¬ x - x / z * z = 0) : ((x ^^^ z) < 0) ↔ (((x - x / z * z) ^^^ z) < 0) := by
  have e := fm_rem (x := x) (z := z)
  have n0 : ¬ (x - x / z * z).toInt = 0 := fun q => hr (Int32.toInt_inj.mp q)
  have s : x < 0 ↔ x - x / z * z < 0 := by
    rw [Int32.lt_iff_toInt_lt, Int32.lt_iff_toInt_lt]
    show x.toInt < 0 ↔ (x - x / z * z).toInt < 0
    have t0 : 0 ≤ x.toInt → 0 ≤ x.toInt.tmod z.toInt := Int.tmod_nonneg _
    have t1 : 0 ≤ - x.toInt → 0 ≤ (- x.toInt).tmod z.toInt := Int.tmod_nonneg _
    rw [Int.neg_tmod] at t1
    omega
  rw [xor_neg, xor_neg, s]
def qfmq (x z : Int32) : Int32 := if ((x - x / z * z) ^^^ z) < 0 ∧ ¬ x - x / z * z = 0 then x - x / z * z + z else x - x / z * z
set_option maxHeartbeats 1000000 in
theorem qfmq_met {G : qG} {x z : Int32} {M : qMe} (l : Launch) (hz : ¬ z = 0) : Met l (qmathn 992) [Cond.code (qmathn 992) prog_14_method_50_code 3 (some .int)] ⟨1, 0, 0, 0⟩ (qPc G [.int x, .int z] M) (qQ G (some (.int (qfmq x z)), M)) 0 0 (fun q => G.2.2.2.1.size ≤ q) := by
  refine q_ofW (cc := prog_14_method_50_code) (maxL := 3) (ret := some .int) fm_plain rfl ?_
  intro p e s m args below meth c s₁ B hml ⟨ha, hM, hK⟩
  subst ha
  rw [lg_entry_eq]
  have hL := qhas_entry G.2.2.1 [Value.int x, Value.int z] 3 (by show 2 ≤ 3; decide)
  generalize ((lg_sl ([Value.int x, Value.int z].map (qtr G.2.2.1)) ++ List.replicate (3 - (lg_sl ([Value.int x, Value.int z].map (qtr G.2.2.1))).length) Slot.unset).toArray) = ls at hL ⊢
  have x1 := B.exec
  have x2 := B.bytes
  have x3 := B.returns
  have x4 := B.notSynchronized
  have fin : ∀ (ls : Array Slot) (v : Int32) (pc : Nat), decode prog_14_method_50_code pc = .ok (.ireturn, 1) → v = qfmq x z → W p l e (headSpec [Cond.code (qmathn 992) prog_14_method_50_code 3 (some .int)] ⟨1, 0, 0, 0⟩).room s m ([Value.int x, Value.int z].map (qtr G.2.2.1)).toArray below meth c s.heap [] 0 0 (MQ below (qQ G (some (.int (qfmq x z)), M)) ([Value.int x, Value.int z].map (qtr G.2.2.1)).toArray s 0 0 (fun q => G.2.2.2.1.size ≤ q)) (F0 m pc ls [.int v]) := fun ls v pc hd hv => by
    subst hv
    exact W.iret x1 x2 x3 (fun t ht hw => ⟨rfl, by rw [ht]; exact hM⟩) (fun q hq => by cases hq) hd x4
  have sg := fm_sign (x := x) (z := z)
  refine lv_iload_n x1 x2 fm_d0 rfl (hL.2.2 0 (.int x) rfl) ?_
  refine lv_iload_n x1 x2 fm_d1 rfl (hL.2.2 1 (.int z) rfl) ?_
  refine lv_irem x1 x2 fm_d2 hz ?_
  refine lv_istore_n x1 x2 fm_d3 rfl (qhas_lv hL) (by decide) rfl (fun ls1 h1 => ?_)
  have hL1 : qhas G.2.2.1 (qst1 (qL0 [Value.int x, Value.int z] 3) 2 (.int (x - x / z * z))) ls1 3 := qhas_1 h1
  have ef : qfmq x z = (if ((x - x / z * z) ^^^ z) < 0 ∧ ¬ x - x / z * z = 0 then x - x / z * z + z else x - x / z * z) := rfl
  generalize x - x / z * z = r at *
  refine lv_iload_n x1 x2 fm_d4 rfl (hL1.2.2 0 (.int x) rfl) ?_
  refine lv_iload_n x1 x2 fm_d5 rfl (hL1.2.2 1 (.int z) rfl) ?_
  refine lv_ixor x1 x2 fm_d6 ?_
  refine lv_if_ge x1 x2 fm_d7 (tgt := 18) (by decide) (fun c1 => ?_) (fun c1 => ?_)
  · refine lv_iload_n x1 x2 fm_d18 rfl (hL1.2.2 2 (.int r) rfl) ?_
    exact fin ls1 r 19 fm_d19 (by rw [ef, if_neg (fun q => absurd ((sg q.2).mpr q.1) (Int32.not_lt.mpr c1))])
  · refine lv_iload_n x1 x2 fm_d10 rfl (hL1.2.2 2 (.int r) rfl) ?_
    refine lv_if_eq x1 x2 fm_d11 (tgt := 18) (by decide) (fun c2 => ?_) (fun c2 => ?_)
    · refine lv_iload_n x1 x2 fm_d18 rfl (hL1.2.2 2 (.int r) rfl) ?_
      exact fin ls1 r 19 fm_d19 (by rw [ef, if_neg (fun q => q.2 c2)])
    · refine lv_iload_n x1 x2 fm_d14 rfl (hL1.2.2 2 (.int r) rfl) ?_
      refine lv_iload_n x1 x2 fm_d15 rfl (hL1.2.2 1 (.int z) rfl) ?_
      refine lv_iadd x1 x2 fm_d16 ?_
      exact fin ls1 (r + z) 17 fm_d17 (by rw [ef, if_pos ⟨(sg c2).mp (Int32.not_le.mp c1), c2⟩])
section QZ
variable {G : qG} {d y pc a b : Nat} {cc : Int} {L : List (Option Value)} {st : List Value} {M : qMe} {r : qR} {k : qF}
theorem q_fmod {x z : Int32} {idx : Nat} (hd : decode (qB y) pc = .ok (.invokestatic idx, 3)) (hlk : Cond.methodLink (qnm y).cls idx (qmathn 992) ∈ qtb) (hcat : qcats st ≤ 8) (hz : ¬ z = 0) (h : qsem G (d + 1) y (pc + 3) L (.int (if ((x - x / z * z) ^^^ z) < 0 ∧ ¬ x - x / z * z = 0 then x - x / z * z + z else x - x / z * z) :: st) M r) : qsem G (d + 1) y pc L (.int z :: .int x :: st) M r := by
  have h : qsem G (d + 1) y (pc + 3) L (.int (qfmq x z) :: st) M r := h
  refine ⟨h.1, fun p l e R s m args below meth c H locs cells slots mc ms ls C0 hR hM hl hL g1 g2 g3 g4 => ?_⟩
  obtain ⟨k1, k2⟩ := h.1
  have hall := C0.2.2.2.2.2.2.2.1
  have hmet := qfmq_met (G := G) (x := x) (z := z) (M := M) l hz
  have hp : PreS s H (qPc G [Value.int x, Value.int z] M) ([Value.int x, Value.int z].map (qtr G.2.2.1)) := ⟨qPc_blind, fun U hU hW => ⟨rfl, by rw [hU]; exact hM, qK_moved hW C0.2.2.2.2.2.2.2⟩⟩
  have hcb : CallB R s args (qnm y).cls idx (qmathn 992) prog_14_method_50_code 3 (some .int) [Cond.code (qmathn 992) prog_14_method_50_code 3 (some .int)] ⟨1, 0, 0, 0⟩ 0 0 2 := by
    refine ⟨rfl, rfl, ?_, ?_, ?_, List.mem_cons_self, hall _ qmath_c992 _, hall _ qmath_i _, ⟨by decide, by decide⟩, fun sig hs => ?_, hall _ hlk _⟩
    · have := hR.1
      show 1 + 1 ≤ R.frames
      omega
    · have := hR.2
      show 8 + (3 + 11) + 0 ≤ R.locals
      omega
    · intro w hw a' U hW
      rw [List.mem_singleton.mp hw]
      exact qall_moved hW hall _ qmath_c992 a'
    · have e : (parseMethodDescriptor (qmathn 992).desc).map (fun d => d.parameters.length) = some 2 := by decide +kernel
      rw [hs] at e
      exact (Option.some.inj e).symm
  have hcat' : (st.map fun v => v.category).sum ≤ 8 := by rw [qcats_sum]; exact hcat
  have e : (Value.int z :: Value.int x :: st) = [Value.int x, Value.int z].reverse ++ st := rfl
  rw [e, q_mapst]
  exact q_after (mc1 := 0) (ms1 := 0) (r1 := (some (.int (qfmq x z)), M)) C0 hR hl hL (by show cells + 0 + r.2.1 ≤ mc + M.1; omega) (by show slots + 0 + r.2.2.1 ≤ ms + M.2.1; omega) g3 g4 (va_runS (g := F0 m pc ls _) ⟨C0.1, C0.2.1, C0.2.2.2.1, C0.2.2.2.2.1, fun w hw => hall w hw args⟩ hmet ⟨hcb, hall _ qmath_s992 _⟩ hp rfl rfl hL.1 rfl (by rw [q_cat]; simpa using hcat') hd ⟨by omega, by omega⟩) h
end QZ

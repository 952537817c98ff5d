/-! the machine's beginning, as the small machine's -/
theorem st_all {A : Array Value} {s : State} (h : ∀ w ∈ lw_tbl, w.before A s = true) : qall s := by
  intro w hw a
  have hg := (List.mem_filter.mp hw).2
  have hs := h w (List.mem_filter.mp hw).1
  have hW : s.WarmedH s.vm := State.WarmedH.refl s
  cases w <;> first
    | exact va_Nw.use rfl (va_Nw.warmM hW (va_tabs rfl rfl hs))
    | exact va_Nw.use rfl (va_Nw.warmF hW (va_tabs rfl rfl hs))
    | exact word_at hW (good_of_word hg) hs
theorem st_D {s : State} (hall : qall s) : ∃ D : va_G, ∀ (c : Nat) (q : vw_C), qcl[c]? = some q → u_Kn s q.1 q.2.1 q.2.2 (D.1 c) (D.2 c) := by
  have h0 : ∀ c : Nat, ∃ z : ClassId × (Nat → Nat), ∀ q : vw_C, qcl[c]? = some q → u_Kn s q.1 q.2.1 q.2.2 z.1 z.2 := by
    intro c
    by_cases h : c < 12
    · obtain ⟨C, hq⟩ := qcl_at h
      obtain ⟨a1, a2, a3, a4, a5⟩ := qclok _ _ _ _ hq
      obtain ⟨cC, iS, hk⟩ := u_known (ws := qtb) (args := #[]) (fun w hw => hall w hw #[]) a1 (hall _ a4 #[])
      exact ⟨(cC, iS), fun q hq' => by rw [hq] at hq'; cases hq'; exact hk⟩
    · refine ⟨(0, fun _ => 0), fun q hq => ?_⟩
      have := (List.getElem?_eq_some_iff.mp hq).1
      exact absurd this h
  obtain ⟨z, hz⟩ := Classical.axiomOfChoice h0
  exact ⟨(fun c => (z c).1, fun c => (z c).2), fun c q hq => hz c q hq⟩
theorem st_P {A : Array Value} {s : State} {ty : FieldType} (h : (Cond.arrayClass ty).before A s = true) (hra : ∀ c, s.vm.findClass ("[" ++ ty.toString) = some c → va_RA s c ty) : ∃ c, ArrOfT s c ty ∧ va_RA s c ty := by
  obtain ⟨c, k, comp, h1, h2, h3⟩ := Cond.arrayClass_spec h
  exact ⟨c, fun n z => ⟨fun k q => (by cases q), k, h2, comp, h3⟩, hra c h1⟩
theorem st_O {C : String} {s : State} (h : va_AO C s) : ∃ c, ArrOfT s c (.object C) ∧ va_RA s c (.object C) := by
  obtain ⟨comp, c, k, h1, -, h3, h4, h5⟩ := Cond.arrayOver_spec (h.use (A := #[]))
  exact ⟨c, fun n z => ⟨fun k q => (by cases q), k, h3, comp, h4⟩, k, comp, h3, h4, h1, h5⟩
theorem st_A {s : State} (h : qAOA s) : ∃ c, ArrOfT s c (.array .int) ∧ va_RA s c (.array .int) := by
  obtain ⟨comp, c, k, h1, -, h3, h4, h5⟩ := arrayOverA_spec h
  exact ⟨c, fun n z => ⟨fun k q => (by cases q), k, h3, comp, h4⟩, h5⟩
theorem st_T {s : State} (hall : qall s) (o1 : va_AO "CheesePost$Alps" s) (o2 : va_AO "CheesePost$Text" s) (o3 : va_AO "CheesePost$Ride" s) (o4 : qAOA s) : ∃ cA : Nat → ClassId, ∀ (k : Nat) (q : ClassId × FieldType), (qtys cA)[k]? = some q → ArrOfT s q.1 q.2 ∧ va_RA s q.1 q.2 := by
  obtain ⟨c0, a0⟩ := st_P (hall _ qac_int #[]) (fun _ q => q)
  obtain ⟨c1, a1⟩ := st_P (hall _ qac_byte #[]) (fun _ q => q)
  obtain ⟨c2, a2⟩ := st_P (hall _ qac_boolean #[]) (fun _ q => q)
  obtain ⟨c3, a3⟩ := st_P (hall _ qac_long #[]) (fun _ q => q)
  obtain ⟨c4, a4⟩ := st_O o1
  obtain ⟨c5, a5⟩ := st_O o2
  obtain ⟨c6, a6⟩ := st_O o3
  obtain ⟨c7, a7⟩ := st_A o4
  refine ⟨fun i => if i = 100 then c0 else if i = 101 then c1 else if i = 102 then c2 else if i = 103 then c3 else if i = 104 then c4 else if i = 105 then c5 else if i = 106 then c6 else c7, fun k q hq => ?_⟩
  match k, hq with
  | 0, hq => cases hq; exact a0
  | 1, hq => cases hq; exact a1
  | 2, hq => cases hq; exact a2
  | 3, hq => cases hq; exact a3
  | 4, hq => cases hq; exact a4
  | 5, hq => cases hq; exact a5
  | 6, hq => cases hq; exact a6
  | 7, hq => cases hq; exact a7
  | _ + 8, hq => exact absurd hq (by simp)
def st1 : List Int := [0, 0, 1, 0]
def st2 : List Int := [99, 20, 60, 9]
def st3 : List Int := [1, 0, 0, 1, 1, 1, 2, 2, 2, 2, 2, 2, 2, 2, 2, 2]
def st_n (L : Nat) : Nat → Nat := fun i => if i = 0 then L else if i = 1 then 4 else if i = 2 then 4 else if i = 3 then 16 else 0
def st_v (xs : Nat → Int32) : Nat → Nat → Int32 := fun i k => if i = 0 then xs k else if i = 1 then iz (st1.getD k 0) else if i = 2 then iz (st2.getD k 0) else if i = 3 then iz (st3.getD k 0) else 0
def st_M (L : Nat) (xs : Nat → Int32) : qMe := (8, 0, fun i => (110, st_n L i), st_v xs, fun _ _ => 0, fun _ _ => none)
abbrev stm1 : Term := .static "CheesePost" "TERM_LEAST" "[I"
abbrev stm2 : Term := .static "CheesePost" "TERM_MOST" "[I"
abbrev stm3 : Term := .static "CheesePost" "OP_NEEDS" "[I"
abbrev stmS : Term := .string "CheesePost$Reader" 85
abbrev stmV : Term := .field stmS "java/lang/String" "value" "[B"
abbrev stF : List Cond := flatC (Jvm.Cond.and given_1 narrow_1)
theorem sq1 : ∀ j, j < 4 → Cond.eq (.elem stm1 (.int (Int32.ofNat j))) (.int (iz (st1.getD j 0))) ∈ stF := by decide +kernel
theorem sq2 : ∀ j, j < 4 → Cond.eq (.elem stm2 (.int (Int32.ofNat j))) (.int (iz (st2.getD j 0))) ∈ stF := by decide +kernel
theorem sq3 : ∀ j, j < 16 → Cond.eq (.elem stm3 (.int (Int32.ofNat j))) (.int (iz (st3.getD j 0))) ∈ stF := by decide +kernel
theorem sqS0 : ∀ j, j < 12 → Cond.eq (.elem stmV (.int (Int32.ofNat (0 + j)))) (.int (qtxb.getD (0 + j) 0)) ∈ stF := by decide +kernel
theorem sqS12 : ∀ j, j < 12 → Cond.eq (.elem stmV (.int (Int32.ofNat (12 + j)))) (.int (qtxb.getD (12 + j) 0)) ∈ stF := by decide +kernel
theorem sqS24 : ∀ j, j < 12 → Cond.eq (.elem stmV (.int (Int32.ofNat (24 + j)))) (.int (qtxb.getD (24 + j) 0)) ∈ stF := by decide +kernel
theorem sqS36 : ∀ j, j < 12 → Cond.eq (.elem stmV (.int (Int32.ofNat (36 + j)))) (.int (qtxb.getD (36 + j) 0)) ∈ stF := by decide +kernel
theorem sqS48 : ∀ j, j < 12 → Cond.eq (.elem stmV (.int (Int32.ofNat (48 + j)))) (.int (qtxb.getD (48 + j) 0)) ∈ stF := by decide +kernel
theorem sqS60 : ∀ j, j < 12 → Cond.eq (.elem stmV (.int (Int32.ofNat (60 + j)))) (.int (qtxb.getD (60 + j) 0)) ∈ stF := by decide +kernel
theorem sqS72 : ∀ j, j < 12 → Cond.eq (.elem stmV (.int (Int32.ofNat (72 + j)))) (.int (qtxb.getD (72 + j) 0)) ∈ stF := by decide +kernel
theorem sqS84 : ∀ j, j < 12 → Cond.eq (.elem stmV (.int (Int32.ofNat (84 + j)))) (.int (qtxb.getD (84 + j) 0)) ∈ stF := by decide +kernel
theorem sqS96 : ∀ j, j < 12 → Cond.eq (.elem stmV (.int (Int32.ofNat (96 + j)))) (.int (qtxb.getD (96 + j) 0)) ∈ stF := by decide +kernel
theorem sqS108 : ∀ j, j < 12 → Cond.eq (.elem stmV (.int (Int32.ofNat (108 + j)))) (.int (qtxb.getD (108 + j) 0)) ∈ stF := by decide +kernel
theorem sqS120 : ∀ j, j < 12 → Cond.eq (.elem stmV (.int (Int32.ofNat (120 + j)))) (.int (qtxb.getD (120 + j) 0)) ∈ stF := by decide +kernel
theorem sqS132 : ∀ j, j < 12 → Cond.eq (.elem stmV (.int (Int32.ofNat (132 + j)))) (.int (qtxb.getD (132 + j) 0)) ∈ stF := by decide +kernel
theorem sqS144 : ∀ j, j < 7 → Cond.eq (.elem stmV (.int (Int32.ofNat (144 + j)))) (.int (qtxb.getD (144 + j) 0)) ∈ stF := by decide +kernel
theorem sqS : ∀ j, j < 151 → Cond.eq (.elem stmV (.int (Int32.ofNat j))) (.int (qtxb.getD j 0)) ∈ stF := fun j hj => by
  by_cases c0 : j < 12
  · have h := sqS0 (j - 0) (by omega)
    rwa [show 0 + (j - 0) = j by omega] at h
  by_cases c12 : j < 24
  · have h := sqS12 (j - 12) (by omega)
    rwa [show 12 + (j - 12) = j by omega] at h
  by_cases c24 : j < 36
  · have h := sqS24 (j - 24) (by omega)
    rwa [show 24 + (j - 24) = j by omega] at h
  by_cases c36 : j < 48
  · have h := sqS36 (j - 36) (by omega)
    rwa [show 36 + (j - 36) = j by omega] at h
  by_cases c48 : j < 60
  · have h := sqS48 (j - 48) (by omega)
    rwa [show 48 + (j - 48) = j by omega] at h
  by_cases c60 : j < 72
  · have h := sqS60 (j - 60) (by omega)
    rwa [show 60 + (j - 60) = j by omega] at h
  by_cases c72 : j < 84
  · have h := sqS72 (j - 72) (by omega)
    rwa [show 72 + (j - 72) = j by omega] at h
  by_cases c84 : j < 96
  · have h := sqS84 (j - 84) (by omega)
    rwa [show 84 + (j - 84) = j by omega] at h
  by_cases c96 : j < 108
  · have h := sqS96 (j - 96) (by omega)
    rwa [show 96 + (j - 96) = j by omega] at h
  by_cases c108 : j < 120
  · have h := sqS108 (j - 108) (by omega)
    rwa [show 108 + (j - 108) = j by omega] at h
  by_cases c120 : j < 132
  · have h := sqS120 (j - 120) (by omega)
    rwa [show 120 + (j - 120) = j by omega] at h
  by_cases c132 : j < 144
  · have h := sqS132 (j - 132) (by omega)
    rwa [show 132 + (j - 132) = j by omega] at h
  have h := sqS144 (j - 144) (by omega)
  rwa [show 144 + (j - 144) = j by omega] at h
theorem sl1 : Cond.arrayOf stm1 .int ∈ stF ∧ Cond.eq (.length stm1) (.int (Int32.ofNat 4)) ∈ stF := by decide +kernel
theorem sl2 : Cond.arrayOf stm2 .int ∈ stF ∧ Cond.eq (.length stm2) (.int (Int32.ofNat 4)) ∈ stF := by decide +kernel
theorem sl3 : Cond.arrayOf stm3 .int ∈ stF ∧ Cond.eq (.length stm3) (.int (Int32.ofNat 16)) ∈ stF := by decide +kernel
theorem slS : Cond.exactly stmS "java/lang/String" ∈ stF ∧ Cond.eq (.field stmS "java/lang/String" "coder" "B") (.int 0) ∈ stF ∧ Cond.arrayOf stmV .byte ∈ stF ∧ Cond.eq (.length stmV) (.int (Int32.ofNat 151)) ∈ stF := by decide +kernel
theorem slJ : Cond.eq (.static "java/lang/String" "COMPACT_STRINGS" "Z") (.int 1) ∈ stF ∧ Cond.isRef (.static "jdk/internal/util/Preconditions" "SIOOBE_FORMATTER" "Ljava/util/function/BiFunction;") ∈ stF := by decide +kernel
theorem sw1 : Cond.laysStatic "CheesePost" "TERM_LEAST" "[I" ∈ lw_tbl ∧ Cond.laysStatic "CheesePost" "TERM_MOST" "[I" ∈ lw_tbl ∧ Cond.laysStatic "CheesePost" "OP_NEEDS" "[I" ∈ lw_tbl ∧ Cond.initialized "CheesePost" ∈ lw_tbl := by decide +kernel
theorem sw2 : Cond.laysStatic "java/lang/String" "COMPACT_STRINGS" "Z" ∈ lw_tbl ∧ Cond.laysStatic "jdk/internal/util/Preconditions" "SIOOBE_FORMATTER" "Ljava/util/function/BiFunction;" ∈ lw_tbl ∧ Cond.initialized "java/lang/String" ∈ lw_tbl ∧ Cond.initialized "jdk/internal/util/Preconditions" ∈ lw_tbl ∧ Cond.stringRef "CheesePost$Reader" 85 qTX ∈ lw_tbl := by decide +kernel
theorem sw3 : Cond.arrayOver (.object "CheesePost$Alps") ∈ lw_tbl ∧ Cond.arrayOver (.object "CheesePost$Text") ∈ lw_tbl ∧ Cond.arrayOver (.object "CheesePost$Ride") ∈ lw_tbl ∧ Cond.arrayOver (.array .int) ∈ lw_tbl := by decide +kernel
theorem st_main {p : Program} {s : State} {m : MethodId} {meth : Method} {c : Code} {b L : Nat} {xs : Nat → Int32} (C0 : lw_At p s m meth c b L xs) : ∃ G : qG, G.2.2.2.1 = s.heap ∧ qK G s ∧ G.2.2.1 0 = b ∧ G.2.2.2.2.1 = st_n L ∧ G.2.2.2.2.2 = st_v xs := by
  obtain ⟨x1, x2, x3, x4, x5, hts, ⟨scr, c1, c2, c3, c4, c5⟩, hb, x9, hpre⟩ := C0
  have hall := st_all hts
  have hp := flat_of_before _ hpre
  have hA : ∀ a : Nat, a < s.heap.size → ¬ (fun q : Nat => s.heap.size ≤ q) a := fun a h1 h2 => absurd h1 (Nat.not_lt.mpr h2)
  obtain ⟨D, hD⟩ := st_D hall
  have o1 : va_AO "CheesePost$Alps" s := va_AO.of (hts _ sw3.1)
  have o2 : va_AO "CheesePost$Text" s := va_AO.of (hts _ sw3.2.1)
  have o3 : va_AO "CheesePost$Ride" s := va_AO.of (hts _ sw3.2.2.1)
  have o4 : qAOA s := hts _ sw3.2.2.2
  obtain ⟨cA, hT⟩ := st_T hall o1 o2 o3 o4
  obtain ⟨t1, e1, cl1, d1, d2, d3, d4, d5, d6, d7⟩ := va_Tof (tm := stm1) (ty := .int) (N := 4) (f := fun j => .int (iz (st1.getD j 0))) (A := fun q : Nat => s.heap.size ≤ q) (by decide) (hp _ sl1.1) (va_eqt (hp _ sl1.2)) (fun j hj => va_eqt (hp _ (sq1 j hj))) hA
  obtain ⟨t2, e2, cl2, f1, f2, f3, f4, f5, f6, f7⟩ := va_Tof (tm := stm2) (ty := .int) (N := 4) (f := fun j => .int (iz (st2.getD j 0))) (A := fun q : Nat => s.heap.size ≤ q) (by decide) (hp _ sl2.1) (va_eqt (hp _ sl2.2)) (fun j hj => va_eqt (hp _ (sq2 j hj))) hA
  obtain ⟨t3, e3, cl3, g1, g2, g3, g4, g5, g6, g7⟩ := va_Tof (tm := stm3) (ty := .int) (N := 16) (f := fun j => .int (iz (st3.getD j 0))) (A := fun q : Nat => s.heap.size ≤ q) (by decide) (hp _ sl3.1) (va_eqt (hp _ sl3.2)) (fun j hj => va_eqt (hp _ (sq3 j hj))) hA
  have z1 := va_Zof (A := fun q : Nat => s.heap.size ≤ q) (hts _ sw1.1) (hts _ sw1.2.2.2) e1 hA
  have z2 := va_Zof (A := fun q : Nat => s.heap.size ≤ q) (hts _ sw1.2.1) (hts _ sw1.2.2.2) e2 hA
  have z3 := va_Zof (A := fun q : Nat => s.heap.size ≤ q) (hts _ sw1.2.2.1) (hts _ sw1.2.2.2) e3 hA
  have z4 := va_Zof (A := fun q : Nat => s.heap.size ≤ q) (hts _ sw2.1) (hts _ sw2.2.2.1) (va_eqt (hp _ slJ.1)) hA
  obtain ⟨w, hw, hwr⟩ := Cond.isRef_spec (hp _ slJ.2)
  have hw' : w = .null ∨ ∃ a : Nat, w = .ref a := by
    cases w with
    | null => exact Or.inl rfl
    | ref a => exact Or.inr ⟨a, rfl⟩
    | _ => cases hwr
  have z5 := va_Zof (A := fun q : Nat => s.heap.size ≤ q) (hts _ sw2.2.1) (hts _ sw2.2.2.2.1) hw hA
  have i0 : ∀ i : Nat, i < 1 → i = 0 := fun i h => by omega
  have n151 : ([qtxb.length].getD 0 0 : Nat) = 151 := qtxb_n
  obtain ⟨adK, adV, hS, hK⟩ := vk_Sof (args := #[Value.ref b]) (s := s) (N := 1) (tm := fun _ => stmS) (len := [qtxb.length]) (byt := [qtxb]) (A := fun q : Nat => s.heap.size ≤ q) (fun i hi => by rw [i0 i hi, n151]; decide) (fun i hi => hp _ slS.1) (fun i hi => hp _ slS.2.1) (fun i hi => hp _ slS.2.2.1) (fun i hi => by rw [i0 i hi, n151]; exact hp _ slS.2.2.2) (fun i hi j hj => by
    rw [i0 i hi, n151] at hj
    rw [i0 i hi]
    exact hp _ (sqS j hj)) (fun i j hi hj hne => absurd ((i0 i hi).trans (i0 j hj).symm) hne) hA
  have hR : vk_R "CheesePost$Reader" 85 qTX (adK 0) s := vk_R.of (A := #[Value.ref b]) (hts _ sw2.2.2.2.2) (hK 0 (by decide))
  have lt1 := (Array.getElem?_eq_some_iff.mp d1).1
  have lt2 := (Array.getElem?_eq_some_iff.mp f1).1
  have lt3 := (Array.getElem?_eq_some_iff.mp g1).1
  refine ⟨(D, cA, fun i => if i = 0 then b else if i = 1 then t1 else if i = 2 then t2 else if i = 3 then t3 else if i = 4 then adK 0 else s.heap.size + i - 8, s.heap, st_n L, st_v xs), rfl, ⟨hall, ⟨hD, hT⟩, fun i hi => ?_, fun i hi => ?_, o1, o2, o3, o4, z1, z2, z3, ⟨z4, w, hw', z5⟩, hR, adV, ⟨fun i hi => ?_, fun i j hi hj _ => (i0 i hi).trans (i0 j hj).symm⟩⟩, rfl, rfl, rfl⟩
  · show (if i = 0 then b else if i = 1 then t1 else if i = 2 then t2 else if i = 3 then t3 else if i = 4 then adK 0 else s.heap.size + i - 8) + 8 = s.heap.size + i
    rw [if_neg (by omega), if_neg (by omega), if_neg (by omega), if_neg (by omega), if_neg (by omega)]
    omega
  · match i, hi with
    | 0, _ => exact ⟨hb, scr, c1, c2, c3, Nat.le_of_eq c4.symm, by rw [c4]; rfl, c5⟩
    | 1, _ => exact ⟨lt1, cl1, d1, d2, d3, d4, d5, d6⟩
    | 2, _ => exact ⟨lt2, cl2, f1, f2, f3, f4, f5, f6⟩
    | 3, _ => exact ⟨lt3, cl3, g1, g2, g3, g4, g5, g6⟩
    | _ + 4, h => exact absurd h (by omega)
  · have h := hS.1 0 (by decide)
    rw [i0 i hi]
    exact h
/-- from the small machine's answer to the machine's -/
theorem st_walk {p : Program} {e : Env} {s : State} {m : MethodId} {below : List Frame} {meth : Method} {c : Code} (l : Launch) {b L : Nat} {xs : Nat → Int32} (C0 : lw_At p s m meth c b L xs) {M' : qMe} (hrun : cal (200 + 1) 0 [.ref 0] (st_M L xs) = some (some (.int 1), M')) (h1 : M'.1 ≤ 600000) (h2 : M'.2.1 ≤ 7302250) : W p l e room_1 s m #[Value.ref b] below meth c s.heap [] 0 0 (lw_Z below #[Value.ref b] s) (entryFrame m ([Value.ref b] : List Value).toArray 4) := by
  obtain ⟨G, e1, hK, e2, e3, e4⟩ := st_main C0
  obtain ⟨x1, x2, x3, x4, x5, hts, hX, hb, x9, hpre⟩ := C0
  rw [cal_0] at hrun
  have hn := (gd_e hrun).2
  have hsem := s_0_0 (G := G) (d := 200) (cal_snd 200) _ _ _ _ hn
  have hrep : qrep G (st_M L xs) s.heap := by
    rw [← e1]
    refine ⟨rfl, Nat.le_refl _, fun q _ => rfl, fun i hi => ⟨?_, ?_⟩, fun i h h' => absurd h' (Nat.not_lt.mpr h)⟩
    · rw [e3]; rfl
    · rw [e4]; rfl
  have hL := qhas_entry G.2.2.1 [Value.ref 0] 4 (by show 1 ≤ 4; decide)
  have hk := hsem.2 p l e room_1 s m #[Value.ref b] below meth c s.heap [] 0 0 600000 7302250 _ ⟨x1, x2, x3, x4, x5, x9, Or.inl rfl, hK⟩ ⟨by decide, by decide⟩ hrep (fun q hq => by cases hq) hL (by show 0 + M'.1 ≤ 600000 + 8; omega) (by show 0 + M'.2.1 ≤ 7302250 + 0; omega) (Nat.le_refl _) (Nat.le_refl _)
  have ea : ([Value.ref 0].map (qtr G.2.2.1)) = [Value.ref b] := by show [Value.ref (G.2.2.1 0)] = _; rw [e2]
  rw [ea] at hk
  rw [lg_entry_eq]
  intro T hT X
  obtain ⟨t, a1, o, q1, q2, ⟨q3, q4⟩, Lc, q5, q6⟩ := hk T hT X
  refine ⟨t, a1, o, q1, q2, q3, ?_⟩
  refine ⟨q5.1, q5.2.1, q5.2.2.weaken (fun x hx hlt => ?_) (Nat.le_refl _) (Nat.le_refl _)⟩
  have h9 : G.2.2.2.1.size ≤ x.base := q6 x hx
  rw [e1] at h9
  exact absurd hlt (Nat.not_lt.mpr h9)

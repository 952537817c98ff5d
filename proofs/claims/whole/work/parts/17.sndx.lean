/-! the JDK's own methods that are reached: Math.max, min, abs; System.arraycopy -/
section QX
variable {G : qG} {d y pc : Nat} {L : List (Option Value)} {st : List Value} {M : qMe} {r : qR}
theorem q_mmax {x z : Int32} {idx : Nat} (hd : decode (qB y) pc = .ok (.invokestatic idx, 3)) (hlk : Cond.methodLink (qnm y).cls idx (qmathn 993) ∈ qtb) (hcat : qcats st ≤ 8) (h : qsem G (d + 1) y (pc + 3) L (.int (if x < z then z else x) :: st) M r) : qsem G (d + 1) y pc L (.int z :: .int x :: st) M r := by
  refine ⟨h.1, fun p l e R s m args below meth c H locs cells slots mc ms ls C0 hR hM hl hL g1 g2 g3 g4 => ?_⟩
  have hall := C0.2.2.2.2.2.2.2.1
  obtain ⟨k1, k2⟩ := h.1
  obtain ⟨r1, r2⟩ := hR
  exact va_mmax C0.1 C0.2.1 (C0.2.2.2.1.trans hL.1.symm) C0.2.2.2.2.1 (hall _ hlk _) (hall _ qmath_s993 _) (hall _ qmath_i _) (hall _ qmath_c993 _) (by omega) (by rw [q_cat, qcats_sum]; omega) (by omega) (by omega) hd (h.2 p l e R s m args below meth c H locs cells slots mc ms ls C0 ⟨r1, r2⟩ hM hl hL g1 g2 g3 g4)
theorem q_mmin {x z : Int32} {idx : Nat} (hd : decode (qB y) pc = .ok (.invokestatic idx, 3)) (hlk : Cond.methodLink (qnm y).cls idx (qmathn 994) ∈ qtb) (hcat : qcats st ≤ 8) (h : qsem G (d + 1) y (pc + 3) L (.int (if z < x then z else x) :: st) M r) : qsem G (d + 1) y pc L (.int z :: .int x :: st) M r := by
  refine ⟨h.1, fun p l e R s m args below meth c H locs cells slots mc ms ls C0 hR hM hl hL g1 g2 g3 g4 => ?_⟩
  have hall := C0.2.2.2.2.2.2.2.1
  obtain ⟨k1, k2⟩ := h.1
  obtain ⟨r1, r2⟩ := hR
  exact va_mmin C0.1 C0.2.1 (C0.2.2.2.1.trans hL.1.symm) C0.2.2.2.2.1 (hall _ hlk _) (hall _ qmath_s994 _) (hall _ qmath_i _) (hall _ qmath_c994 _) (by omega) (by rw [q_cat, qcats_sum]; omega) (by omega) (by omega) hd (h.2 p l e R s m args below meth c H locs cells slots mc ms ls C0 ⟨r1, r2⟩ hM hl hL g1 g2 g3 g4)
theorem q_mabs {x : Int32} {idx : Nat} (hd : decode (qB y) pc = .ok (.invokestatic idx, 3)) (hlk : Cond.methodLink (qnm y).cls idx (qmathn 991) ∈ qtb) (hcat : qcats st ≤ 8) (h : qsem G (d + 1) y (pc + 3) L (.int (if 0 ≤ x then x else 0 - x) :: st) M r) : qsem G (d + 1) y pc L (.int x :: st) M r := by
  refine ⟨h.1, fun p l e R s m args below meth c H locs cells slots mc ms ls C0 hR hM hl hL g1 g2 g3 g4 => ?_⟩
  have hall := C0.2.2.2.2.2.2.2.1
  obtain ⟨k1, k2⟩ := h.1
  obtain ⟨r1, r2⟩ := hR
  exact va_mabs C0.1 C0.2.1 (C0.2.2.2.1.trans hL.1.symm) C0.2.2.2.2.1 (hall _ hlk _) (hall _ qmath_s991 _) (hall _ qmath_i _) (hall _ qmath_c991 _) (by omega) (by rw [q_cat, qcats_sum]; omega) (by omega) (by omega) hd (h.2 p l e R s m args below meth c H locs cells slots mc ms ls C0 ⟨r1, r2⟩ hM hl hL g1 g2 g3 g4)
theorem q_copy {idx a0 b0 n0 n1 : Nat} {n q p0 : Int32} (hd : decode (qB y) pc = .ok (.invokestatic idx, 3)) (hlk : Cond.methodLink (qnm y).cls idx arraycopyName ∈ qtb) (ha : 8 ≤ a0) (ham : a0 < M.1) (hak : M.2.2.1 a0 = (100, n0)) (hb : 8 ≤ b0) (hbm : b0 < M.1) (hbk : M.2.2.1 b0 = (100, n1)) (h1 : ¬ p0 < 0) (h2 : ¬ q < 0) (h3 : ¬ n < 0) (h4 : p0.toNatClampNeg + n.toNatClampNeg ≤ n0) (h5 : q.toNatClampNeg + n.toNatClampNeg ≤ n1) (hcat : qcats st ≤ 8) (h : qsem G (d + 1) y (pc + 3) L st (qcpI M a0 p0.toNatClampNeg b0 q.toNatClampNeg n.toNatClampNeg) r) : qsem G (d + 1) y pc L (.int n :: .int q :: .ref b0 :: .int p0 :: .ref a0 :: st) M r := by
  refine ⟨h.1, fun p l e R s m args below meth c H locs cells slots mc ms ls C0 hR hM hl hL g1 g2 g3 g4 => ?_⟩
  obtain ⟨hall, hKK, had, -⟩ := C0.2.2.2.2.2.2.2
  have hc0 : H[G.2.2.1 a0]? = some (vp_cell (G.2.1 100) (n0, .inl (M.2.2.2.1 a0))) := q_arr hM ha ham hak (by decide)
  have hc1 : H[G.2.2.1 b0]? = some (vp_cell (G.2.1 100) (n1, .inl (M.2.2.2.1 b0))) := q_arr hM hb hbm hbk (by decide)
  obtain ⟨r1, r2⟩ := hR
  have nn : ∀ z : Int32, ¬ z < 0 → z.toInt = (z.toNatClampNeg : Int) := by
    intro z hz
    have hz0 : (0 : Int) ≤ z.toInt := by
      have := Int32.not_lt.mp hz
      simpa using Int32.le_iff_toInt_le.mp this
    show z.toInt = ((z.toInt.toNat : Nat) : Int)
    omega
  intro T hT X
  obtain ⟨-, k0, hk0, cm0, hkk0⟩ := (hKK.2 0 _ rfl).1 n0 (fun j => .int (M.2.2.2.1 a0 j))
  obtain ⟨vm', X', step⟩ := X.arraycopy C0.1 C0.2.2.2.2.1 (hall _ hlk args) (hall _ qac_n args) (hall _ qac_s args) (hall _ qac_i args) (src := G.2.2.1 a0) (dst := G.2.2.1 b0) (cs := vp_cell (G.2.1 100) (n0, .inl (M.2.2.2.1 a0))) (cd := vp_cell (G.2.1 100) (n1, .inl (M.2.2.2.1 b0))) (srcPos := p0) (destPos := q) (n := n) (by rw [hT]; exact hc0) (by rw [hT]; exact hc1)
    (fun _ h => by cases h) (fun _ h => by cases h) (fun h => by cases h) (fun h => by cases h) hk0 hk0 hkk0 hkk0 (by simp [refKind]) h1 h2 h3
    (by rw [nn p0 h1, nn n h3]; show ¬ _ > ((arrV (G.2.1 100) n0 (fun j => .int (M.2.2.2.1 a0 j))).slots.size : Int); rw [arrV_size]; omega)
    (by rw [nn q h2, nn n h3]; show ¬ _ > ((arrV (G.2.1 100) n1 (fun j => .int (M.2.2.2.1 b0 j))).slots.size : Int); rw [arrV_size]; omega)
    (fun vm₁ _ i hi => by
      have e : (vp_cell (G.2.1 100) (n0, .inl (M.2.2.2.1 a0))).slots.getD (p0.toNatClampNeg + i) .null = .int (M.2.2.2.1 a0 (p0.toNatClampNeg + i)) := by
        show (arrV (G.2.1 100) n0 (fun j => .int (M.2.2.2.1 a0 j))).slots.getD _ _ = _
        rw [Array.getD_eq_getD_getElem?, arrV_read _ _ (by omega)]
        rfl
      refine ⟨?_, ?_⟩
      · rw [e]
        rfl
      · rw [e]
        exact trivial)
    (g := F0 m pc ls (.int n :: .int q :: .ref (G.2.2.1 b0) :: .int p0 :: .ref (G.2.2.1 a0) :: st.map (qtr G.2.2.1))) rfl (by rw [C0.2.2.2.1]; exact hL.1) (rest := st.map (qtr G.2.2.1)) rfl (by rw [C0.2.1]; exact hd) (by omega) (by
      show 2 * 0 + _ + (nativeFrameWords "java/lang/System" "arraycopy" 5 + 11) ≤ _
      rw [q_cat, qcats_sum]
      have : nativeFrameWords "java/lang/System" "arraycopy" 5 + 11 ≤ 40 := by decide +kernel
      omega)
  have e1 : copied (vp_cell (G.2.1 100) (n0, .inl (M.2.2.2.1 a0))) (vp_cell (G.2.1 100) (n1, .inl (M.2.2.2.1 b0))) p0 q n = vp_cell (G.2.1 100) (n1, .inl (va_cpy (M.2.2.2.1 a0) (M.2.2.2.1 b0) p0.toNatClampNeg q.toNatClampNeg n.toNatClampNeg)) := va_copied (fun z => .int z) (G.2.1 100) (G.2.1 100) (M.2.2.2.1 a0) (M.2.2.2.1 b0) h4
  rw [e1] at X' step
  have hl1 : G.2.2.1 b0 < H.size := (Array.getElem?_eq_some_iff.mp hc1).1
  have hheap : ((T.setVm vm').setCell (G.2.2.1 b0) (vp_cell (G.2.1 100) (n1, .inl (va_cpy (M.2.2.2.1 a0) (M.2.2.2.1 b0) p0.toNatClampNeg q.toNatClampNeg n.toNatClampNeg)))).heap = H.setIfInBounds (G.2.2.1 b0) (vp_cell (G.2.1 100) (n1, .inl (va_cpy (M.2.2.2.1 a0) (M.2.2.2.1 b0) p0.toNatClampNeg q.toNatClampNeg n.toNatClampNeg))) := by rw [← hT]; rfl
  have hM' : qrep G (qcpI M a0 p0.toNatClampNeg b0 q.toNatClampNeg n.toNatClampNeg) (H.setIfInBounds (G.2.2.1 b0) (vp_cell (G.2.1 100) (n1, .inl (va_cpy (M.2.2.2.1 a0) (M.2.2.2.1 b0) p0.toNatClampNeg q.toNatClampNeg n.toNatClampNeg)))) := by
    have hne : ∀ a, a ≠ b0 → ∀ kd k, qmv (qcpI M a0 p0.toNatClampNeg b0 q.toNatClampNeg n.toNatClampNeg) kd a k = qmv M kd a k := by
      intro a ha kd k
      unfold qmv qcpI
      split
      · dsimp only
        rw [if_neg (fun z => ha z.1)]
      · rfl
      · rfl
    refine qrep_upd had hM hb rfl rfl (fun a ha => ?_) hne (by simp) (fun z hz => by simp [Array.getElem?_setIfInBounds, Ne.symm hz]) ?_
    · funext k
      unfold qcpI
      dsimp only
      rw [if_neg (fun z => by omega)]
    · have hk2 : (qcpI M a0 p0.toNatClampNeg b0 q.toNatClampNeg n.toNatClampNeg).2.2.1 b0 = (100, n1) := hbk
      unfold qat
      rw [hk2]
      dsimp only
      rw [if_neg (by decide)]
      simp only [Array.getElem?_setIfInBounds, hl1, if_true]
      show some (arrV (G.2.1 100) n1 (fun k => .int (va_cpy (M.2.2.2.1 a0) (M.2.2.2.1 b0) p0.toNatClampNeg q.toNatClampNeg n.toNatClampNeg k))) = some (arrV (G.2.1 100) n1 (fun k => .int ((qcpI M a0 p0.toNatClampNeg b0 q.toNatClampNeg n.toNatClampNeg).2.2.2.1 b0 k)))
      congr 2
      funext k
      unfold va_cpy qcpI
      dsimp only
      simp only [true_and]
  obtain ⟨t, a1, b1⟩ := h.2 p l e R s m args below meth c _ _ cells slots mc ms ls C0 ⟨r1, r2⟩ hM' (fun q hq => by
      rcases List.mem_append.mp hq with h | h
      · exact hl q h
      · obtain ⟨z, -, hz⟩ := List.mem_map.mp h
        rw [← hz]
        exact qad_ge had hb) hL g1 g2 g3 g4 _ hheap X'
  exact ⟨t, step t a1, b1⟩
end QX

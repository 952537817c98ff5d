section QX
variable {G : qG} {d y pc a b : Nat} {cc : Int} {L : List (Option Value)} {st : List Value} {M : qMe} {r : qR} {k : qF}
theorem qocn_7 : qocn 7 = "CheesePost$Reader" := by decide +kernel
theorem qtrk_ge : ∀ q ∈ qtrk, 995 ≤ q.2.2 := by decide +kernel
theorem q_ldcs {n : Nat} (hd : decode (qB y) pc = .ok (.ldc n, 2)) (hy : (qnm y).cls = qocn (qoc y)) (hl : qlnk y pc (.ldc n, 2, a, b, cc) = true) (ha : Nat.beq a 0 = false) (h : qsem G d y (pc + 2) L (.ref 4 :: st) M r) : qsem G d y pc L st M r := by
  simp only [qlnk, Bool.or_eq_true, Bool.and_eq_true] at hl
  rcases hl with ⟨-, q1, q2⟩ | ⟨q, -⟩
  · have q1 := Nat.eq_of_beq_eq_true q1
    have q2 := Nat.eq_of_beq_eq_true q2
    subst q2
    refine ⟨h.1, fun p l e R s m args below meth c H locs cells slots mc ms ls C0 hR hM hl hL g1 g2 g3 g4 => ?_⟩
    have hk := h.2 p l e R s m args below meth c H locs cells slots mc ms ls C0 hR hM hl hL g1 g2 g3 g4
    have hown := C0.2.2.2.2.1
    obtain ⟨-, -, -, -, hx⟩ := C0.2.2.2.2.2.2.2
    rw [hy, q1, qocn_7] at hown
    exact va_ldcS C0.1 C0.2.1 hown hx.2.2.2.2.2.2.2.2.1 hd hk
  · rw [q] at ha
    cases ha
theorem qys_lt : ∀ y ∈ qys, y < 990 := by decide +kernel
theorem qxlk_lt : ∀ q ∈ qxlk, q.2.2 < 995 := by decide +kernel
theorem q_stxS {n : Nat} (hd : decode (qB y) pc = .ok (.invokestatic n, 3)) (hy : (qnm y).cls = qocn (qoc y)) (hl : qlnk y pc (.invokestatic n, 3, a, b, cc) = true) (ha : a = 991 ∨ a = 992 ∨ a = 993 ∨ a = 994 ∨ a = 998) (K : Snd G (d + 1) y (pc + 3) k) (h : stx a k L st M = some r) : qsem G (d + 1) y pc L st M r := by
  simp only [qlnk, Bool.or_eq_true, Bool.and_eq_true] at hl
  have hx : a ≤ 994 → Cond.methodLink (qnm y).cls n (qmathn a) ∈ qtb := by
    intro h4
    rcases hl with (⟨q, -⟩ | ⟨-, q⟩) | ⟨-, q⟩
    · have := Nat.eq_of_beq_eq_true q; omega
    · rw [hy]; exact qxlk_in _ (of_decide_eq_true q)
    · have := qys_lt a (of_decide_eq_true q); omega
  have hle : ∀ s : List Value, s.length ≤ 4 → qcats s ≤ 8 := fun s hs => Nat.le_trans (qcats_le s) (by omega)
  rcases ha with rfl | rfl | rfl | rfl | rfl
  · obtain ⟨x, s, rfl, h⟩ := a1i_e (show a1i st _ = some r from h)
    obtain ⟨hs, h⟩ := gd_e h
    exact q_mabs hd (hx (by decide)) (hle s hs) (K _ _ _ _ h)
  · obtain ⟨x, z, s, rfl, h⟩ := a2i_e (show a2i st _ = some r from h)
    obtain ⟨hs, h⟩ := gd_e h
    exact q_fmod hd (hx (by decide)) (hle s hs.1) hs.2 (K _ _ _ _ h)
  · obtain ⟨x, z, s, rfl, h⟩ := a2i_e (show a2i st _ = some r from h)
    obtain ⟨hs, h⟩ := gd_e h
    exact q_mmax hd (hx (by decide)) (hle s hs) (K _ _ _ _ h)
  · obtain ⟨x, z, s, rfl, h⟩ := a2i_e (show a2i st _ = some r from h)
    obtain ⟨hs, h⟩ := gd_e h
    exact q_mmin hd (hx (by decide)) (hle s hs) (K _ _ _ _ h)
  · have h : (match (generalizing := false) st with
      | .int n :: .int q :: .ref b :: .int p :: .ref a :: s => gd ((inM M a ∧ (mK M a).1 = 100) ∧ (inM M b ∧ (mK M b).1 = 100) ∧ ¬ a = b ∧ 0 ≤ n ∧ 0 ≤ p ∧ 0 ≤ q ∧ p.toNatClampNeg + n.toNatClampNeg ≤ (mK M a).2 ∧ q.toNatClampNeg + n.toNatClampNeg ≤ (mK M b).2 ∧ s.length ≤ 4) (k L s (qcpI M a p.toNatClampNeg b q.toNatClampNeg n.toNatClampNeg))
      | _ => none) = some r := h
    have hlk : Cond.methodLink (qnm y).cls n arraycopyName ∈ qtb := by
      rcases hl with (⟨-, q⟩ | ⟨-, q⟩) | ⟨-, q⟩
      · rw [hy]; exact qack_in _ (of_decide_eq_true q)
      · have := qxlk_lt _ (of_decide_eq_true q); simp at this
      · have := qys_lt _ (of_decide_eq_true q); omega
    split at h
    · obtain ⟨⟨⟨⟨h8, hm⟩, hv⟩, ⟨⟨g8, gm⟩, gv⟩, -, g1, g2, g3, g4, g5, g6⟩, h⟩ := gd_e h
      exact q_copy hd hlk h8 hm (Prod.ext hv rfl) g8 gm (Prod.ext gv rfl) (Int32.not_lt.mpr g2) (Int32.not_lt.mpr g3) (Int32.not_lt.mpr g1) g4 g5 (hle _ g6) (K _ _ _ _ h)
    · cases h
theorem qw_n : qWords.length ≤ 151 := by decide +kernel
theorem qw_len : iz ((qWords.length : Nat) : Int) = 151 := by decide +kernel
theorem qw_at : ∀ j, j < 151 → iz ((qWords.getD j 0 : Nat) : Int) = qtxb.getD j 0 := by decide +kernel
theorem q_stxV {n : Nat} (hd : decode (qB y) pc = .ok (.invokevirtual n, 3)) (hy : (qnm y).cls = qocn (qoc y)) (hl : qlnk y pc (.invokevirtual n, 3, a, b, cc) = true) (ha : a = 995 ∨ a = 996) (K : Snd G (d + 1) y (pc + 3) k) (h : stx a k L st M = some r) : qsem G (d + 1) y pc L st M r := by
  have hlk : Cond.methodLink (qnm y).cls n (qstrn a) ∈ qtb := by
    simp only [qlnk, Bool.or_eq_true, Bool.and_eq_true] at hl
    rcases hl with q | q
    · rw [hy]; exact qtrk_in _ (of_decide_eq_true q)
    · have := qys_lt a (of_decide_eq_true q.1.1.2); omega
  have hle : ∀ s : List Value, s.length ≤ 4 → qcats s ≤ 8 := fun s hs => Nat.le_trans (qcats_le s) (by omega)
  rcases ha with rfl | rfl
  · obtain ⟨i, s, rfl, h2⟩ := a1r_e (show a1r st _ = some r from h)
    obtain ⟨⟨e4, hs⟩, h3⟩ := gd_e h2
    subst e4
    have h4 : k L (.int (iz ((qWords.length : Nat) : Int)) :: s) M = some r := h3
    rw [qw_len] at h4
    exact q_len hd hlk (hle s hs) (K _ _ _ _ h4)
  · obtain ⟨j, i, s, rfl, h2⟩ := air_e (show air st _ = some r from h)
    obtain ⟨⟨e4, hj, hs⟩, h3⟩ := gd_e h2
    subst e4
    have h4 : k L (.int (iz ((qWords.getD j.toNatClampNeg 0 : Nat) : Int)) :: s) M = some r := h3
    have hj1 : ¬ j < 0 := Int32.not_lt.mpr hj.1
    have hj2 : j.toNatClampNeg < 151 := Nat.lt_of_lt_of_le hj.2 qw_n
    rw [qw_at _ hj2] at h4
    exact q_cha hd hlk (hle s hs) hj1 hj2 (K _ _ _ _ h4)
end QX
set_option maxHeartbeats 4000000 in
theorem stp_snd {G : qG} {d y pc pc1 : Nat} {c : qV} {e : qE} {k : qF} (hk : qchka y = true) (hy : (qnm y).cls = qocn (qoc y)) (hc : qvok G d c) (he : qI y pc = some e) (hok : okI y e = true) (h1 : qnx e pc = pc1) (K : Snd G (d + 1) y pc1 k) : Snd G (d + 1) y pc (stp c e k) := by
  intro L st M r h
  unfold stp at h
  have hd := qI_dec hk he
  have hl := qI_lnk hk he
  have hlen := qI_len hk he
  clear he
  subst h1
  obtain ⟨ins, len, a, b, cc⟩ := e
  dsimp only at h hd hl hlen hok K
  cases ins <;> try dsimp only at h
  case iconst n =>
    obtain rfl : len = 1 := Nat.eq_of_beq_eq_true hlen
    exact q_iconst hd (K _ _ _ _ h)
  case lconst n =>
    obtain rfl : len = 1 := Nat.eq_of_beq_eq_true hlen
    exact q_lconst hd (K _ _ _ _ h)
  case aconst_null =>
    obtain rfl : len = 1 := Nat.eq_of_beq_eq_true hlen
    exact q_null hd (K _ _ _ _ h)
  case bipush n =>
    obtain rfl : len = 2 := Nat.eq_of_beq_eq_true hlen
    exact q_bipush hd (K _ _ _ _ (by rw [of_decide_eq_true hok]; exact h))
  case sipush n =>
    obtain rfl : len = 3 := Nat.eq_of_beq_eq_true hlen
    exact q_sipush hd (K _ _ _ _ (by rw [of_decide_eq_true hok]; exact h))
  case iload_n k0 =>
    obtain rfl : len = 1 := Nat.eq_of_beq_eq_true hlen
    obtain ⟨v, hv, h⟩ := ald_e h
    cases v <;> first | (exact absurd h (by intro q; cases q; done)) | exact q_iload_k hd hv (K _ _ _ _ h)
  case iload k0 =>
    obtain rfl : len = 2 := Nat.eq_of_beq_eq_true hlen
    obtain ⟨v, hv, h⟩ := ald_e h
    cases v <;> first | (exact absurd h (by intro q; cases q; done)) | exact q_iload hd hv (K _ _ _ _ h)
  case lload_n k0 =>
    obtain rfl : len = 1 := Nat.eq_of_beq_eq_true hlen
    obtain ⟨v, hv, h⟩ := ald_e h
    cases v <;> first | (exact absurd h (by intro q; cases q; done)) | exact q_lload_n hd hv (K _ _ _ _ h)
  case lload k0 =>
    obtain rfl : len = 2 := Nat.eq_of_beq_eq_true hlen
    obtain ⟨v, hv, h⟩ := ald_e h
    cases v <;> first | (exact absurd h (by intro q; cases q; done)) | exact q_lload hd hv (K _ _ _ _ h)
  case aload_n k0 =>
    obtain rfl : len = 1 := Nat.eq_of_beq_eq_true hlen
    obtain ⟨v, hv, h⟩ := ald_e h
    cases v <;> first | (exact absurd h (by intro q; cases q; done)) | exact q_aload_n hd hv (K _ _ _ _ h)
  case aload k0 =>
    obtain rfl : len = 2 := Nat.eq_of_beq_eq_true hlen
    obtain ⟨v, hv, h⟩ := ald_e h
    cases v <;> first | (exact absurd h (by intro q; cases q; done)) | exact q_aload hd hv (K _ _ _ _ h)
  case iadd =>
    obtain rfl : len = 1 := Nat.eq_of_beq_eq_true hlen
    obtain ⟨x, z, s, rfl, h⟩ := a2i_e h
    exact q_iadd hd (K _ _ _ _ h)
  case isub =>
    obtain rfl : len = 1 := Nat.eq_of_beq_eq_true hlen
    obtain ⟨x, z, s, rfl, h⟩ := a2i_e h
    exact q_isub hd (K _ _ _ _ h)
  case imul =>
    obtain rfl : len = 1 := Nat.eq_of_beq_eq_true hlen
    obtain ⟨x, z, s, rfl, h⟩ := a2i_e h
    exact q_imul hd (K _ _ _ _ h)
  case iand =>
    obtain rfl : len = 1 := Nat.eq_of_beq_eq_true hlen
    obtain ⟨x, z, s, rfl, h⟩ := a2i_e h
    exact q_iand hd (K _ _ _ _ h)
  case ior =>
    obtain rfl : len = 1 := Nat.eq_of_beq_eq_true hlen
    obtain ⟨x, z, s, rfl, h⟩ := a2i_e h
    exact q_ior hd (K _ _ _ _ h)
  case ixor =>
    obtain rfl : len = 1 := Nat.eq_of_beq_eq_true hlen
    obtain ⟨x, z, s, rfl, h⟩ := a2i_e h
    exact q_ixor hd (K _ _ _ _ h)
  case ishl =>
    obtain rfl : len = 1 := Nat.eq_of_beq_eq_true hlen
    obtain ⟨x, z, s, rfl, h⟩ := a2i_e h
    exact q_ishl hd (K _ _ _ _ h)
  case ishr =>
    obtain rfl : len = 1 := Nat.eq_of_beq_eq_true hlen
    obtain ⟨x, z, s, rfl, h⟩ := a2i_e h
    exact q_ishr hd (K _ _ _ _ h)
  case idiv =>
    obtain rfl : len = 1 := Nat.eq_of_beq_eq_true hlen
    obtain ⟨x, z, s, rfl, h⟩ := a2i_e h
    obtain ⟨h0, h⟩ := gd_e h
    exact q_idiv hd h0 (K _ _ _ _ h)
  case irem =>
    obtain rfl : len = 1 := Nat.eq_of_beq_eq_true hlen
    obtain ⟨x, z, s, rfl, h⟩ := a2i_e h
    obtain ⟨h0, h⟩ := gd_e h
    exact q_irem hd h0 (K _ _ _ _ h)
  case ladd =>
    obtain rfl : len = 1 := Nat.eq_of_beq_eq_true hlen
    obtain ⟨x, z, s, rfl, h⟩ := a2l_e h
    exact q_ladd hd (K _ _ _ _ h)
  case lsub =>
    obtain rfl : len = 1 := Nat.eq_of_beq_eq_true hlen
    obtain ⟨x, z, s, rfl, h⟩ := a2l_e h
    exact q_lsub hd (K _ _ _ _ h)
  case lmul =>
    obtain rfl : len = 1 := Nat.eq_of_beq_eq_true hlen
    obtain ⟨x, z, s, rfl, h⟩ := a2l_e h
    exact q_lmul hd (K _ _ _ _ h)
  case land =>
    obtain rfl : len = 1 := Nat.eq_of_beq_eq_true hlen
    obtain ⟨x, z, s, rfl, h⟩ := a2l_e h
    exact q_land hd (K _ _ _ _ h)
  case lor =>
    obtain rfl : len = 1 := Nat.eq_of_beq_eq_true hlen
    obtain ⟨x, z, s, rfl, h⟩ := a2l_e h
    exact q_lor hd (K _ _ _ _ h)
  case ldiv =>
    obtain rfl : len = 1 := Nat.eq_of_beq_eq_true hlen
    obtain ⟨x, z, s, rfl, h⟩ := a2l_e h
    obtain ⟨h0, h⟩ := gd_e h
    exact q_ldiv hd h0 (K _ _ _ _ h)
  case lrem =>
    obtain rfl : len = 1 := Nat.eq_of_beq_eq_true hlen
    obtain ⟨x, z, s, rfl, h⟩ := a2l_e h
    obtain ⟨h0, h⟩ := gd_e h
    exact q_lrem hd h0 (K _ _ _ _ h)
  case ineg =>
    obtain rfl : len = 1 := Nat.eq_of_beq_eq_true hlen
    obtain ⟨x, s, rfl, h⟩ := a1i_e h
    exact q_ineg hd (K _ _ _ _ h)
  case i2l =>
    obtain rfl : len = 1 := Nat.eq_of_beq_eq_true hlen
    obtain ⟨x, s, rfl, h⟩ := a1i_e h
    exact q_i2l hd (K _ _ _ _ h)
  case i2b =>
    obtain rfl : len = 1 := Nat.eq_of_beq_eq_true hlen
    obtain ⟨x, s, rfl, h⟩ := a1i_e h
    exact q_i2b hd (K _ _ _ _ h)
  case i2c =>
    obtain rfl : len = 1 := Nat.eq_of_beq_eq_true hlen
    obtain ⟨x, s, rfl, h⟩ := a1i_e h
    exact q_i2c hd (K _ _ _ _ h)
  case l2i =>
    obtain rfl : len = 1 := Nat.eq_of_beq_eq_true hlen
    obtain ⟨x, s, rfl, h⟩ := a1l_e h
    exact q_l2i hd (K _ _ _ _ h)
  case lshl =>
    obtain rfl : len = 1 := Nat.eq_of_beq_eq_true hlen
    obtain ⟨x, z, s, rfl, h⟩ := ail_e h
    exact q_lshl hd (K _ _ _ _ h)
  case lshr =>
    obtain rfl : len = 1 := Nat.eq_of_beq_eq_true hlen
    obtain ⟨x, z, s, rfl, h⟩ := ail_e h
    exact q_lshr hd (K _ _ _ _ h)
  case lcmp =>
    obtain rfl : len = 1 := Nat.eq_of_beq_eq_true hlen
    obtain ⟨x, z, s, rfl, h⟩ := a2l_e h
    exact q_lcmp hd (K _ _ _ _ h)
  case dup =>
    obtain rfl : len = 1 := Nat.eq_of_beq_eq_true hlen
    split at h
    · exact q_dup hd rfl (K _ _ _ _ h)
    · exact q_dup hd rfl (K _ _ _ _ h)
    · cases h
  case pop =>
    obtain rfl : len = 1 := Nat.eq_of_beq_eq_true hlen
    split at h
    · exact q_pop hd rfl (K _ _ _ _ h)
    · exact q_pop hd rfl (K _ _ _ _ h)
    · cases h
  case dup2 =>
    obtain rfl : len = 1 := Nat.eq_of_beq_eq_true hlen
    split at h
    · exact q_dup2 hd rfl rfl (K _ _ _ _ h)
    · cases h
  case goto o =>
    obtain rfl : len = 3 := Nat.eq_of_beq_eq_true hlen
    exact q_goto hd (of_decide_eq_true hl) (K _ _ _ _ h)
  case istore_n k0 =>
    obtain rfl : len = 1 := Nat.eq_of_beq_eq_true hlen
    split at h
    · exact q_istore_n hd (Nat.le_of_ble_eq_true hok) (K _ _ _ _ h)
    · cases h
  case istore k0 =>
    obtain rfl : len = 2 := Nat.eq_of_beq_eq_true hlen
    split at h
    · exact q_istore hd (Nat.le_of_ble_eq_true hok) (K _ _ _ _ h)
    · cases h
  case astore_n k0 =>
    obtain rfl : len = 1 := Nat.eq_of_beq_eq_true hlen
    split at h
    · exact q_astore_n hd (Nat.le_of_ble_eq_true hok) (K _ _ _ _ h)
    · cases h
  case astore k0 =>
    obtain rfl : len = 2 := Nat.eq_of_beq_eq_true hlen
    split at h
    · exact q_astore hd (Nat.le_of_ble_eq_true hok) (K _ _ _ _ h)
    · cases h
  case lstore_n k0 =>
    obtain rfl : len = 1 := Nat.eq_of_beq_eq_true hlen
    split at h
    · exact q_lstore_n hd (Nat.le_of_ble_eq_true hok) (K _ _ _ _ h)
    · cases h
  case lstore k0 =>
    obtain rfl : len = 2 := Nat.eq_of_beq_eq_true hlen
    split at h
    · exact q_lstore hd (Nat.le_of_ble_eq_true hok) (K _ _ _ _ h)
    · cases h
  case iinc k0 n =>
    obtain rfl : len = 3 := Nat.eq_of_beq_eq_true hlen
    obtain ⟨v, hv, h⟩ := ald_e h
    cases v <;> first | (exact absurd h (by intro q; cases q; done)) | exact q_iinc hd hv (Nat.le_of_ble_eq_true hok) (K _ _ _ _ h)
  case ldc_w n =>
    obtain rfl : len = 3 := Nat.eq_of_beq_eq_true hlen
    obtain rfl : a = 0 := Nat.eq_of_beq_eq_true hok
    simp only [qlnk, Bool.or_eq_true, decide_eq_true_eq] at hl
    rcases hl with hl | hl
    · exact absurd hl (by decide)
    exact q_ldcw hd (by rw [hy]; exact qklk_in _ hl) (K _ _ _ _ h)
  case ldc2_w n =>
    obtain rfl : len = 3 := Nat.eq_of_beq_eq_true hlen
    exact q_ldc2 hd (by rw [hy]; exact qjlk_in _ (of_decide_eq_true hl)) (K _ _ _ _ h)
  case getfield n =>
    obtain rfl : len = 3 := Nat.eq_of_beq_eq_true hlen
    obtain ⟨i, s, rfl, h⟩ := a1r_e h
    obtain ⟨⟨⟨h8, hm⟩, hv⟩, h⟩ := gd_e h
    obtain ⟨h100, C, hc, hb, hw⟩ := qfl_facts hy (of_decide_eq_true hl)
    rw [Nat.eq_of_beq_eq_true hok, mV_q h100] at h
    exact q_getfield hd h8 hm hv h100 hc hb hw (K _ _ _ _ h)
  case ldc n =>
    obtain rfl : len = 2 := Nat.eq_of_beq_eq_true hlen
    split at h
    · next ha =>
      obtain rfl : a = 0 := Nat.eq_of_beq_eq_true ha
      simp only [qlnk, Bool.or_eq_true, Bool.and_eq_true, decide_eq_true_eq] at hl
      rcases hl with hl | hl
      · exact absurd hl.1 (by decide)
      exact q_ldc hd (by rw [hy]; exact qklk_in _ hl.2) (K _ _ _ _ h)
    · next ha =>
      exact q_ldcs hd hy hl ha (K _ _ _ _ h)
  case multianewarray n dd =>
    obtain rfl : len = 4 := Nat.eq_of_beq_eq_true hlen
    obtain ⟨x, z, s, rfl, h⟩ := a2i_e h
    obtain ⟨h0, h⟩ := gd_e h
    exact q_multi hd hy hl h0 (K _ _ _ _ h)
  case putfield n =>
    obtain rfl : len = 3 := Nat.eq_of_beq_eq_true hlen
    simp only [qlnk, Bool.and_eq_true, Bool.or_eq_true, decide_eq_true_eq, Bool.not_eq_true'] at hl
    obtain ⟨hl, hfin⟩ := hl
    obtain ⟨h100, C, hc, hb, hw⟩ := qfl_facts hy hl
    have hfin : (qTT a b).2.2.2 = false ∨ ((qTT a b).2.2.2 = true ∧ (qnm y).name = "<init>" ∧ (qTT a b).1 = (qnm y).cls) := by
      rcases hfin with q | ⟨q1, q2⟩
      · exact Or.inl q
      · cases z : (qTT a b).2.2.2
        · exact Or.inl rfl
        · exact Or.inr ⟨rfl, q1, q2⟩
    rw [Nat.eq_of_beq_eq_true hok] at h
    obtain ⟨k0, k1, k2, k3, k4⟩ := qskc_0 (b := b) h100
    rcases (show qskc a b = 0 ∨ qskc a b = 1 ∨ qskc a b = 2 ∨ qskc a b = 3 by omega) with q | q | q | q <;> rw [q] at h
    · obtain ⟨hs, hnb⟩ := k0 q
      have ht : qty a b = .int := (qty_int hc hb hs).resolve_right hnb
      have h : (match (generalizing := false) st with
        | .int x :: .ref i :: s => gd (inM M i ∧ (mK M i).1 = a) (k L s (qsI M i b x))
        | _ => none) = some r := h
      split at h
      · obtain ⟨⟨⟨h8, hm⟩, hv⟩, h⟩ := gd_e h
        exact q_putI hd h8 hm hv h100 hc hb hw hfin hs (by rw [ht]; rfl) (by rw [ht]; rfl) (K _ _ _ _ h)
      · cases h
    · have hs := k1 q
      obtain ⟨h1, h2⟩ := qty_long h100 hs
      have h : (match (generalizing := false) st with
        | .long x :: .ref i :: s => gd (inM M i ∧ (mK M i).1 = a) (k L s (qsJ M i b x))
        | _ => none) = some r := h
      split at h
      · obtain ⟨⟨⟨h8, hm⟩, hv⟩, h⟩ := gd_e h
        exact q_putJ hd h8 hm hv h100 hc hb hw hfin hs (h1 _) (h2 _) (K _ _ _ _ h)
      · cases h
    · have hs := k2 q
      obtain ⟨h1, h2, h3, h4⟩ := qty_ref h100 hs
      have h : (match (generalizing := false) st with
        | .ref v :: .ref i :: s => gd (inM M i ∧ (mK M i).1 = a) (k L s (qsR M i b (some v)))
        | .null :: .ref i :: s => gd (inM M i ∧ (mK M i).1 = a) (k L s (qsR M i b none))
        | _ => none) = some r := h
      split at h
      · obtain ⟨⟨⟨h8, hm⟩, hv⟩, h⟩ := gd_e h
        exact q_putR (x := some _) hd h8 hm hv h100 hc hb hw hfin hs h1 h2 h3 h4 (K _ _ _ _ h)
      · obtain ⟨⟨⟨h8, hm⟩, hv⟩, h⟩ := gd_e h
        exact q_putR (x := none) hd h8 hm hv h100 hc hb hw hfin hs h1 h2 h3 h4 (K _ _ _ _ h)
      · cases h
    · obtain ⟨hs, ht⟩ := k3 q
      have h : (match (generalizing := false) st with
        | .int x :: .ref i :: s => gd ((inM M i ∧ (mK M i).1 = a) ∧ is01 x) (k L s (qsI M i b x))
        | _ => none) = some r := h
      split at h
      · obtain ⟨⟨⟨⟨h8, hm⟩, hv⟩, h01⟩, h⟩ := gd_e h
        obtain ⟨g1, g2⟩ := is01_b h01
        exact q_putI hd h8 hm hv h100 hc hb hw hfin hs (by rw [ht]; exact g1) (by rw [ht]; exact g2) (K _ _ _ _ h)
      · cases h
  case getstatic n =>
    obtain rfl : len = 3 := Nat.eq_of_beq_eq_true hlen
    simp only [qlnk, Bool.and_eq_true, Bool.or_eq_true, decide_eq_true_eq] at hl
    obtain ⟨⟨ha1, ha2⟩, hl⟩ := hl
    have ha1 := Nat.le_of_ble_eq_true ha1
    have ha2 := Nat.le_of_ble_eq_true ha2
    refine q_getstatic (C := "CheesePost") (n := qstn a) (dd := "[I") hd (fun s hx => ?_) ?_ (K _ _ _ _ h)
    · rcases (show a = 1 ∨ a = 2 ∨ a = 3 by omega) with rfl | rfl | rfl
      · exact hx.2.2.2.2.1
      · exact hx.2.2.2.2.2.1
      · exact hx.2.2.2.2.2.2.1
    · rcases hl with hl | hl
      · exact Or.inl (by rw [hy]; exact qslk_in _ hl)
      · exact Or.inr ⟨"CheesePost", by rw [hy]; exact qsnk_in _ hl⟩
  case iaload =>
    obtain rfl : len = 1 := Nat.eq_of_beq_eq_true hlen
    obtain ⟨j, i, s, rfl, h⟩ := air_e h
    obtain ⟨⟨hv, hj⟩, h⟩ := gd_e h
    rcases hv with ⟨⟨h8, hm⟩, hv⟩ | ⟨h8, hv⟩
    · exact q_iaload hd h8 hm (Prod.ext hv rfl) (inB_vp hj) (K _ _ _ _ h)
    · exact q_ialoadS hd h8 (Prod.ext hv rfl) (inB_vp hj) (K _ _ _ _ h)
  case baload =>
    obtain rfl : len = 1 := Nat.eq_of_beq_eq_true hlen
    obtain ⟨j, i, s, rfl, h⟩ := air_e h
    obtain ⟨⟨⟨⟨h8, hm⟩, hv⟩, hj⟩, h⟩ := gd_e h
    rcases hv with hv | hv
    · exact q_baload hd h8 hm (Prod.ext hv rfl) (inB_vp hj) (K _ _ _ _ h)
    · exact q_zaload hd h8 hm (Prod.ext hv rfl) (inB_vp hj) (K _ _ _ _ h)
  case laload =>
    obtain rfl : len = 1 := Nat.eq_of_beq_eq_true hlen
    obtain ⟨j, i, s, rfl, h⟩ := air_e h
    obtain ⟨⟨⟨⟨h8, hm⟩, hv⟩, hj⟩, h⟩ := gd_e h
    exact q_laload hd h8 hm (Prod.ext hv rfl) (inB_vp hj) (K _ _ _ _ h)
  case aaload =>
    obtain rfl : len = 1 := Nat.eq_of_beq_eq_true hlen
    obtain ⟨j, i, s, rfl, h⟩ := air_e h
    obtain ⟨⟨⟨⟨h8, hm⟩, hv1, hv2⟩, hj⟩, h⟩ := gd_e h
    exact q_aaload hd h8 hm rfl (show (mK M i).1 = 104 ∨ (mK M i).1 = 105 ∨ (mK M i).1 = 106 ∨ (mK M i).1 = 107 by omega) (inB_vp hj) (K _ _ _ _ h)
  case iastore =>
    obtain rfl : len = 1 := Nat.eq_of_beq_eq_true hlen
    obtain ⟨x, j, i, s, rfl, h⟩ := axr_e h
    obtain ⟨⟨⟨⟨h8, hm⟩, hv⟩, hj⟩, h⟩ := gd_e h
    exact q_iastore hd h8 hm (Prod.ext hv rfl) (inB_vp hj) (K _ _ _ _ h)
  case bastore =>
    obtain rfl : len = 1 := Nat.eq_of_beq_eq_true hlen
    obtain ⟨x, j, i, s, rfl, h⟩ := axr_e h
    obtain ⟨⟨⟨⟨h8, hm⟩, hv⟩, hj⟩, h⟩ := gd_e h
    rcases hv with hv | hv
    · rw [if_pos hv] at h
      exact q_bastore hd h8 hm (Prod.ext hv rfl) (inB_vp hj) (K _ _ _ _ h)
    · rw [if_neg (by omega)] at h
      exact q_zastore hd h8 hm (Prod.ext hv rfl) (inB_vp hj) (K _ _ _ _ h)
  case lastore =>
    obtain rfl : len = 1 := Nat.eq_of_beq_eq_true hlen
    obtain ⟨x, j, i, s, rfl, h⟩ := alr_e h
    obtain ⟨⟨⟨⟨h8, hm⟩, hv⟩, hj⟩, h⟩ := gd_e h
    exact q_lastore hd h8 hm (Prod.ext hv rfl) (inB_vp hj) (K _ _ _ _ h)
  case aastore =>
    obtain rfl : len = 1 := Nat.eq_of_beq_eq_true hlen
    split at h
    · next v j i s =>
      obtain ⟨⟨⟨⟨h8, hm⟩, ⟨g8, gm⟩, hv⟩, hj⟩, h⟩ := gd_e h
      rcases hv with ⟨hv, hw⟩ | ⟨hv, hw⟩ | ⟨hv, hw⟩
      · exact q_aastore (t0 := 4) (ci := 1) hd h8 hm (Prod.ext hv rfl) (by omega) (fun _ => rfl) (inB_vp hj) g8 gm hw (by omega) rfl (K _ _ _ _ h)
      · exact q_aastore (t0 := 5) (ci := 10) hd h8 hm (Prod.ext hv rfl) (by omega) (fun _ => rfl) (inB_vp hj) g8 gm hw (by omega) rfl (K _ _ _ _ h)
      · exact q_aastore (t0 := 6) (ci := 8) hd h8 hm (Prod.ext hv rfl) (by omega) (fun _ => rfl) (inB_vp hj) g8 gm hw (by omega) rfl (K _ _ _ _ h)
    · next j i s =>
      obtain ⟨⟨⟨⟨h8, hm⟩, hv⟩, hj⟩, h⟩ := gd_e h
      rcases hv with hv | hv | hv
      · exact q_aastoreN (t0 := 4) (C := "CheesePost$Alps") hd h8 hm (Prod.ext hv rfl) (by omega) (fun _ => rfl) (inB_vp hj) (K _ _ _ _ h)
      · exact q_aastoreN (t0 := 5) (C := "CheesePost$Text") hd h8 hm (Prod.ext hv rfl) (by omega) (fun _ => rfl) (inB_vp hj) (K _ _ _ _ h)
      · exact q_aastoreN (t0 := 6) (C := "CheesePost$Ride") hd h8 hm (Prod.ext hv rfl) (by omega) (fun _ => rfl) (inB_vp hj) (K _ _ _ _ h)
    · cases h
  case arraylength =>
    obtain rfl : len = 1 := Nat.eq_of_beq_eq_true hlen
    obtain ⟨i, s, rfl, h⟩ := a1r_e h
    obtain ⟨hv, h⟩ := gd_e h
    rcases hv with ⟨⟨h8, hm⟩, hv⟩ | ⟨h8, hv⟩
    · exact q_arraylength hd h8 hm rfl (show ¬ (mK M i).1 < 100 by omega) (K _ _ _ _ (by rw [ofNat_iz]; exact h))
    · exact q_arraylengthS hd h8 (Prod.ext hv rfl) (K _ _ _ _ (by rw [ofNat_iz]; exact h))
  case new n =>
    obtain rfl : len = 3 := Nat.eq_of_beq_eq_true hlen
    simp only [qlnk, Bool.and_eq_true, decide_eq_true_eq] at hl
    obtain ⟨⟨hl, hb⟩, ha⟩ := hl
    have ha : a < 12 := Nat.le_of_ble_eq_true ha
    obtain rfl : b = qNN a := Nat.eq_of_beq_eq_true hb
    obtain ⟨C, hc⟩ := qcl_at ha
    have hw := qnwk_in _ hl
    dsimp only at hw
    rw [qix_get, hc, ← hy] at hw
    exact q_new hd hc (by omega) hw (qdf a ha) (K _ _ _ _ h)
  case newarray t =>
    obtain rfl : len = 2 := Nat.eq_of_beq_eq_true hlen
    obtain ⟨n, s, rfl, h⟩ := a1i_e h
    obtain ⟨⟨h0, h1⟩, h⟩ := gd_e h
    have h0 : ¬ n < 0 := Int32.not_lt.mpr h0
    cases t <;> first | (have h' : false = true := hl; cases h'; done) | skip
    case int =>
      obtain rfl : a = 100 := Nat.eq_of_beq_eq_true hl
      exact q_newarr (t0 := 0) hd (fun _ => rfl) (by omega) (fun _ _ q => q) (fun _ => rfl) qac_int h0 rfl (by show _ * 4 ≤ _; omega) (K _ _ _ _ h)
    case byte =>
      obtain rfl : a = 101 := Nat.eq_of_beq_eq_true hl
      exact q_newarr (t0 := 1) hd (fun _ => rfl) (by omega) (fun _ _ q => q) (fun _ => rfl) qac_byte h0 rfl (by show _ * 1 ≤ _; omega) (K _ _ _ _ h)
    case boolean =>
      obtain rfl : a = 102 := Nat.eq_of_beq_eq_true hl
      exact q_newarr (t0 := 2) hd (fun _ => rfl) (by omega) (fun _ _ q => q) (fun _ => rfl) qac_boolean h0 rfl (by show _ * 1 ≤ _; omega) (K _ _ _ _ h)
    case long =>
      obtain rfl : a = 103 := Nat.eq_of_beq_eq_true hl
      exact q_newarr (t0 := 3) hd (fun _ => rfl) (by omega) (fun _ _ q => q) (fun _ => rfl) qac_long h0 rfl (by show _ * 8 ≤ _; omega) (K _ _ _ _ h)
  case anewarray n =>
    obtain rfl : len = 3 := Nat.eq_of_beq_eq_true hlen
    obtain ⟨n, s, rfl, h⟩ := a1i_e h
    obtain ⟨⟨h0, h1⟩, h⟩ := gd_e h
    have h0 : ¬ n < 0 := Int32.not_lt.mpr h0
    simp only [qlnk, Bool.and_eq_true, Bool.or_eq_true, decide_eq_true_eq] at hl
    rcases hl with (⟨ha, hl⟩ | ⟨ha, hl⟩) | ⟨ha, hl⟩
    · obtain rfl : a = 104 := Nat.eq_of_beq_eq_true ha
      exact q_anewarray (C := "CheesePost$Alps") (t0 := 4) hd (fun _ => rfl) (by omega) (fun s hx => hx.1) (by rw [hy]; exact qnwk_in _ hl) h0 rfl (by omega) (K _ _ _ _ h)
    · obtain rfl : a = 105 := Nat.eq_of_beq_eq_true ha
      exact q_anewarray (C := "CheesePost$Text") (t0 := 5) hd (fun _ => rfl) (by omega) (fun s hx => hx.2.1) (by rw [hy]; exact qnwk_in _ hl) h0 rfl (by omega) (K _ _ _ _ h)
    · obtain rfl : a = 106 := Nat.eq_of_beq_eq_true ha
      exact q_anewarray (C := "CheesePost$Ride") (t0 := 6) hd (fun _ => rfl) (by omega) (fun s hx => hx.2.2.1) (by rw [hy]; exact qnwk_in _ hl) h0 rfl (by omega) (K _ _ _ _ h)
  case invokestatic n =>
    obtain rfl : len = 3 := Nat.eq_of_beq_eq_true hlen
    split at h
    · next hok =>
     have ha : a < 990 := Nat.le_of_ble_eq_true hok
     obtain ⟨As, s, rfl, e2, h⟩ := atake_e h
     rw [List.append_nil] at h
     obtain ⟨r1, g1, h2, h⟩ := acal_e h
     simp only [qlnk, Bool.or_eq_true, Bool.and_eq_true] at hl
     rcases hl with (⟨q, -⟩ | ⟨q, -⟩) | ⟨⟨⟨hlk, hst⟩, hb⟩, hys⟩
     · have := Nat.eq_of_beq_eq_true q; omega
     · have := Nat.le_of_ble_eq_true q; omega
     have hys := of_decide_eq_true hys
     obtain ⟨g2, h1⟩ := hc _ _ _ _ h2 hys
     exact q_invokestatic hd (qys_cal a hys) (qsts_in _ (of_decide_eq_true hst)) (qlink_facts hy (by simpa only [Bool.or_eq_true] using hlk)) (e2.trans (Nat.eq_of_beq_eq_true hb)) (by rw [qcats_sum]; exact g1) (by rw [qcats_len]; exact g2) h1 (K _ _ _ _ h)
    · next hb9 =>
      refine q_stxS hd hy hl ?_ K h
      simp only [okI, hb9, Bool.false_or] at hok
      simpa using List.mem_of_elem_eq_true hok
  case invokevirtual n =>
    obtain rfl : len = 3 := Nat.eq_of_beq_eq_true hlen
    split at h
    case h_2 hb9 =>
      refine q_stxV hd hy hl ?_ K h
      simp only [okI, hb9, Bool.false_or] at hok
      simpa using List.mem_of_elem_eq_true hok
    next hok =>
    have ha : a < 990 := Nat.le_of_ble_eq_true hok
    obtain ⟨As, s0, rfl, e2, h⟩ := atake_e h
    rw [List.append_nil] at h
    split at h
    · next i s =>
      obtain ⟨⟨⟨h8, hm⟩, hv⟩, h⟩ := gd_e h
      obtain ⟨r1, g1, h2, h⟩ := acal_e h
      simp only [qlnk, Bool.or_eq_true, Bool.and_eq_true] at hl
      rcases hl with q | ⟨⟨⟨⟨⟨⟨hlk, hin⟩, hvi⟩, hb⟩, hys⟩, hc1⟩, hc2⟩
      · have q : 995 ≤ a := qtrk_ge _ (of_decide_eq_true q)
        omega
      have hys := of_decide_eq_true hys
      obtain ⟨g2, h1⟩ := hc _ _ _ _ h2 hys
      have hc1 : cc.toNat < 12 := Nat.le_of_ble_eq_true hc1
      obtain ⟨C, hc⟩ := qcl_at hc1
      have hc2 := of_decide_eq_true hc2
      rw [qix_get, hc] at hc2
      cases hc2
      exact q_invokevirtual hd (qys_cal a hys) (qins_in _ (of_decide_eq_true hin)) (qvis_in _ (of_decide_eq_true hvi)) (qlink_facts hy (by simpa only [Bool.or_eq_true] using hlk)) (e2.trans (Nat.eq_of_beq_eq_true hb)) (by rw [qcats_sum]; exact g1) (by rw [qcats_len]; exact g2) h8 hm hv (by omega) hc h1 (K _ _ _ _ h)
    · cases h
  case invokespecial n =>
    obtain rfl : len = 3 := Nat.eq_of_beq_eq_true hlen
    split at h
    · next ha =>
      obtain ⟨i, s, rfl, h⟩ := a1r_e h
      obtain ⟨hv, h⟩ := gd_e h
      obtain rfl : a = 999 := Nat.eq_of_beq_eq_true ha
      simp only [qlnk, Bool.or_eq_true, Bool.and_eq_true] at hl
      rcases hl with ⟨-, hl⟩ | ⟨⟨⟨⟨-, hin⟩, -⟩, hys⟩, -⟩
      · exact q_objInit hd (by rw [hy]; exact qolk_in _ (of_decide_eq_true hl)) qobj_i qobj_c (by rw [qcats_sum]; exact Nat.le_trans (qcats_le s) (by omega)) (K _ _ _ _ h)
      · exact absurd (of_decide_eq_true hys) (by decide)
    · next ha =>
      obtain ⟨As, s0, rfl, e2, h⟩ := atake_e h
      rw [List.append_nil] at h
      split at h
      · next i s =>
        obtain ⟨r1, g1, h2, h⟩ := acal_e h
        simp only [qlnk, Bool.or_eq_true, Bool.and_eq_true] at hl
        rcases hl with ⟨q, -⟩ | ⟨⟨⟨⟨⟨hlk, hin⟩, hb⟩, hys⟩, hnm⟩, hrt⟩
        · rw [q] at ha; cases ha
        have hys := of_decide_eq_true hys
        obtain ⟨g2, h1⟩ := hc _ _ _ _ h2 hys
        exact q_invokespecial hd (qys_cal a hys) (qins_in _ (of_decide_eq_true hin)) (of_decide_eq_true hnm) (of_decide_eq_true hrt) (qlink_facts hy (by simpa only [Bool.or_eq_true] using hlk)) (e2.trans (Nat.eq_of_beq_eq_true hb)) (by rw [qcats_sum]; exact g1) (by rw [qcats_len]; exact g2) h1 (K _ _ _ _ h)
      · cases h
  all_goals cases h
/-- the plain instructions from pc on are es; behind them stands pc1 -/
def segok (y pc : Nat) (es : List qE) (pc1 : Nat) : Bool := match es with
  | [] => Nat.beq pc pc1
  | e :: es => decide (qI y pc = some e) && (okI y e && segok y (qnx e pc) es pc1)
theorem sF_snd {G : qG} {d y : Nat} {c : qV} {k : qF} {pc1 : Nat} (hk : qchka y = true) (hy : (qnm y).cls = qocn (qoc y)) (hc : qvok G d c) (K : Snd G (d + 1) y pc1 k) : ∀ (es : List qE) (pc : Nat), segok y pc es pc1 = true → Snd G (d + 1) y pc (sF c es k)
  | [], pc, h => by
    obtain rfl : pc = pc1 := Nat.eq_of_beq_eq_true h
    exact K
  | e :: es, pc, h => by
    simp only [segok, Bool.and_eq_true, decide_eq_true_eq] at h
    exact stp_snd hk hy hc h.1 h.2.1 rfl (sF_snd hk hy hc K es _ h.2.2)
/-- a branch at pc, to pt or on to pf -/
def brok (y pc : Nat) (e : qE) (pt pf : Nat) : Bool := decide (qI y pc = some e) && (Nat.beq e.2.2.1 pt && Nat.beq (pc + 3) pf)
set_option maxHeartbeats 1000000 in
theorem bF_snd {G : qG} {d y pc pt pf : Nat} {e : qE} {kt kf : qF} (hk : qchka y = true) (h : brok y pc e pt pf = true) (K1 : Snd G d y pt kt) (K2 : Snd G d y pf kf) : Snd G d y pc (bF e kt kf) := by
  simp only [brok, Bool.and_eq_true, decide_eq_true_eq] at h
  obtain ⟨he, h1, h2⟩ := h
  have h1 := Nat.eq_of_beq_eq_true h1
  have h2 := Nat.eq_of_beq_eq_true h2
  intro L st M r h
  unfold bF at h
  have hd := qI_dec hk he
  have hl := qI_lnk hk he
  have hlen := qI_len hk he
  clear he
  obtain ⟨ins, len, a, b, cc⟩ := e
  dsimp only at h hd hl hlen h1
  subst h1 h2
  cases ins <;> try dsimp only at h
  case if_icmp cond o =>
    obtain rfl : len = 3 := Nat.eq_of_beq_eq_true hlen
    cases cond <;> dsimp only at h
    case eq =>
      obtain ⟨x, z, s, rfl, g⟩ := a2i_e h
      exact q_icmp_eq hd (of_decide_eq_true hl) (fun q => K1 _ _ _ _ (by rw [if_pos q] at g; exact g)) (fun q => K2 _ _ _ _ (by rw [if_neg q] at g; exact g))
    case ne =>
      obtain ⟨x, z, s, rfl, g⟩ := a2i_e h
      exact q_icmp_ne hd (of_decide_eq_true hl) (fun q => K1 _ _ _ _ (by rw [if_pos q] at g; exact g)) (fun q => K2 _ _ _ _ (by rw [if_neg (fun z => z q)] at g; exact g))
    case lt =>
      obtain ⟨x, z, s, rfl, g⟩ := a2i_e h
      exact q_icmp_lt hd (of_decide_eq_true hl) (fun q => K1 _ _ _ _ (by rw [if_pos q] at g; exact g)) (fun q => K2 _ _ _ _ (by rw [if_neg q] at g; exact g))
    case ge =>
      obtain ⟨x, z, s, rfl, g⟩ := a2i_e h
      exact q_icmp_ge hd (of_decide_eq_true hl) (fun q => K1 _ _ _ _ (by rw [if_pos q] at g; exact g)) (fun q => K2 _ _ _ _ (by rw [if_neg q] at g; exact g))
    case gt =>
      obtain ⟨x, z, s, rfl, g⟩ := a2i_e h
      exact q_icmp_gt hd (of_decide_eq_true hl) (fun q => K1 _ _ _ _ (by rw [if_pos q] at g; exact g)) (fun q => K2 _ _ _ _ (by rw [if_neg q] at g; exact g))
    case le =>
      obtain ⟨x, z, s, rfl, g⟩ := a2i_e h
      exact q_icmp_le hd (of_decide_eq_true hl) (fun q => K1 _ _ _ _ (by rw [if_pos q] at g; exact g)) (fun q => K2 _ _ _ _ (by rw [if_neg q] at g; exact g))
  case ifCond cond o =>
    obtain rfl : len = 3 := Nat.eq_of_beq_eq_true hlen
    cases cond <;> dsimp only at h
    case eq =>
      obtain ⟨x, s, rfl, g⟩ := a1i_e h
      exact q_if_eq hd (of_decide_eq_true hl) (fun q => K1 _ _ _ _ (by rw [if_pos q] at g; exact g)) (fun q => K2 _ _ _ _ (by rw [if_neg q] at g; exact g))
    case ne =>
      obtain ⟨x, s, rfl, g⟩ := a1i_e h
      exact q_if_ne hd (of_decide_eq_true hl) (fun q => K1 _ _ _ _ (by rw [if_pos q] at g; exact g)) (fun q => K2 _ _ _ _ (by rw [if_neg (fun z => z q)] at g; exact g))
    case lt =>
      obtain ⟨x, s, rfl, g⟩ := a1i_e h
      exact q_if_lt hd (of_decide_eq_true hl) (fun q => K1 _ _ _ _ (by rw [if_pos q] at g; exact g)) (fun q => K2 _ _ _ _ (by rw [if_neg q] at g; exact g))
    case ge =>
      obtain ⟨x, s, rfl, g⟩ := a1i_e h
      exact q_if_ge hd (of_decide_eq_true hl) (fun q => K1 _ _ _ _ (by rw [if_pos q] at g; exact g)) (fun q => K2 _ _ _ _ (by rw [if_neg q] at g; exact g))
    case gt =>
      obtain ⟨x, s, rfl, g⟩ := a1i_e h
      exact q_if_gt hd (of_decide_eq_true hl) (fun q => K1 _ _ _ _ (by rw [if_pos q] at g; exact g)) (fun q => K2 _ _ _ _ (by rw [if_neg q] at g; exact g))
    case le =>
      obtain ⟨x, s, rfl, g⟩ := a1i_e h
      exact q_if_le hd (of_decide_eq_true hl) (fun q => K1 _ _ _ _ (by rw [if_pos q] at g; exact g)) (fun q => K2 _ _ _ _ (by rw [if_neg q] at g; exact g))
  case ifnull o =>
    obtain rfl : len = 3 := Nat.eq_of_beq_eq_true hlen
    split at h
    · exact q_ifnull hd (K2 _ _ _ _ h)
    · exact q_ifnullN hd (of_decide_eq_true hl) (K1 _ _ _ _ h)
    · cases h
  all_goals cases h
def rtok (y pc : Nat) (i : Instr) : Bool := match qI y pc with
  | some e => decide (e.1 = i)
  | none => false
theorem rtok_e {y pc : Nat} {i : Instr} (hk : qchka y = true) (h : rtok y pc i = true) (hi : qlenok i 1 = true) (hj : ∀ n, qlenok i n = true → n = 1) : decode (qB y) pc = .ok (i, 1) := by
  unfold rtok at h
  split at h
  · next e he =>
    have hd := qI_dec hk he
    have hlen := qI_len hk he
    have h := of_decide_eq_true h
    rw [h] at hd hlen
    rw [hj _ hlen] at hd
    exact hd
  · cases h
theorem rI_snd {G : qG} {d y pc : Nat} (hk : qchka y = true) (h : rtok y pc .ireturn = true) (hr : qret y = some .int) : Snd G d y pc rI := by
  intro L st M r h1
  unfold rI at h1
  split at h1
  · exact q_zreturn (rtok_e hk h rfl (fun n q => Nat.eq_of_beq_eq_true q)) hr rfl (Option.some.inj h1).symm
  · cases h1
theorem rZ_snd {G : qG} {d y pc : Nat} (hk : qchka y = true) (h : rtok y pc .ireturn = true) (hr : qret y = some .boolean) : Snd G d y pc rZ := by
  intro L st M r h1
  unfold rZ at h1
  split at h1
  · obtain ⟨g, h1⟩ := gd_e h1
    exact q_zreturn (rtok_e hk h rfl (fun n q => Nat.eq_of_beq_eq_true q)) hr (is01_b g).1 (Option.some.inj h1).symm
  · cases h1
theorem rL_snd {G : qG} {d y pc : Nat} (hk : qchka y = true) (h : rtok y pc .lreturn = true) (hr : qret y = some .long) : Snd G d y pc rL := by
  intro L st M r h1
  unfold rL at h1
  split at h1
  · exact q_lreturn (rtok_e hk h rfl (fun n q => Nat.eq_of_beq_eq_true q)) hr (Option.some.inj h1).symm
  · cases h1
theorem rA_snd {G : qG} {d y pc : Nat} (hk : qchka y = true) (h : rtok y pc .areturn = true) (hr : qret y = some (.object "CheesePost$Text")) : Snd G d y pc rA := by
  intro L st M r h1
  unfold rA at h1
  split at h1
  · exact q_areturn (rtok_e hk h rfl (fun n q => Nat.eq_of_beq_eq_true q)) hr (Option.some.inj h1).symm
  · cases h1
theorem rV_snd {G : qG} {d y pc : Nat} (hk : qchka y = true) (h : rtok y pc .return_ = true) (hr : qret y = none) : Snd G d y pc rV := by
  intro L st M r h1
  unfold rV at h1
  split at h1
  · exact q_return (rtok_e hk h rfl (fun n q => Nat.eq_of_beq_eq_true q)) hr (Option.some.inj h1).symm
  · cases h1
theorem lp_snd {G : qG} {d y pc : Nat} {f : qF → qF} (h : ∀ K, Snd G d y pc K → Snd G d y pc (f K)) : ∀ n, Snd G d y pc (lp f n)
  | 0 => fun L st M r q => by cases q
  | n + 1 => h _ (lp_snd h n)
/-- a switch at pc -/
def swok (y pc lo : Nat) (df : Nat) (ts : List Nat) : Bool := match qI y pc with
  | some (.tableswitch d l h offs, _, a, _) => Nat.beq a df && decide (l = (lo : Int)) && decide (h = (lo : Int) + ts.length - 1) && decide (offs.toList = ts.map (fun (t : Nat) => (t : Int) - (pc : Int))) && Nat.blt (lo + ts.length) 1000
  | _ => false
theorem swS_e {kd : qF} {x : Int32} {L : List (Option Value)} {st : List Value} {M : qMe} {r : qR} : ∀ (ks : List qF) (lo : Nat), swS ks kd lo x L st M = some r → (∃ i k, ks[i]? = some k ∧ x = iz ((lo + i : Nat) : Int) ∧ k L st M = some r) ∨ ((∀ i, i < ks.length → ¬ x = iz ((lo + i : Nat) : Int)) ∧ kd L st M = some r)
  | [], lo, h => Or.inr ⟨fun i hi => absurd hi (Nat.not_lt_zero _), h⟩
  | k :: ks, lo, h => by
    unfold swS at h
    split at h
    · next hx => exact Or.inl ⟨0, k, rfl, hx, h⟩
    · next hx =>
      rcases swS_e ks (lo + 1) h with ⟨i, k1, h1, h2, h3⟩ | ⟨h1, h2⟩
      · exact Or.inl ⟨i + 1, k1, h1, by rw [h2]; congr 2; omega, h3⟩
      · refine Or.inr ⟨fun i hi => ?_, h2⟩
        match i with
        | 0 => exact hx
        | i + 1 => intro q; exact h1 i (by simp at hi; omega) (by rw [q]; congr 2; omega)
/-- each of the k's stands at its place -/
def Snds (G : qG) (d y : Nat) (ts : List Nat) (ks : List qF) : Prop := match ts, ks with
  | [], [] => True
  | t :: ts, k :: ks => Snd G d y t k ∧ Snds G d y ts ks
  | _, _ => False
theorem Snds_n {G : qG} {d y : Nat} : Snds G d y [] [] := trivial
theorem Snds_c {G : qG} {d y t : Nat} {k : qF} {ts : List Nat} {ks : List qF} (h1 : Snd G d y t k) (h2 : Snds G d y ts ks) : Snds G d y (t :: ts) (k :: ks) := ⟨h1, h2⟩
theorem Snds_at {G : qG} {d y : Nat} : ∀ {ts : List Nat} {ks : List qF}, Snds G d y ts ks → ks.length = ts.length ∧ ∀ (i : Nat) (k : qF), ks[i]? = some k → ∃ t, ts[i]? = some t ∧ Snd G d y t k
  | [], [], _ => ⟨rfl, fun i k h => by simp at h⟩
  | t :: ts, k :: ks, h => by
    obtain ⟨h1, h2⟩ := h
    obtain ⟨h3, h4⟩ := Snds_at h2
    refine ⟨by simp [h3], fun i k1 hi => ?_⟩
    match i with
    | 0 => cases hi; exact ⟨t, rfl, h1⟩
    | i + 1 => exact h4 i k1 hi
  | [], _ :: _, h => h.elim
  | _ :: _, [], h => h.elim
theorem swF_snd {G : qG} {d y pc lo df : Nat} {ts : List Nat} {ks : List qF} {kd : qF} (hk : qchka y = true) (h : swok y pc lo df ts = true) (K1 : Snds G d y ts ks) (K2 : Snd G d y df kd) : Snd G d y pc (swF lo ks kd) := by
  intro L st M r h1
  unfold swF at h1
  obtain ⟨x, s, rfl, h1⟩ := a1i_e h1
  unfold swok at h
  split at h
  · next dd l hh offs len a bc he =>
    simp only [Bool.and_eq_true, decide_eq_true_eq] at h
    obtain ⟨⟨⟨⟨g1, g2⟩, g3⟩, g4⟩, g5⟩ := h
    have g1 := Nat.eq_of_beq_eq_true g1
    have g5 : lo + ts.length < 1000 := Nat.le_of_ble_eq_true g5
    have hd := qI_dec hk he
    have hl := qI_lnk hk he
    simp only [qlnk, Bool.and_eq_true, decide_eq_true_eq] at hl
    subst g1 g2 g3
    obtain ⟨e1, e2⟩ := Snds_at K1
    rcases swS_e ks lo h1 with ⟨i, k, q1, q2, q3⟩ | ⟨q1, q2⟩
    · obtain ⟨t, u1, u2⟩ := e2 i k q1
      have hi : i < ts.length := (List.getElem?_eq_some_iff.mp u1).1
      have hx : x.toInt = ((lo + i : Nat) : Int) := by rw [q2, ← ofNat_iz, Int32.toInt_ofNat_of_lt (by omega)]
      refine q_tableIn hd (by rw [hx]; omega) (by rw [hx]; omega) (off := (t : Int) - (pc : Int)) ?_ (tgt := t) (by omega) (u2 _ _ _ _ q3)
      rw [hx, show (((lo + i : Nat) : Int) - (lo : Int)).toNat = i by omega, ← Array.getElem?_toList, g4, List.getElem?_map, u1]
      rfl
    · refine q_tableOut hd ?_ hl.1 (K2 _ _ _ _ q2)
      by_cases c1 : x.toInt < (lo : Int)
      · exact Or.inl c1
      · refine Or.inr ?_
        apply Classical.byContradiction
        intro c2
        refine q1 (x.toInt - lo).toNat (by rw [e1]; omega) ?_
        rw [show lo + (x.toInt - (lo : Int)).toNat = x.toInt.toNat by omega]
        apply Int32.toInt_inj.mp
        rw [← ofNat_iz, Int32.toInt_ofNat_of_lt (by omega)]
        omega
  · cases h

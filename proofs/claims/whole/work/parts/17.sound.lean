theorem qp1i_e {st : List Value} {f : Int32 → List Value → Prop} (h : qp1i st f) : ∃ x s, st = .int x :: s ∧ f x s := by
  unfold qp1i at h
  split at h
  · exact ⟨_, _, rfl, h⟩
  · exact h.elim
theorem qp2i_e {st : List Value} {f : Int32 → Int32 → List Value → Prop} (h : qp2i st f) : ∃ x z s, st = .int z :: .int x :: s ∧ f x z s := by
  unfold qp2i at h
  split at h
  · exact ⟨_, _, _, rfl, h⟩
  · exact h.elim
theorem qp1l_e {st : List Value} {f : Int64 → List Value → Prop} (h : qp1l st f) : ∃ x s, st = .long x :: s ∧ f x s := by
  unfold qp1l at h
  split at h
  · exact ⟨_, _, rfl, h⟩
  · exact h.elim
theorem qp2l_e {st : List Value} {f : Int64 → Int64 → List Value → Prop} (h : qp2l st f) : ∃ x z s, st = .long z :: .long x :: s ∧ f x z s := by
  unfold qp2l at h
  split at h
  · exact ⟨_, _, _, rfl, h⟩
  · exact h.elim
theorem qpil_e {st : List Value} {f : Int64 → Int32 → List Value → Prop} (h : qpil st f) : ∃ x z s, st = .int z :: .long x :: s ∧ f x z s := by
  unfold qpil at h
  split at h
  · exact ⟨_, _, _, rfl, h⟩
  · exact h.elim
theorem qp1r_e {st : List Value} {f : Nat → List Value → Prop} (h : qp1r st f) : ∃ i s, st = .ref i :: s ∧ f i s := by
  unfold qp1r at h
  split at h
  · exact ⟨_, _, rfl, h⟩
  · exact h.elim
theorem qpir_e {st : List Value} {f : Int32 → Nat → List Value → Prop} (h : qpir st f) : ∃ j i s, st = .int j :: .ref i :: s ∧ f j i s := by
  unfold qpir at h
  split at h
  · exact ⟨_, _, _, rfl, h⟩
  · exact h.elim
theorem qpxr_e {st : List Value} {f : Int32 → Int32 → Nat → List Value → Prop} (h : qpxr st f) : ∃ x j i s, st = .int x :: .int j :: .ref i :: s ∧ f x j i s := by
  unfold qpxr at h
  split at h
  · exact ⟨_, _, _, _, rfl, h⟩
  · exact h.elim
theorem qplr_e {st : List Value} {f : Int64 → Int32 → Nat → List Value → Prop} (h : qplr st f) : ∃ x j i s, st = .long x :: .int j :: .ref i :: s ∧ f x j i s := by
  unfold qplr at h
  split at h
  · exact ⟨_, _, _, _, rfl, h⟩
  · exact h.elim
theorem qld_e {L : List (Option Value)} {i : Nat} {f : Value → Prop} (h : qld L i f) : ∃ v, L[i]? = some (some v) ∧ f v := by
  unfold qld at h
  rw [qix_get] at h
  split at h
  · next v hv => exact ⟨v, hv, h⟩
  · exact h.elim
theorem qb_e {b : Bool} {P : Prop} (h : qb b P) : b = true ∧ P := by
  cases b
  · exact h.elim
  · exact ⟨rfl, h⟩
theorem qacc_e {M : qMe} {i : Nat} {P : Prop} (hn : qNF ≤ M.1) (h : qacc M i P) : 8 ≤ i ∧ i < M.1 ∧ P := by
  unfold qacc at h
  split at h
  · next hb =>
    simp only [Bool.and_eq_true] at hb
    exact ⟨Nat.le_of_ble_eq_true hb.1, Nat.lt_of_lt_of_le (Nat.le_of_ble_eq_true hb.2) hn, h⟩
  · exact h
theorem qcat1_e {v : Value} (h : qcat1 v = true) : v.category = 1 := by cases v <;> first | rfl | cases h
theorem qcats_sum : ∀ st : List Value, (st.map fun v => v.category).sum = qcats st
  | [] => rfl
  | v :: s => by
    rw [List.map_cons, List.sum_cons, qcats_sum s]
    unfold qcats
    cases v <;> rfl
theorem qcats_len : ∀ As : List Value, (As.flatMap (fun v => if v.category = 2 then [some v, none] else [some v])).length = qcats As
  | [] => rfl
  | v :: s => by
    rw [List.flatMap_cons, List.length_append, qcats_len s]
    conv => rhs; unfold qcats
    cases v <;> rfl
theorem qtake_e : ∀ {n : Nat} {st acc : List Value} {f : List Value → List Value → Prop}, qtake n st acc f → ∃ As s, st = As.reverse ++ s ∧ As.length = n ∧ f (As ++ acc) s
  | 0, st, acc, f, h => ⟨[], st, rfl, rfl, h⟩
  | n + 1, [], acc, f, h => h.elim
  | n + 1, v :: st, acc, f, h => by
    obtain ⟨As, s, e1, e2, e3⟩ := qtake_e (n := n) (st := st) (acc := v :: acc) h
    refine ⟨As ++ [v], s, ?_, ?_, ?_⟩
    · rw [e1]; simp
    · simp [e2]
    · simpa using e3
theorem qcallee_e {G : qG} {d a : Nat} {As s : List Value} {M : qMe} {f : List Value → qMe → Prop} (h : qcallee G d a As s M f) : ∃ d1, d = d1 + 1 ∧ qcats s ≤ 8 ∧ qcats As ≤ qml a ∧ ∃ r1, qsem G d1 a 0 (qL0 As (qml a)) [] M r1 ∧ f (r1.1.toList ++ s) r1.2 := by
  unfold qcallee at h
  split at h
  · exact h.elim
  · next d1 =>
    obtain ⟨hb, h⟩ := qb_e h
    simp only [Bool.and_eq_true] at hb
    exact ⟨d1, rfl, Nat.le_of_ble_eq_true hb.1, Nat.le_of_ble_eq_true hb.2, h⟩
theorem qcl_at {ci : Nat} (h : ci < 12) : ∃ C, qcl[ci]? = some (C, qTT ci, qNN ci) := by
  match ci, h with
  | 0, _ => exact ⟨_, rfl⟩
  | 1, _ => exact ⟨_, rfl⟩
  | 2, _ => exact ⟨_, rfl⟩
  | 3, _ => exact ⟨_, rfl⟩
  | 4, _ => exact ⟨_, rfl⟩
  | 5, _ => exact ⟨_, rfl⟩
  | 6, _ => exact ⟨_, rfl⟩
  | 7, _ => exact ⟨_, rfl⟩
  | 8, _ => exact ⟨_, rfl⟩
  | 9, _ => exact ⟨_, rfl⟩
  | 10, _ => exact ⟨_, rfl⟩
  | 11, _ => exact ⟨_, rfl⟩
theorem qfl_facts {y n a b : Nat} (hy : (qnm y).cls = qocn (qoc y)) (h : (qoc y, n, a, b) ∈ qfl) : a < 100 ∧ ∃ C, qcl[a]? = some (C, qTT a, qNN a) ∧ b < qNN a ∧ Cond.fieldLink (qnm y).cls n (qTT a b).1 (qTT a b).2.1 (qTT a b).2.2.1 ∈ qtb := by
  have h1 := List.all_eq_true.mp qfl_lt _ h
  simp only [Bool.and_eq_true] at h1
  have hb : b < qNN a := Nat.le_of_ble_eq_true h1.1
  have ha : a < 12 := by
    rcases Nat.lt_or_ge a 12 with q | q
    · exact q
    · have : qNN a = 0 := by
        unfold qNN
        rw [qix_get, List.getElem?_eq_none (show qcl.length ≤ a from q)]
      omega
  obtain ⟨C, hC⟩ := qcl_at ha
  refine ⟨by omega, C, hC, hb, ?_⟩
  rw [hy]
  exact qfl_in _ h
theorem qlink_facts {y n a : Nat} (hy : (qnm y).cls = qocn (qoc y)) (h : (decide ((qoc y, n, a) ∈ qmlk) || decide ((qoc y, n, a) ∈ qnlk)) = true) : qlinked y n a := by
  simp only [Bool.or_eq_true, decide_eq_true_eq] at h
  rcases h with h | h
  · left; rw [hy]; exact qmlk_in _ h
  · right; exact ⟨"CheesePost", by rw [hy]; exact qnlk_in _ h⟩
theorem qsk_2 {a b : Nat} (h0 : qsk a b = 0 → False) (h1 : qsk a b = 1 → False) : qsk a b = 2 := by
  unfold qsk at *
  split
  · next h =>
    rw [if_pos h] at h0 h1
    unfold qfk at *
    split <;> simp_all
  · next h =>
    rw [if_neg h] at h0 h1
    split
    · next h2 => rw [if_pos h2] at h0; exact (h0 rfl).elim
    · next h2 =>
      rw [if_neg h2] at h1
      split
      · next h3 => rw [if_pos h3] at h1; exact (h1 rfl).elim
      · rfl
theorem qty_ref {a b : Nat} (h : a < 100) (hs : qsk a b = 2) : (∀ x, narrow (qty a b) (.ref x) = .ref x) ∧ (∀ x, fits (qty a b) (.ref x) = true) ∧ narrow (qty a b) .null = .null ∧ fits (qty a b) .null = true := by
  unfold qsk at hs
  rw [if_pos h] at hs
  generalize qty a b = t at hs ⊢
  cases t <;> first | (exact absurd hs (by decide)) | exact ⟨fun _ => rfl, fun _ => rfl, rfl, rfl⟩
theorem qty_long {a b : Nat} (h : a < 100) (hs : qsk a b = 1) : (∀ x, narrow (qty a b) (.long x) = .long x) ∧ (∀ x, fits (qty a b) (.long x) = true) := by
  unfold qsk at hs
  rw [if_pos h] at hs
  generalize qty a b = t at hs ⊢
  cases t <;> first | (exact absurd hs (by decide)) | exact ⟨fun _ => rfl, fun _ => rfl⟩

set_option maxHeartbeats 4000000 in
theorem qstep_sound {G : qG} {d y pc : Nat} {L : List (Option Value)} {st : List Value} {M : qMe} {r : Option Value × qMe} {K : qKt} (hk : qchka y = true) (hy : (qnm y).cls = qocn (qoc y)) (hn : qNF ≤ M.1) (hK : ∀ pc L st M, qNF ≤ M.1 → K pc L st M → qsem G d y pc L st M r) (h : qstep G d y r K pc L st M) : qsem G d y pc L st M r := by
  unfold qstep at h
  split at h
  · exact h.elim
  next e he =>
  have hd := qI_dec hk he
  have hl := qI_lnk hk he
  have hlen := qI_len hk he
  clear he
  obtain ⟨ins, len, a, b, c⟩ := e
  dsimp only at h hd hl hlen
  cases ins
  case iconst n =>
    obtain rfl : len = 1 := Nat.eq_of_beq_eq_true hlen
    exact q_iconst hd (hK _ _ _ _ hn h)
  case bipush n =>
    obtain rfl : len = 2 := Nat.eq_of_beq_eq_true hlen
    exact q_bipush hd (hK _ _ _ _ hn h)
  case sipush n =>
    obtain rfl : len = 3 := Nat.eq_of_beq_eq_true hlen
    exact q_sipush hd (hK _ _ _ _ hn h)
  case lconst n =>
    obtain rfl : len = 1 := Nat.eq_of_beq_eq_true hlen
    exact q_lconst hd (hK _ _ _ _ hn h)
  case aconst_null =>
    obtain rfl : len = 1 := Nat.eq_of_beq_eq_true hlen
    exact q_null hd (hK _ _ _ _ hn h)
  case iload_n k =>
    obtain rfl : len = 1 := Nat.eq_of_beq_eq_true hlen
    obtain ⟨v, hv, h⟩ := qld_e h
    cases v <;> first | exact h.elim | exact q_iload_k hd hv (hK _ _ _ _ hn h)
  case iload i =>
    obtain rfl : len = 2 := Nat.eq_of_beq_eq_true hlen
    obtain ⟨v, hv, h⟩ := qld_e h
    cases v <;> first | exact h.elim | exact q_iload hd hv (hK _ _ _ _ hn h)
  case lload_n k =>
    obtain rfl : len = 1 := Nat.eq_of_beq_eq_true hlen
    obtain ⟨v, hv, h⟩ := qld_e h
    cases v <;> first | exact h.elim | exact q_lload_n hd hv (hK _ _ _ _ hn h)
  case lload i =>
    obtain rfl : len = 2 := Nat.eq_of_beq_eq_true hlen
    obtain ⟨v, hv, h⟩ := qld_e h
    cases v <;> first | exact h.elim | exact q_lload hd hv (hK _ _ _ _ hn h)
  case aload_n k =>
    obtain rfl : len = 1 := Nat.eq_of_beq_eq_true hlen
    obtain ⟨v, hv, h⟩ := qld_e h
    cases v <;> first | exact h.elim | exact q_aload_n hd hv (hK _ _ _ _ hn h)
  case aload i =>
    obtain rfl : len = 2 := Nat.eq_of_beq_eq_true hlen
    obtain ⟨v, hv, h⟩ := qld_e h
    cases v <;> first | exact h.elim | exact q_aload hd hv (hK _ _ _ _ hn h)
  case iadd =>
    obtain rfl : len = 1 := Nat.eq_of_beq_eq_true hlen
    obtain ⟨x, z, s, rfl, h⟩ := qp2i_e h
    exact q_iadd hd (hK _ _ _ _ hn h)
  case isub =>
    obtain rfl : len = 1 := Nat.eq_of_beq_eq_true hlen
    obtain ⟨x, z, s, rfl, h⟩ := qp2i_e h
    exact q_isub hd (hK _ _ _ _ hn h)
  case imul =>
    obtain rfl : len = 1 := Nat.eq_of_beq_eq_true hlen
    obtain ⟨x, z, s, rfl, h⟩ := qp2i_e h
    exact q_imul hd (hK _ _ _ _ hn h)
  case iand =>
    obtain rfl : len = 1 := Nat.eq_of_beq_eq_true hlen
    obtain ⟨x, z, s, rfl, h⟩ := qp2i_e h
    exact q_iand hd (hK _ _ _ _ hn h)
  case ior =>
    obtain rfl : len = 1 := Nat.eq_of_beq_eq_true hlen
    obtain ⟨x, z, s, rfl, h⟩ := qp2i_e h
    exact q_ior hd (hK _ _ _ _ hn h)
  case ixor =>
    obtain rfl : len = 1 := Nat.eq_of_beq_eq_true hlen
    obtain ⟨x, z, s, rfl, h⟩ := qp2i_e h
    exact q_ixor hd (hK _ _ _ _ hn h)
  case ishl =>
    obtain rfl : len = 1 := Nat.eq_of_beq_eq_true hlen
    obtain ⟨x, z, s, rfl, h⟩ := qp2i_e h
    exact q_ishl hd (hK _ _ _ _ hn h)
  case ishr =>
    obtain rfl : len = 1 := Nat.eq_of_beq_eq_true hlen
    obtain ⟨x, z, s, rfl, h⟩ := qp2i_e h
    exact q_ishr hd (hK _ _ _ _ hn h)
  case idiv =>
    obtain rfl : len = 1 := Nat.eq_of_beq_eq_true hlen
    obtain ⟨x, z, s, rfl, h0, h⟩ := qp2i_e h
    exact q_idiv hd h0 (hK _ _ _ _ hn h)
  case irem =>
    obtain rfl : len = 1 := Nat.eq_of_beq_eq_true hlen
    obtain ⟨x, z, s, rfl, h0, h⟩ := qp2i_e h
    exact q_irem hd h0 (hK _ _ _ _ hn h)
  case ladd =>
    obtain rfl : len = 1 := Nat.eq_of_beq_eq_true hlen
    obtain ⟨x, z, s, rfl, h⟩ := qp2l_e h
    exact q_ladd hd (hK _ _ _ _ hn h)
  case lsub =>
    obtain rfl : len = 1 := Nat.eq_of_beq_eq_true hlen
    obtain ⟨x, z, s, rfl, h⟩ := qp2l_e h
    exact q_lsub hd (hK _ _ _ _ hn h)
  case lmul =>
    obtain rfl : len = 1 := Nat.eq_of_beq_eq_true hlen
    obtain ⟨x, z, s, rfl, h⟩ := qp2l_e h
    exact q_lmul hd (hK _ _ _ _ hn h)
  case land =>
    obtain rfl : len = 1 := Nat.eq_of_beq_eq_true hlen
    obtain ⟨x, z, s, rfl, h⟩ := qp2l_e h
    exact q_land hd (hK _ _ _ _ hn h)
  case lor =>
    obtain rfl : len = 1 := Nat.eq_of_beq_eq_true hlen
    obtain ⟨x, z, s, rfl, h⟩ := qp2l_e h
    exact q_lor hd (hK _ _ _ _ hn h)
  case ldiv =>
    obtain rfl : len = 1 := Nat.eq_of_beq_eq_true hlen
    obtain ⟨x, z, s, rfl, h0, h⟩ := qp2l_e h
    exact q_ldiv hd h0 (hK _ _ _ _ hn h)
  case lrem =>
    obtain rfl : len = 1 := Nat.eq_of_beq_eq_true hlen
    obtain ⟨x, z, s, rfl, h0, h⟩ := qp2l_e h
    exact q_lrem hd h0 (hK _ _ _ _ hn h)
  case ineg =>
    obtain rfl : len = 1 := Nat.eq_of_beq_eq_true hlen
    obtain ⟨x, s, rfl, h⟩ := qp1i_e h
    exact q_ineg hd (hK _ _ _ _ hn h)
  case lshl =>
    obtain rfl : len = 1 := Nat.eq_of_beq_eq_true hlen
    obtain ⟨x, z, s, rfl, h⟩ := qpil_e h
    exact q_lshl hd (hK _ _ _ _ hn h)
  case lshr =>
    obtain rfl : len = 1 := Nat.eq_of_beq_eq_true hlen
    obtain ⟨x, z, s, rfl, h⟩ := qpil_e h
    exact q_lshr hd (hK _ _ _ _ hn h)
  case i2l =>
    obtain rfl : len = 1 := Nat.eq_of_beq_eq_true hlen
    obtain ⟨x, s, rfl, h⟩ := qp1i_e h
    exact q_i2l hd (hK _ _ _ _ hn h)
  case i2b =>
    obtain rfl : len = 1 := Nat.eq_of_beq_eq_true hlen
    obtain ⟨x, s, rfl, h⟩ := qp1i_e h
    exact q_i2b hd (hK _ _ _ _ hn h)
  case i2c =>
    obtain rfl : len = 1 := Nat.eq_of_beq_eq_true hlen
    obtain ⟨x, s, rfl, h⟩ := qp1i_e h
    exact q_i2c hd (hK _ _ _ _ hn h)
  case l2i =>
    obtain rfl : len = 1 := Nat.eq_of_beq_eq_true hlen
    obtain ⟨x, s, rfl, h⟩ := qp1l_e h
    exact q_l2i hd (hK _ _ _ _ hn h)
  case lcmp =>
    obtain rfl : len = 1 := Nat.eq_of_beq_eq_true hlen
    obtain ⟨x, z, s, rfl, h⟩ := qp2l_e h
    exact q_lcmp hd (hK _ _ _ _ hn h)
  case dup =>
    obtain rfl : len = 1 := Nat.eq_of_beq_eq_true hlen
    split at h
    · next v s =>
      obtain ⟨hv, h⟩ := qb_e h
      exact q_dup hd (qcat1_e hv) (hK _ _ _ _ hn h)
    · exact h.elim
  case pop =>
    obtain rfl : len = 1 := Nat.eq_of_beq_eq_true hlen
    split at h
    · next v s =>
      obtain ⟨hv, h⟩ := qb_e h
      exact q_pop hd (qcat1_e hv) (hK _ _ _ _ hn h)
    · exact h.elim
  case dup2 =>
    obtain rfl : len = 1 := Nat.eq_of_beq_eq_true hlen
    split at h
    · next v u s =>
      obtain ⟨hv, h⟩ := qb_e h
      simp only [Bool.and_eq_true] at hv
      exact q_dup2 hd (qcat1_e hv.1) (qcat1_e hv.2) (hK _ _ _ _ hn h)
    · exact h.elim
  case goto o =>
    obtain rfl : len = 3 := Nat.eq_of_beq_eq_true hlen
    exact q_goto hd (of_decide_eq_true hl) (hK _ _ _ _ hn h)
  case if_icmp cond o =>
    obtain rfl : len = 3 := Nat.eq_of_beq_eq_true hlen
    cases cond
    case eq =>
      obtain ⟨x, z, s, rfl, h1, h2⟩ := qp2i_e h
      exact q_icmp_eq hd (of_decide_eq_true hl) (fun q => hK _ _ _ _ hn (h1 q)) (fun q => hK _ _ _ _ hn (h2 q))
    case ne =>
      obtain ⟨x, z, s, rfl, h1, h2⟩ := qp2i_e h
      exact q_icmp_ne hd (of_decide_eq_true hl) (fun q => hK _ _ _ _ hn (h1 q)) (fun q => hK _ _ _ _ hn (h2 q))
    case lt =>
      obtain ⟨x, z, s, rfl, h1, h2⟩ := qp2i_e h
      exact q_icmp_lt hd (of_decide_eq_true hl) (fun q => hK _ _ _ _ hn (h1 q)) (fun q => hK _ _ _ _ hn (h2 q))
    case ge =>
      obtain ⟨x, z, s, rfl, h1, h2⟩ := qp2i_e h
      exact q_icmp_ge hd (of_decide_eq_true hl) (fun q => hK _ _ _ _ hn (h1 q)) (fun q => hK _ _ _ _ hn (h2 q))
    case gt =>
      obtain ⟨x, z, s, rfl, h1, h2⟩ := qp2i_e h
      exact q_icmp_gt hd (of_decide_eq_true hl) (fun q => hK _ _ _ _ hn (h1 q)) (fun q => hK _ _ _ _ hn (h2 q))
    case le =>
      obtain ⟨x, z, s, rfl, h1, h2⟩ := qp2i_e h
      exact q_icmp_le hd (of_decide_eq_true hl) (fun q => hK _ _ _ _ hn (h1 q)) (fun q => hK _ _ _ _ hn (h2 q))
  case ifCond cond o =>
    obtain rfl : len = 3 := Nat.eq_of_beq_eq_true hlen
    cases cond
    case eq =>
      obtain ⟨x, s, rfl, h1, h2⟩ := qp1i_e h
      exact q_if_eq hd (of_decide_eq_true hl) (fun q => hK _ _ _ _ hn (h1 q)) (fun q => hK _ _ _ _ hn (h2 q))
    case ne =>
      obtain ⟨x, s, rfl, h1, h2⟩ := qp1i_e h
      exact q_if_ne hd (of_decide_eq_true hl) (fun q => hK _ _ _ _ hn (h1 q)) (fun q => hK _ _ _ _ hn (h2 q))
    case lt =>
      obtain ⟨x, s, rfl, h1, h2⟩ := qp1i_e h
      exact q_if_lt hd (of_decide_eq_true hl) (fun q => hK _ _ _ _ hn (h1 q)) (fun q => hK _ _ _ _ hn (h2 q))
    case ge =>
      obtain ⟨x, s, rfl, h1, h2⟩ := qp1i_e h
      exact q_if_ge hd (of_decide_eq_true hl) (fun q => hK _ _ _ _ hn (h1 q)) (fun q => hK _ _ _ _ hn (h2 q))
    case gt =>
      obtain ⟨x, s, rfl, h1, h2⟩ := qp1i_e h
      exact q_if_gt hd (of_decide_eq_true hl) (fun q => hK _ _ _ _ hn (h1 q)) (fun q => hK _ _ _ _ hn (h2 q))
    case le =>
      obtain ⟨x, s, rfl, h1, h2⟩ := qp1i_e h
      exact q_if_le hd (of_decide_eq_true hl) (fun q => hK _ _ _ _ hn (h1 q)) (fun q => hK _ _ _ _ hn (h2 q))
  case ifnull o =>
    obtain rfl : len = 3 := Nat.eq_of_beq_eq_true hlen
    split at h
    · exact q_ifnull hd (hK _ _ _ _ hn h)
    · exact q_ifnullN hd (of_decide_eq_true hl) (hK _ _ _ _ hn h)
    · exact h.elim
  case tableswitch df lo hi offs =>
    obtain ⟨x, s, rfl, h1, h2⟩ := qp1i_e h
    simp only [qlnk, Bool.and_eq_true, decide_eq_true_eq] at hl
    obtain ⟨hl1, hl2⟩ := hl
    by_cases q1 : x.toInt < lo
    · exact q_tableOut hd (Or.inl q1) hl1 (hK _ _ _ _ hn (h1 (Or.inl q1)))
    by_cases q2 : hi < x.toInt
    · exact q_tableOut hd (Or.inr q2) hl1 (hK _ _ _ _ hn (h1 (Or.inr q2)))
    cases ho : offs[(x.toInt - lo).toNat]? with
    | some off =>
      have hp := of_decide_eq_true (List.all_eq_true.mp hl2 off (by rw [← Array.getElem?_toList] at ho; exact List.mem_of_getElem? ho))
      exact q_tableIn hd q1 q2 ho (by omega) (hK _ _ _ _ hn (h2 _ off q1 q2 rfl ho))
    | none => exact absurd hlen (by sorry)
  case istore_n k =>
    obtain rfl : len = 1 := Nat.eq_of_beq_eq_true hlen
    split at h
    · next x s =>
      obtain ⟨hv, h⟩ := qb_e h
      exact q_istore_n hd (Nat.le_of_ble_eq_true hv) (hK _ _ _ _ hn h)
    · exact h.elim
  case istore i =>
    obtain rfl : len = 2 := Nat.eq_of_beq_eq_true hlen
    split at h
    · next x s =>
      obtain ⟨hv, h⟩ := qb_e h
      exact q_istore hd (Nat.le_of_ble_eq_true hv) (hK _ _ _ _ hn h)
    · exact h.elim
  case astore_n k =>
    obtain rfl : len = 1 := Nat.eq_of_beq_eq_true hlen
    split at h
    · next x s =>
      obtain ⟨hv, h⟩ := qb_e h
      exact q_astore_n hd (Nat.le_of_ble_eq_true hv) (hK _ _ _ _ hn h)
    · exact h.elim
  case astore i =>
    obtain rfl : len = 2 := Nat.eq_of_beq_eq_true hlen
    split at h
    · next x s =>
      obtain ⟨hv, h⟩ := qb_e h
      exact q_astore hd (Nat.le_of_ble_eq_true hv) (hK _ _ _ _ hn h)
    · exact h.elim
  case lstore_n k =>
    obtain rfl : len = 1 := Nat.eq_of_beq_eq_true hlen
    split at h
    · next x s =>
      obtain ⟨hv, h⟩ := qb_e h
      exact q_lstore_n hd (Nat.le_of_ble_eq_true hv) (hK _ _ _ _ hn h)
    · exact h.elim
  case lstore i =>
    obtain rfl : len = 2 := Nat.eq_of_beq_eq_true hlen
    split at h
    · next x s =>
      obtain ⟨hv, h⟩ := qb_e h
      exact q_lstore hd (Nat.le_of_ble_eq_true hv) (hK _ _ _ _ hn h)
    · exact h.elim
  case iinc i n =>
    obtain rfl : len = 3 := Nat.eq_of_beq_eq_true hlen
    obtain ⟨hv, h⟩ := qb_e h
    obtain ⟨v, hv2, h⟩ := qld_e h
    cases v <;> first | exact h.elim | exact q_iinc hd hv2 (Nat.le_of_ble_eq_true hv) (hK _ _ _ _ hn h)
  case ldc n =>
    obtain rfl : len = 2 := Nat.eq_of_beq_eq_true hlen
    obtain ⟨hv, h⟩ := qb_e h
    obtain rfl : a = 0 := Nat.eq_of_beq_eq_true hv
    simp only [qlnk, Bool.or_eq_true, decide_eq_true_eq] at hl
    rcases hl with hl | hl
    · exact absurd hl (by decide)
    exact q_ldc hd (by rw [hy]; exact qklk_in _ hl) (hK _ _ _ _ hn h)
  case ldc_w n =>
    obtain rfl : len = 3 := Nat.eq_of_beq_eq_true hlen
    obtain ⟨hv, h⟩ := qb_e h
    obtain rfl : a = 0 := Nat.eq_of_beq_eq_true hv
    simp only [qlnk, Bool.or_eq_true, decide_eq_true_eq] at hl
    rcases hl with hl | hl
    · exact absurd hl (by decide)
    exact q_ldcw hd (by rw [hy]; exact qklk_in _ hl) (hK _ _ _ _ hn h)
  case ldc2_w n =>
    obtain rfl : len = 3 := Nat.eq_of_beq_eq_true hlen
    exact q_ldc2 hd (by rw [hy]; exact qjlk_in _ (of_decide_eq_true hl)) (hK _ _ _ _ hn h)
  case getfield n =>
    obtain rfl : len = 3 := Nat.eq_of_beq_eq_true hlen
    obtain ⟨i, s, rfl, h⟩ := qp1r_e h
    obtain ⟨h8, hm, h⟩ := qacc_e hn h
    obtain ⟨hv, h⟩ := qb_e h
    obtain ⟨h100, C, hc, hb, hw⟩ := qfl_facts hy (of_decide_eq_true hl)
    exact q_getfield hd h8 hm (Nat.eq_of_beq_eq_true hv) h100 hc hb hw (hK _ _ _ _ hn h)
  case putfield n =>
    obtain rfl : len = 3 := Nat.eq_of_beq_eq_true hlen
    simp only [qlnk, Bool.and_eq_true, Bool.or_eq_true, decide_eq_true_eq, Bool.not_eq_true'] at hl
    obtain ⟨hl, hfin⟩ := hl
    obtain ⟨h100, C, hc, hb, hw⟩ := qfl_facts hy hl
    have hfin : (qTT a b).2.2.2 = false ∨ ((qTT a b).2.2.2 = true ∧ (qnm y).name = "<init>" ∧ (qTT a b).1 = (qnm y).cls) := by
      rcases hfin with q | ⟨q1, q2⟩
      · exact Or.inl q
      · cases z : (qTT a b).2.2.2
        · exact Or.inl rfl
        · exact Or.inr ⟨rfl, q1, q2⟩
    unfold qput at h
    split at h
    · next hs =>
      split at h
      · next x i s =>
        obtain ⟨h8, hm, h⟩ := qacc_e hn h
        obtain ⟨hv, h⟩ := qb_e h
        unfold qputi at h
        split at h
        · next ht => exact q_putI hd h8 hm (Nat.eq_of_beq_eq_true hv) h100 hc hb hw hfin hs (by rw [ht]; rfl) (by rw [ht]; rfl) (hK _ _ _ _ hn h)
        · obtain ⟨⟨h1, h2⟩, h⟩ := h
          exact q_putI hd h8 hm (Nat.eq_of_beq_eq_true hv) h100 hc hb hw hfin hs h1 h2 (hK _ _ _ _ hn h)
      · exact h.elim
    · next hs =>
      split at h
      · next x i s =>
        obtain ⟨h8, hm, h⟩ := qacc_e hn h
        obtain ⟨hv, h⟩ := qb_e h
        obtain ⟨h1, h2⟩ := qty_long h100 hs
        exact q_putJ hd h8 hm (Nat.eq_of_beq_eq_true hv) h100 hc hb hw hfin hs (h1 x) (h2 x) (hK _ _ _ _ hn h)
      · exact h.elim
    · next hs0 hs1 =>
      have hs : qsk a b = 2 := qsk_2 hs0 hs1
      obtain ⟨h1, h2, h3, h4⟩ := qty_ref h100 hs
      split at h
      · next v i s =>
        obtain ⟨h8, hm, h⟩ := qacc_e hn h
        obtain ⟨hv, h⟩ := qb_e h
        exact q_putR (x := some v) hd h8 hm (Nat.eq_of_beq_eq_true hv) h100 hc hb hw hfin hs h1 h2 h3 h4 (hK _ _ _ _ hn h)
      · next i s =>
        obtain ⟨h8, hm, h⟩ := qacc_e hn h
        obtain ⟨hv, h⟩ := qb_e h
        exact q_putR (x := none) hd h8 hm (Nat.eq_of_beq_eq_true hv) h100 hc hb hw hfin hs h1 h2 h3 h4 (hK _ _ _ _ hn h)
      · exact h.elim
  case getstatic n =>
    obtain rfl : len = 3 := Nat.eq_of_beq_eq_true hlen
    simp only [qlnk, Bool.and_eq_true, Bool.or_eq_true, decide_eq_true_eq] at hl
    obtain ⟨⟨ha1, ha2⟩, hl⟩ := hl
    have ha1 := Nat.le_of_ble_eq_true ha1
    have ha2 := Nat.le_of_ble_eq_true ha2
    refine q_getstatic (C := "CheesePost") (n := qstn a) (dd := "[I") hd (fun s hx => ?_) ?_ (hK _ _ _ _ hn h)
    · rcases (show a = 1 ∨ a = 2 ∨ a = 3 by omega) with rfl | rfl | rfl
      · exact hx.2.2.2.2.1
      · exact hx.2.2.2.2.2.1
      · exact hx.2.2.2.2.2.2
    · rcases hl with hl | hl
      · exact Or.inl (by rw [hy]; exact qslk_in _ hl)
      · exact Or.inr ⟨"CheesePost", by rw [hy]; exact qsnk_in _ hl⟩
  case iaload =>
    obtain rfl : len = 1 := Nat.eq_of_beq_eq_true hlen
    obtain ⟨j, i, s, rfl, h⟩ := qpir_e h
    split at h
    · next h8 =>
      obtain ⟨hv, hj, h⟩ := qb_e h
      exact q_ialoadS hd (Nat.le_of_ble_eq_true h8) (Prod.ext (Nat.eq_of_beq_eq_true hv) rfl) hj (hK _ _ _ _ hn h)
    · obtain ⟨h8, hm, h⟩ := qacc_e hn h
      obtain ⟨hv, hj, h⟩ := qb_e h
      exact q_iaload hd h8 hm (Prod.ext (Nat.eq_of_beq_eq_true hv) rfl) hj (hK _ _ _ _ hn h)
  case baload =>
    obtain rfl : len = 1 := Nat.eq_of_beq_eq_true hlen
    obtain ⟨j, i, s, rfl, h⟩ := qpir_e h
    split at h
    · obtain ⟨h8, hm, h⟩ := qacc_e hn h
      obtain ⟨hv, hj, h⟩ := qb_e h
      exact q_baload hd h8 hm (Prod.ext (Nat.eq_of_beq_eq_true hv) rfl) hj (hK _ _ _ _ hn h)
    · obtain ⟨h8, hm, h⟩ := qacc_e hn h
      obtain ⟨hv, hj, h⟩ := qb_e h
      exact q_zaload hd h8 hm (Prod.ext (Nat.eq_of_beq_eq_true hv) rfl) hj (hK _ _ _ _ hn h)
  case laload =>
    obtain rfl : len = 1 := Nat.eq_of_beq_eq_true hlen
    obtain ⟨j, i, s, rfl, h⟩ := qpir_e h
    obtain ⟨h8, hm, h⟩ := qacc_e hn h
    obtain ⟨hv, hj, h⟩ := qb_e h
    exact q_laload hd h8 hm (Prod.ext (Nat.eq_of_beq_eq_true hv) rfl) hj (hK _ _ _ _ hn h)
  case aaload =>
    obtain rfl : len = 1 := Nat.eq_of_beq_eq_true hlen
    obtain ⟨j, i, s, rfl, h⟩ := qpir_e h
    obtain ⟨h8, hm, h⟩ := qacc_e hn h
    obtain ⟨hv, hj, h⟩ := qb_e h
    simp only [Bool.and_eq_true] at hv
    have hv1 := Nat.le_of_ble_eq_true hv.1
    have hv2 := Nat.le_of_ble_eq_true hv.2
    exact q_aaload hd h8 hm rfl (by omega) hj (hK _ _ _ _ hn h)
  case iastore =>
    obtain rfl : len = 1 := Nat.eq_of_beq_eq_true hlen
    obtain ⟨x, j, i, s, rfl, h⟩ := qpxr_e h
    obtain ⟨h8, hm, h⟩ := qacc_e hn h
    obtain ⟨hv, hj, h⟩ := qb_e h
    exact q_iastore hd h8 hm (Prod.ext (Nat.eq_of_beq_eq_true hv) rfl) hj (hK _ _ _ _ hn h)
  case bastore =>
    obtain rfl : len = 1 := Nat.eq_of_beq_eq_true hlen
    obtain ⟨x, j, i, s, rfl, h⟩ := qpxr_e h
    split at h
    · obtain ⟨h8, hm, h⟩ := qacc_e hn h
      obtain ⟨hv, hj, h⟩ := qb_e h
      exact q_bastore hd h8 hm (Prod.ext (Nat.eq_of_beq_eq_true hv) rfl) hj (hK _ _ _ _ hn h)
    · obtain ⟨h8, hm, h⟩ := qacc_e hn h
      obtain ⟨hv, hj, h⟩ := qb_e h
      exact q_zastore hd h8 hm (Prod.ext (Nat.eq_of_beq_eq_true hv) rfl) hj (hK _ _ _ _ hn h)
  case lastore =>
    obtain rfl : len = 1 := Nat.eq_of_beq_eq_true hlen
    obtain ⟨x, j, i, s, rfl, h⟩ := qplr_e h
    obtain ⟨h8, hm, h⟩ := qacc_e hn h
    obtain ⟨hv, hj, h⟩ := qb_e h
    exact q_lastore hd h8 hm (Prod.ext (Nat.eq_of_beq_eq_true hv) rfl) hj (hK _ _ _ _ hn h)
  case arraylength =>
    obtain rfl : len = 1 := Nat.eq_of_beq_eq_true hlen
    obtain ⟨i, s, rfl, h⟩ := qp1r_e h
    split at h
    · next h8 =>
      obtain ⟨hv, h⟩ := qb_e h
      exact q_arraylengthS hd (Nat.le_of_ble_eq_true h8) (Prod.ext (Nat.eq_of_beq_eq_true hv) rfl) (hK _ _ _ _ hn h)
    · obtain ⟨h8, hm, h⟩ := qacc_e hn h
      obtain ⟨hv, h⟩ := qb_e h
      exact q_arraylength hd h8 hm rfl (by have := Nat.le_of_ble_eq_true hv; omega) (hK _ _ _ _ hn h)
  case new n =>
    obtain rfl : len = 3 := Nat.eq_of_beq_eq_true hlen
    simp only [qlnk, Bool.and_eq_true, decide_eq_true_eq] at hl
    obtain ⟨⟨hl, hb⟩, ha⟩ := hl
    have ha : a < 12 := Nat.le_of_ble_eq_true ha
    obtain rfl : b = qNN a := Nat.eq_of_beq_eq_true hb
    obtain ⟨C, hc⟩ := qcl_at ha
    have hw := qnwk_in _ hl
    dsimp only at hw
    rw [qix_get, hc, ← hy] at hw
    exact q_new hd hc (by omega) hw (qdf a ha) (hK _ _ _ _ (by show qNF ≤ M.1 + 1; omega) h)
  case newarray t =>
    obtain rfl : len = 2 := Nat.eq_of_beq_eq_true hlen
    obtain ⟨n, s, rfl, ⟨h0, h1⟩, h⟩ := qp1i_e h
    cases t <;> first | exact absurd hl (by decide) | skip
    case int =>
      obtain rfl : a = 100 := Nat.eq_of_beq_eq_true hl
      exact q_newarr (t0 := 0) hd (fun _ => rfl) (by omega) (fun _ _ q => q) (fun _ => rfl) qac_int h0 rfl (by show _ * 4 ≤ _; omega) (hK _ _ _ _ (by show qNF ≤ M.1 + 1; omega) h)
    case byte =>
      obtain rfl : a = 101 := Nat.eq_of_beq_eq_true hl
      exact q_newarr (t0 := 1) hd (fun _ => rfl) (by omega) (fun _ _ q => q) (fun _ => rfl) qac_byte h0 rfl (by show _ * 1 ≤ _; omega) (hK _ _ _ _ (by show qNF ≤ M.1 + 1; omega) h)
    case boolean =>
      obtain rfl : a = 102 := Nat.eq_of_beq_eq_true hl
      exact q_newarr (t0 := 2) hd (fun _ => rfl) (by omega) (fun _ _ q => q) (fun _ => rfl) qac_boolean h0 rfl (by show _ * 1 ≤ _; omega) (hK _ _ _ _ (by show qNF ≤ M.1 + 1; omega) h)
    case long =>
      obtain rfl : a = 103 := Nat.eq_of_beq_eq_true hl
      exact q_newarr (t0 := 3) hd (fun _ => rfl) (by omega) (fun _ _ q => q) (fun _ => rfl) qac_long h0 rfl (by show _ * 8 ≤ _; omega) (hK _ _ _ _ (by show qNF ≤ M.1 + 1; omega) h)
  case anewarray n =>
    obtain rfl : len = 3 := Nat.eq_of_beq_eq_true hlen
    obtain ⟨n, s, rfl, ⟨h0, h1⟩, h⟩ := qp1i_e h
    simp only [qlnk, Bool.and_eq_true, Bool.or_eq_true, decide_eq_true_eq] at hl
    rcases hl with (⟨ha, hl⟩ | ⟨ha, hl⟩) | ⟨ha, hl⟩
    · obtain rfl : a = 104 := Nat.eq_of_beq_eq_true ha
      exact q_anewarray (C := "CheesePost$Alps") (t0 := 4) hd (fun _ => rfl) (by omega) (fun s hx => hx.1) (by rw [hy]; exact qnwk_in _ hl) h0 rfl (by omega) (hK _ _ _ _ (by show qNF ≤ M.1 + 1; omega) h)
    · obtain rfl : a = 105 := Nat.eq_of_beq_eq_true ha
      exact q_anewarray (C := "CheesePost$Text") (t0 := 5) hd (fun _ => rfl) (by omega) (fun s hx => hx.2.1) (by rw [hy]; exact qnwk_in _ hl) h0 rfl (by omega) (hK _ _ _ _ (by show qNF ≤ M.1 + 1; omega) h)
    · obtain rfl : a = 106 := Nat.eq_of_beq_eq_true ha
      exact q_anewarray (C := "CheesePost$Ride") (t0 := 6) hd (fun _ => rfl) (by omega) (fun s hx => hx.2.2.1) (by rw [hy]; exact qnwk_in _ hl) h0 rfl (by omega) (hK _ _ _ _ (by show qNF ≤ M.1 + 1; omega) h)
  case invokestatic n =>
    obtain rfl : len = 3 := Nat.eq_of_beq_eq_true hlen
    obtain ⟨ha, h⟩ := qb_e h
    have ha : a < 990 := Nat.le_of_ble_eq_true ha
    obtain ⟨As, s, rfl, e2, h⟩ := qtake_e h
    rw [List.append_nil] at h
    obtain ⟨d1, rfl, g1, g2, r1, h1, h⟩ := qcallee_e h
    simp only [qlnk, Bool.or_eq_true, Bool.and_eq_true] at hl
    rcases hl with (⟨q, -⟩ | ⟨q, -⟩) | ⟨⟨⟨hlk, hst⟩, hb⟩, hys⟩
    · have := Nat.eq_of_beq_eq_true q; omega
    · have := Nat.le_of_ble_eq_true q; omega
    have hys := of_decide_eq_true hys
    exact q_invokestatic hd (qys_cal a hys) (qsts_in _ (of_decide_eq_true hst)) (qlink_facts hy (by simpa only [Bool.or_eq_true] using hlk)) (e2.trans (Nat.eq_of_beq_eq_true hb)) (by rw [qcats_sum]; exact g1) (by rw [qcats_len]; exact g2) h1 (hK _ _ _ _ (Nat.le_trans hn h1.1.1) h)
  case invokevirtual n =>
    obtain rfl : len = 3 := Nat.eq_of_beq_eq_true hlen
    obtain ⟨ha, h⟩ := qb_e h
    have ha : a < 990 := Nat.le_of_ble_eq_true ha
    obtain ⟨As, s0, rfl, e2, h⟩ := qtake_e h
    rw [List.append_nil] at h
    split at h
    · next i s =>
      obtain ⟨h8, hm, h⟩ := qacc_e hn h
      obtain ⟨hv, h⟩ := qb_e h
      obtain ⟨d1, rfl, g1, g2, r1, h1, h⟩ := qcallee_e h
      simp only [qlnk, Bool.or_eq_true, Bool.and_eq_true] at hl
      rcases hl with q | ⟨⟨⟨⟨⟨⟨hlk, hin⟩, hvi⟩, hb⟩, hys⟩, hc1⟩, hc2⟩
      · have := Nat.le_of_ble_eq_true q; omega
      have hys := of_decide_eq_true hys
      have hc1 : c.toNat < 12 := Nat.le_of_ble_eq_true hc1
      obtain ⟨C, hc⟩ := qcl_at hc1
      have hc2 := of_decide_eq_true hc2
      rw [qix_get, hc] at hc2
      cases hc2
      exact q_invokevirtual hd (qys_cal a hys) (qins_in _ (of_decide_eq_true hin)) (qvis_in _ (of_decide_eq_true hvi)) (qlink_facts hy (by simpa only [Bool.or_eq_true] using hlk)) (e2.trans (Nat.eq_of_beq_eq_true hb)) (by rw [qcats_sum]; exact g1) (by rw [qcats_len]; exact g2) h8 hm (Nat.eq_of_beq_eq_true hv) (by omega) hc h1 (hK _ _ _ _ (Nat.le_trans hn h1.1.1) h)
    · exact h.elim
  case invokespecial n =>
    obtain rfl : len = 3 := Nat.eq_of_beq_eq_true hlen
    split at h
    · next ha =>
      obtain ⟨i, s, rfl, h⟩ := qp1r_e h
      obtain ⟨hv, h⟩ := qb_e h
      simp only [Bool.and_eq_true] at hv
      obtain ⟨d1, rfl⟩ : ∃ d1, d = d1 + 1 := ⟨d - 1, by have := Nat.le_of_ble_eq_true hv.1; omega⟩
      obtain rfl : a = 999 := Nat.eq_of_beq_eq_true ha
      simp only [qlnk, Bool.or_eq_true, Bool.and_eq_true] at hl
      rcases hl with ⟨-, hl⟩ | ⟨⟨⟨⟨-, hin⟩, -⟩, hys⟩, -⟩
      · exact q_objInit hd (by rw [hy]; exact qolk_in _ (of_decide_eq_true hl)) qobj_i qobj_c (by rw [qcats_sum]; exact Nat.le_of_ble_eq_true hv.2) (hK _ _ _ _ hn h)
      · exact absurd hys.1 (by decide)
    · next ha =>
      obtain ⟨As, s0, rfl, e2, h⟩ := qtake_e h
      rw [List.append_nil] at h
      split at h
      · next i s =>
        obtain ⟨d1, rfl, g1, g2, r1, h1, h⟩ := qcallee_e h
        simp only [qlnk, Bool.or_eq_true, Bool.and_eq_true] at hl
        rcases hl with ⟨q, -⟩ | ⟨⟨⟨⟨⟨hlk, hin⟩, hb⟩, hys⟩, hnm⟩, hrt⟩
        · rw [q] at ha; cases ha
        have hys := of_decide_eq_true hys
        exact q_invokespecial hd (qys_cal a hys) (qins_in _ (of_decide_eq_true hin)) (of_decide_eq_true hnm) (of_decide_eq_true hrt) (qlink_facts hy (by simpa only [Bool.or_eq_true] using hlk)) (e2.trans (Nat.eq_of_beq_eq_true hb)) (by rw [qcats_sum]; exact g1) (by rw [qcats_len]; exact g2) h1 (hK _ _ _ _ (Nat.le_trans hn h1.1.1) h)
      · exact h.elim
  case ireturn =>
    obtain rfl : len = 1 := Nat.eq_of_beq_eq_true hlen
    split at h
    · next x =>
      unfold qret1 at h
      split at h
      · next hr => exact q_zreturn hd hr rfl h
      · next ty _ hr => exact q_zreturn hd hr h.1 h.2
      · exact h.elim
    · exact h.elim
  case lreturn =>
    obtain rfl : len = 1 := Nat.eq_of_beq_eq_true hlen
    split at h
    · exact q_lreturn hd h.1 h.2
    · exact h.elim
  case areturn =>
    obtain rfl : len = 1 := Nat.eq_of_beq_eq_true hlen
    split at h
    · exact q_areturn hd h.1 h.2
    · exact h.elim
  case return_ =>
    obtain rfl : len = 1 := Nat.eq_of_beq_eq_true hlen
    split at h
    · exact q_return hd h.1 h.2
    · exact h.elim
  all_goals exact h.elim
theorem qgo_sound {G : qG} {d y : Nat} {r : Option Value × qMe} {sp : List Nat} (hk : qchka y = true) (hy : (qnm y).cls = qocn (qoc y)) : ∀ (n pc : Nat) (L : List (Option Value)) (st : List Value) (M : qMe), qNF ≤ M.1 → qgo G d y r sp n pc L st M → qsem G d y pc L st M r
  | 0, _, _, _, _, _, h => h
  | n + 1, pc, L, st, M, hn, h => by
    have h : (match sp.elem pc with
      | true => qsem G d y pc L st M r
      | false => qstep G d y r (qgo G d y r sp n) pc L st M) := h
    split at h
    · exact h
    · exact qstep_sound hk hy hn (fun pc L st M hn h => qgo_sound hk hy n pc L st M hn h) h

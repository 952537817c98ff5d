section
variable {A : Nat → Prop} {g : Nat → Nat → Int32} {M : qMe} {s : List Value} {L : List (Option Value)} {r : qR} {k : qF} {c : qV}
theorem okL_kill {i : Nat} (h : okL A L) : okL A (qkill L i) := by
  unfold qkill
  split
  · exact h
  · split
    · exact okL_set h (fun t q => by cases q)
    · exact okL_set h (fun t q => by cases q)
    · exact h
theorem okL_1 {i : Nat} {v : Value} (h : okL A L) (hv : ∀ t, v = .ref t → A t) : okL A (qst1 L i v) := okL_set (okL_kill h) (fun t q => hv t (Option.some.inj q))
theorem okL_2 {i : Nat} {v : Value} (h : okL A L) (hv : ∀ t, v = .ref t → A t) : okL A (qst2 L i v) := okL_set (okL_1 h hv) (fun t q => by cases q)
theorem ald_i {i : Nat} {v : Value} {f : Value → Option qR} (h : L[i]? = some (some v)) : ald L i f = f v := by
  unfold ald
  rw [qix_get, h]
theorem LocR_ald {i : Nat} {v : Value} {f : Value → Option qR} (hv : L[i]? = some (some v)) (h : LocR A g (f v) r) : LocR A g (ald L i f) r := by
  rw [ald_i hv]
  exact h
theorem LocR_if {p : Prop} [Decidable p] {a1 b1 a2 b2 : Option qR} (h : (if p then a1 else b1) = some r) (ha : a1 = some r → LocR A g a2 r) (hb : b1 = some r → LocR A g b2 r) : LocR A g (if p then a2 else b2) r := by
  by_cases q : p
  · rw [if_pos q] at h ⊢
    exact ha h
  · rw [if_neg q] at h ⊢
    exact hb h
theorem atake_loc : ∀ (n : Nat) (st acc : List Value) (f1 f2 : List Value → List Value → Option qR), (∀ As s, f1 As s = some r → okS A As → okS A s → LocR A g (f2 As s) r) → okS A st → okS A acc → atake n st acc f1 = some r → LocR A g (atake n st acc f2) r
  | 0, st, acc, f1, f2, hf, h1, h2, h => hf acc st h h2 h1
  | n + 1, v :: s, acc, f1, f2, hf, h1, h2, h => atake_loc n s (v :: acc) f1 f2 hf (okS_t h1) (okS_v h2 (fun i q => h1 i (q ▸ List.mem_cons_self))) h
  | n + 1, [], acc, f1, f2, hf, h1, h2, h => by cases h
theorem acal_loc {a : Nat} {As : List Value} {f1 f2 : List Value → qMe → Option qR} (hc : LocV A g c) (h : acal c a As s M f1 = some r) (h1 : okS A As) (h2 : okS A s) (hM : okM A M) (hf : ∀ s1 M1, f1 s1 M1 = some r → okS A s1 → okM A M1 → LocR A g (f2 s1 (sw A g M1)) r) : LocR A g (acal c a As s (sw A g M) f2) r := by
  obtain ⟨hb, h⟩ := gd_e h
  refine LocR_gd hb ?_
  cases hcc : c a As M with
  | none => rw [hcc] at h; cases h
  | some r1 =>
    rw [hcc] at h
    obtain ⟨e, o1, o2⟩ := hc a As M r1 hcc h1 hM
    rw [e]
    refine hf (r1.1.toList ++ s) r1.2 h (fun i q => ?_) o1
    rcases List.mem_append.mp q with q | q
    · refine o2 i ?_
      cases hv : r1.1 with
      | none => rw [hv] at q; cases q
      | some v =>
        rw [hv] at q
        have q : Value.ref i ∈ [v] := q
        rw [List.mem_singleton] at q
        rw [q]
    · exact h2 i q
theorem aput_loc {n a b : Nat} {st : List Value} {f1 f2 : List Value → qMe → Option qR} (h : aput M n a b st f1 = some r) (hS : okS A st) (hM : okM A M) (hf : ∀ s1 M1, f1 s1 M1 = some r → okS A s1 → okM A M1 → LocR A g (f2 s1 (sw A g M1)) r) : LocR A g (aput (sw A g M) n a b st f2) r := by
  unfold aput at h ⊢
  split at h
  · split at h
    · obtain ⟨hb, h⟩ := gd_e h
      refine LocR_gd hb ?_
      rw [sw_sI (okS_h (okS_t hS))]
      exact hf _ _ h (okS_t (okS_t hS)) (okM_I hM)
    · cases h
  · split at h
    · obtain ⟨hb, h⟩ := gd_e h
      exact LocR_gd hb (hf _ _ h (okS_t (okS_t hS)) (okM_J hM))
    · cases h
  · split at h
    · obtain ⟨hb, h⟩ := gd_e h
      exact LocR_gd hb (hf _ _ h (okS_t (okS_t hS)) (okM_R hM (fun v q => by cases q; exact okS_h hS)))
    · obtain ⟨hb, h⟩ := gd_e h
      exact LocR_gd hb (hf _ _ h (okS_t (okS_t hS)) (okM_R hM (fun v q => by cases q)))
    · cases h
  · next x1 x2 x3 =>
    rcases n with _ | _ | _ | n
    · exact (x1 rfl).elim
    · exact (x2 rfl).elim
    · exact (x3 rfl).elim
    · split at h
      · obtain ⟨hb, h⟩ := gd_e h
        refine LocR_gd hb ?_
        rw [sw_sI (okS_h (okS_t hS))]
        exact hf _ _ h (okS_t (okS_t hS)) (okM_I hM)
      · cases h
theorem stx_loc {a : Nat} (hk : Loc A g k) : Loc A g (stx a k) := by
  intro L st M r h hL hS hM
  unfold stx at h ⊢
  split at h
  · obtain ⟨x, s, rfl, h⟩ := a1i_e h
    obtain ⟨hb, h⟩ := gd_e h
    exact LocR_gd hb (hk _ _ _ _ h hL (okS_i (okS_t hS)) hM)
  · obtain ⟨x, z, s, rfl, h⟩ := a2i_e h
    obtain ⟨hb, h⟩ := gd_e h
    exact LocR_gd hb (hk _ _ _ _ h hL (okS_i (okS_t (okS_t hS))) hM)
  · obtain ⟨x, z, s, rfl, h⟩ := a2i_e h
    obtain ⟨hb, h⟩ := gd_e h
    exact LocR_gd hb (hk _ _ _ _ h hL (okS_i (okS_t (okS_t hS))) hM)
  · obtain ⟨x, z, s, rfl, h⟩ := a2i_e h
    obtain ⟨hb, h⟩ := gd_e h
    exact LocR_gd hb (hk _ _ _ _ h hL (okS_i (okS_t (okS_t hS))) hM)
  · obtain ⟨i, s, rfl, h⟩ := a1r_e h
    obtain ⟨hb, h⟩ := gd_e h
    exact LocR_gd hb (hk _ _ _ _ h hL (okS_i (okS_t hS)) hM)
  · obtain ⟨j, i, s, rfl, h⟩ := air_e h
    obtain ⟨hb, h⟩ := gd_e h
    exact LocR_gd hb (hk _ _ _ _ h hL (okS_i (okS_t (okS_t hS))) hM)
  · split at h
    · obtain ⟨hb, h⟩ := gd_e h
      refine LocR_gd hb ?_
      rw [sw_cp (okS_h (okS_t (okS_t (okS_t (okS_t hS))))) (okS_h (okS_t (okS_t hS)))]
      exact hk _ _ _ _ h hL (okS_t (okS_t (okS_t (okS_t (okS_t hS))))) (okM_cp hM)
    · cases h
  · cases h
def gsok1 (e : qE) : Bool := match e.1 with
  | .getstatic _ => Nat.blt e.2.2.1 8
  | _ => true
theorem stp_loc {e : qE} (hc : LocV A g c) (hk : Loc A g k) (he : gsok1 e = true) : Loc A g (stp c e k) := by
  intro L st M r h hL hS hM
  obtain ⟨ins, len, a, b, cc⟩ := e
  unfold stp at h ⊢
  cases ins <;> try dsimp only at h ⊢
  case iconst n =>
    exact hk _ _ _ _ h hL (okS_i hS) hM
  case bipush n =>
    exact hk _ _ _ _ h hL (okS_i hS) hM
  case sipush n =>
    exact hk _ _ _ _ h hL (okS_i hS) hM
  case lconst n =>
    exact hk _ _ _ _ h hL (okS_l hS) hM
  case aconst_null =>
    exact hk _ _ _ _ h hL (okS_n hS) hM
  case iload_n k0 =>
    obtain ⟨v, hv, h⟩ := ald_e h
    refine LocR_ald hv ?_
    cases v <;> first | (exact absurd h (by intro q; cases q; done)) | exact hk _ _ _ _ h hL (okS_i hS) hM
  case iload k0 =>
    obtain ⟨v, hv, h⟩ := ald_e h
    refine LocR_ald hv ?_
    cases v <;> first | (exact absurd h (by intro q; cases q; done)) | exact hk _ _ _ _ h hL (okS_i hS) hM
  case lload_n k0 =>
    obtain ⟨v, hv, h⟩ := ald_e h
    refine LocR_ald hv ?_
    cases v <;> first | (exact absurd h (by intro q; cases q; done)) | exact hk _ _ _ _ h hL (okS_l hS) hM
  case lload k0 =>
    obtain ⟨v, hv, h⟩ := ald_e h
    refine LocR_ald hv ?_
    cases v <;> first | (exact absurd h (by intro q; cases q; done)) | exact hk _ _ _ _ h hL (okS_l hS) hM
  case aload_n k0 =>
    obtain ⟨v, hv, h⟩ := ald_e h
    refine LocR_ald hv ?_
    cases v <;> first | (exact absurd h (by intro q; cases q; done)) | exact hk _ _ _ _ h hL (okS_v hS (okL_g hL hv)) hM
  case aload k0 =>
    obtain ⟨v, hv, h⟩ := ald_e h
    refine LocR_ald hv ?_
    cases v <;> first | (exact absurd h (by intro q; cases q; done)) | exact hk _ _ _ _ h hL (okS_v hS (okL_g hL hv)) hM
  case iadd =>
    obtain ⟨x, z, s, rfl, h⟩ := a2i_e h
    exact hk _ _ _ _ h hL (okS_i (okS_t (okS_t hS))) hM
  case isub =>
    obtain ⟨x, z, s, rfl, h⟩ := a2i_e h
    exact hk _ _ _ _ h hL (okS_i (okS_t (okS_t hS))) hM
  case imul =>
    obtain ⟨x, z, s, rfl, h⟩ := a2i_e h
    exact hk _ _ _ _ h hL (okS_i (okS_t (okS_t hS))) hM
  case iand =>
    obtain ⟨x, z, s, rfl, h⟩ := a2i_e h
    exact hk _ _ _ _ h hL (okS_i (okS_t (okS_t hS))) hM
  case ior =>
    obtain ⟨x, z, s, rfl, h⟩ := a2i_e h
    exact hk _ _ _ _ h hL (okS_i (okS_t (okS_t hS))) hM
  case ixor =>
    obtain ⟨x, z, s, rfl, h⟩ := a2i_e h
    exact hk _ _ _ _ h hL (okS_i (okS_t (okS_t hS))) hM
  case ishl =>
    obtain ⟨x, z, s, rfl, h⟩ := a2i_e h
    exact hk _ _ _ _ h hL (okS_i (okS_t (okS_t hS))) hM
  case ishr =>
    obtain ⟨x, z, s, rfl, h⟩ := a2i_e h
    exact hk _ _ _ _ h hL (okS_i (okS_t (okS_t hS))) hM
  case idiv =>
    obtain ⟨x, z, s, rfl, h⟩ := a2i_e h
    obtain ⟨hb, h⟩ := gd_e h
    exact LocR_gd hb (hk _ _ _ _ h hL (okS_i (okS_t (okS_t hS))) hM)
  case irem =>
    obtain ⟨x, z, s, rfl, h⟩ := a2i_e h
    obtain ⟨hb, h⟩ := gd_e h
    exact LocR_gd hb (hk _ _ _ _ h hL (okS_i (okS_t (okS_t hS))) hM)
  case ladd =>
    obtain ⟨x, z, s, rfl, h⟩ := a2l_e h
    exact hk _ _ _ _ h hL (okS_l (okS_t (okS_t hS))) hM
  case lsub =>
    obtain ⟨x, z, s, rfl, h⟩ := a2l_e h
    exact hk _ _ _ _ h hL (okS_l (okS_t (okS_t hS))) hM
  case lmul =>
    obtain ⟨x, z, s, rfl, h⟩ := a2l_e h
    exact hk _ _ _ _ h hL (okS_l (okS_t (okS_t hS))) hM
  case land =>
    obtain ⟨x, z, s, rfl, h⟩ := a2l_e h
    exact hk _ _ _ _ h hL (okS_l (okS_t (okS_t hS))) hM
  case lor =>
    obtain ⟨x, z, s, rfl, h⟩ := a2l_e h
    exact hk _ _ _ _ h hL (okS_l (okS_t (okS_t hS))) hM
  case ldiv =>
    obtain ⟨x, z, s, rfl, h⟩ := a2l_e h
    obtain ⟨hb, h⟩ := gd_e h
    exact LocR_gd hb (hk _ _ _ _ h hL (okS_l (okS_t (okS_t hS))) hM)
  case lrem =>
    obtain ⟨x, z, s, rfl, h⟩ := a2l_e h
    obtain ⟨hb, h⟩ := gd_e h
    exact LocR_gd hb (hk _ _ _ _ h hL (okS_l (okS_t (okS_t hS))) hM)
  case ineg =>
    obtain ⟨x, s, rfl, h⟩ := a1i_e h
    exact hk _ _ _ _ h hL (okS_i (okS_t hS)) hM
  case i2l =>
    obtain ⟨x, s, rfl, h⟩ := a1i_e h
    exact hk _ _ _ _ h hL (okS_l (okS_t hS)) hM
  case i2b =>
    obtain ⟨x, s, rfl, h⟩ := a1i_e h
    exact hk _ _ _ _ h hL (okS_i (okS_t hS)) hM
  case i2c =>
    obtain ⟨x, s, rfl, h⟩ := a1i_e h
    exact hk _ _ _ _ h hL (okS_i (okS_t hS)) hM
  case l2i =>
    obtain ⟨x, s, rfl, h⟩ := a1l_e h
    exact hk _ _ _ _ h hL (okS_i (okS_t hS)) hM
  case lshl =>
    obtain ⟨x, z, s, rfl, h⟩ := ail_e h
    exact hk _ _ _ _ h hL (okS_l (okS_t (okS_t hS))) hM
  case lshr =>
    obtain ⟨x, z, s, rfl, h⟩ := ail_e h
    exact hk _ _ _ _ h hL (okS_l (okS_t (okS_t hS))) hM
  case lcmp =>
    obtain ⟨x, z, s, rfl, h⟩ := a2l_e h
    exact hk _ _ _ _ h hL (okS_i (okS_t (okS_t hS))) hM
  case dup =>
    split at h
    · exact hk _ _ _ _ h hL (okS_i hS) hM
    · exact hk _ _ _ _ h hL (okS_r hS (okS_h hS)) hM
    · cases h
  case pop =>
    split at h
    · exact hk _ _ _ _ h hL (okS_t hS) hM
    · exact hk _ _ _ _ h hL (okS_t hS) hM
    · cases h
  case dup2 =>
    split at h
    · exact hk _ _ _ _ h hL (okS_i (okS_r hS (okS_h (okS_t hS)))) hM
    · cases h
  case goto n =>
    exact hk _ _ _ _ h hL hS hM
  case istore_n k0 =>
    split at h
    · exact hk _ _ _ _ h (okL_1 hL (fun t q => by cases q)) (okS_t hS) hM
    · cases h
  case istore k0 =>
    split at h
    · exact hk _ _ _ _ h (okL_1 hL (fun t q => by cases q)) (okS_t hS) hM
    · cases h
  case astore_n k0 =>
    split at h
    · exact hk _ _ _ _ h (okL_1 hL (fun t q => by cases q; exact okS_h hS)) (okS_t hS) hM
    · cases h
  case astore k0 =>
    split at h
    · exact hk _ _ _ _ h (okL_1 hL (fun t q => by cases q; exact okS_h hS)) (okS_t hS) hM
    · cases h
  case lstore_n k0 =>
    split at h
    · exact hk _ _ _ _ h (okL_2 hL (fun t q => by cases q)) (okS_t hS) hM
    · cases h
  case lstore k0 =>
    split at h
    · exact hk _ _ _ _ h (okL_2 hL (fun t q => by cases q)) (okS_t hS) hM
    · cases h
  case iinc k0 n =>
    obtain ⟨v, hv, h⟩ := ald_e h
    refine LocR_ald hv ?_
    cases v <;> first | (exact absurd h (by intro q; cases q; done)) | exact hk _ _ _ _ h (okL_1 hL (fun t q => by cases q)) hS hM
  case ldc n =>
    cases hx : Nat.beq a 0 with
    | true => (try rw [hx] at h); (try dsimp only at h ⊢); exact hk _ _ _ _ h hL (okS_i hS) hM
    | false => (try rw [hx] at h); (try dsimp only at h ⊢); exact hk _ _ _ _ h hL (okS_r hS (hM.2.2 4 (by decide))) hM
  case ldc_w n =>
    exact hk _ _ _ _ h hL (okS_i hS) hM
  case ldc2_w n =>
    exact hk _ _ _ _ h hL (okS_l hS) hM
  case getfield n =>
    obtain ⟨i, s, rfl, h⟩ := a1r_e h
    obtain ⟨hb, h⟩ := gd_e h
    refine LocR_gd hb ?_
    rw [sw_V (okS_h hS)]
    exact hk _ _ _ _ h hL (okS_v (okS_t hS) (ok_mV hM (okS_h hS))) hM
  case putfield n =>
    exact aput_loc h hS hM (fun s1 M1 q1 q2 q3 => hk _ _ _ _ q1 hL q2 q3)
  case getstatic n =>
    exact hk _ _ _ _ h hL (okS_r hS (hM.2.2 a (Nat.le_of_ble_eq_true he))) hM
  case iaload =>
    obtain ⟨j, i, s, rfl, h⟩ := air_e h
    obtain ⟨hb, h⟩ := gd_e h
    refine LocR_gd hb ?_
    rw [sw_I (okS_h (okS_t hS))]
    exact hk _ _ _ _ h hL (okS_i (okS_t (okS_t hS))) hM
  case baload =>
    obtain ⟨j, i, s, rfl, h⟩ := air_e h
    obtain ⟨hb, h⟩ := gd_e h
    refine LocR_gd hb ?_
    rw [sw_I (okS_h (okS_t hS))]
    exact hk _ _ _ _ h hL (okS_i (okS_t (okS_t hS))) hM
  case laload =>
    obtain ⟨j, i, s, rfl, h⟩ := air_e h
    obtain ⟨hb, h⟩ := gd_e h
    exact LocR_gd hb (hk _ _ _ _ h hL (okS_l (okS_t (okS_t hS))) hM)
  case aaload =>
    obtain ⟨j, i, s, rfl, h⟩ := air_e h
    obtain ⟨hb, h⟩ := gd_e h
    exact LocR_gd hb (hk _ _ _ _ h hL (okS_v (okS_t (okS_t hS)) (ok_qrv hM (okS_h (okS_t hS)))) hM)
  case iastore =>
    obtain ⟨x, j, i, s, rfl, h⟩ := axr_e h
    obtain ⟨hb, h⟩ := gd_e h
    refine LocR_gd hb ?_
    rw [sw_sI (okS_h (okS_t (okS_t hS)))]
    exact hk _ _ _ _ h hL (okS_t (okS_t (okS_t hS))) (okM_I hM)
  case bastore =>
    obtain ⟨x, j, i, s, rfl, h⟩ := axr_e h
    obtain ⟨hb, h⟩ := gd_e h
    refine LocR_gd hb ?_
    rw [sw_sI (okS_h (okS_t (okS_t hS)))]
    exact hk _ _ _ _ h hL (okS_t (okS_t (okS_t hS))) (okM_I hM)
  case lastore =>
    obtain ⟨x, j, i, s, rfl, h⟩ := alr_e h
    obtain ⟨hb, h⟩ := gd_e h
    exact LocR_gd hb (hk _ _ _ _ h hL (okS_t (okS_t (okS_t hS))) (okM_J hM))
  case aastore =>
    split at h
    · obtain ⟨hb, h⟩ := gd_e h
      exact LocR_gd hb (hk _ _ _ _ h hL (okS_t (okS_t (okS_t hS))) (okM_R hM (fun v q => by cases q; exact okS_h hS)))
    · obtain ⟨hb, h⟩ := gd_e h
      exact LocR_gd hb (hk _ _ _ _ h hL (okS_t (okS_t (okS_t hS))) (okM_R hM (fun v q => by cases q)))
    · cases h
  case arraylength =>
    obtain ⟨i, s, rfl, h⟩ := a1r_e h
    obtain ⟨hb, h⟩ := gd_e h
    exact LocR_gd hb (hk _ _ _ _ h hL (okS_i (okS_t hS)) hM)
  case new n =>
    rw [sw_new (okN hM)]
    exact hk _ _ _ _ h hL (okS_r hS (okN hM)) (okM_new hM)
  case newarray n =>
    obtain ⟨x, s, rfl, h⟩ := a1i_e h
    obtain ⟨hb, h⟩ := gd_e h
    refine LocR_gd hb ?_
    rw [sw_new (okN hM)]
    exact hk _ _ _ _ h hL (okS_r (okS_t hS) (okN hM)) (okM_new hM)
  case anewarray n =>
    obtain ⟨x, s, rfl, h⟩ := a1i_e h
    obtain ⟨hb, h⟩ := gd_e h
    refine LocR_gd hb ?_
    rw [sw_new (okN hM)]
    exact hk _ _ _ _ h hL (okS_r (okS_t hS) (okN hM)) (okM_new hM)
  case multianewarray n m =>
    obtain ⟨x, z, s, rfl, h⟩ := a2i_e h
    obtain ⟨hb, h⟩ := gd_e h
    refine LocR_gd hb ?_
    have e : qmul (sw A g M) x.toNatClampNeg z.toNatClampNeg = sw A g (qmul M x.toNatClampNeg z.toNatClampNeg) := by
      unfold qmul
      rw [sw_new (okN hM)]
      exact (mul_loc (M := qnew M 107 x.toNatClampNeg) (a := mN M) (okN hM) (okM_new hM) _).1
    rw [e]
    exact hk _ _ _ _ h hL (okS_r (okS_t (okS_t hS)) (okN hM)) (mul_loc (g := g) (M := qnew M 107 x.toNatClampNeg) (a := mN M) (okN hM) (okM_new hM) _).2
  case invokestatic n =>
    cases hx : Nat.blt a 990 with
    | true => (try rw [hx] at h); (try dsimp only at h ⊢); exact atake_loc _ _ _ _ _ (fun As s q1 q2 q3 => acal_loc hc q1 q2 q3 hM (fun s1 M1 u1 u2 u3 => hk _ _ _ _ u1 hL u2 u3)) hS (fun i q => by cases q) h
    | false => (try rw [hx] at h); (try dsimp only at h ⊢); exact stx_loc hk _ _ _ _ h hL hS hM
  case invokevirtual n =>
    cases hx : Nat.blt a 990 with
    | true =>
      (try rw [hx] at h); (try dsimp only at h ⊢)
      refine atake_loc _ _ _ _ _ (fun As s q1 q2 q3 => ?_) hS (fun i q => by cases q) h
      try dsimp only at q1 ⊢
      split at q1
      · obtain ⟨hb, q1⟩ := gd_e q1
        exact LocR_gd hb (acal_loc hc q1 (okS_r q2 (okS_h q3)) (okS_t q3) hM (fun s1 M1 u1 u2 u3 => hk _ _ _ _ u1 hL u2 u3))
      · cases q1
    | false => (try rw [hx] at h); (try dsimp only at h ⊢); exact stx_loc hk _ _ _ _ h hL hS hM
  case invokespecial n =>
    cases hx : Nat.beq a 999 with
    | true =>
      (try rw [hx] at h); (try dsimp only at h ⊢)
      obtain ⟨i, s, rfl, h⟩ := a1r_e h
      obtain ⟨hb, h⟩ := gd_e h
      exact LocR_gd hb (hk _ _ _ _ h hL (okS_t hS) hM)
    | false =>
      (try rw [hx] at h); (try dsimp only at h ⊢)
      refine atake_loc _ _ _ _ _ (fun As s q1 q2 q3 => ?_) hS (fun i q => by cases q) h
      try dsimp only at q1 ⊢
      split at q1
      · exact acal_loc hc q1 (okS_r q2 (okS_h q3)) (okS_t q3) hM (fun s1 M1 u1 u2 u3 => hk _ _ _ _ u1 hL u2 u3)
      · cases q1
  all_goals cases h
theorem sF_loc (hc : LocV A g c) (hk : Loc A g k) : ∀ es : List qE, es.all gsok1 = true → Loc A g (sF c es k)
  | [], _ => hk
  | e :: es, h => by
    rw [List.all_cons, Bool.and_eq_true] at h
    exact stp_loc hc (sF_loc hc hk es h.2) h.1
theorem bF_loc {e : qE} {kt kf : qF} (K1 : Loc A g kt) (K2 : Loc A g kf) : Loc A g (bF e kt kf) := by
  intro L st M r h hL hS hM
  obtain ⟨ins, len, a, b, cc⟩ := e
  unfold bF at h ⊢
  dsimp only at h ⊢
  split at h
  all_goals first
    | (obtain ⟨x, z, s, rfl, h⟩ := a2i_e h; exact LocR_if h (fun q => K1 _ _ _ _ q hL (okS_t (okS_t hS)) hM) (fun q => K2 _ _ _ _ q hL (okS_t (okS_t hS)) hM))
    | (obtain ⟨x, s, rfl, h⟩ := a1i_e h; exact LocR_if h (fun q => K1 _ _ _ _ q hL (okS_t hS) hM) (fun q => K2 _ _ _ _ q hL (okS_t hS) hM))
    | (split at h
       · exact K2 _ _ _ _ h hL (okS_t hS) hM
       · exact K1 _ _ _ _ h hL (okS_t hS) hM
       · cases h)
    | cases h
theorem swS_loc {kd : qF} (hd : Loc A g kd) : ∀ (ks : List qF) (lo : Nat) (x : Int32), (∀ k ∈ ks, Loc A g k) → Loc A g (swS ks kd lo x)
  | [], lo, x, _ => hd
  | k :: ks, lo, x, h => fun L st M r q hL hS hM => LocR_if q (fun q => h k List.mem_cons_self _ _ _ _ q hL hS hM) (fun q => swS_loc hd ks (lo + 1) x (fun k2 q2 => h k2 (List.mem_cons_of_mem _ q2)) _ _ _ _ q hL hS hM)
theorem swF_loc {kd : qF} {ks : List qF} {lo : Nat} (hd : Loc A g kd) (h : ∀ k ∈ ks, Loc A g k) : Loc A g (swF lo ks kd) := fun L st M r q hL hS hM => by
  obtain ⟨x, s, rfl, q⟩ := a1i_e q
  exact swS_loc hd ks lo x h _ _ _ _ q hL (okS_t hS) hM
theorem lp_loc {f : qF → qF} (h : ∀ K, Loc A g K → Loc A g (f K)) : ∀ n, Loc A g (lp f n)
  | 0 => fun L st M r q => by cases q
  | n + 1 => h _ (lp_loc h n)
theorem rI_loc : Loc A g rI := fun L st M r h hL hS hM => by
  unfold rI at h ⊢
  split at h
  · cases h; exact ⟨rfl, hM, fun i q => by cases q⟩
  · cases h
theorem rZ_loc : Loc A g rZ := fun L st M r h hL hS hM => by
  unfold rZ at h ⊢
  split at h
  · obtain ⟨hb, h⟩ := gd_e h
    cases h; exact LocR_gd hb ⟨rfl, hM, fun i q => by cases q⟩
  · cases h
theorem rL_loc : Loc A g rL := fun L st M r h hL hS hM => by
  unfold rL at h ⊢
  split at h
  · cases h; exact ⟨rfl, hM, fun i q => by cases q⟩
  · cases h
theorem rA_loc : Loc A g rA := fun L st M r h hL hS hM => by
  unfold rA at h ⊢
  split at h
  · cases h; exact ⟨rfl, hM, fun i q => by cases q; exact okS_h hS⟩
  · cases h
theorem rV_loc : Loc A g rV := fun L st M r h hL hS hM => by
  unfold rV at h ⊢
  split at h
  · cases h; exact ⟨rfl, hM, fun i q => by cases q⟩
  · cases h
theorem okL_0 {As : List Value} {n : Nat} (h : okS A As) : okL A (qL0 As n) := fun i q => by
  unfold qL0 at q
  rcases List.mem_append.mp q with q | q
  · obtain ⟨v, hv, q⟩ := List.mem_flatMap.mp q
    split at q
    · rcases List.mem_cons.mp q with e | e
      · exact h i (Option.some.inj e ▸ hv)
      · rcases List.mem_cons.mp e with e | e
        · cases e
        · cases e
    · rcases List.mem_cons.mp q with e | e
      · exact h i (Option.some.inj e ▸ hv)
      · cases e
  · have := List.eq_of_mem_replicate q
    cases this
theorem cond_loc {b : Bool} {x y : qF} (h1 : Loc A g x) (h2 : Loc A g y) : Loc A g (bif b then x else y) := by cases b <;> assumption
end

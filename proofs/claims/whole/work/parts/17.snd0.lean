theorem a1i_e {st : List Value} {f : Int32 → List Value → Option qR} {r : qR} (h : a1i st f = some r) : ∃ x s, st = .int x :: s ∧ f x s = some r := by
  unfold a1i at h
  split at h
  · exact ⟨_, _, rfl, h⟩
  · cases h
theorem a2i_e {st : List Value} {f : Int32 → Int32 → List Value → Option qR} {r : qR} (h : a2i st f = some r) : ∃ x z s, st = .int z :: .int x :: s ∧ f x z s = some r := by
  unfold a2i at h
  split at h
  · exact ⟨_, _, _, rfl, h⟩
  · cases h
theorem a1l_e {st : List Value} {f : Int64 → List Value → Option qR} {r : qR} (h : a1l st f = some r) : ∃ x s, st = .long x :: s ∧ f x s = some r := by
  unfold a1l at h
  split at h
  · exact ⟨_, _, rfl, h⟩
  · cases h
theorem a2l_e {st : List Value} {f : Int64 → Int64 → List Value → Option qR} {r : qR} (h : a2l st f = some r) : ∃ x z s, st = .long z :: .long x :: s ∧ f x z s = some r := by
  unfold a2l at h
  split at h
  · exact ⟨_, _, _, rfl, h⟩
  · cases h
theorem ail_e {st : List Value} {f : Int64 → Int32 → List Value → Option qR} {r : qR} (h : ail st f = some r) : ∃ x z s, st = .int z :: .long x :: s ∧ f x z s = some r := by
  unfold ail at h
  split at h
  · exact ⟨_, _, _, rfl, h⟩
  · cases h
theorem a1r_e {st : List Value} {f : Nat → List Value → Option qR} {r : qR} (h : a1r st f = some r) : ∃ i s, st = .ref i :: s ∧ f i s = some r := by
  unfold a1r at h
  split at h
  · exact ⟨_, _, rfl, h⟩
  · cases h
theorem air_e {st : List Value} {f : Int32 → Nat → List Value → Option qR} {r : qR} (h : air st f = some r) : ∃ j i s, st = .int j :: .ref i :: s ∧ f j i s = some r := by
  unfold air at h
  split at h
  · exact ⟨_, _, _, rfl, h⟩
  · cases h
theorem axr_e {st : List Value} {f : Int32 → Int32 → Nat → List Value → Option qR} {r : qR} (h : axr st f = some r) : ∃ x j i s, st = .int x :: .int j :: .ref i :: s ∧ f x j i s = some r := by
  unfold axr at h
  split at h
  · exact ⟨_, _, _, _, rfl, h⟩
  · cases h
theorem alr_e {st : List Value} {f : Int64 → Int32 → Nat → List Value → Option qR} {r : qR} (h : alr st f = some r) : ∃ x j i s, st = .long x :: .int j :: .ref i :: s ∧ f x j i s = some r := by
  unfold alr at h
  split at h
  · exact ⟨_, _, _, _, rfl, h⟩
  · cases h
theorem arr_e {st : List Value} {f : Nat → Int32 → Nat → List Value → Option qR} {r : qR} (h : arr st f = some r) : ∃ x j i s, st = .ref x :: .int j :: .ref i :: s ∧ f x j i s = some r := by
  unfold arr at h
  split at h
  · exact ⟨_, _, _, _, rfl, h⟩
  · cases h
theorem ald_e {L : List (Option Value)} {i : Nat} {f : Value → Option qR} {r : qR} (h : ald L i f = some r) : ∃ v, L[i]? = some (some v) ∧ f v = some r := by
  unfold ald at h
  rw [qix_get] at h
  split at h
  · next v hv => exact ⟨v, hv, h⟩
  · cases h
theorem gd_e {b : Prop} {x : Option qR} {r : qR} (h : gd b x = some r) : b ∧ x = some r := by
  unfold gd at h
  by_cases hb : b
  · rw [if_pos hb] at h; exact ⟨hb, h⟩
  · rw [if_neg hb] at h; cases h
theorem atake_e : ∀ {n : Nat} {st acc : List Value} {f : List Value → List Value → Option qR} {r : qR}, atake n st acc f = some r → ∃ As s, st = As.reverse ++ s ∧ As.length = n ∧ f (As ++ acc) s = some r
  | 0, st, acc, f, r, h => ⟨[], st, rfl, rfl, h⟩
  | n + 1, [], acc, f, r, h => by cases h
  | n + 1, v :: st, acc, f, r, h => by
    obtain ⟨As, s, e1, e2, e3⟩ := atake_e (n := n) (st := st) (acc := v :: acc) h
    refine ⟨As ++ [v], s, ?_, ?_, ?_⟩
    · rw [e1]; simp
    · simp [e2]
    · simpa using e3
theorem qcats_le : ∀ s : List Value, qcats s ≤ 2 * s.length
  | [] => Nat.le_refl _
  | v :: s => by
    have h := qcats_le s
    unfold qcats
    rw [List.length_cons]
    split <;> omega
theorem acal_e {c : qV} {a : Nat} {As s : List Value} {M : qMe} {f : List Value → qMe → Option qR} {r : qR} (h : acal c a As s M f = some r) : ∃ r1, qcats s ≤ 8 ∧ c a As M = some r1 ∧ f (r1.1.toList ++ s) r1.2 = some r := by
  unfold acal at h
  obtain ⟨h8, h⟩ := gd_e h
  unfold aK at h
  split at h
  · cases h
  · next r1 hr =>
    refine ⟨r1, ?_, hr, h⟩
    rcases h8 with q | q
    · exact Nat.le_trans (qcats_le s) (by omega)
    · exact q
theorem qskc_0 {a b : Nat} (h100 : a < 100) : (qskc a b = 0 → qsk a b = 0 ∧ qty a b ≠ .boolean) ∧ (qskc a b = 1 → qsk a b = 1) ∧ (qskc a b = 2 → qsk a b = 2) ∧ (qskc a b = 3 → qsk a b = 0 ∧ qty a b = .boolean) ∧ qskc a b ≤ 3 := by
  unfold qskc qsk qfk
  rw [if_pos h100]
  cases qty a b <;> simp
theorem mV_q {M : qMe} {a b i : Nat} (h100 : a < 100) : mV M (qskc a b) i b = qmv M a i b := by
  obtain ⟨h0, h1, h2, h3, h4⟩ := qskc_0 (b := b) h100
  unfold mV qmv
  rcases (show qskc a b = 0 ∨ qskc a b = 1 ∨ qskc a b = 2 ∨ qskc a b = 3 by omega) with q | q | q | q
  · rw [q, (h0 q).1]; rfl
  · rw [q, h1 q]; rfl
  · rw [q, h2 q]; rfl
  · rw [q, (h3 q).1]; rfl
theorem ofNat_iz (n : Nat) : Int32.ofNat n = iz (n : Int) := by
  unfold iz
  exact Int32.ofInt_eq_ofNat.symm
theorem inB_vp {j : Int32} {n : Nat} (h : inB j n) : vp_in j n := by
  intro q
  rcases q with q | q
  · exact absurd h.1 (Int32.not_le.mpr q)
  · have := h.2; omega
theorem is01_b {x : Int32} (h : is01 x) : narrow .boolean (.int x) = .int x ∧ fits .boolean (.int x) = true := by
  rcases h with rfl | rfl
  · exact ⟨rfl, rfl⟩
  · exact ⟨rfl, rfl⟩

/-- what the table of calls says is so, d frames deep -/
def qvok (G : qG) (d : Nat) (c : qV) : Prop := ∀ y As M r, c y As M = some r → y ∈ qys → qcats As ≤ qml y ∧ qsem G d y 0 (qL0 As (qml y)) [] M r
/-- f is what happens from pc on -/
def Snd (G : qG) (d y pc : Nat) (f : qF) : Prop := ∀ L st M r, f L st M = some r → qsem G d y pc L st M r
/-- the place behind a plain instruction -/
def qnx (e : qE) (pc : Nat) : Nat := match e.1 with
  | .goto _ => e.2.2.1
  | _ => pc + e.2.1
theorem qty_i0 : (List.range 12).all (fun a => (List.range (qNN a)).all (fun b => !(Nat.beq (qsk a b) 0) || (decide (qty a b = .int) || decide (qty a b = .boolean)))) = true := by decide +kernel
theorem qty_int {a b : Nat} {q : vw_C} (hc : qcl[a]? = some q) (hb : b < qNN a) (hs : qsk a b = 0) : qty a b = .int ∨ qty a b = .boolean := by
  have ha : a < 12 := (List.getElem?_eq_some_iff.mp hc).1
  have h1 := List.all_eq_true.mp (List.all_eq_true.mp qty_i0 a (List.mem_range.mpr ha)) b (List.mem_range.mpr hb)
  rw [hs] at h1
  simpa using h1
def okI (y : Nat) (e : qE) : Bool := match e.1 with
  | .istore_n k => Nat.blt k (qml y)
  | .istore k => Nat.blt k (qml y)
  | .astore_n k => Nat.blt k (qml y)
  | .astore k => Nat.blt k (qml y)
  | .lstore_n k => Nat.blt (k + 1) (qml y)
  | .lstore k => Nat.blt (k + 1) (qml y)
  | .iinc k _ => Nat.blt k (qml y)
  | .ldc_w _ => Nat.beq e.2.2.1 0
  | .invokestatic _ => Nat.blt e.2.2.1 990 || [991, 992, 993, 994, 998].elem e.2.2.1
  | .invokevirtual _ => Nat.blt e.2.2.1 990 || [995, 996].elem e.2.2.1
  | .bipush n => decide ((Int8.ofInt n).toInt32 = Int32.ofInt n)
  | .sipush n => decide ((Int16.ofInt n).toInt32 = Int32.ofInt n)
  | .getfield _ => Nat.beq e.2.2.2.2.toNat (qskc e.2.2.1 e.2.2.2.1)
  | .putfield _ => Nat.beq e.2.2.2.2.toNat (qskc e.2.2.1 e.2.2.2.1)
  | _ => true

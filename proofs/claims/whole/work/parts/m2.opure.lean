/-! ORDERS as pure functions -/
noncomputable def ifC {α : Type} (p : Prop) (a b : α) : α := @ite α p (Classical.propDecidable p) a b
theorem ifC_t {α : Type} {p : Prop} {a b : α} (h : p) : ifC p a b = a := @if_pos p (Classical.propDecidable p) h α a b
theorem ifC_f {α : Type} {p : Prop} {a b : α} (h : ¬ p) : ifC p a b = b := @if_neg p (Classical.propDecidable p) h α a b
/-- the words of ORDERS -/
def envM (M : qMe) (dn cm ls : Int) (k : Nat) : Int := if k = 0 then mZ M 481 260 else if k = 1 then smI (fun w => if mZ M 481 (206 + 3 * w) = 0 then 1 else 0) 0 (mZ M 481 266).toNat 0 else if k = 2 then smI (fun c => if 0 < mZ M 481 (80 + c) then 1 else 0) 0 80 0 else if k = 3 then dn else if k = 4 then cm else if k = 5 then ls else 0
theorem envM_e {M : qMe} {dn cm ls : Int} : envM M dn cm ls 0 = mZ M 481 260 ∧ envM M dn cm ls 1 = smI (fun w => if mZ M 481 (206 + 3 * w) = 0 then 1 else 0) 0 (mZ M 481 266).toNat 0 ∧ envM M dn cm ls 2 = smI (fun c => if 0 < mZ M 481 (80 + c) then 1 else 0) 0 80 0 ∧ envM M dn cm ls 3 = dn ∧ envM M dn cm ls 4 = cm ∧ envM M dn cm ls 5 = ls := by
  unfold envM
  refine ⟨?_, ?_, ?_, ?_, ?_, ?_⟩
  · rw [if_pos rfl]
  · rw [if_neg (by decide), if_pos rfl]
  · rw [if_neg (by decide), if_neg (by decide), if_pos rfl]
  · rw [if_neg (by decide), if_neg (by decide), if_neg (by decide), if_pos rfl]
  · rw [if_neg (by decide), if_neg (by decide), if_neg (by decide), if_neg (by decide), if_pos rfl]
  · rw [if_neg (by decide), if_neg (by decide), if_neg (by decide), if_neg (by decide), if_neg (by decide), if_pos rfl]
theorem envM_k {M M1 : qMe} {dn cm ls : Int} (h : ∀ k, mZ M1 481 k = mZ M 481 k) : envM M1 dn cm ls = envM M dn cm ls := by
  unfold envM
  simp only [h]
theorem smI_b {f : Nat → Int} : ∀ (k i : Nat) (s : Int), (∀ j, i ≤ j → j < i + k → 0 ≤ f j ∧ f j ≤ 1) → s ≤ smI f i k s ∧ smI f i k s ≤ s + k
  | 0, i, s, _ => by rw [smI]; omega
  | k + 1, i, s, h => by
    have ih := smI_b (f := f) k (i + 1) (s + f i) (fun j a b => h j (by omega) (by omega))
    have := h i (by omega) (by omega)
    rw [smI]
    omega
theorem envM_b {M : qMe} {dn cm ls : Int} (hw : WFk M 481 0) (h1 : 0 ≤ dn ∧ dn ≤ 1000) (h2 : 0 ≤ cm ∧ cm ≤ 1000) (h3 : -1 ≤ ls ∧ ls ≤ 1000) (k : Nat) : -1 ≤ envM M dn cm ls k ∧ envM M dn cm ls k ≤ 1000 := by
  have s := WFk_s hw
  have a1 := smI_b (f := fun w => if mZ M 481 (206 + 3 * w) = 0 then (1 : Int) else 0) (mZ M 481 266).toNat 0 0 (fun j _ _ => by show 0 ≤ (if mZ M 481 (206 + 3 * j) = 0 then (1 : Int) else 0) ∧ (if mZ M 481 (206 + 3 * j) = 0 then (1 : Int) else 0) ≤ 1; split <;> omega)
  have a2 := smI_b (f := fun c => if 0 < mZ M 481 (80 + c) then (1 : Int) else 0) 80 0 0 (fun j _ _ => by show 0 ≤ (if 0 < mZ M 481 (80 + j) then (1 : Int) else 0) ∧ (if 0 < mZ M 481 (80 + j) then (1 : Int) else 0) ≤ 1; split <;> omega)
  unfold envM
  split
  · omega
  · split
    · omega
    · split
      · omega
      · split
        · omega
        · split
          · omega
          · split <;> omega
/-- row, what can be undone, how many; done, came, last -/
abbrev OS : Type := (Nat → Int32) × (Nat → Int32) × Int32 × Int × Int × Int
def gO (B : qMe) (o : OS) : qMe := gm B o.1 o.2.1 o.2.2.1
def eO (B : qMe) (o : OS) : Nat → Int := envM (gO B o) o.2.2.2.1 o.2.2.2.2.1 o.2.2.2.2.2
def sumsV : List (Nat × Den) → (Nat → Int) → Option (List Int)
  | [], _ => some []
  | s :: ss, e => match s.2 e with
    | none => none
    | some z => match sumsV ss e with
      | none => none
      | some zs => some (z :: zs)
def castZ (z : Nat → Int) : Int := 160 * z 0 + 40 * z 1 + 10 * z 2 + z 3
/-- an ORDER of a kind can be run with these SUMS -/
def canO (G : qMe) (k : Nat) (z : Nat → Int) : Prop := (k = 2 ∧ mZ G 481 260 < 99) ∨ (k = 1 ∧ (0 ≤ z 0 ∧ z 0 ≤ 79) ∧ 0 ≤ z 1 ∧ z 1 ≤ 9) ∨ (k = 0 ∧ (0 ≤ z 0 ∧ z 0 ≤ 7) ∧ (0 ≤ z 1 ∧ z 1 ≤ 3) ∧ (0 ≤ z 2 ∧ z 2 ≤ 3) ∧ (1 ≤ z 3 ∧ z 3 ≤ 9) ∧ isT G (castZ z))
theorem canO_k {G G1 : qMe} {k : Nat} {z : Nat → Int} (h : ∀ k, mZ G1 481 k = mZ G 481 k) : canO G1 k z ↔ canO G k z := by
  unfold canO
  rw [isT_k h, h]
def updR (r : Nat → Int32) (k : Nat) (x : Int32) (j : Nat) : Int32 := if j = k then x else r j
/-- the row behind a send -/
noncomputable def sendR (G : qMe) (c : Int) (k : Nat) : Int32 :=
  if 80 ≤ k ∧ k < 160 then iz (cut0 (ql (castQ G (-1) c)) (fun j => mZ G 481 (80 + j)) (k - 80))
  else if 206 ≤ k ∧ k ≤ 227 ∧ (k - 206) % 3 = 0 then (if (((k - 206) / 3 : Nat) : Int) = c / 160 then iz 1 else mI G 481 k)
  else if 162 ≤ k ∧ k ≤ 198 ∧ (k - 162) % 5 = 0 then iz (upn (comeP G c) (comeV G c) (fun j => mZ G 481 (162 + 5 * j)) ((k - 162) / 5))
  else if 162 ≤ k ∧ k ≤ 198 ∧ (k - 162) % 5 = 1 then iz (upn (eatP G c) (comeV G c) (fun j => mZ G 481 (163 + 5 * j)) ((k - 162) / 5))
  else mI G 481 k
/-- what can be undone behind a send -/
def snapR (G : qMe) (c : Int) (j : Nat) : Int32 := if j < 80 then mI G 481 (80 + j) else if j < 88 then mI G 481 (206 + 3 * (j - 80)) else if j < 104 then mI G 481 (162 + 5 * ((j - 88) / 2) + (j - 88) % 2) else iz c
def leftR (G : qMe) (s : Nat) (c : Int) (k : Nat) : Int32 := if s < 8 then (if k < 105 * s then mI G 501 k else snapR G c (k - 105 * s)) else (if k < 735 then mI G 501 (k + 105) else snapR G c (k - 735))
def s1R (s : Nat) : Nat := if s < 8 then s + 1 else 8
noncomputable def doO (B : qMe) (k : Nat) (z : Nat → Int) (o : OS) : OS :=
  if k = 2 then (updR o.1 260 (iz (mZ (gO B o) 481 260 + 1)), o.2.1, o.2.2.1, o.2.2.2.1 + 1, o.2.2.2.2.1, o.2.2.2.2.2)
  else if k = 1 then (updR o.1 (80 + (z 0).toNat) (iz (z 1)), o.2.1, o.2.2.1, o.2.2.2.1 + 1, o.2.2.2.2.1, o.2.2.2.2.2)
  else (sendR (gO B o) (castZ z), leftR (gO B o) o.2.2.1.toInt.toNat (castZ z), iz ((s1R o.2.2.1.toInt.toNat : Nat) : Int), o.2.2.2.1 + 1, o.2.2.2.2.1 + ifC (comeP (gO B o) (castZ z)) 1 0, qp (castQ (gO B o) (-1) (castZ z)))
def andO (x : Option (List Int)) (k : List Int → Option OS) : Option OS := match x with
  | none => none
  | some zs => k zs
/-- an ORDER once; none: it can't be -/
noncomputable def tryO (B : qMe) (it : Itm) (o : OS) : Option OS :=
  if itest it.2.2.1 (eO B o) = some true then andO (sumsV it.2.1 (eO B o)) (fun zs => ifC (canO (gO B o) it.1 (fun j => zs.getD j 0)) (some (doO B it.1 (fun j => zs.getD j 0) o)) none) else some o
noncomputable def repO (B : qMe) (it : Itm) : Nat → OS → Option OS
  | 0, o => some o
  | n + 1, o => match tryO B it o with
    | none => none
    | some o1 => repO B it n o1
/-- all ORDERS of a TEXT; how far: well run, or which can't be -/
noncomputable def runO (B : qMe) : List Itm → Nat → OS → Bool × Nat × OS
  | [], i, o => (true, i, o)
  | it :: is, i, o => match repO B it it.2.2.2.toNat o with
    | none => (false, i, o)
    | some o1 => runO B is (i + 1) o1
theorem sendR_Z {G : qMe} {c : Int} : (∀ j : Nat, j < 80 → (sendR G c (80 + j)).toInt = cut0 (ql (castQ G (-1) c)) (fun j => mZ G 481 (80 + j)) j) ∧ (∀ j : Nat, j < 8 → (sendR G c (206 + 3 * j)).toInt = if (j : Int) = c / 160 then 1 else mZ G 481 (206 + 3 * j)) ∧ (∀ j : Nat, j < 8 → (sendR G c (162 + 5 * j)).toInt = upn (comeP G c) (comeV G c) (fun j => mZ G 481 (162 + 5 * j)) j) ∧ (∀ j : Nat, j < 8 → (sendR G c (163 + 5 * j)).toInt = upn (eatP G c) (comeV G c) (fun j => mZ G 481 (163 + 5 * j)) j) ∧ (∀ k : Nat, ¬ chg k → (sendR G c k).toInt = mZ G 481 k) := by
  have up : ∀ (p : Prop) (h : Int) (f : Nat → Int) (j : Nat), (∀ j, -2147483648 ≤ f j ∧ f j < 2147483648) → (iz (upn p h f j)).toInt = upn p h f j := fun p h f j b => by
    have : -2147483648 ≤ upn p h f j ∧ upn p h f j < 2147483648 := by
      by_cases q : p ∧ (j : Int) = h
      · rw [upn_t q.1 q.2]; exact inc_b
      · by_cases q1 : p
        · rw [upn_n (fun z => q ⟨q1, z⟩)]; exact b j
        · rw [upn_f q1]; exact b j
    exact iz_toInt this.1 this.2
  have zb : ∀ i k, -2147483648 ≤ mZ G i k ∧ mZ G i k < 2147483648 := fun i k => ⟨mZ_ge _ _ _, mZ_lt _ _ _⟩
  refine ⟨fun j q => ?_, fun j q => ?_, fun j q => ?_, fun j q => ?_, fun k q => ?_⟩
  · unfold sendR
    rw [if_pos (by omega), show 80 + j - 80 = j by omega]
    have : -2147483648 ≤ cut0 (ql (castQ G (-1) c)) (fun j => mZ G 481 (80 + j)) j ∧ cut0 (ql (castQ G (-1) c)) (fun j => mZ G 481 (80 + j)) j < 2147483648 := by
      unfold cut0
      split
      · decide
      · exact zb _ _
    exact iz_toInt this.1 this.2
  · unfold sendR
    rw [if_neg (by omega), if_pos (by omega), show (206 + 3 * j - 206) / 3 = j by omega]
    split
    · rfl
    · rfl
  · unfold sendR
    rw [if_neg (by omega), if_neg (by omega), if_pos (by omega), show (162 + 5 * j - 162) / 5 = j by omega]
    exact up _ _ _ _ (fun j => zb _ _)
  · unfold sendR
    rw [if_neg (by omega), if_neg (by omega), if_neg (by omega), if_pos (by omega), show (163 + 5 * j - 162) / 5 = j by omega]
    exact up _ _ _ _ (fun j => zb _ _)
  · unfold chg at q
    unfold sendR
    rw [if_neg (by omega), if_neg (by omega), if_neg (by omega), if_neg (by omega)]
    rfl
/-- a memory whose row is that behind the send -/
theorem SdR_of {G M1 : qMe} {c : Int} (h : ∀ k, mI M1 481 k = sendR G c k) : SdR G M1 c := by
  obtain ⟨a1, a2, a3, a4, a5⟩ := sendR_Z (G := G) (c := c)
  have z : ∀ k, mZ M1 481 k = (sendR G c k).toInt := fun k => congrArg Int32.toInt (h k)
  exact ⟨fun j q => by rw [z]; exact a1 j q, fun j q => by rw [z]; exact a2 j q, fun j q => by rw [z]; exact a3 j q, fun j q => by rw [z]; exact a4 j q, fun k q => by rw [z]; exact a5 k q⟩
theorem I_of_Z {x y : Int32} (h : x.toInt = y.toInt) : x = y := Int32.toInt_inj.mp h
/-- and the other way round -/
theorem SdR_r {G M1 : qMe} {c : Int} (h : SdR G M1 c) : ∀ k, mI M1 481 k = sendR G c k := by
  obtain ⟨a1, a2, a3, a4, a5⟩ := sendR_Z (G := G) (c := c)
  obtain ⟨b1, b2, b3, b4, b5⟩ := h
  intro k
  refine I_of_Z ?_
  show mZ M1 481 k = _
  by_cases q : chg k
  · unfold chg at q
    rcases q with q | q | ⟨q1, q2, q3 | q3⟩
    · obtain ⟨j, rfl⟩ : ∃ j, k = 80 + j := ⟨k - 80, by omega⟩
      rw [b1 j (by omega), a1 j (by omega)]
    · obtain ⟨j, rfl⟩ : ∃ j, k = 206 + 3 * j := ⟨(k - 206) / 3, by omega⟩
      rw [b2 j (by omega), a2 j (by omega)]
    · obtain ⟨j, rfl⟩ : ∃ j, k = 162 + 5 * j := ⟨(k - 162) / 5, by omega⟩
      rw [b3 j (by omega), a3 j (by omega)]
    · obtain ⟨j, rfl⟩ : ∃ j, k = 163 + 5 * j := ⟨(k - 163) / 5, by omega⟩
      rw [b4 j (by omega), a4 j (by omega)]
  · rw [b5 k q, a5 k q]
theorem snapR_Z {G : qMe} {c : Int} (hc : 0 ≤ c ∧ c ≤ 1279) : (∀ j : Nat, j < 80 → (snapR G c j).toInt = mZ G 481 (80 + j)) ∧ (∀ j : Nat, j < 8 → (snapR G c (80 + j)).toInt = mZ G 481 (206 + 3 * j)) ∧ (∀ j : Nat, j < 16 → (snapR G c (88 + j)).toInt = mZ G 481 (162 + 5 * (j / 2) + j % 2)) ∧ (snapR G c 104).toInt = c := by
  unfold snapR
  refine ⟨fun j q => ?_, fun j q => ?_, fun j q => ?_, ?_⟩
  · rw [if_pos q]; rfl
  · rw [if_neg (by omega), if_pos (by omega), show 80 + j - 80 = j by omega]; rfl
  · rw [if_neg (by omega), if_neg (by omega), if_pos (by omega), show 88 + j - 88 = j by omega]; rfl
  · rw [if_neg (by omega), if_neg (by omega), if_neg (by omega)]
    exact iz_toInt (by omega) (by omega)
theorem LfR_of {G M1 : qMe} {s : Nat} {c : Int} (hc : 0 ≤ c ∧ c ≤ 1279) (s8 : s ≤ 8) (h : ∀ k, mI M1 501 k = leftR G s c k) (h2 : mZ M1 479 47 = ((s1R s : Nat) : Int)) : LfR G M1 s c := by
  have z : ∀ k, mZ M1 501 k = (leftR G s c k).toInt := fun k => congrArg Int32.toInt (h k)
  obtain ⟨p1, p2, p3, p4⟩ := snapR_Z (G := G) hc
  by_cases e : s < 8
  · have l1 : ∀ j, leftR G s c (105 * s + j) = snapR G c j := fun j => by
      unfold leftR
      rw [if_pos e, if_neg (by omega), show 105 * s + j - 105 * s = j by omega]
    refine ⟨s, 0, Or.inl ⟨e, rfl, rfl⟩, fun k q => ?_, ⟨fun j q => ?_, fun j q => ?_, fun j q => ?_, ?_⟩, ?_⟩
    · rw [z]
      unfold leftR
      rw [if_pos e, if_pos q]
      rfl
    · rw [z, l1]; exact p1 j q
    · rw [z, show 105 * s + 80 + j = 105 * s + (80 + j) by omega, l1]; exact p2 j q
    · rw [z, show 105 * s + 88 + j = 105 * s + (88 + j) by omega, l1]; exact p3 j q
    · rw [z, l1]; exact p4
    · rw [h2]
      unfold s1R
      rw [if_pos e]
      omega
  · have e8 : s = 8 := by omega
    have l1 : ∀ j, leftR G s c (105 * 7 + j) = snapR G c j := fun j => by
      unfold leftR
      rw [if_neg e, if_neg (by omega), show 105 * 7 + j - 735 = j by omega]
    refine ⟨7, 105, Or.inr ⟨e8, rfl, rfl⟩, fun k q => ?_, ⟨fun j q => ?_, fun j q => ?_, fun j q => ?_, ?_⟩, ?_⟩
    · rw [z]
      unfold leftR
      rw [if_neg e, if_pos (by omega)]
      rfl
    · rw [z, l1]; exact p1 j q
    · rw [z, show 105 * 7 + 80 + j = 105 * 7 + (80 + j) by omega, l1]; exact p2 j q
    · rw [z, show 105 * 7 + 88 + j = 105 * 7 + (88 + j) by omega, l1]; exact p3 j q
    · rw [z, l1]; exact p4
    · rw [h2]
      unfold s1R
      rw [if_neg e]
      omega
/-- m's own left against the pure one, as far as it counts -/
theorem LfR_l {G M1 : qMe} {s : Nat} {c : Int} (hc : 0 ≤ c ∧ c ≤ 1279) (s8 : s ≤ 8) (h : LfR G M1 s c) : (∀ k : Nat, k < 105 * s1R s → mI M1 501 k = leftR G s c k) ∧ mZ M1 479 47 = ((s1R s : Nat) : Int) := by
  obtain ⟨p1, p2, p3, p4⟩ := snapR_Z (G := G) hc
  obtain ⟨s', oo, hs, b1, ⟨k1, k2, k3, k4⟩, b3⟩ := h
  have sn : ∀ j, j < 105 → mZ M1 501 (105 * s' + j) = (snapR G c j).toInt := fun j q => by
    by_cases j1 : j < 80
    · rw [k1 j j1]; exact (p1 j j1).symm
    · by_cases j2 : j < 88
      · have := k2 (j - 80) (by omega)
        rw [show 105 * s' + 80 + (j - 80) = 105 * s' + j by omega] at this
        rw [this]
        have := p2 (j - 80) (by omega)
        rw [show 80 + (j - 80) = j by omega] at this
        exact this.symm
      · by_cases j3 : j < 104
        · have := k3 (j - 88) (by omega)
          rw [show 105 * s' + 88 + (j - 88) = 105 * s' + j by omega] at this
          rw [this]
          have := p3 (j - 88) (by omega)
          rw [show 88 + (j - 88) = j by omega] at this
          exact this.symm
        · rw [show j = 104 by omega, k4]; exact p4.symm
  have e1 : s1R s = s' + 1 := by
    unfold s1R
    rcases hs with ⟨q1, q2, -⟩ | ⟨q1, q2, -⟩
    · rw [if_pos q1]; omega
    · rw [if_neg (by omega)]; omega
  refine ⟨fun k q => I_of_Z ?_, by rw [b3, e1]; omega⟩
  show mZ M1 501 k = _
  by_cases kk : k < 105 * s'
  · rw [b1 k kk]
    unfold leftR
    rcases hs with ⟨q1, q2, q3⟩ | ⟨q1, q2, q3⟩
    · rw [if_pos q1, if_pos (by omega), q3]; rfl
    · rw [if_neg (by omega), if_pos (by omega), q3]; rfl
  · obtain ⟨j, rfl⟩ : ∃ j, k = 105 * s' + j := ⟨k - 105 * s', by omega⟩
    rw [sn j (by omega)]
    unfold leftR
    rcases hs with ⟨q1, q2, q3⟩ | ⟨q1, q2, q3⟩
    · rw [if_pos q1, if_neg (by omega), q2, show 105 * s + j - 105 * s = j by omega]
    · rw [if_neg (by omega), if_neg (by omega), q2, show 105 * 7 + j - 735 = j by omega]

/-! what holds behind a run; branches decided by hypotheses -/
def wp (o : Option qR) (P : Option Value → qMe → Prop) : Prop := ∃ v M, o = some (v, M) ∧ P v M
theorem wp_some {v : Option Value} {M : qMe} {P : Option Value → qMe → Prop} : wp (some (v, M)) P = P v M := propext ⟨fun ⟨_, _, e, h⟩ => by cases e; exact h, fun h => ⟨v, M, rfl, h⟩⟩
theorem wp_mono {o : Option qR} {P Q : Option Value → qMe → Prop} (h : wp o P) (k : ∀ v M, P v M → Q v M) : wp o Q := by
  obtain ⟨v, M, e, p⟩ := h
  exact ⟨v, M, e, k v M p⟩
theorem wp_and {o : Option qR} {P Q : Option Value → qMe → Prop} (h : wp o P) (k : wp o Q) : wp o (fun v M => P v M ∧ Q v M) := by
  obtain ⟨v, M, e, p⟩ := h
  obtain ⟨v2, M2, e2, q⟩ := k
  rw [e] at e2
  cases e2
  exact ⟨v, M, e, p, q⟩
/-- it answers an int -/
def wI (o : Option qR) (Q : Int → qMe → Prop) : Prop := ∃ z M, o = some (some (.int (iz z)), M) ∧ Q z M
/-- it answers yes or no -/
def wB (o : Option qR) (Q : Prop → qMe → Prop) : Prop := ∃ p M, o = some (some (.int (bz p)), M) ∧ Q p M
/-- it answers nothing -/
def wV (o : Option qR) (Q : qMe → Prop) : Prop := ∃ M, o = some (none, M) ∧ Q M
def lz (n : Int) : Int64 := Int64.ofInt n
/-- it answers a long -/
def wL (o : Option qR) (Q : Int → qMe → Prop) : Prop := ∃ z M, o = some (some (.long (lz z)), M) ∧ Q z M
def pI (Q : Int → qMe → Prop) : Option Value → qMe → Prop := fun v M => ∃ z, v = some (.int (iz z)) ∧ Q z M
def pB (Q : Prop → qMe → Prop) : Option Value → qMe → Prop := fun v M => ∃ p, v = some (.int (bz p)) ∧ Q p M
def pV (Q : qMe → Prop) : Option Value → qMe → Prop := fun v M => v = none ∧ Q M
def pL (Q : Int → qMe → Prop) : Option Value → qMe → Prop := fun v M => ∃ z, v = some (.long (lz z)) ∧ Q z M
theorem wI_p {o : Option qR} {Q : Int → qMe → Prop} (h : wp o (pI Q)) : wI o Q := by
  obtain ⟨v, M, e, z, r, q⟩ := h
  exact ⟨z, M, by rw [e, r], q⟩
theorem wB_p {o : Option qR} {Q : Prop → qMe → Prop} (h : wp o (pB Q)) : wB o Q := by
  obtain ⟨v, M, e, z, r, q⟩ := h
  exact ⟨z, M, by rw [e, r], q⟩
theorem wV_p {o : Option qR} {Q : qMe → Prop} (h : wp o (pV Q)) : wV o Q := by
  obtain ⟨v, M, e, r, q⟩ := h
  exact ⟨M, by rw [e, r], q⟩
theorem wL_p {o : Option qR} {Q : Int → qMe → Prop} (h : wp o (pL Q)) : wL o Q := by
  obtain ⟨v, M, e, z, r, q⟩ := h
  exact ⟨z, M, by rw [e, r], q⟩
theorem pI_i {Q : Int → qMe → Prop} {z : Int} {M : qMe} (h : Q z M) : pI Q (some (.int (iz z))) M := ⟨z, rfl, h⟩
theorem pB_i {Q : Prop → qMe → Prop} {p : Prop} {M : qMe} (h : Q p M) : pB Q (some (.int (bz p))) M := ⟨p, rfl, h⟩
theorem pB_1 {Q : Prop → qMe → Prop} {M : qMe} (h : Q True M) : pB Q (some (.int (iz 1))) M := ⟨True, by rw [bz_T], h⟩
theorem pB_0 {Q : Prop → qMe → Prop} {M : qMe} (h : Q False M) : pB Q (some (.int (iz 0))) M := ⟨False, by rw [bz_F], h⟩
theorem pV_i {Q : qMe → Prop} {M : qMe} (h : Q M) : pV Q none M := ⟨rfl, h⟩
theorem pL_i {Q : Int → qMe → Prop} {z : Int} {M : qMe} (h : Q z M) : pL Q (some (.long (lz z))) M := ⟨z, rfl, h⟩
theorem wI_mono {o : Option qR} {P Q : Int → qMe → Prop} (h : wI o P) (k : ∀ z M, P z M → Q z M) : wI o Q := by
  obtain ⟨z, M, e, p⟩ := h
  exact ⟨z, M, e, k z M p⟩
theorem wV_mono {o : Option qR} {P Q : qMe → Prop} (h : wV o P) (k : ∀ M, P M → Q M) : wV o Q := by
  obtain ⟨M, e, p⟩ := h
  exact ⟨M, e, k M p⟩
section
variable {o : Option qR} {s : List Value} {f : List Value → qMe → Option qR} {P : Option Value → qMe → Prop}
theorem wp_cI {Q : Int → qMe → Prop} (h : wI o Q) (k : ∀ z M, Q z M → wp (f (.int (iz z) :: s) M) P) : wp (aK o s f) P := by
  obtain ⟨z, M, e, q⟩ := h
  rw [e]
  exact k z M q
theorem wp_cB {Q : Prop → qMe → Prop} (h : wB o Q) (k : ∀ p M, Q p M → wp (f (.int (bz p) :: s) M) P) : wp (aK o s f) P := by
  obtain ⟨z, M, e, q⟩ := h
  rw [e]
  exact k z M q
theorem wp_cV {Q : qMe → Prop} (h : wV o Q) (k : ∀ M, Q M → wp (f s M) P) : wp (aK o s f) P := by
  obtain ⟨M, e, q⟩ := h
  rw [e]
  exact k M q
theorem wp_cL {Q : Int → qMe → Prop} (h : wL o Q) (k : ∀ z M, Q z M → wp (f (.long (lz z) :: s) M) P) : wp (aK o s f) P := by
  obtain ⟨z, M, e, q⟩ := h
  rw [e]
  exact k z M q
end
/-- a loop: k bounds how often it goes around yet -/
theorem wp_lp {f : qF → qF} {P : Option Value → qMe → Prop} (I : Nat → List (Option Value) → qMe → Prop) (hs : ∀ (k : Nat) (L : List (Option Value)) (M : qMe) (g : qF), I k L M → (∀ (k' : Nat) (L' : List (Option Value)) (M' : qMe), k' < k → I k' L' M' → wp (g L' [] M') P) → wp (f g L [] M) P) : ∀ (n k : Nat) (L : List (Option Value)) (M : qMe), I k L M → k < n → wp (lp f n L [] M) P
  | 0, k, L, M, _, hk => by omega
  | n + 1, k, L, M, h, hk => hs k L M (lp f n) h (fun k' L' M' hk' h' => wp_lp I hs n k' L' M' h' (by omega))
theorem wp_lpq {f : qF → qF} {P : Option Value → qMe → Prop} (I : Nat → List (Option Value) → qMe → Prop) {k : Nat} {L : List (Option Value)} {M : qMe} (h : I k L M) (hk : k < 100000) (hs : ∀ (k : Nat) (L : List (Option Value)) (M : qMe) (g : qF), I k L M → (∀ (k' : Nat) (L' : List (Option Value)) (M' : qMe), k' < k → I k' L' M' → wp (g L' [] M') P) → wp (f g L [] M) P) : wp (lp f qLF L [] M) P := wp_lp I hs qLF k L M h (Nat.lt_of_lt_of_le hk qLF_ge)
section
variable {l a b : Nat} {e n x z : Int} {kt kf k kd : qF} {L : List (Option Value)} {s : List Value} {M : qMe} {p : Prop} {lo : Nat} {ks : List qF}
theorem bi_eq_t (h1 : -2147483648 ≤ x) (h2 : x < 2147483648) (h3 : -2147483648 ≤ z) (h4 : z < 2147483648) (h : x = z) : bF (.if_icmp .eq n, l, a, b, e) kt kf L (.int (iz z) :: .int (iz x) :: s) M = kt L s M := by
  refine b_ieq.trans (if_pos ?_)
  rw [iz_eq h1 h2 h3 h4]
  exact h
theorem bc_eq_t (h1 : -2147483648 ≤ x) (h2 : x < 2147483648) (h : x = 0) : bF (.ifCond .eq n, l, a, b, e) kt kf L (.int (iz x) :: s) M = kt L s M := by
  refine b_ceq.trans (if_pos ?_)
  rw [iz_eq h1 h2 (by decide) (by decide)]
  exact h
theorem bi_eq_f (h1 : -2147483648 ≤ x) (h2 : x < 2147483648) (h3 : -2147483648 ≤ z) (h4 : z < 2147483648) (h : ¬ (x = z)) : bF (.if_icmp .eq n, l, a, b, e) kt kf L (.int (iz z) :: .int (iz x) :: s) M = kf L s M := by
  refine b_ieq.trans (if_neg ?_)
  rw [iz_eq h1 h2 h3 h4]
  exact h
theorem bc_eq_f (h1 : -2147483648 ≤ x) (h2 : x < 2147483648) (h : ¬ (x = 0)) : bF (.ifCond .eq n, l, a, b, e) kt kf L (.int (iz x) :: s) M = kf L s M := by
  refine b_ceq.trans (if_neg ?_)
  rw [iz_eq h1 h2 (by decide) (by decide)]
  exact h
theorem bi_ne_t (h1 : -2147483648 ≤ x) (h2 : x < 2147483648) (h3 : -2147483648 ≤ z) (h4 : z < 2147483648) (h : ¬ x = z) : bF (.if_icmp .ne n, l, a, b, e) kt kf L (.int (iz z) :: .int (iz x) :: s) M = kt L s M := by
  refine b_ine.trans (if_pos ?_)
  rw [iz_eq h1 h2 h3 h4]
  exact h
theorem bc_ne_t (h1 : -2147483648 ≤ x) (h2 : x < 2147483648) (h : ¬ x = 0) : bF (.ifCond .ne n, l, a, b, e) kt kf L (.int (iz x) :: s) M = kt L s M := by
  refine b_cne.trans (if_pos ?_)
  rw [iz_eq h1 h2 (by decide) (by decide)]
  exact h
theorem bi_ne_f (h1 : -2147483648 ≤ x) (h2 : x < 2147483648) (h3 : -2147483648 ≤ z) (h4 : z < 2147483648) (h : ¬ (¬ x = z)) : bF (.if_icmp .ne n, l, a, b, e) kt kf L (.int (iz z) :: .int (iz x) :: s) M = kf L s M := by
  refine b_ine.trans (if_neg ?_)
  rw [iz_eq h1 h2 h3 h4]
  exact h
theorem bc_ne_f (h1 : -2147483648 ≤ x) (h2 : x < 2147483648) (h : ¬ (¬ x = 0)) : bF (.ifCond .ne n, l, a, b, e) kt kf L (.int (iz x) :: s) M = kf L s M := by
  refine b_cne.trans (if_neg ?_)
  rw [iz_eq h1 h2 (by decide) (by decide)]
  exact h
theorem bi_lt_t (h1 : -2147483648 ≤ x) (h2 : x < 2147483648) (h3 : -2147483648 ≤ z) (h4 : z < 2147483648) (h : x < z) : bF (.if_icmp .lt n, l, a, b, e) kt kf L (.int (iz z) :: .int (iz x) :: s) M = kt L s M := by
  refine b_ilt.trans (if_pos ?_)
  rw [iz_lt h1 h2 h3 h4]
  exact h
theorem bc_lt_t (h1 : -2147483648 ≤ x) (h2 : x < 2147483648) (h : x < 0) : bF (.ifCond .lt n, l, a, b, e) kt kf L (.int (iz x) :: s) M = kt L s M := by
  refine b_clt.trans (if_pos ?_)
  rw [iz_lt h1 h2 (by decide) (by decide)]
  exact h
theorem bi_lt_f (h1 : -2147483648 ≤ x) (h2 : x < 2147483648) (h3 : -2147483648 ≤ z) (h4 : z < 2147483648) (h : ¬ (x < z)) : bF (.if_icmp .lt n, l, a, b, e) kt kf L (.int (iz z) :: .int (iz x) :: s) M = kf L s M := by
  refine b_ilt.trans (if_neg ?_)
  rw [iz_lt h1 h2 h3 h4]
  exact h
theorem bc_lt_f (h1 : -2147483648 ≤ x) (h2 : x < 2147483648) (h : ¬ (x < 0)) : bF (.ifCond .lt n, l, a, b, e) kt kf L (.int (iz x) :: s) M = kf L s M := by
  refine b_clt.trans (if_neg ?_)
  rw [iz_lt h1 h2 (by decide) (by decide)]
  exact h
theorem bi_ge_t (h1 : -2147483648 ≤ x) (h2 : x < 2147483648) (h3 : -2147483648 ≤ z) (h4 : z < 2147483648) (h : z ≤ x) : bF (.if_icmp .ge n, l, a, b, e) kt kf L (.int (iz z) :: .int (iz x) :: s) M = kt L s M := by
  refine b_ige.trans (if_pos ?_)
  rw [iz_le h3 h4 h1 h2]
  exact h
theorem bc_ge_t (h1 : -2147483648 ≤ x) (h2 : x < 2147483648) (h : 0 ≤ x) : bF (.ifCond .ge n, l, a, b, e) kt kf L (.int (iz x) :: s) M = kt L s M := by
  refine b_cge.trans (if_pos ?_)
  rw [iz_le (by decide) (by decide) h1 h2]
  exact h
theorem bi_ge_f (h1 : -2147483648 ≤ x) (h2 : x < 2147483648) (h3 : -2147483648 ≤ z) (h4 : z < 2147483648) (h : ¬ (z ≤ x)) : bF (.if_icmp .ge n, l, a, b, e) kt kf L (.int (iz z) :: .int (iz x) :: s) M = kf L s M := by
  refine b_ige.trans (if_neg ?_)
  rw [iz_le h3 h4 h1 h2]
  exact h
theorem bc_ge_f (h1 : -2147483648 ≤ x) (h2 : x < 2147483648) (h : ¬ (0 ≤ x)) : bF (.ifCond .ge n, l, a, b, e) kt kf L (.int (iz x) :: s) M = kf L s M := by
  refine b_cge.trans (if_neg ?_)
  rw [iz_le (by decide) (by decide) h1 h2]
  exact h
theorem bi_gt_t (h1 : -2147483648 ≤ x) (h2 : x < 2147483648) (h3 : -2147483648 ≤ z) (h4 : z < 2147483648) (h : z < x) : bF (.if_icmp .gt n, l, a, b, e) kt kf L (.int (iz z) :: .int (iz x) :: s) M = kt L s M := by
  refine b_igt.trans (if_pos ?_)
  rw [iz_lt h3 h4 h1 h2]
  exact h
theorem bc_gt_t (h1 : -2147483648 ≤ x) (h2 : x < 2147483648) (h : 0 < x) : bF (.ifCond .gt n, l, a, b, e) kt kf L (.int (iz x) :: s) M = kt L s M := by
  refine b_cgt.trans (if_pos ?_)
  rw [iz_lt (by decide) (by decide) h1 h2]
  exact h
theorem bi_gt_f (h1 : -2147483648 ≤ x) (h2 : x < 2147483648) (h3 : -2147483648 ≤ z) (h4 : z < 2147483648) (h : ¬ (z < x)) : bF (.if_icmp .gt n, l, a, b, e) kt kf L (.int (iz z) :: .int (iz x) :: s) M = kf L s M := by
  refine b_igt.trans (if_neg ?_)
  rw [iz_lt h3 h4 h1 h2]
  exact h
theorem bc_gt_f (h1 : -2147483648 ≤ x) (h2 : x < 2147483648) (h : ¬ (0 < x)) : bF (.ifCond .gt n, l, a, b, e) kt kf L (.int (iz x) :: s) M = kf L s M := by
  refine b_cgt.trans (if_neg ?_)
  rw [iz_lt (by decide) (by decide) h1 h2]
  exact h
theorem bi_le_t (h1 : -2147483648 ≤ x) (h2 : x < 2147483648) (h3 : -2147483648 ≤ z) (h4 : z < 2147483648) (h : x ≤ z) : bF (.if_icmp .le n, l, a, b, e) kt kf L (.int (iz z) :: .int (iz x) :: s) M = kt L s M := by
  refine b_ile.trans (if_pos ?_)
  rw [iz_le h1 h2 h3 h4]
  exact h
theorem bc_le_t (h1 : -2147483648 ≤ x) (h2 : x < 2147483648) (h : x ≤ 0) : bF (.ifCond .le n, l, a, b, e) kt kf L (.int (iz x) :: s) M = kt L s M := by
  refine b_cle.trans (if_pos ?_)
  rw [iz_le h1 h2 (by decide) (by decide)]
  exact h
theorem bi_le_f (h1 : -2147483648 ≤ x) (h2 : x < 2147483648) (h3 : -2147483648 ≤ z) (h4 : z < 2147483648) (h : ¬ (x ≤ z)) : bF (.if_icmp .le n, l, a, b, e) kt kf L (.int (iz z) :: .int (iz x) :: s) M = kf L s M := by
  refine b_ile.trans (if_neg ?_)
  rw [iz_le h1 h2 h3 h4]
  exact h
theorem bc_le_f (h1 : -2147483648 ≤ x) (h2 : x < 2147483648) (h : ¬ (x ≤ 0)) : bF (.ifCond .le n, l, a, b, e) kt kf L (.int (iz x) :: s) M = kf L s M := by
  refine b_cle.trans (if_neg ?_)
  rw [iz_le h1 h2 (by decide) (by decide)]
  exact h
theorem bb_eq_t (h : p) : bF (.ifCond .eq n, l, a, b, e) kt kf L (.int (bz p) :: s) M = kf L s M := by
  rw [b_ceq, bz_t h]
  exact if_neg (by decide)
theorem bb_eq_f (h : ¬ p) : bF (.ifCond .eq n, l, a, b, e) kt kf L (.int (bz p) :: s) M = kt L s M := by
  rw [b_ceq, bz_f h]
  exact if_pos rfl
theorem bb_ne_t (h : p) : bF (.ifCond .ne n, l, a, b, e) kt kf L (.int (bz p) :: s) M = kt L s M := by
  rw [b_cne, bz_t h]
  exact if_pos (by decide)
theorem bb_ne_f (h : ¬ p) : bF (.ifCond .ne n, l, a, b, e) kt kf L (.int (bz p) :: s) M = kf L s M := by
  rw [b_cne, bz_f h]
  exact if_neg (fun q => q rfl)
theorem sc_t (h1 : -2147483648 ≤ x) (h2 : x < 2147483648) (h : x = (lo : Int)) : swS (k :: ks) kd lo (iz x) L s M = k L s M := by
  subst h
  exact if_pos rfl
theorem sc_f (h1 : -2147483648 ≤ x) (h2 : x < 2147483648) (h3 : (lo : Int) < 2147483648) (h : ¬ x = (lo : Int)) : swS (k :: ks) kd lo (iz x) L s M = swS ks kd (lo + 1) (iz x) L s M := by
  refine if_neg (fun q => h ?_)
  rw [iz_eq h1 h2 (by omega) h3] at q
  exact q
end
theorem mI_ni {M : qMe} {i k1 k2 : Nat} {x : Int32} (h : ¬ k2 = k1) : mI (qsI M i k1 x) i k2 = mI M i k2 := by rw [mI_I, if_pos rfl, if_neg h]
theorem mI_sm {M : qMe} {i k1 k2 : Nat} {x : Int32} (h : k2 = k1) : mI (qsI M i k1 x) i k2 = x := by rw [mI_I, if_pos rfl, if_pos h]
theorem mZ_sm {M : qMe} {i k1 k2 : Nat} {n : Int} (h : k2 = k1) (h1 : -2147483648 ≤ n) (h2 : n < 2147483648) : mZ (qsI M i k1 (iz n)) i k2 = n := mZ_eq h h1 h2
theorem mZ_nk {M : qMe} {i k1 k2 : Nat} {x : Int32} (h : ¬ k2 = k1) : mZ (qsI M i k1 x) i k2 = mZ M i k2 := mZ_ni h
theorem mZ_J {i1 k1 i2 k2 : Nat} {x : Int64} {M : qMe} : mZ (qsJ M i1 k1 x) i2 k2 = mZ M i2 k2 := nr rfl
theorem mZ_R {i1 k1 i2 k2 : Nat} {x : Option Nat} {M : qMe} : mZ (qsR M i1 k1 x) i2 k2 = mZ M i2 k2 := nr rfl
theorem mJ_nc {M : qMe} {i1 k1 i2 k2 : Nat} {x : Int64} (h : ¬ i2 = i1) : mJ (qsJ M i1 k1 x) i2 k2 = mJ M i2 k2 := by rw [mJ_J, if_neg h]
theorem mJ_ni {M : qMe} {i k1 k2 : Nat} {x : Int64} (h : ¬ k2 = k1) : mJ (qsJ M i k1 x) i k2 = mJ M i k2 := by rw [mJ_J, if_pos rfl, if_neg h]
theorem mJ_sm {M : qMe} {i k : Nat} {x : Int64} : mJ (qsJ M i k x) i k = x := by rw [mJ_J, if_pos rfl, if_pos rfl]
theorem mZ_iz {M : qMe} {i k : Nat} {n : Int} (h : mI M i k = iz n) (h1 : -2147483648 ≤ n) (h2 : n < 2147483648) : mZ M i k = n := by
  unfold mZ
  rw [h, iz_toInt h1 h2]
/-- the same cells of the same sorts; only ints and longs may differ -/
def Eqs (M M1 : qMe) : Prop := mN M1 = mN M ∧ (∀ i, mK M1 i = mK M i) ∧ (∀ i k, mR M1 i k = mR M i k)
theorem Eqs.rf {M : qMe} : Eqs M M := ⟨rfl, fun _ => rfl, fun _ _ => rfl⟩
theorem Eqs.tr {M M1 M2 : qMe} (h : Eqs M M1) (g : Eqs M1 M2) : Eqs M M2 := ⟨g.1.trans h.1, fun i => (g.2.1 i).trans (h.2.1 i), fun i k => (g.2.2 i k).trans (h.2.2 i k)⟩
theorem Eqs.I {M M1 : qMe} {i k : Nat} {x : Int32} (h : Eqs M M1) : Eqs M (qsI M1 i k x) := h
theorem Eqs.J {M M1 : qMe} {i k : Nat} {x : Int64} (h : Eqs M M1) : Eqs M (qsJ M1 i k x) := h
theorem Eqs.inm {M M1 : qMe} (h : Eqs M M1) (i : Nat) : inM M1 i = inM M i := by
  unfold inM
  rw [h.1]
theorem Eqs.shp {M M1 : qMe} (h : Eqs M M1) (hs : shp M) (hI : ∀ i, i < 8 → ∀ k, mZ M1 i k = mZ M i k) : shp M1 := shp_of hs (Nat.le_of_eq h.1.symm) (fun i _ => h.2.1 i) (fun q _ => h.2.2 _ _) (fun i hi k => by rw [mI_Z, mI_Z, hI i hi k])
theorem wI_q {o : Option qR} {Q : Int → qMe → Prop} (h : ∀ P : Option Value → qMe → Prop, (∀ z M, Q z M → P (some (.int (iz z))) M) → wp o P) : wI o Q := wI_p (h _ (fun _ _ q => pI_i q))
theorem wL_q {o : Option qR} {Q : Int → qMe → Prop} (h : ∀ P : Option Value → qMe → Prop, (∀ z M, Q z M → P (some (.long (lz z))) M) → wp o P) : wL o Q := wL_p (h _ (fun _ _ q => pL_i q))
theorem wV_q {o : Option qR} {Q : qMe → Prop} (h : ∀ P : Option Value → qMe → Prop, (∀ M, Q M → P none M) → wp o P) : wV o Q := wV_p (h _ (fun _ q => pV_i q))
theorem wB_q {o : Option qR} {Q : Prop → qMe → Prop} (h : ∀ P : Option Value → qMe → Prop, (∀ p M, Q p M → P (some (.int (bz p))) M) → (∀ M, Q True M → P (some (.int (iz 1))) M) → (∀ M, Q False M → P (some (.int (iz 0))) M) → wp o P) : wB o Q := wB_p (h _ (fun _ _ q => pB_i q) (fun _ q => pB_1 q) (fun _ q => pB_0 q))

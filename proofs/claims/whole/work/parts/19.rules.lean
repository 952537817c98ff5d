/-! rules to run the program by rewriting: ints are 'iz n', n : Int; truth is 'bz P' -/
/-- so that rewriting keeps its steps -/
theorem nr {α : Type} {a b : α} (h : a = b) : a = b := h
noncomputable def bz (P : Prop) : Int32 := @ite _ P (Classical.propDecidable P) (iz 1) (iz 0)
section
variable {c : qV} {l a b x0 : Nat} {e : Int} {k kt kf : qF} {L : List (Option Value)} {s st : List Value} {M : qMe} {x z j : Int32} {u v t : Int64} {i i1 : Nat}
theorem z_iconst {n : Int} : stp c (.iconst n, l, a, b, e) k L (s) M = k L (.int (iz n) :: s) M := nr rfl
theorem z_bipush {n : Int} : stp c (.bipush n, l, a, b, e) k L (s) M = k L (.int (iz n) :: s) M := nr rfl
theorem z_sipush {n : Int} : stp c (.sipush n, l, a, b, e) k L (s) M = k L (.int (iz n) :: s) M := nr rfl
theorem z_ldc {n : Nat} : stp c (.ldc n, l, 0, b, e) k L (s) M = k L (.int (iz e) :: s) M := nr rfl
theorem z_ldcs {n : Nat} : stp c (.ldc n, l, 1, b, e) k L (s) M = k L (.ref 4 :: s) M := nr rfl
theorem z_ldcw {n : Nat} : stp c (.ldc_w n, l, a, b, e) k L (s) M = k L (.int (iz e) :: s) M := nr rfl
theorem z_ldc2 {n : Nat} : stp c (.ldc2_w n, l, a, b, e) k L (s) M = k L (.long (Int64.ofInt e) :: s) M := nr rfl
theorem z_lconst0 : stp c (.lconst 0, l, a, b, e) k L (s) M = k L (.long 0 :: s) M := nr rfl
theorem z_lconst1 : stp c (.lconst 1, l, a, b, e) k L (s) M = k L (.long 1 :: s) M := nr rfl
theorem z_null : stp c (.aconst_null, l, a, b, e) k L (s) M = k L (.null :: s) M := nr rfl
theorem z_getstatic {n : Nat} : stp c (.getstatic n, l, a, b, e) k L (s) M = k L (.ref a :: s) M := nr rfl
theorem z_iload_0 : stp c (.iload_n 0, l, a, b, e) k (some (.int x) :: L) (s) M = k (some (.int x) :: L) (.int x :: s) M := nr rfl
theorem z_iload_1 {w0 : Option Value} : stp c (.iload_n 1, l, a, b, e) k (w0 :: some (.int x) :: L) (s) M = k (w0 :: some (.int x) :: L) (.int x :: s) M := nr rfl
theorem z_iload_2 {w0 w1 : Option Value} : stp c (.iload_n 2, l, a, b, e) k (w0 :: w1 :: some (.int x) :: L) (s) M = k (w0 :: w1 :: some (.int x) :: L) (.int x :: s) M := nr rfl
theorem z_iload_3 {w0 w1 w2 : Option Value} : stp c (.iload_n 3, l, a, b, e) k (w0 :: w1 :: w2 :: some (.int x) :: L) (s) M = k (w0 :: w1 :: w2 :: some (.int x) :: L) (.int x :: s) M := nr rfl
theorem z_iload : stp c (.iload x0, l, a, b, e) k L s M = ald L x0 (fun v => match v with
    | .int x => k L (.int x :: s) M
    | _ => none) := nr rfl
theorem z_istore_0 : stp c (.istore_n 0, l, a, b, e) k L (.int x :: s) M = k (qst1 L 0 (.int x)) s M := nr rfl
theorem z_istore_1 : stp c (.istore_n 1, l, a, b, e) k L (.int x :: s) M = k (qst1 L 1 (.int x)) s M := nr rfl
theorem z_istore_2 : stp c (.istore_n 2, l, a, b, e) k L (.int x :: s) M = k (qst1 L 2 (.int x)) s M := nr rfl
theorem z_istore_3 : stp c (.istore_n 3, l, a, b, e) k L (.int x :: s) M = k (qst1 L 3 (.int x)) s M := nr rfl
theorem z_istore : stp c (.istore x0, l, a, b, e) k L (.int x :: s) M = k (qst1 L x0 (.int x)) s M := nr rfl
theorem z_lload_0 : stp c (.lload_n 0, l, a, b, e) k (some (.long u) :: L) (s) M = k (some (.long u) :: L) (.long u :: s) M := nr rfl
theorem z_lload_1 {w0 : Option Value} : stp c (.lload_n 1, l, a, b, e) k (w0 :: some (.long u) :: L) (s) M = k (w0 :: some (.long u) :: L) (.long u :: s) M := nr rfl
theorem z_lload_2 {w0 w1 : Option Value} : stp c (.lload_n 2, l, a, b, e) k (w0 :: w1 :: some (.long u) :: L) (s) M = k (w0 :: w1 :: some (.long u) :: L) (.long u :: s) M := nr rfl
theorem z_lload_3 {w0 w1 w2 : Option Value} : stp c (.lload_n 3, l, a, b, e) k (w0 :: w1 :: w2 :: some (.long u) :: L) (s) M = k (w0 :: w1 :: w2 :: some (.long u) :: L) (.long u :: s) M := nr rfl
theorem z_lload : stp c (.lload x0, l, a, b, e) k L s M = ald L x0 (fun v => match v with
    | .long u => k L (.long u :: s) M
    | _ => none) := nr rfl
theorem z_lstore_0 : stp c (.lstore_n 0, l, a, b, e) k L (.long u :: s) M = k (qst2 L 0 (.long u)) s M := nr rfl
theorem z_lstore_1 : stp c (.lstore_n 1, l, a, b, e) k L (.long u :: s) M = k (qst2 L 1 (.long u)) s M := nr rfl
theorem z_lstore_2 : stp c (.lstore_n 2, l, a, b, e) k L (.long u :: s) M = k (qst2 L 2 (.long u)) s M := nr rfl
theorem z_lstore_3 : stp c (.lstore_n 3, l, a, b, e) k L (.long u :: s) M = k (qst2 L 3 (.long u)) s M := nr rfl
theorem z_lstore : stp c (.lstore x0, l, a, b, e) k L (.long u :: s) M = k (qst2 L x0 (.long u)) s M := nr rfl
theorem z_aload_0 : stp c (.aload_n 0, l, a, b, e) k (some (.ref i) :: L) (s) M = k (some (.ref i) :: L) (.ref i :: s) M := nr rfl
theorem z_aload_1 {w0 : Option Value} : stp c (.aload_n 1, l, a, b, e) k (w0 :: some (.ref i) :: L) (s) M = k (w0 :: some (.ref i) :: L) (.ref i :: s) M := nr rfl
theorem z_aload_2 {w0 w1 : Option Value} : stp c (.aload_n 2, l, a, b, e) k (w0 :: w1 :: some (.ref i) :: L) (s) M = k (w0 :: w1 :: some (.ref i) :: L) (.ref i :: s) M := nr rfl
theorem z_aload_3 {w0 w1 w2 : Option Value} : stp c (.aload_n 3, l, a, b, e) k (w0 :: w1 :: w2 :: some (.ref i) :: L) (s) M = k (w0 :: w1 :: w2 :: some (.ref i) :: L) (.ref i :: s) M := nr rfl
theorem z_aload : stp c (.aload x0, l, a, b, e) k L s M = ald L x0 (fun v => match v with
    | .ref i => k L (.ref i :: s) M
    | _ => none) := nr rfl
theorem z_astore_0 : stp c (.astore_n 0, l, a, b, e) k L (.ref i :: s) M = k (qst1 L 0 (.ref i)) s M := nr rfl
theorem z_astore_1 : stp c (.astore_n 1, l, a, b, e) k L (.ref i :: s) M = k (qst1 L 1 (.ref i)) s M := nr rfl
theorem z_astore_2 : stp c (.astore_n 2, l, a, b, e) k L (.ref i :: s) M = k (qst1 L 2 (.ref i)) s M := nr rfl
theorem z_astore_3 : stp c (.astore_n 3, l, a, b, e) k L (.ref i :: s) M = k (qst1 L 3 (.ref i)) s M := nr rfl
theorem z_astore : stp c (.astore x0, l, a, b, e) k L (.ref i :: s) M = k (qst1 L x0 (.ref i)) s M := nr rfl
theorem ald_0 {vv : Value} {f : Value → Option qR} : ald (some vv :: L) 0 f = f vv := nr rfl
theorem ald_s {w0 : Option Value} {n : Nat} {f : Value → Option qR} : ald (w0 :: L) (n + 1) f = ald L n f := nr rfl
theorem z_iinc {n : Int} : stp c (.iinc x0 n, l, a, b, e) k L s M = ald L x0 (fun v => match v with
    | .int x => k (qst1 L x0 (.int (x + iz n))) s M
    | _ => none) := nr rfl
theorem qst1_1i {w0 : Option Value} {vv : Value} : qst1 (some (.int x) :: w0 :: L) 1 vv = some (.int x) :: some vv :: L := nr rfl
theorem qst2_1i {w0 w1 : Option Value} {vv : Value} : qst2 (some (.int x) :: w0 :: w1 :: L) 1 vv = some (.int x) :: some vv :: none :: L := nr rfl
theorem qst1_1r {w0 : Option Value} {vv : Value} : qst1 (some (.ref i) :: w0 :: L) 1 vv = some (.ref i) :: some vv :: L := nr rfl
theorem qst2_1r {w0 w1 : Option Value} {vv : Value} : qst2 (some (.ref i) :: w0 :: w1 :: L) 1 vv = some (.ref i) :: some vv :: none :: L := nr rfl
theorem qst1_1u {w0 : Option Value} {vv : Value} : qst1 (some .null :: w0 :: L) 1 vv = some .null :: some vv :: L := nr rfl
theorem qst2_1u {w0 w1 : Option Value} {vv : Value} : qst2 (some .null :: w0 :: w1 :: L) 1 vv = some .null :: some vv :: none :: L := nr rfl
theorem qst1_1n {w0 : Option Value} {vv : Value} : qst1 (none :: w0 :: L) 1 vv = none :: some vv :: L := nr rfl
theorem qst2_1n {w0 w1 : Option Value} {vv : Value} : qst2 (none :: w0 :: w1 :: L) 1 vv = none :: some vv :: none :: L := nr rfl
theorem qst1_1l {w0 : Option Value} {vv : Value} : qst1 (some (.long u) :: w0 :: L) 1 vv = none :: some vv :: L := nr rfl
theorem qst2_1l {w0 w1 : Option Value} {vv : Value} : qst2 (some (.long u) :: w0 :: w1 :: L) 1 vv = none :: some vv :: none :: L := nr rfl
theorem qst1_0 {w0 : Option Value} {vv : Value} : qst1 (w0 :: L) 0 vv = some vv :: L := nr rfl
theorem qst2_0 {w0 w1 : Option Value} {vv : Value} : qst2 (w0 :: w1 :: L) 0 vv = some vv :: none :: L := nr rfl
theorem qkill_s {w0 w1 : Option Value} {L : List (Option Value)} {n : Nat} : qkill (w0 :: w1 :: L) (n + 2) = w0 :: qkill (w1 :: L) (n + 1) := by
  unfold qkill
  show (match (w1 :: L)[n]? with
    | some (some (.long _)) => _
    | some (some (.double _)) => _
    | _ => _) = _
  split <;> simp_all
theorem qst1_s {w0 w1 : Option Value} {n : Nat} {vv : Value} : qst1 (w0 :: w1 :: L) (n + 2) vv = w0 :: qst1 (w1 :: L) (n + 1) vv := by simp only [qst1, qkill_s, List.set_cons_succ]
theorem qst2_s {w0 w1 : Option Value} {n : Nat} {vv : Value} : qst2 (w0 :: w1 :: L) (n + 2) vv = w0 :: qst2 (w1 :: L) (n + 1) vv := by simp only [qst2, qkill_s, List.set_cons_succ]
theorem z_iadd : stp c (.iadd, l, a, b, e) k L (.int z :: .int x :: s) M = k L (.int (x + z) :: s) M := nr rfl
theorem z_isub : stp c (.isub, l, a, b, e) k L (.int z :: .int x :: s) M = k L (.int (x - z) :: s) M := nr rfl
theorem z_imul : stp c (.imul, l, a, b, e) k L (.int z :: .int x :: s) M = k L (.int (x * z) :: s) M := nr rfl
theorem z_iand : stp c (.iand, l, a, b, e) k L (.int z :: .int x :: s) M = k L (.int (x &&& z) :: s) M := nr rfl
theorem z_ior : stp c (.ior, l, a, b, e) k L (.int z :: .int x :: s) M = k L (.int (x ||| z) :: s) M := nr rfl
theorem z_ixor : stp c (.ixor, l, a, b, e) k L (.int z :: .int x :: s) M = k L (.int (x ^^^ z) :: s) M := nr rfl
theorem z_ishl : stp c (.ishl, l, a, b, e) k L (.int z :: .int x :: s) M = k L (.int (x <<< (z &&& 31)) :: s) M := nr rfl
theorem z_ishr : stp c (.ishr, l, a, b, e) k L (.int z :: .int x :: s) M = k L (.int (x >>> (z &&& 31)) :: s) M := nr rfl
theorem z_idiv : stp c (.idiv, l, a, b, e) k L (.int z :: .int x :: s) M = gd (¬ z = 0) (k L (.int (x / z) :: s) M) := nr rfl
theorem z_irem : stp c (.irem, l, a, b, e) k L (.int z :: .int x :: s) M = gd (¬ z = 0) (k L (.int (x - x / z * z) :: s) M) := nr rfl
theorem z_ladd : stp c (.ladd, l, a, b, e) k L (.long v :: .long u :: s) M = k L (.long (u + v) :: s) M := nr rfl
theorem z_lsub : stp c (.lsub, l, a, b, e) k L (.long v :: .long u :: s) M = k L (.long (u - v) :: s) M := nr rfl
theorem z_lmul : stp c (.lmul, l, a, b, e) k L (.long v :: .long u :: s) M = k L (.long (u * v) :: s) M := nr rfl
theorem z_land : stp c (.land, l, a, b, e) k L (.long v :: .long u :: s) M = k L (.long (u &&& v) :: s) M := nr rfl
theorem z_lor : stp c (.lor, l, a, b, e) k L (.long v :: .long u :: s) M = k L (.long (u ||| v) :: s) M := nr rfl
theorem z_ldiv : stp c (.ldiv, l, a, b, e) k L (.long v :: .long u :: s) M = gd (¬ v = 0) (k L (.long (u / v) :: s) M) := nr rfl
theorem z_lrem : stp c (.lrem, l, a, b, e) k L (.long v :: .long u :: s) M = gd (¬ v = 0) (k L (.long (u - u / v * v) :: s) M) := nr rfl
theorem z_ineg : stp c (.ineg, l, a, b, e) k L (.int x :: s) M = k L (.int (-x) :: s) M := nr rfl
theorem z_lshl : stp c (.lshl, l, a, b, e) k L (.int z :: .long u :: s) M = k L (.long (u <<< (z.toInt64 &&& 63)) :: s) M := nr rfl
theorem z_lshr : stp c (.lshr, l, a, b, e) k L (.int z :: .long u :: s) M = k L (.long (u >>> (z.toInt64 &&& 63)) :: s) M := nr rfl
theorem z_i2l : stp c (.i2l, l, a, b, e) k L (.int x :: s) M = k L (.long x.toInt64 :: s) M := nr rfl
theorem z_l2i : stp c (.l2i, l, a, b, e) k L (.long u :: s) M = k L (.int u.toInt32 :: s) M := nr rfl
theorem z_i2b : stp c (.i2b, l, a, b, e) k L (.int x :: s) M = k L (.int x.toInt8.toInt32 :: s) M := nr rfl
theorem z_i2c : stp c (.i2c, l, a, b, e) k L (.int x :: s) M = k L (.int (x.toUInt32 % 65536).toInt32 :: s) M := nr rfl
theorem z_lcmp : stp c (.lcmp, l, a, b, e) k L (.long v :: .long u :: s) M = k L (.int (lg_cmp u v) :: s) M := nr rfl
theorem z_dupi : stp c (.dup, l, a, b, e) k L (.int x :: s) M = k L (.int x :: .int x :: s) M := nr rfl
theorem z_dupr : stp c (.dup, l, a, b, e) k L (.ref i :: s) M = k L (.ref i :: .ref i :: s) M := nr rfl
theorem z_popi : stp c (.pop, l, a, b, e) k L (.int x :: s) M = k L (s) M := nr rfl
theorem z_popr : stp c (.pop, l, a, b, e) k L (.ref i :: s) M = k L (s) M := nr rfl
theorem z_dup2 : stp c (.dup2, l, a, b, e) k L (.int x :: .ref i :: s) M = k L (.int x :: .ref i :: .int x :: .ref i :: s) M := nr rfl
theorem z_goto {n : Int} : stp c (.goto n, l, a, b, e) k L (s) M = k L (s) M := nr rfl
theorem z_get0 {n : Nat} : stp c (.getfield n, l, a, b, 0) k L (.ref i :: s) M = gd (inM M i ∧ (mK M i).1 = a) (k L (.int (mI M i b) :: s) M) := nr rfl
theorem z_get1 {n : Nat} : stp c (.getfield n, l, a, b, 1) k L (.ref i :: s) M = gd (inM M i ∧ (mK M i).1 = a) (k L (.long (mJ M i b) :: s) M) := nr rfl
theorem z_get2 {n : Nat} : stp c (.getfield n, l, a, b, 2) k L (.ref i :: s) M = gd (inM M i ∧ (mK M i).1 = a) (k L (qrv (mR M i b) :: s) M) := nr rfl
theorem z_get3 {n : Nat} : stp c (.getfield n, l, a, b, 3) k L (.ref i :: s) M = gd (inM M i ∧ (mK M i).1 = a) (k L (.int (mI M i b) :: s) M) := nr rfl
theorem z_put0 {n : Nat} : stp c (.putfield n, l, a, b, 0) k L (.int x :: .ref i :: s) M = gd (inM M i ∧ (mK M i).1 = a) (k L (s) (qsI M i b x)) := nr rfl
theorem z_put1 {n : Nat} : stp c (.putfield n, l, a, b, 1) k L (.long u :: .ref i :: s) M = gd (inM M i ∧ (mK M i).1 = a) (k L (s) (qsJ M i b u)) := nr rfl
theorem z_put2 {n : Nat} : stp c (.putfield n, l, a, b, 2) k L (.ref i1 :: .ref i :: s) M = gd (inM M i ∧ (mK M i).1 = a) (k L (s) (qsR M i b (some i1))) := nr rfl
theorem z_put2n {n : Nat} : stp c (.putfield n, l, a, b, 2) k L (.null :: .ref i :: s) M = gd (inM M i ∧ (mK M i).1 = a) (k L (s) (qsR M i b none)) := nr rfl
theorem z_put3 {n : Nat} : stp c (.putfield n, l, a, b, 3) k L (.int x :: .ref i :: s) M = gd ((inM M i ∧ (mK M i).1 = a) ∧ is01 x) (k L (s) (qsI M i b x)) := nr rfl
theorem z_iaload : stp c (.iaload, l, a, b, e) k L (.int j :: .ref i :: s) M = gd (((inM M i ∧ (mK M i).1 = 100) ∨ (i < 4 ∧ (mK M i).1 = 110)) ∧ inB j (mK M i).2) (k L (.int (mI M i j.toNatClampNeg) :: s) M) := nr rfl
theorem z_baload : stp c (.baload, l, a, b, e) k L (.int j :: .ref i :: s) M = gd ((inM M i ∧ ((mK M i).1 = 101 ∨ (mK M i).1 = 102)) ∧ inB j (mK M i).2) (k L (.int (mI M i j.toNatClampNeg) :: s) M) := nr rfl
theorem z_laload : stp c (.laload, l, a, b, e) k L (.int j :: .ref i :: s) M = gd ((inM M i ∧ (mK M i).1 = 103) ∧ inB j (mK M i).2) (k L (.long (mJ M i j.toNatClampNeg) :: s) M) := nr rfl
theorem z_aaload : stp c (.aaload, l, a, b, e) k L (.int j :: .ref i :: s) M = gd ((inM M i ∧ 104 ≤ (mK M i).1 ∧ (mK M i).1 ≤ 107) ∧ inB j (mK M i).2) (k L (qrv (mR M i j.toNatClampNeg) :: s) M) := nr rfl
theorem z_iastore : stp c (.iastore, l, a, b, e) k L (.int x :: .int j :: .ref i :: s) M = gd ((inM M i ∧ (mK M i).1 = 100) ∧ inB j (mK M i).2) (k L (s) (qsI M i j.toNatClampNeg x)) := nr rfl
theorem z_bastore : stp c (.bastore, l, a, b, e) k L (.int x :: .int j :: .ref i :: s) M = gd ((inM M i ∧ ((mK M i).1 = 101 ∨ (mK M i).1 = 102)) ∧ inB j (mK M i).2) (k L (s) (qsI M i j.toNatClampNeg (if (mK M i).1 = 101 then vp_nar .byte x else vp_nar .boolean x))) := nr rfl
theorem z_lastore : stp c (.lastore, l, a, b, e) k L (.long u :: .int j :: .ref i :: s) M = gd ((inM M i ∧ (mK M i).1 = 103) ∧ inB j (mK M i).2) (k L (s) (qsJ M i j.toNatClampNeg u)) := nr rfl
theorem z_aastore : stp c (.aastore, l, a, b, e) k L (.ref i1 :: .int j :: .ref i :: s) M = gd ((inM M i ∧ inM M i1 ∧ (((mK M i).1 = 104 ∧ (mK M i1).1 = 1) ∨ ((mK M i).1 = 105 ∧ (mK M i1).1 = 10) ∨ ((mK M i).1 = 106 ∧ (mK M i1).1 = 8))) ∧ inB j (mK M i).2) (k L (s) (qsR M i j.toNatClampNeg (some i1))) := nr rfl
theorem z_aastoren : stp c (.aastore, l, a, b, e) k L (.null :: .int j :: .ref i :: s) M = gd ((inM M i ∧ ((mK M i).1 = 104 ∨ (mK M i).1 = 105 ∨ (mK M i).1 = 106)) ∧ inB j (mK M i).2) (k L (s) (qsR M i j.toNatClampNeg none)) := nr rfl
theorem z_arraylength : stp c (.arraylength, l, a, b, e) k L (.ref i :: s) M = gd ((inM M i ∧ 100 ≤ (mK M i).1) ∨ (i < 4 ∧ (mK M i).1 = 110)) (k L (.int (iz ((mK M i).2 : Nat)) :: s) M) := nr rfl
theorem z_new {n : Nat} : stp c (.new n, l, a, b, e) k L (s) M = k L (.ref (mN M) :: s) (qnew M a b) := nr rfl
theorem z_newarray {n : ArrayType} : stp c (.newarray n, l, a, b, e) k L (.int x :: s) M = gd (0 ≤ x ∧ x.toNatClampNeg ≤ 1000000) (k L (.ref (mN M) :: s) (qnew M a x.toNatClampNeg)) := nr rfl
theorem z_anewarray {n : Nat} : stp c (.anewarray n, l, a, b, e) k L (.int x :: s) M = gd (0 ≤ x ∧ x.toNatClampNeg ≤ 1000000) (k L (.ref (mN M) :: s) (qnew M a x.toNatClampNeg)) := nr rfl
theorem z_multi {n n1 : Nat} : stp c (.multianewarray n n1, l, a, b, e) k L (.int z :: .int x :: s) M = gd (0 ≤ x ∧ 0 ≤ z ∧ x.toNatClampNeg ≤ 300 ∧ z.toNatClampNeg ≤ 300) (k L (.ref (mN M) :: s) (qmul M x.toNatClampNeg z.toNatClampNeg)) := nr rfl
set_option maxRecDepth 50000 in
theorem z_objinit {n : Nat} : stp c (.invokespecial n, l, 999, b, e) k L (.ref i :: s) M = gd (s.length ≤ 4) (k L s M) := nr rfl
theorem z_is0 {n : Nat} (ha : a < 990) : stp c (.invokestatic n, l, a, 0, e) k L (s) M = acal c a [] s M (fun s1 M1 => k L s1 M1) := by
  show (match Nat.blt a 990 with
    | true => _
    | false => _) = _
  rw [show Nat.blt a 990 = true from Nat.ble_eq_true_of_le ha]; rfl
theorem z_iv0 {n : Nat} (ha : a < 990) : stp c (.invokevirtual n, l, a, 0, e) k L (.ref i :: s) M = gd (inM M i ∧ (mK M i).1 = e.toNat) (acal c a [.ref i] s M (fun s1 M1 => k L s1 M1)) := by
  show (match Nat.blt a 990 with
    | true => _
    | false => _) = _
  rw [show Nat.blt a 990 = true from Nat.ble_eq_true_of_le ha]; rfl
theorem z_ip0 {n : Nat} (ha : a < 990) : stp c (.invokespecial n, l, a, 0, e) k L (.ref i :: s) M = acal c a [.ref i] s M (fun s1 M1 => k L s1 M1) := by
  show (match Nat.beq a 999 with
    | true => _
    | false => _) = _
  rw [show Nat.beq a 999 = false from by cases h : Nat.beq a 999 with | true => (have := Nat.eq_of_beq_eq_true h; omega) | false => rfl]; rfl
theorem z_is1 {n : Nat} {v0 : Value} (ha : a < 990) : stp c (.invokestatic n, l, a, 1, e) k L (v0 :: s) M = acal c a [v0] s M (fun s1 M1 => k L s1 M1) := by
  show (match Nat.blt a 990 with
    | true => _
    | false => _) = _
  rw [show Nat.blt a 990 = true from Nat.ble_eq_true_of_le ha]; rfl
theorem z_iv1 {n : Nat} {v0 : Value} (ha : a < 990) : stp c (.invokevirtual n, l, a, 1, e) k L (v0 :: .ref i :: s) M = gd (inM M i ∧ (mK M i).1 = e.toNat) (acal c a [.ref i, v0] s M (fun s1 M1 => k L s1 M1)) := by
  show (match Nat.blt a 990 with
    | true => _
    | false => _) = _
  rw [show Nat.blt a 990 = true from Nat.ble_eq_true_of_le ha]; rfl
theorem z_ip1 {n : Nat} {v0 : Value} (ha : a < 990) : stp c (.invokespecial n, l, a, 1, e) k L (v0 :: .ref i :: s) M = acal c a [.ref i, v0] s M (fun s1 M1 => k L s1 M1) := by
  show (match Nat.beq a 999 with
    | true => _
    | false => _) = _
  rw [show Nat.beq a 999 = false from by cases h : Nat.beq a 999 with | true => (have := Nat.eq_of_beq_eq_true h; omega) | false => rfl]; rfl
theorem z_is2 {n : Nat} {v0 v1 : Value} (ha : a < 990) : stp c (.invokestatic n, l, a, 2, e) k L (v1 :: v0 :: s) M = acal c a [v0, v1] s M (fun s1 M1 => k L s1 M1) := by
  show (match Nat.blt a 990 with
    | true => _
    | false => _) = _
  rw [show Nat.blt a 990 = true from Nat.ble_eq_true_of_le ha]; rfl
theorem z_iv2 {n : Nat} {v0 v1 : Value} (ha : a < 990) : stp c (.invokevirtual n, l, a, 2, e) k L (v1 :: v0 :: .ref i :: s) M = gd (inM M i ∧ (mK M i).1 = e.toNat) (acal c a [.ref i, v0, v1] s M (fun s1 M1 => k L s1 M1)) := by
  show (match Nat.blt a 990 with
    | true => _
    | false => _) = _
  rw [show Nat.blt a 990 = true from Nat.ble_eq_true_of_le ha]; rfl
theorem z_ip2 {n : Nat} {v0 v1 : Value} (ha : a < 990) : stp c (.invokespecial n, l, a, 2, e) k L (v1 :: v0 :: .ref i :: s) M = acal c a [.ref i, v0, v1] s M (fun s1 M1 => k L s1 M1) := by
  show (match Nat.beq a 999 with
    | true => _
    | false => _) = _
  rw [show Nat.beq a 999 = false from by cases h : Nat.beq a 999 with | true => (have := Nat.eq_of_beq_eq_true h; omega) | false => rfl]; rfl
theorem z_is3 {n : Nat} {v0 v1 v2 : Value} (ha : a < 990) : stp c (.invokestatic n, l, a, 3, e) k L (v2 :: v1 :: v0 :: s) M = acal c a [v0, v1, v2] s M (fun s1 M1 => k L s1 M1) := by
  show (match Nat.blt a 990 with
    | true => _
    | false => _) = _
  rw [show Nat.blt a 990 = true from Nat.ble_eq_true_of_le ha]; rfl
theorem z_iv3 {n : Nat} {v0 v1 v2 : Value} (ha : a < 990) : stp c (.invokevirtual n, l, a, 3, e) k L (v2 :: v1 :: v0 :: .ref i :: s) M = gd (inM M i ∧ (mK M i).1 = e.toNat) (acal c a [.ref i, v0, v1, v2] s M (fun s1 M1 => k L s1 M1)) := by
  show (match Nat.blt a 990 with
    | true => _
    | false => _) = _
  rw [show Nat.blt a 990 = true from Nat.ble_eq_true_of_le ha]; rfl
theorem z_ip3 {n : Nat} {v0 v1 v2 : Value} (ha : a < 990) : stp c (.invokespecial n, l, a, 3, e) k L (v2 :: v1 :: v0 :: .ref i :: s) M = acal c a [.ref i, v0, v1, v2] s M (fun s1 M1 => k L s1 M1) := by
  show (match Nat.beq a 999 with
    | true => _
    | false => _) = _
  rw [show Nat.beq a 999 = false from by cases h : Nat.beq a 999 with | true => (have := Nat.eq_of_beq_eq_true h; omega) | false => rfl]; rfl
theorem z_is4 {n : Nat} {v0 v1 v2 v3 : Value} (ha : a < 990) : stp c (.invokestatic n, l, a, 4, e) k L (v3 :: v2 :: v1 :: v0 :: s) M = acal c a [v0, v1, v2, v3] s M (fun s1 M1 => k L s1 M1) := by
  show (match Nat.blt a 990 with
    | true => _
    | false => _) = _
  rw [show Nat.blt a 990 = true from Nat.ble_eq_true_of_le ha]; rfl
theorem z_iv4 {n : Nat} {v0 v1 v2 v3 : Value} (ha : a < 990) : stp c (.invokevirtual n, l, a, 4, e) k L (v3 :: v2 :: v1 :: v0 :: .ref i :: s) M = gd (inM M i ∧ (mK M i).1 = e.toNat) (acal c a [.ref i, v0, v1, v2, v3] s M (fun s1 M1 => k L s1 M1)) := by
  show (match Nat.blt a 990 with
    | true => _
    | false => _) = _
  rw [show Nat.blt a 990 = true from Nat.ble_eq_true_of_le ha]; rfl
theorem z_ip4 {n : Nat} {v0 v1 v2 v3 : Value} (ha : a < 990) : stp c (.invokespecial n, l, a, 4, e) k L (v3 :: v2 :: v1 :: v0 :: .ref i :: s) M = acal c a [.ref i, v0, v1, v2, v3] s M (fun s1 M1 => k L s1 M1) := by
  show (match Nat.beq a 999 with
    | true => _
    | false => _) = _
  rw [show Nat.beq a 999 = false from by cases h : Nat.beq a 999 with | true => (have := Nat.eq_of_beq_eq_true h; omega) | false => rfl]; rfl
theorem z_is5 {n : Nat} {v0 v1 v2 v3 v4 : Value} (ha : a < 990) : stp c (.invokestatic n, l, a, 5, e) k L (v4 :: v3 :: v2 :: v1 :: v0 :: s) M = acal c a [v0, v1, v2, v3, v4] s M (fun s1 M1 => k L s1 M1) := by
  show (match Nat.blt a 990 with
    | true => _
    | false => _) = _
  rw [show Nat.blt a 990 = true from Nat.ble_eq_true_of_le ha]; rfl
theorem z_iv5 {n : Nat} {v0 v1 v2 v3 v4 : Value} (ha : a < 990) : stp c (.invokevirtual n, l, a, 5, e) k L (v4 :: v3 :: v2 :: v1 :: v0 :: .ref i :: s) M = gd (inM M i ∧ (mK M i).1 = e.toNat) (acal c a [.ref i, v0, v1, v2, v3, v4] s M (fun s1 M1 => k L s1 M1)) := by
  show (match Nat.blt a 990 with
    | true => _
    | false => _) = _
  rw [show Nat.blt a 990 = true from Nat.ble_eq_true_of_le ha]; rfl
theorem z_ip5 {n : Nat} {v0 v1 v2 v3 v4 : Value} (ha : a < 990) : stp c (.invokespecial n, l, a, 5, e) k L (v4 :: v3 :: v2 :: v1 :: v0 :: .ref i :: s) M = acal c a [.ref i, v0, v1, v2, v3, v4] s M (fun s1 M1 => k L s1 M1) := by
  show (match Nat.beq a 999 with
    | true => _
    | false => _) = _
  rw [show Nat.beq a 999 = false from by cases h : Nat.beq a 999 with | true => (have := Nat.eq_of_beq_eq_true h; omega) | false => rfl]; rfl
theorem z_is6 {n : Nat} {v0 v1 v2 v3 v4 v5 : Value} (ha : a < 990) : stp c (.invokestatic n, l, a, 6, e) k L (v5 :: v4 :: v3 :: v2 :: v1 :: v0 :: s) M = acal c a [v0, v1, v2, v3, v4, v5] s M (fun s1 M1 => k L s1 M1) := by
  show (match Nat.blt a 990 with
    | true => _
    | false => _) = _
  rw [show Nat.blt a 990 = true from Nat.ble_eq_true_of_le ha]; rfl
theorem z_iv6 {n : Nat} {v0 v1 v2 v3 v4 v5 : Value} (ha : a < 990) : stp c (.invokevirtual n, l, a, 6, e) k L (v5 :: v4 :: v3 :: v2 :: v1 :: v0 :: .ref i :: s) M = gd (inM M i ∧ (mK M i).1 = e.toNat) (acal c a [.ref i, v0, v1, v2, v3, v4, v5] s M (fun s1 M1 => k L s1 M1)) := by
  show (match Nat.blt a 990 with
    | true => _
    | false => _) = _
  rw [show Nat.blt a 990 = true from Nat.ble_eq_true_of_le ha]; rfl
theorem z_ip6 {n : Nat} {v0 v1 v2 v3 v4 v5 : Value} (ha : a < 990) : stp c (.invokespecial n, l, a, 6, e) k L (v5 :: v4 :: v3 :: v2 :: v1 :: v0 :: .ref i :: s) M = acal c a [.ref i, v0, v1, v2, v3, v4, v5] s M (fun s1 M1 => k L s1 M1) := by
  show (match Nat.beq a 999 with
    | true => _
    | false => _) = _
  rw [show Nat.beq a 999 = false from by cases h : Nat.beq a 999 with | true => (have := Nat.eq_of_beq_eq_true h; omega) | false => rfl]; rfl
theorem z_is7 {n : Nat} {v0 v1 v2 v3 v4 v5 v6 : Value} (ha : a < 990) : stp c (.invokestatic n, l, a, 7, e) k L (v6 :: v5 :: v4 :: v3 :: v2 :: v1 :: v0 :: s) M = acal c a [v0, v1, v2, v3, v4, v5, v6] s M (fun s1 M1 => k L s1 M1) := by
  show (match Nat.blt a 990 with
    | true => _
    | false => _) = _
  rw [show Nat.blt a 990 = true from Nat.ble_eq_true_of_le ha]; rfl
theorem z_iv7 {n : Nat} {v0 v1 v2 v3 v4 v5 v6 : Value} (ha : a < 990) : stp c (.invokevirtual n, l, a, 7, e) k L (v6 :: v5 :: v4 :: v3 :: v2 :: v1 :: v0 :: .ref i :: s) M = gd (inM M i ∧ (mK M i).1 = e.toNat) (acal c a [.ref i, v0, v1, v2, v3, v4, v5, v6] s M (fun s1 M1 => k L s1 M1)) := by
  show (match Nat.blt a 990 with
    | true => _
    | false => _) = _
  rw [show Nat.blt a 990 = true from Nat.ble_eq_true_of_le ha]; rfl
theorem z_ip7 {n : Nat} {v0 v1 v2 v3 v4 v5 v6 : Value} (ha : a < 990) : stp c (.invokespecial n, l, a, 7, e) k L (v6 :: v5 :: v4 :: v3 :: v2 :: v1 :: v0 :: .ref i :: s) M = acal c a [.ref i, v0, v1, v2, v3, v4, v5, v6] s M (fun s1 M1 => k L s1 M1) := by
  show (match Nat.beq a 999 with
    | true => _
    | false => _) = _
  rw [show Nat.beq a 999 = false from by cases h : Nat.beq a 999 with | true => (have := Nat.eq_of_beq_eq_true h; omega) | false => rfl]; rfl
set_option maxRecDepth 50000 in
theorem z_m991 {n : Nat} : stp c (.invokestatic n, l, 991, b, e) k L (.int x :: s) M = gd (s.length ≤ 4) (k L (.int (if 0 ≤ x then x else 0 - x) :: s) M) := nr rfl
set_option maxRecDepth 50000 in
theorem z_m992 {n : Nat} : stp c (.invokestatic n, l, 992, b, e) k L (.int z :: .int x :: s) M = gd (s.length ≤ 4 ∧ ¬ z = 0) (k L (.int (if ((x - x / z * z) ^^^ z) < 0 ∧ ¬ x - x / z * z = 0 then x - x / z * z + z else x - x / z * z) :: s) M) := nr rfl
set_option maxRecDepth 50000 in
theorem z_m993 {n : Nat} : stp c (.invokestatic n, l, 993, b, e) k L (.int z :: .int x :: s) M = gd (s.length ≤ 4) (k L (.int (if x < z then z else x) :: s) M) := nr rfl
set_option maxRecDepth 50000 in
theorem z_m994 {n : Nat} : stp c (.invokestatic n, l, 994, b, e) k L (.int z :: .int x :: s) M = gd (s.length ≤ 4) (k L (.int (if z < x then z else x) :: s) M) := nr rfl
set_option maxRecDepth 50000 in
theorem z_m995 {n : Nat} : stp c (.invokevirtual n, l, 995, b, e) k L (.ref i :: s) M = gd (i = 4 ∧ s.length ≤ 4) (k L (.int (iz (qWords.length : Nat)) :: s) M) := nr rfl
set_option maxRecDepth 50000 in
theorem z_m996 {n : Nat} : stp c (.invokevirtual n, l, 996, b, e) k L (.int j :: .ref i :: s) M = gd (i = 4 ∧ inB j qWords.length ∧ s.length ≤ 4) (k L (.int (iz ((qWords.getD j.toNatClampNeg 0 : Nat) : Int)) :: s) M) := nr rfl
set_option maxRecDepth 50000 in
theorem z_m998 {n : Nat} {n0 q p : Int32} {a0 b0 : Nat} : stp c (.invokestatic n, l, 998, b, e) k L (.int n0 :: .int q :: .ref b0 :: .int p :: .ref a0 :: s) M = gd ((inM M a0 ∧ (mK M a0).1 = 100) ∧ (inM M b0 ∧ (mK M b0).1 = 100) ∧ ¬ a0 = b0 ∧ 0 ≤ n0 ∧ 0 ≤ p ∧ 0 ≤ q ∧ p.toNatClampNeg + n0.toNatClampNeg ≤ (mK M a0).2 ∧ q.toNatClampNeg + n0.toNatClampNeg ≤ (mK M b0).2 ∧ s.length ≤ 4) (k L s (qcpI M a0 p.toNatClampNeg b0 q.toNatClampNeg n0.toNatClampNeg)) := nr rfl
theorem acal_0 {As : List Value} {f : List Value → qMe → Option qR} : acal c a As [] M f = aK (c a As M) [] f := by
  unfold acal gd
  exact if_pos (Or.inl (by simp))
theorem acal_1 {As : List Value} {f : List Value → qMe → Option qR} {v0 : Value} : acal c a As [v0] M f = aK (c a As M) [v0] f := by
  unfold acal gd
  exact if_pos (Or.inl (by simp))
theorem acal_2 {As : List Value} {f : List Value → qMe → Option qR} {v0 v1 : Value} : acal c a As [v0, v1] M f = aK (c a As M) [v0, v1] f := by
  unfold acal gd
  exact if_pos (Or.inl (by simp))
theorem acal_3 {As : List Value} {f : List Value → qMe → Option qR} {v0 v1 v2 : Value} : acal c a As [v0, v1, v2] M f = aK (c a As M) [v0, v1, v2] f := by
  unfold acal gd
  exact if_pos (Or.inl (by simp))
theorem acal_4 {As : List Value} {f : List Value → qMe → Option qR} {v0 v1 v2 v3 : Value} : acal c a As [v0, v1, v2, v3] M f = aK (c a As M) [v0, v1, v2, v3] f := by
  unfold acal gd
  exact if_pos (Or.inl (by simp))
theorem aK_v {vv : Value} {f : List Value → qMe → Option qR} : aK (some (some vv, M)) s f = f (vv :: s) M := nr rfl
theorem aK_n {f : List Value → qMe → Option qR} : aK (some (none, M)) s f = f s M := nr rfl
theorem sF_c {ee : qE} {es : List qE} : sF c (ee :: es) k L st M = stp c ee (sF c es k) L st M := nr rfl
theorem sF_n : sF c [] k L st M = k L st M := nr rfl
theorem b_ieq {n : Int} : bF (.if_icmp .eq n, l, a, b, e) kt kf L (.int z :: .int x :: s) M = if x = z then kt L s M else kf L s M := nr rfl
theorem b_ceq {n : Int} : bF (.ifCond .eq n, l, a, b, e) kt kf L (.int x :: s) M = if x = iz 0 then kt L s M else kf L s M := nr rfl
theorem b_ine {n : Int} : bF (.if_icmp .ne n, l, a, b, e) kt kf L (.int z :: .int x :: s) M = if ¬ x = z then kt L s M else kf L s M := nr rfl
theorem b_cne {n : Int} : bF (.ifCond .ne n, l, a, b, e) kt kf L (.int x :: s) M = if ¬ x = iz 0 then kt L s M else kf L s M := nr rfl
theorem b_ilt {n : Int} : bF (.if_icmp .lt n, l, a, b, e) kt kf L (.int z :: .int x :: s) M = if x < z then kt L s M else kf L s M := nr rfl
theorem b_clt {n : Int} : bF (.ifCond .lt n, l, a, b, e) kt kf L (.int x :: s) M = if x < iz 0 then kt L s M else kf L s M := nr rfl
theorem b_ige {n : Int} : bF (.if_icmp .ge n, l, a, b, e) kt kf L (.int z :: .int x :: s) M = if z ≤ x then kt L s M else kf L s M := nr rfl
theorem b_cge {n : Int} : bF (.ifCond .ge n, l, a, b, e) kt kf L (.int x :: s) M = if iz 0 ≤ x then kt L s M else kf L s M := nr rfl
theorem b_igt {n : Int} : bF (.if_icmp .gt n, l, a, b, e) kt kf L (.int z :: .int x :: s) M = if z < x then kt L s M else kf L s M := nr rfl
theorem b_cgt {n : Int} : bF (.ifCond .gt n, l, a, b, e) kt kf L (.int x :: s) M = if iz 0 < x then kt L s M else kf L s M := nr rfl
theorem b_ile {n : Int} : bF (.if_icmp .le n, l, a, b, e) kt kf L (.int z :: .int x :: s) M = if x ≤ z then kt L s M else kf L s M := nr rfl
theorem b_cle {n : Int} : bF (.ifCond .le n, l, a, b, e) kt kf L (.int x :: s) M = if x ≤ iz 0 then kt L s M else kf L s M := nr rfl
theorem b_nr {n : Int} : bF (.ifnull n, l, a, b, e) kt kf L (.ref i :: s) M = kf L s M := nr rfl
theorem b_nn {n : Int} : bF (.ifnull n, l, a, b, e) kt kf L (.null :: s) M = kt L s M := nr rfl
theorem r_I : rI L [.int x] M = some (some (.int x), M) := nr rfl
theorem r_Z : rZ L [.int x] M = gd (is01 x) (some (some (.int x), M)) := nr rfl
theorem r_L : rL L [.long u] M = some (some (.long u), M) := nr rfl
theorem r_A : rA L [.ref i] M = some (some (.ref i), M) := nr rfl
theorem r_V : rV L [] M = some (none, M) := nr rfl
theorem sw_F {ks : List qF} {kd : qF} : swF x0 ks kd L (.int x :: s) M = swS ks kd x0 x L s M := nr rfl
theorem sw_n {kd : qF} : swS [] kd x0 x L s M = kd L s M := nr rfl
theorem sw_c {ks : List qF} {kd : qF} : swS (k :: ks) kd x0 x L s M = if x = iz (x0 : Int) then k L s M else swS ks kd (x0 + 1) x L s M := nr rfl
theorem gd_t {P : Prop} {o : Option qR} (h : P) : gd P o = o := by unfold gd; exact if_pos h
theorem gd_tt {o : Option qR} : gd True o = o := gd_t trivial
theorem is01_bz {P : Prop} : is01 (bz P) := by
  unfold is01 bz
  by_cases h : P
  · right; rw [if_pos h]; rfl
  · left; rw [if_neg h]; rfl
theorem is01_bzT {P : Prop} : is01 (bz P) ↔ True := ⟨fun _ => trivial, fun _ => is01_bz⟩
theorem is01_0 : is01 (iz 0) ↔ True := ⟨fun _ => trivial, fun _ => Or.inl rfl⟩
theorem is01_1 : is01 (iz 1) ↔ True := ⟨fun _ => trivial, fun _ => Or.inr rfl⟩
theorem bz_eq0 {P : Prop} : (bz P = iz 0) ↔ ¬ P := by
  unfold bz
  by_cases h : P
  · rw [if_pos h]; exact ⟨fun q => absurd q (by decide), fun q => absurd h q⟩
  · rw [if_neg h]; exact ⟨fun _ => h, fun _ => rfl⟩
theorem bz_eq1 {P : Prop} : (bz P = iz 1) ↔ P := by
  unfold bz
  by_cases h : P
  · rw [if_pos h]; exact ⟨fun _ => h, fun _ => rfl⟩
  · rw [if_neg h]; exact ⟨fun q => absurd q (by decide), fun q => absurd q h⟩
theorem bz_t {P : Prop} (h : P) : bz P = iz 1 := by unfold bz; exact if_pos h
theorem bz_f {P : Prop} (h : ¬ P) : bz P = iz 0 := by unfold bz; exact if_neg h
theorem bz_T : bz True = iz 1 := bz_t trivial
theorem bz_F : bz False = iz 0 := bz_f (fun h => h)
theorem qrv_s {i : Nat} : qrv (some i) = .ref i := nr rfl
theorem qrv_n : qrv none = .null := nr rfl
theorem mI_I {i1 k1 i2 k2 : Nat} {x : Int32} {M : qMe} : mI (qsI M i1 k1 x) i2 k2 = if i2 = i1 then (if k2 = k1 then x else mI M i2 k2) else mI M i2 k2 := nr rfl
theorem mI_J {i1 k1 i2 k2 : Nat} {x : Int64} {M : qMe} : mI (qsJ M i1 k1 x) i2 k2 = mI M i2 k2 := nr rfl
theorem mI_R {i1 k1 i2 k2 : Nat} {x : Option Nat} {M : qMe} : mI (qsR M i1 k1 x) i2 k2 = mI M i2 k2 := nr rfl
theorem mJ_I {i1 k1 i2 k2 : Nat} {x : Int32} {M : qMe} : mJ (qsI M i1 k1 x) i2 k2 = mJ M i2 k2 := nr rfl
theorem mJ_J {i1 k1 i2 k2 : Nat} {x : Int64} {M : qMe} : mJ (qsJ M i1 k1 x) i2 k2 = if i2 = i1 then (if k2 = k1 then x else mJ M i2 k2) else mJ M i2 k2 := nr rfl
theorem mJ_R {i1 k1 i2 k2 : Nat} {x : Option Nat} {M : qMe} : mJ (qsR M i1 k1 x) i2 k2 = mJ M i2 k2 := nr rfl
theorem mR_I {i1 k1 i2 k2 : Nat} {x : Int32} {M : qMe} : mR (qsI M i1 k1 x) i2 k2 = mR M i2 k2 := nr rfl
theorem mR_J {i1 k1 i2 k2 : Nat} {x : Int64} {M : qMe} : mR (qsJ M i1 k1 x) i2 k2 = mR M i2 k2 := nr rfl
theorem mR_R {i1 k1 i2 k2 : Nat} {x : Option Nat} {M : qMe} : mR (qsR M i1 k1 x) i2 k2 = if i2 = i1 then (if k2 = k1 then x else mR M i2 k2) else mR M i2 k2 := nr rfl
theorem mK_I {i1 k1 i2 : Nat} {x : Int32} {M : qMe} : mK (qsI M i1 k1 x) i2 = mK M i2 := nr rfl
theorem mK_J {i1 k1 i2 : Nat} {x : Int64} {M : qMe} : mK (qsJ M i1 k1 x) i2 = mK M i2 := nr rfl
theorem mK_R {i1 k1 i2 : Nat} {x : Option Nat} {M : qMe} : mK (qsR M i1 k1 x) i2 = mK M i2 := nr rfl
theorem mN_I {i1 k1 : Nat} {x : Int32} {M : qMe} : mN (qsI M i1 k1 x) = mN M := nr rfl
theorem mN_J {i1 k1 : Nat} {x : Int64} {M : qMe} : mN (qsJ M i1 k1 x) = mN M := nr rfl
theorem mN_R {i1 k1 : Nat} {x : Option Nat} {M : qMe} : mN (qsR M i1 k1 x) = mN M := nr rfl
theorem inM_I {i1 k1 i2 : Nat} {x : Int32} {M : qMe} : inM (qsI M i1 k1 x) i2 = inM M i2 := nr rfl
theorem inM_J {i1 k1 i2 : Nat} {x : Int64} {M : qMe} : inM (qsJ M i1 k1 x) i2 = inM M i2 := nr rfl
theorem inM_R {i1 k1 i2 : Nat} {x : Option Nat} {M : qMe} : inM (qsR M i1 k1 x) i2 = inM M i2 := nr rfl
theorem inM_lit {i : Nat} {M : qMe} (h : 513 ≤ mN M) (h1 : 8 ≤ i) (h2 : i < 513) : inM M i = True := eq_true ⟨h1, Nat.lt_of_lt_of_le h2 h⟩
end
/-! numbers -/
theorem iz_self (x : Int32) : iz x.toInt = x := Int32.ofInt_toInt x
theorem iz_ex (x : Int32) : ∃ n : Int, (-2147483648 ≤ n ∧ n < 2147483648) ∧ x = iz n := ⟨x.toInt, ⟨Int32.le_toInt x, Int32.toInt_lt x⟩, (iz_self x).symm⟩
theorem iz_add (a b : Int) : iz a + iz b = iz (a + b) := (Int32.ofInt_add a b).symm
theorem iz_sub (a b : Int) : iz a - iz b = iz (a - b) := (Int32.ofInt_sub a b).symm
theorem iz_mul (a b : Int) : iz a * iz b = iz (a * b) := (Int32.ofInt_mul a b).symm
theorem iz_neg (a : Int) : - iz a = iz (-a) := (Int32.ofInt_neg a).symm
theorem iz_toInt {a : Int} (h1 : -2147483648 ≤ a) (h2 : a < 2147483648) : (iz a).toInt = a := Int32.toInt_ofInt_of_le h1 h2
theorem iz_lt {a b : Int} (h1 : -2147483648 ≤ a) (h2 : a < 2147483648) (h3 : -2147483648 ≤ b) (h4 : b < 2147483648) : (iz a < iz b) = (a < b) := by
  rw [Int32.lt_iff_toInt_lt, iz_toInt h1 h2, iz_toInt h3 h4]
theorem iz_le {a b : Int} (h1 : -2147483648 ≤ a) (h2 : a < 2147483648) (h3 : -2147483648 ≤ b) (h4 : b < 2147483648) : (iz a ≤ iz b) = (a ≤ b) := by
  rw [Int32.le_iff_toInt_le, iz_toInt h1 h2, iz_toInt h3 h4]
theorem iz_eq {a b : Int} (h1 : -2147483648 ≤ a) (h2 : a < 2147483648) (h3 : -2147483648 ≤ b) (h4 : b < 2147483648) : (iz a = iz b) = (a = b) := by
  rw [← Int32.toInt_inj, iz_toInt h1 h2, iz_toInt h3 h4]
theorem iz_clamp {a : Int} (h1 : -2147483648 ≤ a) (h2 : a < 2147483648) : (iz a).toNatClampNeg = a.toNat := by
  show (iz a).toInt.toNat = _
  rw [iz_toInt h1 h2]
theorem iz_inB {a : Int} {n : Nat} (h1 : -2147483648 ≤ a) (h2 : a < 2147483648) : inB (iz a) n = (0 ≤ a ∧ a < n) := by
  unfold inB
  rw [iz_clamp h1 h2, show ((0 : Int32) ≤ iz a) = (0 ≤ a) from iz_le (a := 0) (by decide) (by decide) h1 h2]
  exact propext ⟨fun q => ⟨q.1, by omega⟩, fun q => ⟨q.1, by omega⟩⟩
theorem iz_0 : (0 : Int32) = iz 0 := nr rfl
theorem iz_1 : (1 : Int32) = iz 1 := nr rfl
theorem iz_div {a b : Int} (h1 : 0 ≤ a) (h2 : a < 2147483648) (h3 : 0 < b) (h4 : b < 2147483648) : iz a / iz b = iz (a / b) := by
  apply Int32.toInt_inj.mp
  have h5 : a / b < 2147483648 := Int.lt_of_le_of_lt (Int.ediv_le_self b h1) h2
  have h6 : 0 ≤ a / b := Int.ediv_nonneg h1 (by omega)
  rw [Int32.toInt_div_of_ne_left _ _ (by intro q; have := congrArg Int32.toInt q; rw [iz_toInt (by omega) h2] at this; have e : (Int32.minValue).toInt = -2147483648 := rfl; omega), iz_toInt (by omega) h2, iz_toInt (by omega) h4, iz_toInt (by omega) h5]
  exact Int.tdiv_eq_ediv_of_nonneg h1
theorem iz_rem {a b : Int} (h1 : 0 ≤ a) (h2 : a < 2147483648) (h3 : 0 < b) (h4 : b < 2147483648) : iz a - iz a / iz b * iz b = iz (a % b) := by
  rw [iz_div h1 h2 h3 h4, iz_mul, iz_sub]
  congr 1
  rw [Int.emod_def, Int.mul_comm]
def mZ (M : qMe) (i k : Nat) : Int := (mI M i k).toInt
theorem mI_Z (M : qMe) (i k : Nat) : mI M i k = iz (mZ M i k) := (iz_self _).symm
theorem mZ_ge (M : qMe) (i k : Nat) : -2147483648 ≤ mZ M i k := Int32.le_toInt _
theorem mZ_lt (M : qMe) (i k : Nat) : mZ M i k < 2147483648 := Int32.toInt_lt _

section QR
variable {G : qG} {d y pc : Nat} {L : List (Option Value)} {st : List Value} {M : qMe} {r : Option Value × qMe}
theorem q_iconst {n : Int} (hd : decode (qB y) pc = .ok (.iconst n, 1))  (h : qsem G d y (pc + 1) L (.int (Int32.ofInt n) :: st) M r) : qsem G d y pc L (st) M r :=
  q_stack (fun p l e R s m args below meth c H locs cells slots Q ls C hL k => lv_iconst C.1 C.2.1 hd rfl k) h
theorem q_bipush {n : Int} (hd : decode (qB y) pc = .ok (.bipush n, 2))  (h : qsem G d y (pc + 2) L (.int (Int8.ofInt n).toInt32 :: st) M r) : qsem G d y pc L (st) M r :=
  q_stack (fun p l e R s m args below meth c H locs cells slots Q ls C hL k => lv_bipush C.1 C.2.1 hd rfl k) h
theorem q_sipush {n : Int} (hd : decode (qB y) pc = .ok (.sipush n, 3))  (h : qsem G d y (pc + 3) L (.int (Int16.ofInt n).toInt32 :: st) M r) : qsem G d y pc L (st) M r :=
  q_stack (fun p l e R s m args below meth c H locs cells slots Q ls C hL k => lv_sipush C.1 C.2.1 hd rfl k) h
theorem q_lconst {n : Fin 2} (hd : decode (qB y) pc = .ok (.lconst n, 1))  (h : qsem G d y (pc + 1) L (.long (Int64.ofNat (n : Nat)) :: st) M r) : qsem G d y pc L (st) M r :=
  q_stack (fun p l e R s m args below meth c H locs cells slots Q ls C hL k => lv_lconst C.1 C.2.1 hd rfl k) h
theorem q_null  (hd : decode (qB y) pc = .ok (.aconst_null, 1))  (h : qsem G d y (pc + 1) L (.null :: st) M r) : qsem G d y pc L (st) M r :=
  q_stack (fun p l e R s m args below meth c H locs cells slots Q ls C hL k => lv_null C.1 C.2.1 hd k) h
theorem q_iload_k {k : Fin 4} {x : Int32} (hd : decode (qB y) pc = .ok (.iload_n k, 1)) (hl : L[(k : Nat)]? = some (some (.int x))) (h : qsem G d y (pc + 1) L (.int x :: st) M r) : qsem G d y pc L (st) M r :=
  q_stack (fun p l e R s m args below meth c H locs cells slots Q ls C hL k => lv_iload_n C.1 C.2.1 hd rfl (hL.2.2 _ _ hl) k) h
theorem q_iload {i : Nat} {x : Int32} (hd : decode (qB y) pc = .ok (.iload i, 2)) (hl : L[i]? = some (some (.int x))) (h : qsem G d y (pc + 2) L (.int x :: st) M r) : qsem G d y pc L (st) M r :=
  q_stack (fun p l e R s m args below meth c H locs cells slots Q ls C hL k => lv_iload C.1 C.2.1 hd (hL.2.2 _ _ hl) k) h
theorem q_lload_n {k : Fin 4} {x : Int64} (hd : decode (qB y) pc = .ok (.lload_n k, 1)) (hl : L[(k : Nat)]? = some (some (.long x))) (h : qsem G d y (pc + 1) L (.long x :: st) M r) : qsem G d y pc L (st) M r :=
  q_stack (fun p l e R s m args below meth c H locs cells slots Q ls C hL k => lv_lload_n C.1 C.2.1 hd rfl (hL.2.2 _ _ hl) k) h
theorem q_lload {i : Nat} {x : Int64} (hd : decode (qB y) pc = .ok (.lload i, 2)) (hl : L[i]? = some (some (.long x))) (h : qsem G d y (pc + 2) L (.long x :: st) M r) : qsem G d y pc L (st) M r :=
  q_stack (fun p l e R s m args below meth c H locs cells slots Q ls C hL k => lv_lload C.1 C.2.1 hd (hL.2.2 _ _ hl) k) h
theorem q_aload_n {k : Fin 4} {x : Nat} (hd : decode (qB y) pc = .ok (.aload_n k, 1)) (hl : L[(k : Nat)]? = some (some (.ref x))) (h : qsem G d y (pc + 1) L (.ref x :: st) M r) : qsem G d y pc L (st) M r :=
  q_stack (fun p l e R s m args below meth c H locs cells slots Q ls C hL k => lv_aload_n C.1 C.2.1 hd rfl (hL.2.2 _ _ hl) k) h
theorem q_aload {i : Nat} {x : Nat} (hd : decode (qB y) pc = .ok (.aload i, 2)) (hl : L[i]? = some (some (.ref x))) (h : qsem G d y (pc + 2) L (.ref x :: st) M r) : qsem G d y pc L (st) M r :=
  q_stack (fun p l e R s m args below meth c H locs cells slots Q ls C hL k => lv_aload C.1 C.2.1 hd (hL.2.2 _ _ hl) k) h
theorem q_isub {x z : Int32} (hd : decode (qB y) pc = .ok (.isub, 1))  (h : qsem G d y (pc + 1) L (.int (x - z) :: st) M r) : qsem G d y pc L (.int z :: .int x :: st) M r :=
  q_stack (fun p l e R s m args below meth c H locs cells slots Q ls C hL k => lv_isub C.1 C.2.1 hd  k) h
theorem q_imul {x z : Int32} (hd : decode (qB y) pc = .ok (.imul, 1))  (h : qsem G d y (pc + 1) L (.int (x * z) :: st) M r) : qsem G d y pc L (.int z :: .int x :: st) M r :=
  q_stack (fun p l e R s m args below meth c H locs cells slots Q ls C hL k => lv_imul C.1 C.2.1 hd  k) h
theorem q_iand {x z : Int32} (hd : decode (qB y) pc = .ok (.iand, 1))  (h : qsem G d y (pc + 1) L (.int (x &&& z) :: st) M r) : qsem G d y pc L (.int z :: .int x :: st) M r :=
  q_stack (fun p l e R s m args below meth c H locs cells slots Q ls C hL k => lv_iand C.1 C.2.1 hd  k) h
theorem q_ior {x z : Int32} (hd : decode (qB y) pc = .ok (.ior, 1))  (h : qsem G d y (pc + 1) L (.int (x ||| z) :: st) M r) : qsem G d y pc L (.int z :: .int x :: st) M r :=
  q_stack (fun p l e R s m args below meth c H locs cells slots Q ls C hL k => lv_ior C.1 C.2.1 hd  k) h
theorem q_ixor {x z : Int32} (hd : decode (qB y) pc = .ok (.ixor, 1))  (h : qsem G d y (pc + 1) L (.int (x ^^^ z) :: st) M r) : qsem G d y pc L (.int z :: .int x :: st) M r :=
  q_stack (fun p l e R s m args below meth c H locs cells slots Q ls C hL k => lv_ixor C.1 C.2.1 hd  k) h
theorem q_ishl {x z : Int32} (hd : decode (qB y) pc = .ok (.ishl, 1))  (h : qsem G d y (pc + 1) L (.int (x <<< (z &&& 31)) :: st) M r) : qsem G d y pc L (.int z :: .int x :: st) M r :=
  q_stack (fun p l e R s m args below meth c H locs cells slots Q ls C hL k => lv_ishl C.1 C.2.1 hd  k) h
theorem q_ishr {x z : Int32} (hd : decode (qB y) pc = .ok (.ishr, 1))  (h : qsem G d y (pc + 1) L (.int (x >>> (z &&& 31)) :: st) M r) : qsem G d y pc L (.int z :: .int x :: st) M r :=
  q_stack (fun p l e R s m args below meth c H locs cells slots Q ls C hL k => lv_ishr C.1 C.2.1 hd  k) h
theorem q_idiv {x z : Int32} (hd : decode (qB y) pc = .ok (.idiv, 1)) (hn : ¬ z = 0) (h : qsem G d y (pc + 1) L (.int (x / z) :: st) M r) : qsem G d y pc L (.int z :: .int x :: st) M r :=
  q_stack (fun p l e R s m args below meth c H locs cells slots Q ls C hL k => lv_idiv C.1 C.2.1 hd hn k) h
theorem q_irem {x z : Int32} (hd : decode (qB y) pc = .ok (.irem, 1)) (hn : ¬ z = 0) (h : qsem G d y (pc + 1) L (.int (x - x / z * z) :: st) M r) : qsem G d y pc L (.int z :: .int x :: st) M r :=
  q_stack (fun p l e R s m args below meth c H locs cells slots Q ls C hL k => lv_irem C.1 C.2.1 hd hn k) h
theorem q_ladd {x z : Int64} (hd : decode (qB y) pc = .ok (.ladd, 1))  (h : qsem G d y (pc + 1) L (.long (x + z) :: st) M r) : qsem G d y pc L (.long z :: .long x :: st) M r :=
  q_stack (fun p l e R s m args below meth c H locs cells slots Q ls C hL k => lv_ladd C.1 C.2.1 hd  k) h
theorem q_lsub {x z : Int64} (hd : decode (qB y) pc = .ok (.lsub, 1))  (h : qsem G d y (pc + 1) L (.long (x - z) :: st) M r) : qsem G d y pc L (.long z :: .long x :: st) M r :=
  q_stack (fun p l e R s m args below meth c H locs cells slots Q ls C hL k => lv_lsub C.1 C.2.1 hd  k) h
theorem q_lmul {x z : Int64} (hd : decode (qB y) pc = .ok (.lmul, 1))  (h : qsem G d y (pc + 1) L (.long (x * z) :: st) M r) : qsem G d y pc L (.long z :: .long x :: st) M r :=
  q_stack (fun p l e R s m args below meth c H locs cells slots Q ls C hL k => lv_lmul C.1 C.2.1 hd  k) h
theorem q_land {x z : Int64} (hd : decode (qB y) pc = .ok (.land, 1))  (h : qsem G d y (pc + 1) L (.long (x &&& z) :: st) M r) : qsem G d y pc L (.long z :: .long x :: st) M r :=
  q_stack (fun p l e R s m args below meth c H locs cells slots Q ls C hL k => lv_land C.1 C.2.1 hd  k) h
theorem q_lor {x z : Int64} (hd : decode (qB y) pc = .ok (.lor, 1))  (h : qsem G d y (pc + 1) L (.long (x ||| z) :: st) M r) : qsem G d y pc L (.long z :: .long x :: st) M r :=
  q_stack (fun p l e R s m args below meth c H locs cells slots Q ls C hL k => lv_lor C.1 C.2.1 hd  k) h
theorem q_ldiv {x z : Int64} (hd : decode (qB y) pc = .ok (.ldiv, 1)) (hn : ¬ z = 0) (h : qsem G d y (pc + 1) L (.long (x / z) :: st) M r) : qsem G d y pc L (.long z :: .long x :: st) M r :=
  q_stack (fun p l e R s m args below meth c H locs cells slots Q ls C hL k => lv_ldiv C.1 C.2.1 hd hn k) h
theorem q_lrem {x z : Int64} (hd : decode (qB y) pc = .ok (.lrem, 1)) (hn : ¬ z = 0) (h : qsem G d y (pc + 1) L (.long (x - x / z * z) :: st) M r) : qsem G d y pc L (.long z :: .long x :: st) M r :=
  q_stack (fun p l e R s m args below meth c H locs cells slots Q ls C hL k => lv_lrem C.1 C.2.1 hd hn k) h
theorem q_ineg {x : Int32} (hd : decode (qB y) pc = .ok (.ineg, 1))  (h : qsem G d y (pc + 1) L (.int (-x) :: st) M r) : qsem G d y pc L (.int x :: st) M r :=
  q_stack (fun p l e R s m args below meth c H locs cells slots Q ls C hL k => lv_ineg C.1 C.2.1 hd k) h
theorem q_lshl {x : Int64} {z : Int32} (hd : decode (qB y) pc = .ok (.lshl, 1))  (h : qsem G d y (pc + 1) L (.long (x <<< (z.toInt64 &&& 63)) :: st) M r) : qsem G d y pc L (.int z :: .long x :: st) M r :=
  q_stack (fun p l e R s m args below meth c H locs cells slots Q ls C hL k => lv_lshl C.1 C.2.1 hd rfl k) h
theorem q_lshr {x : Int64} {z : Int32} (hd : decode (qB y) pc = .ok (.lshr, 1))  (h : qsem G d y (pc + 1) L (.long (x >>> (z.toInt64 &&& 63)) :: st) M r) : qsem G d y pc L (.int z :: .long x :: st) M r :=
  q_stack (fun p l e R s m args below meth c H locs cells slots Q ls C hL k => lv_lshr C.1 C.2.1 hd rfl k) h
theorem q_i2l {x : Int32} (hd : decode (qB y) pc = .ok (.i2l, 1))  (h : qsem G d y (pc + 1) L (.long x.toInt64 :: st) M r) : qsem G d y pc L (.int x :: st) M r :=
  q_stack (fun p l e R s m args below meth c H locs cells slots Q ls C hL k => lv_i2l C.1 C.2.1 hd rfl k) h
theorem q_l2i {x : Int64} (hd : decode (qB y) pc = .ok (.l2i, 1))  (h : qsem G d y (pc + 1) L (.int x.toInt32 :: st) M r) : qsem G d y pc L (.long x :: st) M r :=
  q_stack (fun p l e R s m args below meth c H locs cells slots Q ls C hL k => lv_l2i C.1 C.2.1 hd rfl k) h
theorem q_i2b {x : Int32} (hd : decode (qB y) pc = .ok (.i2b, 1))  (h : qsem G d y (pc + 1) L (.int x.toInt8.toInt32 :: st) M r) : qsem G d y pc L (.int x :: st) M r :=
  q_stack (fun p l e R s m args below meth c H locs cells slots Q ls C hL k => lv_i2b C.1 C.2.1 hd rfl k) h
theorem q_i2c {x : Int32} (hd : decode (qB y) pc = .ok (.i2c, 1))  (h : qsem G d y (pc + 1) L (.int (x.toUInt32 % 65536).toInt32 :: st) M r) : qsem G d y pc L (.int x :: st) M r :=
  q_stack (fun p l e R s m args below meth c H locs cells slots Q ls C hL k => lv_i2c C.1 C.2.1 hd rfl k) h
theorem q_lcmp {x z : Int64} (hd : decode (qB y) pc = .ok (.lcmp, 1))  (h : qsem G d y (pc + 1) L (.int (lg_cmp x z) :: st) M r) : qsem G d y pc L (.long z :: .long x :: st) M r :=
  q_stack (fun p l e R s m args below meth c H locs cells slots Q ls C hL k => W.lcmp C.1 C.2.1 hd k) h
theorem q_dup {v : Value} (hd : decode (qB y) pc = .ok (.dup, 1)) (hv : v.category = 1) (h : qsem G d y (pc + 1) L (v :: v :: st) M r) : qsem G d y pc L (v :: st) M r :=
  q_stack (fun p l e R s m args below meth c H locs cells slots Q ls C hL k => lv_dup C.1 C.2.1 hd ((qtr_cat _ v).trans hv) k) h
theorem q_pop {v : Value} (hd : decode (qB y) pc = .ok (.pop, 1)) (hv : v.category = 1) (h : qsem G d y (pc + 1) L (st) M r) : qsem G d y pc L (v :: st) M r :=
  q_stack (fun p l e R s m args below meth c H locs cells slots Q ls C hL k => lv_pop C.1 C.2.1 hd ((qtr_cat _ v).trans hv) k) h
theorem q_dup2 {u v : Value} (hd : decode (qB y) pc = .ok (.dup2, 1)) (hv : v.category = 1) (hu : u.category = 1) (h : qsem G d y (pc + 1) L (v :: u :: v :: u :: st) M r) : qsem G d y pc L (v :: u :: st) M r :=
  q_stack (fun p l e R s m args below meth c H locs cells slots Q ls C hL k => lv_dup2_11 C.1 C.2.1 hd ((qtr_cat _ v).trans hv) ((qtr_cat _ u).trans hu) k) h
theorem q_dup2L {v : Value} (hd : decode (qB y) pc = .ok (.dup2, 1)) (hv : v.category = 2) (h : qsem G d y (pc + 1) L (v :: v :: st) M r) : qsem G d y pc L (v :: st) M r :=
  q_stack (fun p l e R s m args below meth c H locs cells slots Q ls C hL k => lv_dup2_2 C.1 C.2.1 hd ((qtr_cat _ v).trans hv) k) h
theorem q_goto {off : Int} {tgt : Nat} (hd : decode (qB y) pc = .ok (.goto off, 3)) (ht : (pc : Int) + off = (tgt : Int)) (h : qsem G d y tgt L st M r) : qsem G d y pc L st M r :=
  q_stack (fun p l e R s m args below meth c H locs cells slots Q ls C hL k => lv_goto C.1 C.2.1 hd ht k) h
theorem q_icmp_eq {x z : Int32} {off : Int} {tgt : Nat} (hd : decode (qB y) pc = .ok (.if_icmp .eq off, 3)) (ht : (pc : Int) + off = (tgt : Int)) (h1 : x = z → qsem G d y tgt L st M r) (h2 : ¬ x = z → qsem G d y (pc + 3) L st M r) : qsem G d y pc L (.int z :: .int x :: st) M r :=
  q_br (fun p l e R s m args below meth c H locs cells slots Q ls C k1 k2 => lv_icmp_eq C.1 C.2.1 hd ht k1 k2) h1 h2
theorem q_if_eq {x : Int32} {off : Int} {tgt : Nat} (hd : decode (qB y) pc = .ok (.ifCond .eq off, 3)) (ht : (pc : Int) + off = (tgt : Int)) (h1 : x = 0 → qsem G d y tgt L st M r) (h2 : ¬ x = 0 → qsem G d y (pc + 3) L st M r) : qsem G d y pc L (.int x :: st) M r :=
  q_br (fun p l e R s m args below meth c H locs cells slots Q ls C k1 k2 => lv_if_eq C.1 C.2.1 hd ht k1 k2) h1 h2
theorem q_if_lt {x : Int32} {off : Int} {tgt : Nat} (hd : decode (qB y) pc = .ok (.ifCond .lt off, 3)) (ht : (pc : Int) + off = (tgt : Int)) (h1 : x < 0 → qsem G d y tgt L st M r) (h2 : ¬ x < 0 → qsem G d y (pc + 3) L st M r) : qsem G d y pc L (.int x :: st) M r :=
  q_br (fun p l e R s m args below meth c H locs cells slots Q ls C k1 k2 => lv_if_lt C.1 C.2.1 hd ht k1 k2) h1 h2
theorem q_icmp_ge {x z : Int32} {off : Int} {tgt : Nat} (hd : decode (qB y) pc = .ok (.if_icmp .ge off, 3)) (ht : (pc : Int) + off = (tgt : Int)) (h1 : z ≤ x → qsem G d y tgt L st M r) (h2 : ¬ z ≤ x → qsem G d y (pc + 3) L st M r) : qsem G d y pc L (.int z :: .int x :: st) M r :=
  q_br (fun p l e R s m args below meth c H locs cells slots Q ls C k1 k2 => lv_icmp_ge C.1 C.2.1 hd ht k1 k2) h1 h2
theorem q_if_ge {x : Int32} {off : Int} {tgt : Nat} (hd : decode (qB y) pc = .ok (.ifCond .ge off, 3)) (ht : (pc : Int) + off = (tgt : Int)) (h1 : 0 ≤ x → qsem G d y tgt L st M r) (h2 : ¬ 0 ≤ x → qsem G d y (pc + 3) L st M r) : qsem G d y pc L (.int x :: st) M r :=
  q_br (fun p l e R s m args below meth c H locs cells slots Q ls C k1 k2 => lv_if_ge C.1 C.2.1 hd ht k1 k2) h1 h2
theorem q_icmp_gt {x z : Int32} {off : Int} {tgt : Nat} (hd : decode (qB y) pc = .ok (.if_icmp .gt off, 3)) (ht : (pc : Int) + off = (tgt : Int)) (h1 : z < x → qsem G d y tgt L st M r) (h2 : ¬ z < x → qsem G d y (pc + 3) L st M r) : qsem G d y pc L (.int z :: .int x :: st) M r :=
  q_br (fun p l e R s m args below meth c H locs cells slots Q ls C k1 k2 => lv_icmp_gt C.1 C.2.1 hd ht k1 k2) h1 h2
theorem q_if_gt {x : Int32} {off : Int} {tgt : Nat} (hd : decode (qB y) pc = .ok (.ifCond .gt off, 3)) (ht : (pc : Int) + off = (tgt : Int)) (h1 : 0 < x → qsem G d y tgt L st M r) (h2 : ¬ 0 < x → qsem G d y (pc + 3) L st M r) : qsem G d y pc L (.int x :: st) M r :=
  q_br (fun p l e R s m args below meth c H locs cells slots Q ls C k1 k2 => lv_if_gt C.1 C.2.1 hd ht k1 k2) h1 h2
theorem q_icmp_le {x z : Int32} {off : Int} {tgt : Nat} (hd : decode (qB y) pc = .ok (.if_icmp .le off, 3)) (ht : (pc : Int) + off = (tgt : Int)) (h1 : x ≤ z → qsem G d y tgt L st M r) (h2 : ¬ x ≤ z → qsem G d y (pc + 3) L st M r) : qsem G d y pc L (.int z :: .int x :: st) M r :=
  q_br (fun p l e R s m args below meth c H locs cells slots Q ls C k1 k2 => lv_icmp_le C.1 C.2.1 hd ht k1 k2) h1 h2
theorem q_if_le {x : Int32} {off : Int} {tgt : Nat} (hd : decode (qB y) pc = .ok (.ifCond .le off, 3)) (ht : (pc : Int) + off = (tgt : Int)) (h1 : x ≤ 0 → qsem G d y tgt L st M r) (h2 : ¬ x ≤ 0 → qsem G d y (pc + 3) L st M r) : qsem G d y pc L (.int x :: st) M r :=
  q_br (fun p l e R s m args below meth c H locs cells slots Q ls C k1 k2 => lv_if_le C.1 C.2.1 hd ht k1 k2) h1 h2
theorem q_icmp_ne {x z : Int32} {off : Int} {tgt : Nat} (hd : decode (qB y) pc = .ok (.if_icmp .ne off, 3)) (ht : (pc : Int) + off = (tgt : Int)) (h1 : ¬ x = z → qsem G d y tgt L st M r) (h2 : x = z → qsem G d y (pc + 3) L st M r) : qsem G d y pc L (.int z :: .int x :: st) M r :=
  q_br (c := x = z) (fun p l e R s m args below meth c H locs cells slots Q ls C k1 k2 => lv_icmp_ne C.1 C.2.1 hd ht k2 k1) h2 h1
theorem q_if_ne {x : Int32} {off : Int} {tgt : Nat} (hd : decode (qB y) pc = .ok (.ifCond .ne off, 3)) (ht : (pc : Int) + off = (tgt : Int)) (h1 : ¬ x = 0 → qsem G d y tgt L st M r) (h2 : x = 0 → qsem G d y (pc + 3) L st M r) : qsem G d y pc L (.int x :: st) M r :=
  q_br (c := x = 0) (fun p l e R s m args below meth c H locs cells slots Q ls C k1 k2 => lv_if_ne C.1 C.2.1 hd ht k2 k1) h2 h1
theorem q_ifnull {x : Nat} {off : Int} (hd : decode (qB y) pc = .ok (.ifnull off, 3)) (h : qsem G d y (pc + 3) L st M r) : qsem G d y pc L (.ref x :: st) M r :=
  q_stack (fun p l e R s m args below meth c H locs cells slots Q ls C hL k => lv_ifnull C.1 C.2.1 hd k) h
theorem q_ifnullN {off : Int} {tgt : Nat} (hd : decode (qB y) pc = .ok (.ifnull off, 3)) (ht : (pc : Int) + off = (tgt : Int)) (h : qsem G d y tgt L st M r) : qsem G d y pc L (.null :: st) M r :=
  q_stack (fun p l e R s m args below meth c H locs cells slots Q ls C hL k => lv_ifnullN C.1 C.2.1 hd ht k) h
theorem q_tableOut {dflt lo hi : Int} {offs : Array Int} {len : Nat} {x : Int32} {tgt : Nat} (hd : decode (qB y) pc = .ok (.tableswitch dflt lo hi offs, len)) (hx : x.toInt < lo ∨ hi < x.toInt) (ht : (pc : Int) + dflt = (tgt : Int)) (h : qsem G d y tgt L st M r) : qsem G d y pc L (.int x :: st) M r :=
  q_stack (fun p l e R s m args below meth c H locs cells slots Q ls C hL k => lv_tableOut C.1 C.2.1 hd hx ht k) h
theorem q_tableIn {dflt lo hi : Int} {offs : Array Int} {len : Nat} {x : Int32} {off : Int} {tgt : Nat} (hd : decode (qB y) pc = .ok (.tableswitch dflt lo hi offs, len)) (h1 : ¬ x.toInt < lo) (h2 : ¬ hi < x.toInt) (ho : offs[(x.toInt - lo).toNat]? = some off) (ht : (pc : Int) + off = (tgt : Int)) (h : qsem G d y tgt L st M r) : qsem G d y pc L (.int x :: st) M r :=
  q_stack (fun p l e R s m args below meth c H locs cells slots Q ls C hL k => lv_tableIn C.1 C.2.1 hd h1 h2 ho ht k) h
theorem q_ldc {n : Nat} {v : Int32} (hd : decode (qB y) pc = .ok (.ldc n, 2)) (hw : Cond.constant (qnm y).cls n v ∈ qtb) (h : qsem G d y (pc + 2) L (.int v :: st) M r) : qsem G d y pc L st M r :=
  q_stack (fun p l e R s m args below meth c H locs cells slots Q ls C hL k => lv_ldc C.1 C.2.1 C.2.2.2.2.1 (C.2.2.2.2.2.2.2.1 _ hw args) hd k) h
theorem q_ldcw {n : Nat} {v : Int32} (hd : decode (qB y) pc = .ok (.ldc_w n, 3)) (hw : Cond.constant (qnm y).cls n v ∈ qtb) (h : qsem G d y (pc + 3) L (.int v :: st) M r) : qsem G d y pc L st M r :=
  q_stack (fun p l e R s m args below meth c H locs cells slots Q ls C hL k => lv_ldcw C.1 C.2.1 C.2.2.2.2.1 (C.2.2.2.2.2.2.2.1 _ hw args) hd k) h
theorem q_ldc2 {n : Nat} {v : Int64} (hd : decode (qB y) pc = .ok (.ldc2_w n, 3)) (hw : Cond.constantLong (qnm y).cls n v ∈ qtb) (h : qsem G d y (pc + 3) L (.long v :: st) M r) : qsem G d y pc L st M r :=
  q_stack (fun p l e R s m args below meth c H locs cells slots Q ls C hL k => lv_ldc2 C.1 C.2.1 C.2.2.2.2.1 (C.2.2.2.2.2.2.2.1 _ hw args) hd k) h
end QR

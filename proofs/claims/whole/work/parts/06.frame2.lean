section FR
variable {K : Kx} {M : Md} {d mc ms : Nat} {Q : Qx} {pc : Nat} {L : List (Option Value)} {st : List Value} {w : Wd} {sz cc ss : Nat}
theorem N.iconst {n : Int} {v : Int32} (hd : decode M.2.1 pc = .ok (.iconst n, 1)) (hv : Int32.ofInt n = v) (k : N K M d mc ms Q (pc + 1) L (.int v :: st) w sz cc ss) : N K M d mc ms Q pc L st w sz cc ss := by
  intro p e s m args below meth c H locs ls C hW hF hL hl
  exact lv_iconst C.1 C.2.1 hd hv (k p e s m args below meth c H locs ls C hW hF hL hl)
theorem N.bipush {n : Int} {v : Int32} (hd : decode M.2.1 pc = .ok (.bipush n, 2)) (hv : (Int8.ofInt n).toInt32 = v) (k : N K M d mc ms Q (pc + 2) L (.int v :: st) w sz cc ss) : N K M d mc ms Q pc L st w sz cc ss := by
  intro p e s m args below meth c H locs ls C hW hF hL hl
  exact lv_bipush C.1 C.2.1 hd hv (k p e s m args below meth c H locs ls C hW hF hL hl)
theorem N.sipush {n : Int} {v : Int32} (hd : decode M.2.1 pc = .ok (.sipush n, 3)) (hv : (Int16.ofInt n).toInt32 = v) (k : N K M d mc ms Q (pc + 3) L (.int v :: st) w sz cc ss) : N K M d mc ms Q pc L st w sz cc ss := by
  intro p e s m args below meth c H locs ls C hW hF hL hl
  exact lv_sipush C.1 C.2.1 hd hv (k p e s m args below meth c H locs ls C hW hF hL hl)
theorem N.lconst {n : Fin 2} {v : Int64} (hd : decode M.2.1 pc = .ok (.lconst n, 1)) (hv : Int64.ofNat (n : Nat) = v) (k : N K M d mc ms Q (pc + 1) L (.long v :: st) w sz cc ss) : N K M d mc ms Q pc L st w sz cc ss := by
  intro p e s m args below meth c H locs ls C hW hF hL hl
  exact lv_lconst C.1 C.2.1 hd hv (k p e s m args below meth c H locs ls C hW hF hL hl)
theorem N.ldc {i : Nat} {v : Int32} (hd : decode M.2.1 pc = .ok (.ldc i, 2)) (hc : Cond.constant M.1.cls i v ∈ gT) (k : N K M d mc ms Q (pc + 2) L (.int v :: st) w sz cc ss) : N K M d mc ms Q pc L st w sz cc ss := by
  intro p e s m args below meth c H locs ls C hW hF hL hl
  exact lv_ldc C.1 C.2.1 C.2.2.2.2.2.1 (C.2.2.2.2.2.2.2.1 _ (List.mem_cons_of_mem _ hc)) hd (k p e s m args below meth c H locs ls C hW hF hL hl)
theorem N.ldcw {i : Nat} {v : Int32} (hd : decode M.2.1 pc = .ok (.ldc_w i, 3)) (hc : Cond.constant M.1.cls i v ∈ gT) (k : N K M d mc ms Q (pc + 3) L (.int v :: st) w sz cc ss) : N K M d mc ms Q pc L st w sz cc ss := by
  intro p e s m args below meth c H locs ls C hW hF hL hl
  exact lv_ldcw C.1 C.2.1 C.2.2.2.2.2.1 (C.2.2.2.2.2.2.2.1 _ (List.mem_cons_of_mem _ hc)) hd (k p e s m args below meth c H locs ls C hW hF hL hl)
theorem N.ldc2 {i : Nat} {v : Int64} (hd : decode M.2.1 pc = .ok (.ldc2_w i, 3)) (hc : Cond.constantLong M.1.cls i v ∈ gT) (k : N K M d mc ms Q (pc + 3) L (.long v :: st) w sz cc ss) : N K M d mc ms Q pc L st w sz cc ss := by
  intro p e s m args below meth c H locs ls C hW hF hL hl
  exact lv_ldc2 C.1 C.2.1 C.2.2.2.2.2.1 (C.2.2.2.2.2.2.2.1 _ (List.mem_cons_of_mem _ hc)) hd (k p e s m args below meth c H locs ls C hW hF hL hl)
theorem N.ldcS {i j : Nat} {tx : String} (hd : decode M.2.1 pc = .ok (.ldc i, 2)) (hc : strs[j]? = some (M.1.cls, i, tx)) (k : N K M d mc ms Q (pc + 2) L (.ref (kA K (j % 7)) :: st) w sz cc ss) : N K M d mc ms Q pc L st w sz cc ss := by
  intro p e s m args below meth c H locs ls C hW hF hL hl
  exact va_ldcS C.1 C.2.1 C.2.2.2.2.2.1 (C.2.2.2.2.2.2.2.2.1.2.2.1 j _ hc) hd (k p e s m args below meth c H locs ls C hW hF hL hl)
theorem N.anull (hd : decode M.2.1 pc = .ok (.aconst_null, 1)) (k : N K M d mc ms Q (pc + 1) L (.null :: st) w sz cc ss) : N K M d mc ms Q pc L st w sz cc ss := by
  intro p e s m args below meth c H locs ls C hW hF hL hl
  exact lv_null C.1 C.2.1 hd (k p e s m args below meth c H locs ls C hW hF hL hl)
theorem N.iadd {x y : Int32} (hd : decode M.2.1 pc = .ok (.iadd, 1)) (k : N K M d mc ms Q (pc + 1) L (.int (x + y) :: st) w sz cc ss) : N K M d mc ms Q pc L (.int y :: .int x :: st) w sz cc ss := by
  intro p e s m args below meth c H locs ls C hW hF hL hl
  exact lv_iadd C.1 C.2.1 hd (k p e s m args below meth c H locs ls C hW hF hL hl)
theorem N.isub {x y : Int32} (hd : decode M.2.1 pc = .ok (.isub, 1)) (k : N K M d mc ms Q (pc + 1) L (.int (x - y) :: st) w sz cc ss) : N K M d mc ms Q pc L (.int y :: .int x :: st) w sz cc ss := by
  intro p e s m args below meth c H locs ls C hW hF hL hl
  exact lv_isub C.1 C.2.1 hd (k p e s m args below meth c H locs ls C hW hF hL hl)
theorem N.imul {x y : Int32} (hd : decode M.2.1 pc = .ok (.imul, 1)) (k : N K M d mc ms Q (pc + 1) L (.int (x * y) :: st) w sz cc ss) : N K M d mc ms Q pc L (.int y :: .int x :: st) w sz cc ss := by
  intro p e s m args below meth c H locs ls C hW hF hL hl
  exact lv_imul C.1 C.2.1 hd (k p e s m args below meth c H locs ls C hW hF hL hl)
theorem N.iand {x y : Int32} (hd : decode M.2.1 pc = .ok (.iand, 1)) (k : N K M d mc ms Q (pc + 1) L (.int (x &&& y) :: st) w sz cc ss) : N K M d mc ms Q pc L (.int y :: .int x :: st) w sz cc ss := by
  intro p e s m args below meth c H locs ls C hW hF hL hl
  exact lv_iand C.1 C.2.1 hd (k p e s m args below meth c H locs ls C hW hF hL hl)
theorem N.ior {x y : Int32} (hd : decode M.2.1 pc = .ok (.ior, 1)) (k : N K M d mc ms Q (pc + 1) L (.int (x ||| y) :: st) w sz cc ss) : N K M d mc ms Q pc L (.int y :: .int x :: st) w sz cc ss := by
  intro p e s m args below meth c H locs ls C hW hF hL hl
  exact lv_ior C.1 C.2.1 hd (k p e s m args below meth c H locs ls C hW hF hL hl)
theorem N.ixor {x y : Int32} (hd : decode M.2.1 pc = .ok (.ixor, 1)) (k : N K M d mc ms Q (pc + 1) L (.int (x ^^^ y) :: st) w sz cc ss) : N K M d mc ms Q pc L (.int y :: .int x :: st) w sz cc ss := by
  intro p e s m args below meth c H locs ls C hW hF hL hl
  exact lv_ixor C.1 C.2.1 hd (k p e s m args below meth c H locs ls C hW hF hL hl)
theorem N.ladd {x y : Int64} (hd : decode M.2.1 pc = .ok (.ladd, 1)) (k : N K M d mc ms Q (pc + 1) L (.long (x + y) :: st) w sz cc ss) : N K M d mc ms Q pc L (.long y :: .long x :: st) w sz cc ss := by
  intro p e s m args below meth c H locs ls C hW hF hL hl
  exact lv_ladd C.1 C.2.1 hd (k p e s m args below meth c H locs ls C hW hF hL hl)
theorem N.lsub {x y : Int64} (hd : decode M.2.1 pc = .ok (.lsub, 1)) (k : N K M d mc ms Q (pc + 1) L (.long (x - y) :: st) w sz cc ss) : N K M d mc ms Q pc L (.long y :: .long x :: st) w sz cc ss := by
  intro p e s m args below meth c H locs ls C hW hF hL hl
  exact lv_lsub C.1 C.2.1 hd (k p e s m args below meth c H locs ls C hW hF hL hl)
theorem N.lmul {x y : Int64} (hd : decode M.2.1 pc = .ok (.lmul, 1)) (k : N K M d mc ms Q (pc + 1) L (.long (x * y) :: st) w sz cc ss) : N K M d mc ms Q pc L (.long y :: .long x :: st) w sz cc ss := by
  intro p e s m args below meth c H locs ls C hW hF hL hl
  exact lv_lmul C.1 C.2.1 hd (k p e s m args below meth c H locs ls C hW hF hL hl)
theorem N.land {x y : Int64} (hd : decode M.2.1 pc = .ok (.land, 1)) (k : N K M d mc ms Q (pc + 1) L (.long (x &&& y) :: st) w sz cc ss) : N K M d mc ms Q pc L (.long y :: .long x :: st) w sz cc ss := by
  intro p e s m args below meth c H locs ls C hW hF hL hl
  exact lv_land C.1 C.2.1 hd (k p e s m args below meth c H locs ls C hW hF hL hl)
theorem N.lor {x y : Int64} (hd : decode M.2.1 pc = .ok (.lor, 1)) (k : N K M d mc ms Q (pc + 1) L (.long (x ||| y) :: st) w sz cc ss) : N K M d mc ms Q pc L (.long y :: .long x :: st) w sz cc ss := by
  intro p e s m args below meth c H locs ls C hW hF hL hl
  exact lv_lor C.1 C.2.1 hd (k p e s m args below meth c H locs ls C hW hF hL hl)
theorem N.lxor {x y : Int64} (hd : decode M.2.1 pc = .ok (.lxor, 1)) (k : N K M d mc ms Q (pc + 1) L (.long (x ^^^ y) :: st) w sz cc ss) : N K M d mc ms Q pc L (.long y :: .long x :: st) w sz cc ss := by
  intro p e s m args below meth c H locs ls C hW hF hL hl
  exact lv_lxor C.1 C.2.1 hd (k p e s m args below meth c H locs ls C hW hF hL hl)
theorem N.ishl {x y : Int32} (hd : decode M.2.1 pc = .ok (.ishl, 1)) (k : N K M d mc ms Q (pc + 1) L (.int (x <<< (y &&& 31)) :: st) w sz cc ss) : N K M d mc ms Q pc L (.int y :: .int x :: st) w sz cc ss := by
  intro p e s m args below meth c H locs ls C hW hF hL hl
  exact lv_ishl C.1 C.2.1 hd (k p e s m args below meth c H locs ls C hW hF hL hl)
theorem N.ishr {x y : Int32} (hd : decode M.2.1 pc = .ok (.ishr, 1)) (k : N K M d mc ms Q (pc + 1) L (.int (x >>> (y &&& 31)) :: st) w sz cc ss) : N K M d mc ms Q pc L (.int y :: .int x :: st) w sz cc ss := by
  intro p e s m args below meth c H locs ls C hW hF hL hl
  exact lv_ishr C.1 C.2.1 hd (k p e s m args below meth c H locs ls C hW hF hL hl)
theorem N.iushr {x y : Int32} (hd : decode M.2.1 pc = .ok (.iushr, 1)) (k : N K M d mc ms Q (pc + 1) L (.int ((x.toUInt32 >>> (y.toUInt32 &&& Int32.toUInt32 31)).toInt32) :: st) w sz cc ss) : N K M d mc ms Q pc L (.int y :: .int x :: st) w sz cc ss := by
  intro p e s m args below meth c H locs ls C hW hF hL hl
  exact lv_iushr C.1 C.2.1 hd rfl (k p e s m args below meth c H locs ls C hW hF hL hl)
theorem N.lshl {x : Int64} {y : Int32} (hd : decode M.2.1 pc = .ok (.lshl, 1)) (k : N K M d mc ms Q (pc + 1) L (.long (x <<< (y.toInt64 &&& 63)) :: st) w sz cc ss) : N K M d mc ms Q pc L (.int y :: .long x :: st) w sz cc ss := by
  intro p e s m args below meth c H locs ls C hW hF hL hl
  exact lv_lshl C.1 C.2.1 hd rfl (k p e s m args below meth c H locs ls C hW hF hL hl)
theorem N.idiv {x y : Int32} (hd : decode M.2.1 pc = .ok (.idiv, 1)) (hy : ¬ y = 0) (k : N K M d mc ms Q (pc + 1) L (.int (x / y) :: st) w sz cc ss) : N K M d mc ms Q pc L (.int y :: .int x :: st) w sz cc ss := by
  intro p e s m args below meth c H locs ls C hW hF hL hl
  exact lv_idiv C.1 C.2.1 hd hy (k p e s m args below meth c H locs ls C hW hF hL hl)
theorem N.irem {x y : Int32} (hd : decode M.2.1 pc = .ok (.irem, 1)) (hy : ¬ y = 0) (k : N K M d mc ms Q (pc + 1) L (.int (x - x / y * y) :: st) w sz cc ss) : N K M d mc ms Q pc L (.int y :: .int x :: st) w sz cc ss := by
  intro p e s m args below meth c H locs ls C hW hF hL hl
  exact lv_irem C.1 C.2.1 hd hy (k p e s m args below meth c H locs ls C hW hF hL hl)
theorem N.ldiv {x y : Int64} (hd : decode M.2.1 pc = .ok (.ldiv, 1)) (hy : ¬ y = 0) (k : N K M d mc ms Q (pc + 1) L (.long (x / y) :: st) w sz cc ss) : N K M d mc ms Q pc L (.long y :: .long x :: st) w sz cc ss := by
  intro p e s m args below meth c H locs ls C hW hF hL hl
  exact lv_ldiv C.1 C.2.1 hd hy (k p e s m args below meth c H locs ls C hW hF hL hl)
theorem N.ineg {x : Int32} (hd : decode M.2.1 pc = .ok (.ineg, 1)) (k : N K M d mc ms Q (pc + 1) L (.int (-x) :: st) w sz cc ss) : N K M d mc ms Q pc L (.int x :: st) w sz cc ss := by
  intro p e s m args below meth c H locs ls C hW hF hL hl
  exact lv_ineg C.1 C.2.1 hd (k p e s m args below meth c H locs ls C hW hF hL hl)
theorem N.i2l {x : Int32} (hd : decode M.2.1 pc = .ok (.i2l, 1)) (k : N K M d mc ms Q (pc + 1) L (.long x.toInt64 :: st) w sz cc ss) : N K M d mc ms Q pc L (.int x :: st) w sz cc ss := by
  intro p e s m args below meth c H locs ls C hW hF hL hl
  exact lv_i2l C.1 C.2.1 hd rfl (k p e s m args below meth c H locs ls C hW hF hL hl)
theorem N.l2i {x : Int64} (hd : decode M.2.1 pc = .ok (.l2i, 1)) (k : N K M d mc ms Q (pc + 1) L (.int x.toInt32 :: st) w sz cc ss) : N K M d mc ms Q pc L (.long x :: st) w sz cc ss := by
  intro p e s m args below meth c H locs ls C hW hF hL hl
  exact lv_l2i C.1 C.2.1 hd rfl (k p e s m args below meth c H locs ls C hW hF hL hl)
theorem N.i2b {x : Int32} (hd : decode M.2.1 pc = .ok (.i2b, 1)) (k : N K M d mc ms Q (pc + 1) L (.int x.toInt8.toInt32 :: st) w sz cc ss) : N K M d mc ms Q pc L (.int x :: st) w sz cc ss := by
  intro p e s m args below meth c H locs ls C hW hF hL hl
  exact lv_i2b C.1 C.2.1 hd rfl (k p e s m args below meth c H locs ls C hW hF hL hl)
theorem N.i2s {x : Int32} (hd : decode M.2.1 pc = .ok (.i2s, 1)) (k : N K M d mc ms Q (pc + 1) L (.int x.toInt16.toInt32 :: st) w sz cc ss) : N K M d mc ms Q pc L (.int x :: st) w sz cc ss := by
  intro p e s m args below meth c H locs ls C hW hF hL hl
  exact lv_i2s C.1 C.2.1 hd rfl (k p e s m args below meth c H locs ls C hW hF hL hl)
theorem N.i2c {x : Int32} (hd : decode M.2.1 pc = .ok (.i2c, 1)) (k : N K M d mc ms Q (pc + 1) L (.int (x.toUInt32 % 65536).toInt32 :: st) w sz cc ss) : N K M d mc ms Q pc L (.int x :: st) w sz cc ss := by
  intro p e s m args below meth c H locs ls C hW hF hL hl
  exact lv_i2c C.1 C.2.1 hd rfl (k p e s m args below meth c H locs ls C hW hF hL hl)
theorem N.lcmp {x y : Int64} (hd : decode M.2.1 pc = .ok (.lcmp, 1)) (k : N K M d mc ms Q (pc + 1) L (.int (lg_cmp x y) :: st) w sz cc ss) : N K M d mc ms Q pc L (.long y :: .long x :: st) w sz cc ss := by
  intro p e s m args below meth c H locs ls C hW hF hL hl
  exact W.lcmp C.1 C.2.1 hd (k p e s m args below meth c H locs ls C hW hF hL hl)
theorem N.dup {v : Value} (hd : decode M.2.1 pc = .ok (.dup, 1)) (hv : v.category = 1) (k : N K M d mc ms Q (pc + 1) L (v :: v :: st) w sz cc ss) : N K M d mc ms Q pc L (v :: st) w sz cc ss := by
  intro p e s m args below meth c H locs ls C hW hF hL hl
  exact lv_dup C.1 C.2.1 hd hv (k p e s m args below meth c H locs ls C hW hF hL hl)
theorem N.pop {v : Value} (hd : decode M.2.1 pc = .ok (.pop, 1)) (hv : v.category = 1) (k : N K M d mc ms Q (pc + 1) L st w sz cc ss) : N K M d mc ms Q pc L (v :: st) w sz cc ss := by
  intro p e s m args below meth c H locs ls C hW hF hL hl
  exact lv_pop C.1 C.2.1 hd hv (k p e s m args below meth c H locs ls C hW hF hL hl)
theorem N.dup_x1 {u v : Value} (hd : decode M.2.1 pc = .ok (.dup_x1, 1)) (hv : v.category = 1) (hu : u.category = 1) (k : N K M d mc ms Q (pc + 1) L (v :: u :: v :: st) w sz cc ss) : N K M d mc ms Q pc L (v :: u :: st) w sz cc ss := by
  intro p e s m args below meth c H locs ls C hW hF hL hl
  exact lv_dup_x1 C.1 C.2.1 hd hv hu (k p e s m args below meth c H locs ls C hW hF hL hl)
theorem N.dup2 {u v : Value} (hd : decode M.2.1 pc = .ok (.dup2, 1)) (hv : v.category = 1) (hu : u.category = 1) (k : N K M d mc ms Q (pc + 1) L (v :: u :: v :: u :: st) w sz cc ss) : N K M d mc ms Q pc L (v :: u :: st) w sz cc ss := by
  intro p e s m args below meth c H locs ls C hW hF hL hl
  exact lv_dup2_11 C.1 C.2.1 hd hv hu (k p e s m args below meth c H locs ls C hW hF hL hl)
theorem N.if_eq {x : Int32} {off : Int} {tgt : Nat} (hd : decode M.2.1 pc = .ok (.ifCond .eq off, 3)) (ht : (pc : Int) + off = (tgt : Int)) (kt : x = 0 → N K M d mc ms Q tgt L st w sz cc ss) (kf : ¬ x = 0 → N K M d mc ms Q (pc + 3) L st w sz cc ss) : N K M d mc ms Q pc L (.int x :: st) w sz cc ss := by
  intro p e s m args below meth c H locs ls C hW hF hL hl
  exact lv_if_eq C.1 C.2.1 hd ht (fun q => kt q p e s m args below meth c H locs ls C hW hF hL hl) (fun q => kf q p e s m args below meth c H locs ls C hW hF hL hl)
theorem N.icmp_eq {x y : Int32} {off : Int} {tgt : Nat} (hd : decode M.2.1 pc = .ok (.if_icmp .eq off, 3)) (ht : (pc : Int) + off = (tgt : Int)) (kt : x = y → N K M d mc ms Q tgt L st w sz cc ss) (kf : ¬ x = y → N K M d mc ms Q (pc + 3) L st w sz cc ss) : N K M d mc ms Q pc L (.int y :: .int x :: st) w sz cc ss := by
  intro p e s m args below meth c H locs ls C hW hF hL hl
  exact lv_icmp_eq C.1 C.2.1 hd ht (fun q => kt q p e s m args below meth c H locs ls C hW hF hL hl) (fun q => kf q p e s m args below meth c H locs ls C hW hF hL hl)
theorem N.if_ne {x : Int32} {off : Int} {tgt : Nat} (hd : decode M.2.1 pc = .ok (.ifCond .ne off, 3)) (ht : (pc : Int) + off = (tgt : Int)) (kt : ¬ x = 0 → N K M d mc ms Q tgt L st w sz cc ss) (kf : x = 0 → N K M d mc ms Q (pc + 3) L st w sz cc ss) : N K M d mc ms Q pc L (.int x :: st) w sz cc ss := by
  intro p e s m args below meth c H locs ls C hW hF hL hl
  exact lv_if_ne C.1 C.2.1 hd ht (fun q => kt q p e s m args below meth c H locs ls C hW hF hL hl) (fun q => kf q p e s m args below meth c H locs ls C hW hF hL hl)
theorem N.icmp_ne {x y : Int32} {off : Int} {tgt : Nat} (hd : decode M.2.1 pc = .ok (.if_icmp .ne off, 3)) (ht : (pc : Int) + off = (tgt : Int)) (kt : ¬ x = y → N K M d mc ms Q tgt L st w sz cc ss) (kf : x = y → N K M d mc ms Q (pc + 3) L st w sz cc ss) : N K M d mc ms Q pc L (.int y :: .int x :: st) w sz cc ss := by
  intro p e s m args below meth c H locs ls C hW hF hL hl
  exact lv_icmp_ne C.1 C.2.1 hd ht (fun q => kt q p e s m args below meth c H locs ls C hW hF hL hl) (fun q => kf q p e s m args below meth c H locs ls C hW hF hL hl)
theorem N.if_lt {x : Int32} {off : Int} {tgt : Nat} (hd : decode M.2.1 pc = .ok (.ifCond .lt off, 3)) (ht : (pc : Int) + off = (tgt : Int)) (kt : x < 0 → N K M d mc ms Q tgt L st w sz cc ss) (kf : ¬ x < 0 → N K M d mc ms Q (pc + 3) L st w sz cc ss) : N K M d mc ms Q pc L (.int x :: st) w sz cc ss := by
  intro p e s m args below meth c H locs ls C hW hF hL hl
  exact lv_if_lt C.1 C.2.1 hd ht (fun q => kt q p e s m args below meth c H locs ls C hW hF hL hl) (fun q => kf q p e s m args below meth c H locs ls C hW hF hL hl)
theorem N.icmp_lt {x y : Int32} {off : Int} {tgt : Nat} (hd : decode M.2.1 pc = .ok (.if_icmp .lt off, 3)) (ht : (pc : Int) + off = (tgt : Int)) (kt : x < y → N K M d mc ms Q tgt L st w sz cc ss) (kf : ¬ x < y → N K M d mc ms Q (pc + 3) L st w sz cc ss) : N K M d mc ms Q pc L (.int y :: .int x :: st) w sz cc ss := by
  intro p e s m args below meth c H locs ls C hW hF hL hl
  exact lv_icmp_lt C.1 C.2.1 hd ht (fun q => kt q p e s m args below meth c H locs ls C hW hF hL hl) (fun q => kf q p e s m args below meth c H locs ls C hW hF hL hl)
theorem N.if_ge {x : Int32} {off : Int} {tgt : Nat} (hd : decode M.2.1 pc = .ok (.ifCond .ge off, 3)) (ht : (pc : Int) + off = (tgt : Int)) (kt : 0 ≤ x → N K M d mc ms Q tgt L st w sz cc ss) (kf : ¬ 0 ≤ x → N K M d mc ms Q (pc + 3) L st w sz cc ss) : N K M d mc ms Q pc L (.int x :: st) w sz cc ss := by
  intro p e s m args below meth c H locs ls C hW hF hL hl
  exact lv_if_ge C.1 C.2.1 hd ht (fun q => kt q p e s m args below meth c H locs ls C hW hF hL hl) (fun q => kf q p e s m args below meth c H locs ls C hW hF hL hl)
theorem N.icmp_ge {x y : Int32} {off : Int} {tgt : Nat} (hd : decode M.2.1 pc = .ok (.if_icmp .ge off, 3)) (ht : (pc : Int) + off = (tgt : Int)) (kt : y ≤ x → N K M d mc ms Q tgt L st w sz cc ss) (kf : ¬ y ≤ x → N K M d mc ms Q (pc + 3) L st w sz cc ss) : N K M d mc ms Q pc L (.int y :: .int x :: st) w sz cc ss := by
  intro p e s m args below meth c H locs ls C hW hF hL hl
  exact lv_icmp_ge C.1 C.2.1 hd ht (fun q => kt q p e s m args below meth c H locs ls C hW hF hL hl) (fun q => kf q p e s m args below meth c H locs ls C hW hF hL hl)
theorem N.if_gt {x : Int32} {off : Int} {tgt : Nat} (hd : decode M.2.1 pc = .ok (.ifCond .gt off, 3)) (ht : (pc : Int) + off = (tgt : Int)) (kt : 0 < x → N K M d mc ms Q tgt L st w sz cc ss) (kf : ¬ 0 < x → N K M d mc ms Q (pc + 3) L st w sz cc ss) : N K M d mc ms Q pc L (.int x :: st) w sz cc ss := by
  intro p e s m args below meth c H locs ls C hW hF hL hl
  exact lv_if_gt C.1 C.2.1 hd ht (fun q => kt q p e s m args below meth c H locs ls C hW hF hL hl) (fun q => kf q p e s m args below meth c H locs ls C hW hF hL hl)
theorem N.icmp_gt {x y : Int32} {off : Int} {tgt : Nat} (hd : decode M.2.1 pc = .ok (.if_icmp .gt off, 3)) (ht : (pc : Int) + off = (tgt : Int)) (kt : y < x → N K M d mc ms Q tgt L st w sz cc ss) (kf : ¬ y < x → N K M d mc ms Q (pc + 3) L st w sz cc ss) : N K M d mc ms Q pc L (.int y :: .int x :: st) w sz cc ss := by
  intro p e s m args below meth c H locs ls C hW hF hL hl
  exact lv_icmp_gt C.1 C.2.1 hd ht (fun q => kt q p e s m args below meth c H locs ls C hW hF hL hl) (fun q => kf q p e s m args below meth c H locs ls C hW hF hL hl)
theorem N.if_le {x : Int32} {off : Int} {tgt : Nat} (hd : decode M.2.1 pc = .ok (.ifCond .le off, 3)) (ht : (pc : Int) + off = (tgt : Int)) (kt : x ≤ 0 → N K M d mc ms Q tgt L st w sz cc ss) (kf : ¬ x ≤ 0 → N K M d mc ms Q (pc + 3) L st w sz cc ss) : N K M d mc ms Q pc L (.int x :: st) w sz cc ss := by
  intro p e s m args below meth c H locs ls C hW hF hL hl
  exact lv_if_le C.1 C.2.1 hd ht (fun q => kt q p e s m args below meth c H locs ls C hW hF hL hl) (fun q => kf q p e s m args below meth c H locs ls C hW hF hL hl)
theorem N.icmp_le {x y : Int32} {off : Int} {tgt : Nat} (hd : decode M.2.1 pc = .ok (.if_icmp .le off, 3)) (ht : (pc : Int) + off = (tgt : Int)) (kt : x ≤ y → N K M d mc ms Q tgt L st w sz cc ss) (kf : ¬ x ≤ y → N K M d mc ms Q (pc + 3) L st w sz cc ss) : N K M d mc ms Q pc L (.int y :: .int x :: st) w sz cc ss := by
  intro p e s m args below meth c H locs ls C hW hF hL hl
  exact lv_icmp_le C.1 C.2.1 hd ht (fun q => kt q p e s m args below meth c H locs ls C hW hF hL hl) (fun q => kf q p e s m args below meth c H locs ls C hW hF hL hl)
theorem N.goto {off : Int} {tgt : Nat} (hd : decode M.2.1 pc = .ok (.goto off, 3)) (ht : (pc : Int) + off = (tgt : Int)) (k : N K M d mc ms Q tgt L st w sz cc ss) : N K M d mc ms Q pc L st w sz cc ss := by
  intro p e s m args below meth c H locs ls C hW hF hL hl
  exact lv_goto C.1 C.2.1 hd ht (k p e s m args below meth c H locs ls C hW hF hL hl)
theorem N.ifnonnull {a : Nat} {off : Int} {tgt : Nat} (hd : decode M.2.1 pc = .ok (.ifnonnull off, 3)) (ht : (pc : Int) + off = (tgt : Int)) (k : N K M d mc ms Q tgt L st w sz cc ss) : N K M d mc ms Q pc L (.ref a :: st) w sz cc ss := by
  intro p e s m args below meth c H locs ls C hW hF hL hl
  exact lv_ifnonnull C.1 C.2.1 hd ht (k p e s m args below meth c H locs ls C hW hF hL hl)
theorem N.ifnonnullN {off : Int} (hd : decode M.2.1 pc = .ok (.ifnonnull off, 3)) (k : N K M d mc ms Q (pc + 3) L st w sz cc ss) : N K M d mc ms Q pc L (.null :: st) w sz cc ss := by
  intro p e s m args below meth c H locs ls C hW hF hL hl
  exact lv_ifnonnullN C.1 C.2.1 hd (k p e s m args below meth c H locs ls C hW hF hL hl)
theorem N.tsOut {x : Int32} {dflt lo hi : Int} {offs : Array Int} {len tgt : Nat} (hd : decode M.2.1 pc = .ok (.tableswitch dflt lo hi offs, len)) (h : x.toInt < lo ∨ hi < x.toInt) (ht : (pc : Int) + dflt = (tgt : Int)) (k : N K M d mc ms Q tgt L st w sz cc ss) : N K M d mc ms Q pc L (.int x :: st) w sz cc ss := by
  intro p e s m args below meth c H locs ls C hW hF hL hl
  exact lv_tableOut C.1 C.2.1 hd h ht (k p e s m args below meth c H locs ls C hW hF hL hl)
theorem N.tsIn {x : Int32} {dflt lo hi : Int} {offs : Array Int} {len : Nat} {off : Int} {tgt : Nat} (z : Int32) (hx : x = z) (hd : decode M.2.1 pc = .ok (.tableswitch dflt lo hi offs, len)) (h1 : ¬ z.toInt < lo) (h2 : ¬ hi < z.toInt) (ho : offs[(z.toInt - lo).toNat]? = some off) (ht : (pc : Int) + off = (tgt : Int)) (k : N K M d mc ms Q tgt L st w sz cc ss) : N K M d mc ms Q pc L (.int x :: st) w sz cc ss := by
  subst hx
  intro p e s m args below meth c H locs ls C hW hF hL hl
  exact lv_tableIn C.1 C.2.1 hd h1 h2 ho ht (k p e s m args below meth c H locs ls C hW hF hL hl)
theorem N.lsw {x : Int32} {dflt : Int} {ps : Array (Int × Int)} {len : Nat} {off : Int} {tgt : Nat} (hd : decode M.2.1 pc = .ok (.lookupswitch dflt ps, len)) (hp : (ps.toList.zip (ps.toList.drop 1)).all (fun (a, next) => a.1 < next.1) = true) (ho : Op.lookupswitch.offset ps.toList dflt x.toInt = off) (ht : (pc : Int) + off = (tgt : Int)) (k : N K M d mc ms Q tgt L st w sz cc ss) : N K M d mc ms Q pc L (.int x :: st) w sz cc ss := by
  intro p e s m args below meth c H locs ls C hW hF hL hl
  exact lv_lookup C.1 C.2.1 hd hp ho ht (k p e s m args below meth c H locs ls C hW hF hL hl)
theorem N.iload0 {t : List (Option Value)} {x : Int32} (hd : decode M.2.1 pc = .ok (.iload_n 0, 1)) (k : N K M d mc ms Q (pc + 1) (some (.int x) :: t) (.int x :: st) w sz cc ss) : N K M d mc ms Q pc (some (.int x) :: t) st w sz cc ss := by
  intro p e s m args below meth c H locs ls C hW hF hL hl
  exact lv_iload_n C.1 C.2.1 hd rfl (hl.2.2 (0, .int x) (lpr_mem _ 0 0 _ rfl)) (k p e s m args below meth c H locs ls C hW hF hL hl)
theorem N.lload0 {t : List (Option Value)} {x : Int64} (hd : decode M.2.1 pc = .ok (.lload_n 0, 1)) (k : N K M d mc ms Q (pc + 1) (some (.long x) :: t) (.long x :: st) w sz cc ss) : N K M d mc ms Q pc (some (.long x) :: t) st w sz cc ss := by
  intro p e s m args below meth c H locs ls C hW hF hL hl
  exact lv_lload_n C.1 C.2.1 hd rfl (hl.2.2 (0, .long x) (lpr_mem _ 0 0 _ rfl)) (k p e s m args below meth c H locs ls C hW hF hL hl)
theorem N.aload0 {t : List (Option Value)} {x : Nat} (hd : decode M.2.1 pc = .ok (.aload_n 0, 1)) (k : N K M d mc ms Q (pc + 1) (some (.ref x) :: t) (.ref x :: st) w sz cc ss) : N K M d mc ms Q pc (some (.ref x) :: t) st w sz cc ss := by
  intro p e s m args below meth c H locs ls C hW hF hL hl
  exact lv_aload_n C.1 C.2.1 hd rfl (hl.2.2 (0, .ref x) (lpr_mem _ 0 0 _ rfl)) (k p e s m args below meth c H locs ls C hW hF hL hl)
theorem N.aloadN0 {t : List (Option Value)} (hd : decode M.2.1 pc = .ok (.aload_n 0, 1)) (k : N K M d mc ms Q (pc + 1) (some .null :: t) (.null :: st) w sz cc ss) : N K M d mc ms Q pc (some .null :: t) st w sz cc ss := by
  intro p e s m args below meth c H locs ls C hW hF hL hl
  exact lv_aload_nN C.1 C.2.1 hd rfl (hl.2.2 (0, .null) (lpr_mem _ 0 0 _ rfl)) (k p e s m args below meth c H locs ls C hW hF hL hl)
theorem N.istore0 {a0 : Option Value} {t : List (Option Value)} {x : Int32} (hd : decode M.2.1 pc = .ok (.istore_n 0, 1)) (k : N K M d mc ms Q (pc + 1) (some (.int x) :: t) st w sz cc ss) : N K M d mc ms Q pc (a0 :: t) (.int x :: st) w sz cc ss := by
  intro p e s m args below meth c H locs ls C hW hF hL hl
  exact lv_istore_n C.1 C.2.1 hd rfl hl (by rw [← hL]; simp only [List.length_cons]; omega) rfl (fun ls hl => k p e s m args below meth c H locs ls C hW hF (by simpa using hL) (lv_mono hl (lpr_set1 (show okS (a0 :: t) 0 = true from rfl))))
theorem N.astore0 {a0 : Option Value} {t : List (Option Value)} {x : Nat} (hd : decode M.2.1 pc = .ok (.astore_n 0, 1)) (k : N K M d mc ms Q (pc + 1) (some (.ref x) :: t) st w sz cc ss) : N K M d mc ms Q pc (a0 :: t) (.ref x :: st) w sz cc ss := by
  intro p e s m args below meth c H locs ls C hW hF hL hl
  exact lv_astore_n C.1 C.2.1 hd rfl hl (by rw [← hL]; simp only [List.length_cons]; omega) rfl (fun ls hl => k p e s m args below meth c H locs ls C hW hF (by simpa using hL) (lv_mono hl (lpr_set1 (show okS (a0 :: t) 0 = true from rfl))))
theorem N.lstore0 {a0 a1 : Option Value} {t : List (Option Value)} {x : Int64} (hd : decode M.2.1 pc = .ok (.lstore_n 0, 1)) (k : N K M d mc ms Q (pc + 1) (some (.long x) :: none :: t) st w sz cc ss) : N K M d mc ms Q pc (a0 :: a1 :: t) (.long x :: st) w sz cc ss := by
  intro p e s m args below meth c H locs ls C hW hF hL hl
  exact lv_lstore_n C.1 C.2.1 hd rfl hl (by rw [← hL]; simp only [List.length_cons]; omega) rfl (fun ls hl => k p e s m args below meth c H locs ls C hW hF (by simpa using hL) (lv_mono hl (lpr_set2 (show okS (a0 :: a1 :: t) 0 = true from rfl))))
theorem N.iinc0 {t : List (Option Value)} {x v : Int32} {n : Int} (hd : decode M.2.1 pc = .ok (.iinc 0 n, 3)) (hv : x + Int32.ofInt n = v) (k : N K M d mc ms Q (pc + 3) (some (.int v) :: t) st w sz cc ss) : N K M d mc ms Q pc (some (.int x) :: t) st w sz cc ss := by
  intro p e s m args below meth c H locs ls C hW hF hL hl
  obtain ⟨j, hj⟩ := List.getElem?_of_mem (lpr_mem (some (.int x) :: t) 0 0 (.int x) rfl)
  rw [Nat.zero_add] at hj
  exact lv_iinc C.1 C.2.1 hd hl hj hv (by rw [← hL]; simp only [List.length_cons]; omega) rfl (fun ls hl => k p e s m args below meth c H locs ls C hW hF (by simpa using hL) (lv_mono hl (lpr_set1 (show okS (some (.int x) :: t) 0 = true from rfl))))
theorem N.iload1 {a0 : Option Value} {t : List (Option Value)} {x : Int32} (hd : decode M.2.1 pc = .ok (.iload_n 1, 1)) (k : N K M d mc ms Q (pc + 1) (a0 :: some (.int x) :: t) (.int x :: st) w sz cc ss) : N K M d mc ms Q pc (a0 :: some (.int x) :: t) st w sz cc ss := by
  intro p e s m args below meth c H locs ls C hW hF hL hl
  exact lv_iload_n C.1 C.2.1 hd rfl (hl.2.2 (1, .int x) (lpr_mem _ 0 1 _ rfl)) (k p e s m args below meth c H locs ls C hW hF hL hl)
theorem N.lload1 {a0 : Option Value} {t : List (Option Value)} {x : Int64} (hd : decode M.2.1 pc = .ok (.lload_n 1, 1)) (k : N K M d mc ms Q (pc + 1) (a0 :: some (.long x) :: t) (.long x :: st) w sz cc ss) : N K M d mc ms Q pc (a0 :: some (.long x) :: t) st w sz cc ss := by
  intro p e s m args below meth c H locs ls C hW hF hL hl
  exact lv_lload_n C.1 C.2.1 hd rfl (hl.2.2 (1, .long x) (lpr_mem _ 0 1 _ rfl)) (k p e s m args below meth c H locs ls C hW hF hL hl)
theorem N.aload1 {a0 : Option Value} {t : List (Option Value)} {x : Nat} (hd : decode M.2.1 pc = .ok (.aload_n 1, 1)) (k : N K M d mc ms Q (pc + 1) (a0 :: some (.ref x) :: t) (.ref x :: st) w sz cc ss) : N K M d mc ms Q pc (a0 :: some (.ref x) :: t) st w sz cc ss := by
  intro p e s m args below meth c H locs ls C hW hF hL hl
  exact lv_aload_n C.1 C.2.1 hd rfl (hl.2.2 (1, .ref x) (lpr_mem _ 0 1 _ rfl)) (k p e s m args below meth c H locs ls C hW hF hL hl)
theorem N.aloadN1 {a0 : Option Value} {t : List (Option Value)} (hd : decode M.2.1 pc = .ok (.aload_n 1, 1)) (k : N K M d mc ms Q (pc + 1) (a0 :: some .null :: t) (.null :: st) w sz cc ss) : N K M d mc ms Q pc (a0 :: some .null :: t) st w sz cc ss := by
  intro p e s m args below meth c H locs ls C hW hF hL hl
  exact lv_aload_nN C.1 C.2.1 hd rfl (hl.2.2 (1, .null) (lpr_mem _ 0 1 _ rfl)) (k p e s m args below meth c H locs ls C hW hF hL hl)
theorem N.istore1 {a0 a1 : Option Value} {t : List (Option Value)} {x : Int32} (hd : decode M.2.1 pc = .ok (.istore_n 1, 1)) (hp : c1 a0 = true) (k : N K M d mc ms Q (pc + 1) (a0 :: some (.int x) :: t) st w sz cc ss) : N K M d mc ms Q pc (a0 :: a1 :: t) (.int x :: st) w sz cc ss := by
  intro p e s m args below meth c H locs ls C hW hF hL hl
  exact lv_istore_n C.1 C.2.1 hd rfl hl (by rw [← hL]; simp only [List.length_cons]; omega) rfl (fun ls hl => k p e s m args below meth c H locs ls C hW hF (by simpa using hL) (lv_mono hl (lpr_set1 (show okS (a0 :: a1 :: t) 1 = true from hp))))
theorem N.astore1 {a0 a1 : Option Value} {t : List (Option Value)} {x : Nat} (hd : decode M.2.1 pc = .ok (.astore_n 1, 1)) (hp : c1 a0 = true) (k : N K M d mc ms Q (pc + 1) (a0 :: some (.ref x) :: t) st w sz cc ss) : N K M d mc ms Q pc (a0 :: a1 :: t) (.ref x :: st) w sz cc ss := by
  intro p e s m args below meth c H locs ls C hW hF hL hl
  exact lv_astore_n C.1 C.2.1 hd rfl hl (by rw [← hL]; simp only [List.length_cons]; omega) rfl (fun ls hl => k p e s m args below meth c H locs ls C hW hF (by simpa using hL) (lv_mono hl (lpr_set1 (show okS (a0 :: a1 :: t) 1 = true from hp))))
theorem N.lstore1 {a0 a1 a2 : Option Value} {t : List (Option Value)} {x : Int64} (hd : decode M.2.1 pc = .ok (.lstore_n 1, 1)) (hp : c1 a0 = true) (k : N K M d mc ms Q (pc + 1) (a0 :: some (.long x) :: none :: t) st w sz cc ss) : N K M d mc ms Q pc (a0 :: a1 :: a2 :: t) (.long x :: st) w sz cc ss := by
  intro p e s m args below meth c H locs ls C hW hF hL hl
  exact lv_lstore_n C.1 C.2.1 hd rfl hl (by rw [← hL]; simp only [List.length_cons]; omega) rfl (fun ls hl => k p e s m args below meth c H locs ls C hW hF (by simpa using hL) (lv_mono hl (lpr_set2 (show okS (a0 :: a1 :: a2 :: t) 1 = true from hp))))
theorem N.iinc1 {a0 : Option Value} {t : List (Option Value)} {x v : Int32} {n : Int} (hd : decode M.2.1 pc = .ok (.iinc 1 n, 3)) (hp : c1 a0 = true) (hv : x + Int32.ofInt n = v) (k : N K M d mc ms Q (pc + 3) (a0 :: some (.int v) :: t) st w sz cc ss) : N K M d mc ms Q pc (a0 :: some (.int x) :: t) st w sz cc ss := by
  intro p e s m args below meth c H locs ls C hW hF hL hl
  obtain ⟨j, hj⟩ := List.getElem?_of_mem (lpr_mem (a0 :: some (.int x) :: t) 0 1 (.int x) rfl)
  rw [Nat.zero_add] at hj
  exact lv_iinc C.1 C.2.1 hd hl hj hv (by rw [← hL]; simp only [List.length_cons]; omega) rfl (fun ls hl => k p e s m args below meth c H locs ls C hW hF (by simpa using hL) (lv_mono hl (lpr_set1 (show okS (a0 :: some (.int x) :: t) 1 = true from hp))))
theorem N.iload2 {a0 a1 : Option Value} {t : List (Option Value)} {x : Int32} (hd : decode M.2.1 pc = .ok (.iload_n 2, 1)) (k : N K M d mc ms Q (pc + 1) (a0 :: a1 :: some (.int x) :: t) (.int x :: st) w sz cc ss) : N K M d mc ms Q pc (a0 :: a1 :: some (.int x) :: t) st w sz cc ss := by
  intro p e s m args below meth c H locs ls C hW hF hL hl
  exact lv_iload_n C.1 C.2.1 hd rfl (hl.2.2 (2, .int x) (lpr_mem _ 0 2 _ rfl)) (k p e s m args below meth c H locs ls C hW hF hL hl)
theorem N.lload2 {a0 a1 : Option Value} {t : List (Option Value)} {x : Int64} (hd : decode M.2.1 pc = .ok (.lload_n 2, 1)) (k : N K M d mc ms Q (pc + 1) (a0 :: a1 :: some (.long x) :: t) (.long x :: st) w sz cc ss) : N K M d mc ms Q pc (a0 :: a1 :: some (.long x) :: t) st w sz cc ss := by
  intro p e s m args below meth c H locs ls C hW hF hL hl
  exact lv_lload_n C.1 C.2.1 hd rfl (hl.2.2 (2, .long x) (lpr_mem _ 0 2 _ rfl)) (k p e s m args below meth c H locs ls C hW hF hL hl)
theorem N.aload2 {a0 a1 : Option Value} {t : List (Option Value)} {x : Nat} (hd : decode M.2.1 pc = .ok (.aload_n 2, 1)) (k : N K M d mc ms Q (pc + 1) (a0 :: a1 :: some (.ref x) :: t) (.ref x :: st) w sz cc ss) : N K M d mc ms Q pc (a0 :: a1 :: some (.ref x) :: t) st w sz cc ss := by
  intro p e s m args below meth c H locs ls C hW hF hL hl
  exact lv_aload_n C.1 C.2.1 hd rfl (hl.2.2 (2, .ref x) (lpr_mem _ 0 2 _ rfl)) (k p e s m args below meth c H locs ls C hW hF hL hl)
theorem N.aloadN2 {a0 a1 : Option Value} {t : List (Option Value)} (hd : decode M.2.1 pc = .ok (.aload_n 2, 1)) (k : N K M d mc ms Q (pc + 1) (a0 :: a1 :: some .null :: t) (.null :: st) w sz cc ss) : N K M d mc ms Q pc (a0 :: a1 :: some .null :: t) st w sz cc ss := by
  intro p e s m args below meth c H locs ls C hW hF hL hl
  exact lv_aload_nN C.1 C.2.1 hd rfl (hl.2.2 (2, .null) (lpr_mem _ 0 2 _ rfl)) (k p e s m args below meth c H locs ls C hW hF hL hl)
theorem N.istore2 {a0 a1 a2 : Option Value} {t : List (Option Value)} {x : Int32} (hd : decode M.2.1 pc = .ok (.istore_n 2, 1)) (hp : c1 a1 = true) (k : N K M d mc ms Q (pc + 1) (a0 :: a1 :: some (.int x) :: t) st w sz cc ss) : N K M d mc ms Q pc (a0 :: a1 :: a2 :: t) (.int x :: st) w sz cc ss := by
  intro p e s m args below meth c H locs ls C hW hF hL hl
  exact lv_istore_n C.1 C.2.1 hd rfl hl (by rw [← hL]; simp only [List.length_cons]; omega) rfl (fun ls hl => k p e s m args below meth c H locs ls C hW hF (by simpa using hL) (lv_mono hl (lpr_set1 (show okS (a0 :: a1 :: a2 :: t) 2 = true from hp))))
theorem N.astore2 {a0 a1 a2 : Option Value} {t : List (Option Value)} {x : Nat} (hd : decode M.2.1 pc = .ok (.astore_n 2, 1)) (hp : c1 a1 = true) (k : N K M d mc ms Q (pc + 1) (a0 :: a1 :: some (.ref x) :: t) st w sz cc ss) : N K M d mc ms Q pc (a0 :: a1 :: a2 :: t) (.ref x :: st) w sz cc ss := by
  intro p e s m args below meth c H locs ls C hW hF hL hl
  exact lv_astore_n C.1 C.2.1 hd rfl hl (by rw [← hL]; simp only [List.length_cons]; omega) rfl (fun ls hl => k p e s m args below meth c H locs ls C hW hF (by simpa using hL) (lv_mono hl (lpr_set1 (show okS (a0 :: a1 :: a2 :: t) 2 = true from hp))))
theorem N.lstore2 {a0 a1 a2 a3 : Option Value} {t : List (Option Value)} {x : Int64} (hd : decode M.2.1 pc = .ok (.lstore_n 2, 1)) (hp : c1 a1 = true) (k : N K M d mc ms Q (pc + 1) (a0 :: a1 :: some (.long x) :: none :: t) st w sz cc ss) : N K M d mc ms Q pc (a0 :: a1 :: a2 :: a3 :: t) (.long x :: st) w sz cc ss := by
  intro p e s m args below meth c H locs ls C hW hF hL hl
  exact lv_lstore_n C.1 C.2.1 hd rfl hl (by rw [← hL]; simp only [List.length_cons]; omega) rfl (fun ls hl => k p e s m args below meth c H locs ls C hW hF (by simpa using hL) (lv_mono hl (lpr_set2 (show okS (a0 :: a1 :: a2 :: a3 :: t) 2 = true from hp))))
theorem N.iinc2 {a0 a1 : Option Value} {t : List (Option Value)} {x v : Int32} {n : Int} (hd : decode M.2.1 pc = .ok (.iinc 2 n, 3)) (hp : c1 a1 = true) (hv : x + Int32.ofInt n = v) (k : N K M d mc ms Q (pc + 3) (a0 :: a1 :: some (.int v) :: t) st w sz cc ss) : N K M d mc ms Q pc (a0 :: a1 :: some (.int x) :: t) st w sz cc ss := by
  intro p e s m args below meth c H locs ls C hW hF hL hl
  obtain ⟨j, hj⟩ := List.getElem?_of_mem (lpr_mem (a0 :: a1 :: some (.int x) :: t) 0 2 (.int x) rfl)
  rw [Nat.zero_add] at hj
  exact lv_iinc C.1 C.2.1 hd hl hj hv (by rw [← hL]; simp only [List.length_cons]; omega) rfl (fun ls hl => k p e s m args below meth c H locs ls C hW hF (by simpa using hL) (lv_mono hl (lpr_set1 (show okS (a0 :: a1 :: some (.int x) :: t) 2 = true from hp))))
theorem N.iload3 {a0 a1 a2 : Option Value} {t : List (Option Value)} {x : Int32} (hd : decode M.2.1 pc = .ok (.iload_n 3, 1)) (k : N K M d mc ms Q (pc + 1) (a0 :: a1 :: a2 :: some (.int x) :: t) (.int x :: st) w sz cc ss) : N K M d mc ms Q pc (a0 :: a1 :: a2 :: some (.int x) :: t) st w sz cc ss := by
  intro p e s m args below meth c H locs ls C hW hF hL hl
  exact lv_iload_n C.1 C.2.1 hd rfl (hl.2.2 (3, .int x) (lpr_mem _ 0 3 _ rfl)) (k p e s m args below meth c H locs ls C hW hF hL hl)
theorem N.lload3 {a0 a1 a2 : Option Value} {t : List (Option Value)} {x : Int64} (hd : decode M.2.1 pc = .ok (.lload_n 3, 1)) (k : N K M d mc ms Q (pc + 1) (a0 :: a1 :: a2 :: some (.long x) :: t) (.long x :: st) w sz cc ss) : N K M d mc ms Q pc (a0 :: a1 :: a2 :: some (.long x) :: t) st w sz cc ss := by
  intro p e s m args below meth c H locs ls C hW hF hL hl
  exact lv_lload_n C.1 C.2.1 hd rfl (hl.2.2 (3, .long x) (lpr_mem _ 0 3 _ rfl)) (k p e s m args below meth c H locs ls C hW hF hL hl)
theorem N.aload3 {a0 a1 a2 : Option Value} {t : List (Option Value)} {x : Nat} (hd : decode M.2.1 pc = .ok (.aload_n 3, 1)) (k : N K M d mc ms Q (pc + 1) (a0 :: a1 :: a2 :: some (.ref x) :: t) (.ref x :: st) w sz cc ss) : N K M d mc ms Q pc (a0 :: a1 :: a2 :: some (.ref x) :: t) st w sz cc ss := by
  intro p e s m args below meth c H locs ls C hW hF hL hl
  exact lv_aload_n C.1 C.2.1 hd rfl (hl.2.2 (3, .ref x) (lpr_mem _ 0 3 _ rfl)) (k p e s m args below meth c H locs ls C hW hF hL hl)
theorem N.aloadN3 {a0 a1 a2 : Option Value} {t : List (Option Value)} (hd : decode M.2.1 pc = .ok (.aload_n 3, 1)) (k : N K M d mc ms Q (pc + 1) (a0 :: a1 :: a2 :: some .null :: t) (.null :: st) w sz cc ss) : N K M d mc ms Q pc (a0 :: a1 :: a2 :: some .null :: t) st w sz cc ss := by
  intro p e s m args below meth c H locs ls C hW hF hL hl
  exact lv_aload_nN C.1 C.2.1 hd rfl (hl.2.2 (3, .null) (lpr_mem _ 0 3 _ rfl)) (k p e s m args below meth c H locs ls C hW hF hL hl)
theorem N.istore3 {a0 a1 a2 a3 : Option Value} {t : List (Option Value)} {x : Int32} (hd : decode M.2.1 pc = .ok (.istore_n 3, 1)) (hp : c1 a2 = true) (k : N K M d mc ms Q (pc + 1) (a0 :: a1 :: a2 :: some (.int x) :: t) st w sz cc ss) : N K M d mc ms Q pc (a0 :: a1 :: a2 :: a3 :: t) (.int x :: st) w sz cc ss := by
  intro p e s m args below meth c H locs ls C hW hF hL hl
  exact lv_istore_n C.1 C.2.1 hd rfl hl (by rw [← hL]; simp only [List.length_cons]; omega) rfl (fun ls hl => k p e s m args below meth c H locs ls C hW hF (by simpa using hL) (lv_mono hl (lpr_set1 (show okS (a0 :: a1 :: a2 :: a3 :: t) 3 = true from hp))))
theorem N.astore3 {a0 a1 a2 a3 : Option Value} {t : List (Option Value)} {x : Nat} (hd : decode M.2.1 pc = .ok (.astore_n 3, 1)) (hp : c1 a2 = true) (k : N K M d mc ms Q (pc + 1) (a0 :: a1 :: a2 :: some (.ref x) :: t) st w sz cc ss) : N K M d mc ms Q pc (a0 :: a1 :: a2 :: a3 :: t) (.ref x :: st) w sz cc ss := by
  intro p e s m args below meth c H locs ls C hW hF hL hl
  exact lv_astore_n C.1 C.2.1 hd rfl hl (by rw [← hL]; simp only [List.length_cons]; omega) rfl (fun ls hl => k p e s m args below meth c H locs ls C hW hF (by simpa using hL) (lv_mono hl (lpr_set1 (show okS (a0 :: a1 :: a2 :: a3 :: t) 3 = true from hp))))
theorem N.lstore3 {a0 a1 a2 a3 a4 : Option Value} {t : List (Option Value)} {x : Int64} (hd : decode M.2.1 pc = .ok (.lstore_n 3, 1)) (hp : c1 a2 = true) (k : N K M d mc ms Q (pc + 1) (a0 :: a1 :: a2 :: some (.long x) :: none :: t) st w sz cc ss) : N K M d mc ms Q pc (a0 :: a1 :: a2 :: a3 :: a4 :: t) (.long x :: st) w sz cc ss := by
  intro p e s m args below meth c H locs ls C hW hF hL hl
  exact lv_lstore_n C.1 C.2.1 hd rfl hl (by rw [← hL]; simp only [List.length_cons]; omega) rfl (fun ls hl => k p e s m args below meth c H locs ls C hW hF (by simpa using hL) (lv_mono hl (lpr_set2 (show okS (a0 :: a1 :: a2 :: a3 :: a4 :: t) 3 = true from hp))))
theorem N.iinc3 {a0 a1 a2 : Option Value} {t : List (Option Value)} {x v : Int32} {n : Int} (hd : decode M.2.1 pc = .ok (.iinc 3 n, 3)) (hp : c1 a2 = true) (hv : x + Int32.ofInt n = v) (k : N K M d mc ms Q (pc + 3) (a0 :: a1 :: a2 :: some (.int v) :: t) st w sz cc ss) : N K M d mc ms Q pc (a0 :: a1 :: a2 :: some (.int x) :: t) st w sz cc ss := by
  intro p e s m args below meth c H locs ls C hW hF hL hl
  obtain ⟨j, hj⟩ := List.getElem?_of_mem (lpr_mem (a0 :: a1 :: a2 :: some (.int x) :: t) 0 3 (.int x) rfl)
  rw [Nat.zero_add] at hj
  exact lv_iinc C.1 C.2.1 hd hl hj hv (by rw [← hL]; simp only [List.length_cons]; omega) rfl (fun ls hl => k p e s m args below meth c H locs ls C hW hF (by simpa using hL) (lv_mono hl (lpr_set1 (show okS (a0 :: a1 :: a2 :: some (.int x) :: t) 3 = true from hp))))
theorem N.iload4 {a0 a1 a2 a3 : Option Value} {t : List (Option Value)} {x : Int32} (hd : decode M.2.1 pc = .ok (.iload 4, 2)) (k : N K M d mc ms Q (pc + 2) (a0 :: a1 :: a2 :: a3 :: some (.int x) :: t) (.int x :: st) w sz cc ss) : N K M d mc ms Q pc (a0 :: a1 :: a2 :: a3 :: some (.int x) :: t) st w sz cc ss := by
  intro p e s m args below meth c H locs ls C hW hF hL hl
  exact lv_iload C.1 C.2.1 hd (hl.2.2 (4, .int x) (lpr_mem _ 0 4 _ rfl)) (k p e s m args below meth c H locs ls C hW hF hL hl)
theorem N.lload4 {a0 a1 a2 a3 : Option Value} {t : List (Option Value)} {x : Int64} (hd : decode M.2.1 pc = .ok (.lload 4, 2)) (k : N K M d mc ms Q (pc + 2) (a0 :: a1 :: a2 :: a3 :: some (.long x) :: t) (.long x :: st) w sz cc ss) : N K M d mc ms Q pc (a0 :: a1 :: a2 :: a3 :: some (.long x) :: t) st w sz cc ss := by
  intro p e s m args below meth c H locs ls C hW hF hL hl
  exact lv_lload C.1 C.2.1 hd (hl.2.2 (4, .long x) (lpr_mem _ 0 4 _ rfl)) (k p e s m args below meth c H locs ls C hW hF hL hl)
theorem N.aload4 {a0 a1 a2 a3 : Option Value} {t : List (Option Value)} {x : Nat} (hd : decode M.2.1 pc = .ok (.aload 4, 2)) (k : N K M d mc ms Q (pc + 2) (a0 :: a1 :: a2 :: a3 :: some (.ref x) :: t) (.ref x :: st) w sz cc ss) : N K M d mc ms Q pc (a0 :: a1 :: a2 :: a3 :: some (.ref x) :: t) st w sz cc ss := by
  intro p e s m args below meth c H locs ls C hW hF hL hl
  exact lv_aload C.1 C.2.1 hd (hl.2.2 (4, .ref x) (lpr_mem _ 0 4 _ rfl)) (k p e s m args below meth c H locs ls C hW hF hL hl)
theorem N.istore4 {a0 a1 a2 a3 a4 : Option Value} {t : List (Option Value)} {x : Int32} (hd : decode M.2.1 pc = .ok (.istore 4, 2)) (hp : c1 a3 = true) (k : N K M d mc ms Q (pc + 2) (a0 :: a1 :: a2 :: a3 :: some (.int x) :: t) st w sz cc ss) : N K M d mc ms Q pc (a0 :: a1 :: a2 :: a3 :: a4 :: t) (.int x :: st) w sz cc ss := by
  intro p e s m args below meth c H locs ls C hW hF hL hl
  exact lv_istore C.1 C.2.1 hd hl (by rw [← hL]; simp only [List.length_cons]; omega) rfl (fun ls hl => k p e s m args below meth c H locs ls C hW hF (by simpa using hL) (lv_mono hl (lpr_set1 (show okS (a0 :: a1 :: a2 :: a3 :: a4 :: t) 4 = true from hp))))
theorem N.astore4 {a0 a1 a2 a3 a4 : Option Value} {t : List (Option Value)} {x : Nat} (hd : decode M.2.1 pc = .ok (.astore 4, 2)) (hp : c1 a3 = true) (k : N K M d mc ms Q (pc + 2) (a0 :: a1 :: a2 :: a3 :: some (.ref x) :: t) st w sz cc ss) : N K M d mc ms Q pc (a0 :: a1 :: a2 :: a3 :: a4 :: t) (.ref x :: st) w sz cc ss := by
  intro p e s m args below meth c H locs ls C hW hF hL hl
  exact lv_astore C.1 C.2.1 hd hl (by rw [← hL]; simp only [List.length_cons]; omega) rfl (fun ls hl => k p e s m args below meth c H locs ls C hW hF (by simpa using hL) (lv_mono hl (lpr_set1 (show okS (a0 :: a1 :: a2 :: a3 :: a4 :: t) 4 = true from hp))))
theorem N.lstore4 {a0 a1 a2 a3 a4 a5 : Option Value} {t : List (Option Value)} {x : Int64} (hd : decode M.2.1 pc = .ok (.lstore 4, 2)) (hp : c1 a3 = true) (k : N K M d mc ms Q (pc + 2) (a0 :: a1 :: a2 :: a3 :: some (.long x) :: none :: t) st w sz cc ss) : N K M d mc ms Q pc (a0 :: a1 :: a2 :: a3 :: a4 :: a5 :: t) (.long x :: st) w sz cc ss := by
  intro p e s m args below meth c H locs ls C hW hF hL hl
  exact lv_lstore C.1 C.2.1 hd hl (by rw [← hL]; simp only [List.length_cons]; omega) rfl (fun ls hl => k p e s m args below meth c H locs ls C hW hF (by simpa using hL) (lv_mono hl (lpr_set2 (show okS (a0 :: a1 :: a2 :: a3 :: a4 :: a5 :: t) 4 = true from hp))))
theorem N.iinc4 {a0 a1 a2 a3 : Option Value} {t : List (Option Value)} {x v : Int32} {n : Int} (hd : decode M.2.1 pc = .ok (.iinc 4 n, 3)) (hp : c1 a3 = true) (hv : x + Int32.ofInt n = v) (k : N K M d mc ms Q (pc + 3) (a0 :: a1 :: a2 :: a3 :: some (.int v) :: t) st w sz cc ss) : N K M d mc ms Q pc (a0 :: a1 :: a2 :: a3 :: some (.int x) :: t) st w sz cc ss := by
  intro p e s m args below meth c H locs ls C hW hF hL hl
  obtain ⟨j, hj⟩ := List.getElem?_of_mem (lpr_mem (a0 :: a1 :: a2 :: a3 :: some (.int x) :: t) 0 4 (.int x) rfl)
  rw [Nat.zero_add] at hj
  exact lv_iinc C.1 C.2.1 hd hl hj hv (by rw [← hL]; simp only [List.length_cons]; omega) rfl (fun ls hl => k p e s m args below meth c H locs ls C hW hF (by simpa using hL) (lv_mono hl (lpr_set1 (show okS (a0 :: a1 :: a2 :: a3 :: some (.int x) :: t) 4 = true from hp))))
theorem N.iload5 {a0 a1 a2 a3 a4 : Option Value} {t : List (Option Value)} {x : Int32} (hd : decode M.2.1 pc = .ok (.iload 5, 2)) (k : N K M d mc ms Q (pc + 2) (a0 :: a1 :: a2 :: a3 :: a4 :: some (.int x) :: t) (.int x :: st) w sz cc ss) : N K M d mc ms Q pc (a0 :: a1 :: a2 :: a3 :: a4 :: some (.int x) :: t) st w sz cc ss := by
  intro p e s m args below meth c H locs ls C hW hF hL hl
  exact lv_iload C.1 C.2.1 hd (hl.2.2 (5, .int x) (lpr_mem _ 0 5 _ rfl)) (k p e s m args below meth c H locs ls C hW hF hL hl)
theorem N.lload5 {a0 a1 a2 a3 a4 : Option Value} {t : List (Option Value)} {x : Int64} (hd : decode M.2.1 pc = .ok (.lload 5, 2)) (k : N K M d mc ms Q (pc + 2) (a0 :: a1 :: a2 :: a3 :: a4 :: some (.long x) :: t) (.long x :: st) w sz cc ss) : N K M d mc ms Q pc (a0 :: a1 :: a2 :: a3 :: a4 :: some (.long x) :: t) st w sz cc ss := by
  intro p e s m args below meth c H locs ls C hW hF hL hl
  exact lv_lload C.1 C.2.1 hd (hl.2.2 (5, .long x) (lpr_mem _ 0 5 _ rfl)) (k p e s m args below meth c H locs ls C hW hF hL hl)
theorem N.aload5 {a0 a1 a2 a3 a4 : Option Value} {t : List (Option Value)} {x : Nat} (hd : decode M.2.1 pc = .ok (.aload 5, 2)) (k : N K M d mc ms Q (pc + 2) (a0 :: a1 :: a2 :: a3 :: a4 :: some (.ref x) :: t) (.ref x :: st) w sz cc ss) : N K M d mc ms Q pc (a0 :: a1 :: a2 :: a3 :: a4 :: some (.ref x) :: t) st w sz cc ss := by
  intro p e s m args below meth c H locs ls C hW hF hL hl
  exact lv_aload C.1 C.2.1 hd (hl.2.2 (5, .ref x) (lpr_mem _ 0 5 _ rfl)) (k p e s m args below meth c H locs ls C hW hF hL hl)
theorem N.istore5 {a0 a1 a2 a3 a4 a5 : Option Value} {t : List (Option Value)} {x : Int32} (hd : decode M.2.1 pc = .ok (.istore 5, 2)) (hp : c1 a4 = true) (k : N K M d mc ms Q (pc + 2) (a0 :: a1 :: a2 :: a3 :: a4 :: some (.int x) :: t) st w sz cc ss) : N K M d mc ms Q pc (a0 :: a1 :: a2 :: a3 :: a4 :: a5 :: t) (.int x :: st) w sz cc ss := by
  intro p e s m args below meth c H locs ls C hW hF hL hl
  exact lv_istore C.1 C.2.1 hd hl (by rw [← hL]; simp only [List.length_cons]; omega) rfl (fun ls hl => k p e s m args below meth c H locs ls C hW hF (by simpa using hL) (lv_mono hl (lpr_set1 (show okS (a0 :: a1 :: a2 :: a3 :: a4 :: a5 :: t) 5 = true from hp))))
theorem N.astore5 {a0 a1 a2 a3 a4 a5 : Option Value} {t : List (Option Value)} {x : Nat} (hd : decode M.2.1 pc = .ok (.astore 5, 2)) (hp : c1 a4 = true) (k : N K M d mc ms Q (pc + 2) (a0 :: a1 :: a2 :: a3 :: a4 :: some (.ref x) :: t) st w sz cc ss) : N K M d mc ms Q pc (a0 :: a1 :: a2 :: a3 :: a4 :: a5 :: t) (.ref x :: st) w sz cc ss := by
  intro p e s m args below meth c H locs ls C hW hF hL hl
  exact lv_astore C.1 C.2.1 hd hl (by rw [← hL]; simp only [List.length_cons]; omega) rfl (fun ls hl => k p e s m args below meth c H locs ls C hW hF (by simpa using hL) (lv_mono hl (lpr_set1 (show okS (a0 :: a1 :: a2 :: a3 :: a4 :: a5 :: t) 5 = true from hp))))
theorem N.lstore5 {a0 a1 a2 a3 a4 a5 a6 : Option Value} {t : List (Option Value)} {x : Int64} (hd : decode M.2.1 pc = .ok (.lstore 5, 2)) (hp : c1 a4 = true) (k : N K M d mc ms Q (pc + 2) (a0 :: a1 :: a2 :: a3 :: a4 :: some (.long x) :: none :: t) st w sz cc ss) : N K M d mc ms Q pc (a0 :: a1 :: a2 :: a3 :: a4 :: a5 :: a6 :: t) (.long x :: st) w sz cc ss := by
  intro p e s m args below meth c H locs ls C hW hF hL hl
  exact lv_lstore C.1 C.2.1 hd hl (by rw [← hL]; simp only [List.length_cons]; omega) rfl (fun ls hl => k p e s m args below meth c H locs ls C hW hF (by simpa using hL) (lv_mono hl (lpr_set2 (show okS (a0 :: a1 :: a2 :: a3 :: a4 :: a5 :: a6 :: t) 5 = true from hp))))
theorem N.iinc5 {a0 a1 a2 a3 a4 : Option Value} {t : List (Option Value)} {x v : Int32} {n : Int} (hd : decode M.2.1 pc = .ok (.iinc 5 n, 3)) (hp : c1 a4 = true) (hv : x + Int32.ofInt n = v) (k : N K M d mc ms Q (pc + 3) (a0 :: a1 :: a2 :: a3 :: a4 :: some (.int v) :: t) st w sz cc ss) : N K M d mc ms Q pc (a0 :: a1 :: a2 :: a3 :: a4 :: some (.int x) :: t) st w sz cc ss := by
  intro p e s m args below meth c H locs ls C hW hF hL hl
  obtain ⟨j, hj⟩ := List.getElem?_of_mem (lpr_mem (a0 :: a1 :: a2 :: a3 :: a4 :: some (.int x) :: t) 0 5 (.int x) rfl)
  rw [Nat.zero_add] at hj
  exact lv_iinc C.1 C.2.1 hd hl hj hv (by rw [← hL]; simp only [List.length_cons]; omega) rfl (fun ls hl => k p e s m args below meth c H locs ls C hW hF (by simpa using hL) (lv_mono hl (lpr_set1 (show okS (a0 :: a1 :: a2 :: a3 :: a4 :: some (.int x) :: t) 5 = true from hp))))
theorem N.iload6 {a0 a1 a2 a3 a4 a5 : Option Value} {t : List (Option Value)} {x : Int32} (hd : decode M.2.1 pc = .ok (.iload 6, 2)) (k : N K M d mc ms Q (pc + 2) (a0 :: a1 :: a2 :: a3 :: a4 :: a5 :: some (.int x) :: t) (.int x :: st) w sz cc ss) : N K M d mc ms Q pc (a0 :: a1 :: a2 :: a3 :: a4 :: a5 :: some (.int x) :: t) st w sz cc ss := by
  intro p e s m args below meth c H locs ls C hW hF hL hl
  exact lv_iload C.1 C.2.1 hd (hl.2.2 (6, .int x) (lpr_mem _ 0 6 _ rfl)) (k p e s m args below meth c H locs ls C hW hF hL hl)
theorem N.lload6 {a0 a1 a2 a3 a4 a5 : Option Value} {t : List (Option Value)} {x : Int64} (hd : decode M.2.1 pc = .ok (.lload 6, 2)) (k : N K M d mc ms Q (pc + 2) (a0 :: a1 :: a2 :: a3 :: a4 :: a5 :: some (.long x) :: t) (.long x :: st) w sz cc ss) : N K M d mc ms Q pc (a0 :: a1 :: a2 :: a3 :: a4 :: a5 :: some (.long x) :: t) st w sz cc ss := by
  intro p e s m args below meth c H locs ls C hW hF hL hl
  exact lv_lload C.1 C.2.1 hd (hl.2.2 (6, .long x) (lpr_mem _ 0 6 _ rfl)) (k p e s m args below meth c H locs ls C hW hF hL hl)
theorem N.aload6 {a0 a1 a2 a3 a4 a5 : Option Value} {t : List (Option Value)} {x : Nat} (hd : decode M.2.1 pc = .ok (.aload 6, 2)) (k : N K M d mc ms Q (pc + 2) (a0 :: a1 :: a2 :: a3 :: a4 :: a5 :: some (.ref x) :: t) (.ref x :: st) w sz cc ss) : N K M d mc ms Q pc (a0 :: a1 :: a2 :: a3 :: a4 :: a5 :: some (.ref x) :: t) st w sz cc ss := by
  intro p e s m args below meth c H locs ls C hW hF hL hl
  exact lv_aload C.1 C.2.1 hd (hl.2.2 (6, .ref x) (lpr_mem _ 0 6 _ rfl)) (k p e s m args below meth c H locs ls C hW hF hL hl)
theorem N.istore6 {a0 a1 a2 a3 a4 a5 a6 : Option Value} {t : List (Option Value)} {x : Int32} (hd : decode M.2.1 pc = .ok (.istore 6, 2)) (hp : c1 a5 = true) (k : N K M d mc ms Q (pc + 2) (a0 :: a1 :: a2 :: a3 :: a4 :: a5 :: some (.int x) :: t) st w sz cc ss) : N K M d mc ms Q pc (a0 :: a1 :: a2 :: a3 :: a4 :: a5 :: a6 :: t) (.int x :: st) w sz cc ss := by
  intro p e s m args below meth c H locs ls C hW hF hL hl
  exact lv_istore C.1 C.2.1 hd hl (by rw [← hL]; simp only [List.length_cons]; omega) rfl (fun ls hl => k p e s m args below meth c H locs ls C hW hF (by simpa using hL) (lv_mono hl (lpr_set1 (show okS (a0 :: a1 :: a2 :: a3 :: a4 :: a5 :: a6 :: t) 6 = true from hp))))
theorem N.astore6 {a0 a1 a2 a3 a4 a5 a6 : Option Value} {t : List (Option Value)} {x : Nat} (hd : decode M.2.1 pc = .ok (.astore 6, 2)) (hp : c1 a5 = true) (k : N K M d mc ms Q (pc + 2) (a0 :: a1 :: a2 :: a3 :: a4 :: a5 :: some (.ref x) :: t) st w sz cc ss) : N K M d mc ms Q pc (a0 :: a1 :: a2 :: a3 :: a4 :: a5 :: a6 :: t) (.ref x :: st) w sz cc ss := by
  intro p e s m args below meth c H locs ls C hW hF hL hl
  exact lv_astore C.1 C.2.1 hd hl (by rw [← hL]; simp only [List.length_cons]; omega) rfl (fun ls hl => k p e s m args below meth c H locs ls C hW hF (by simpa using hL) (lv_mono hl (lpr_set1 (show okS (a0 :: a1 :: a2 :: a3 :: a4 :: a5 :: a6 :: t) 6 = true from hp))))
theorem N.lstore6 {a0 a1 a2 a3 a4 a5 a6 a7 : Option Value} {t : List (Option Value)} {x : Int64} (hd : decode M.2.1 pc = .ok (.lstore 6, 2)) (hp : c1 a5 = true) (k : N K M d mc ms Q (pc + 2) (a0 :: a1 :: a2 :: a3 :: a4 :: a5 :: some (.long x) :: none :: t) st w sz cc ss) : N K M d mc ms Q pc (a0 :: a1 :: a2 :: a3 :: a4 :: a5 :: a6 :: a7 :: t) (.long x :: st) w sz cc ss := by
  intro p e s m args below meth c H locs ls C hW hF hL hl
  exact lv_lstore C.1 C.2.1 hd hl (by rw [← hL]; simp only [List.length_cons]; omega) rfl (fun ls hl => k p e s m args below meth c H locs ls C hW hF (by simpa using hL) (lv_mono hl (lpr_set2 (show okS (a0 :: a1 :: a2 :: a3 :: a4 :: a5 :: a6 :: a7 :: t) 6 = true from hp))))
theorem N.iinc6 {a0 a1 a2 a3 a4 a5 : Option Value} {t : List (Option Value)} {x v : Int32} {n : Int} (hd : decode M.2.1 pc = .ok (.iinc 6 n, 3)) (hp : c1 a5 = true) (hv : x + Int32.ofInt n = v) (k : N K M d mc ms Q (pc + 3) (a0 :: a1 :: a2 :: a3 :: a4 :: a5 :: some (.int v) :: t) st w sz cc ss) : N K M d mc ms Q pc (a0 :: a1 :: a2 :: a3 :: a4 :: a5 :: some (.int x) :: t) st w sz cc ss := by
  intro p e s m args below meth c H locs ls C hW hF hL hl
  obtain ⟨j, hj⟩ := List.getElem?_of_mem (lpr_mem (a0 :: a1 :: a2 :: a3 :: a4 :: a5 :: some (.int x) :: t) 0 6 (.int x) rfl)
  rw [Nat.zero_add] at hj
  exact lv_iinc C.1 C.2.1 hd hl hj hv (by rw [← hL]; simp only [List.length_cons]; omega) rfl (fun ls hl => k p e s m args below meth c H locs ls C hW hF (by simpa using hL) (lv_mono hl (lpr_set1 (show okS (a0 :: a1 :: a2 :: a3 :: a4 :: a5 :: some (.int x) :: t) 6 = true from hp))))
theorem N.iload7 {a0 a1 a2 a3 a4 a5 a6 : Option Value} {t : List (Option Value)} {x : Int32} (hd : decode M.2.1 pc = .ok (.iload 7, 2)) (k : N K M d mc ms Q (pc + 2) (a0 :: a1 :: a2 :: a3 :: a4 :: a5 :: a6 :: some (.int x) :: t) (.int x :: st) w sz cc ss) : N K M d mc ms Q pc (a0 :: a1 :: a2 :: a3 :: a4 :: a5 :: a6 :: some (.int x) :: t) st w sz cc ss := by
  intro p e s m args below meth c H locs ls C hW hF hL hl
  exact lv_iload C.1 C.2.1 hd (hl.2.2 (7, .int x) (lpr_mem _ 0 7 _ rfl)) (k p e s m args below meth c H locs ls C hW hF hL hl)
theorem N.lload7 {a0 a1 a2 a3 a4 a5 a6 : Option Value} {t : List (Option Value)} {x : Int64} (hd : decode M.2.1 pc = .ok (.lload 7, 2)) (k : N K M d mc ms Q (pc + 2) (a0 :: a1 :: a2 :: a3 :: a4 :: a5 :: a6 :: some (.long x) :: t) (.long x :: st) w sz cc ss) : N K M d mc ms Q pc (a0 :: a1 :: a2 :: a3 :: a4 :: a5 :: a6 :: some (.long x) :: t) st w sz cc ss := by
  intro p e s m args below meth c H locs ls C hW hF hL hl
  exact lv_lload C.1 C.2.1 hd (hl.2.2 (7, .long x) (lpr_mem _ 0 7 _ rfl)) (k p e s m args below meth c H locs ls C hW hF hL hl)
theorem N.aload7 {a0 a1 a2 a3 a4 a5 a6 : Option Value} {t : List (Option Value)} {x : Nat} (hd : decode M.2.1 pc = .ok (.aload 7, 2)) (k : N K M d mc ms Q (pc + 2) (a0 :: a1 :: a2 :: a3 :: a4 :: a5 :: a6 :: some (.ref x) :: t) (.ref x :: st) w sz cc ss) : N K M d mc ms Q pc (a0 :: a1 :: a2 :: a3 :: a4 :: a5 :: a6 :: some (.ref x) :: t) st w sz cc ss := by
  intro p e s m args below meth c H locs ls C hW hF hL hl
  exact lv_aload C.1 C.2.1 hd (hl.2.2 (7, .ref x) (lpr_mem _ 0 7 _ rfl)) (k p e s m args below meth c H locs ls C hW hF hL hl)
theorem N.istore7 {a0 a1 a2 a3 a4 a5 a6 a7 : Option Value} {t : List (Option Value)} {x : Int32} (hd : decode M.2.1 pc = .ok (.istore 7, 2)) (hp : c1 a6 = true) (k : N K M d mc ms Q (pc + 2) (a0 :: a1 :: a2 :: a3 :: a4 :: a5 :: a6 :: some (.int x) :: t) st w sz cc ss) : N K M d mc ms Q pc (a0 :: a1 :: a2 :: a3 :: a4 :: a5 :: a6 :: a7 :: t) (.int x :: st) w sz cc ss := by
  intro p e s m args below meth c H locs ls C hW hF hL hl
  exact lv_istore C.1 C.2.1 hd hl (by rw [← hL]; simp only [List.length_cons]; omega) rfl (fun ls hl => k p e s m args below meth c H locs ls C hW hF (by simpa using hL) (lv_mono hl (lpr_set1 (show okS (a0 :: a1 :: a2 :: a3 :: a4 :: a5 :: a6 :: a7 :: t) 7 = true from hp))))
theorem N.astore7 {a0 a1 a2 a3 a4 a5 a6 a7 : Option Value} {t : List (Option Value)} {x : Nat} (hd : decode M.2.1 pc = .ok (.astore 7, 2)) (hp : c1 a6 = true) (k : N K M d mc ms Q (pc + 2) (a0 :: a1 :: a2 :: a3 :: a4 :: a5 :: a6 :: some (.ref x) :: t) st w sz cc ss) : N K M d mc ms Q pc (a0 :: a1 :: a2 :: a3 :: a4 :: a5 :: a6 :: a7 :: t) (.ref x :: st) w sz cc ss := by
  intro p e s m args below meth c H locs ls C hW hF hL hl
  exact lv_astore C.1 C.2.1 hd hl (by rw [← hL]; simp only [List.length_cons]; omega) rfl (fun ls hl => k p e s m args below meth c H locs ls C hW hF (by simpa using hL) (lv_mono hl (lpr_set1 (show okS (a0 :: a1 :: a2 :: a3 :: a4 :: a5 :: a6 :: a7 :: t) 7 = true from hp))))
theorem N.lstore7 {a0 a1 a2 a3 a4 a5 a6 a7 a8 : Option Value} {t : List (Option Value)} {x : Int64} (hd : decode M.2.1 pc = .ok (.lstore 7, 2)) (hp : c1 a6 = true) (k : N K M d mc ms Q (pc + 2) (a0 :: a1 :: a2 :: a3 :: a4 :: a5 :: a6 :: some (.long x) :: none :: t) st w sz cc ss) : N K M d mc ms Q pc (a0 :: a1 :: a2 :: a3 :: a4 :: a5 :: a6 :: a7 :: a8 :: t) (.long x :: st) w sz cc ss := by
  intro p e s m args below meth c H locs ls C hW hF hL hl
  exact lv_lstore C.1 C.2.1 hd hl (by rw [← hL]; simp only [List.length_cons]; omega) rfl (fun ls hl => k p e s m args below meth c H locs ls C hW hF (by simpa using hL) (lv_mono hl (lpr_set2 (show okS (a0 :: a1 :: a2 :: a3 :: a4 :: a5 :: a6 :: a7 :: a8 :: t) 7 = true from hp))))
theorem N.iinc7 {a0 a1 a2 a3 a4 a5 a6 : Option Value} {t : List (Option Value)} {x v : Int32} {n : Int} (hd : decode M.2.1 pc = .ok (.iinc 7 n, 3)) (hp : c1 a6 = true) (hv : x + Int32.ofInt n = v) (k : N K M d mc ms Q (pc + 3) (a0 :: a1 :: a2 :: a3 :: a4 :: a5 :: a6 :: some (.int v) :: t) st w sz cc ss) : N K M d mc ms Q pc (a0 :: a1 :: a2 :: a3 :: a4 :: a5 :: a6 :: some (.int x) :: t) st w sz cc ss := by
  intro p e s m args below meth c H locs ls C hW hF hL hl
  obtain ⟨j, hj⟩ := List.getElem?_of_mem (lpr_mem (a0 :: a1 :: a2 :: a3 :: a4 :: a5 :: a6 :: some (.int x) :: t) 0 7 (.int x) rfl)
  rw [Nat.zero_add] at hj
  exact lv_iinc C.1 C.2.1 hd hl hj hv (by rw [← hL]; simp only [List.length_cons]; omega) rfl (fun ls hl => k p e s m args below meth c H locs ls C hW hF (by simpa using hL) (lv_mono hl (lpr_set1 (show okS (a0 :: a1 :: a2 :: a3 :: a4 :: a5 :: a6 :: some (.int x) :: t) 7 = true from hp))))
theorem N.iload8 {a0 a1 a2 a3 a4 a5 a6 a7 : Option Value} {t : List (Option Value)} {x : Int32} (hd : decode M.2.1 pc = .ok (.iload 8, 2)) (k : N K M d mc ms Q (pc + 2) (a0 :: a1 :: a2 :: a3 :: a4 :: a5 :: a6 :: a7 :: some (.int x) :: t) (.int x :: st) w sz cc ss) : N K M d mc ms Q pc (a0 :: a1 :: a2 :: a3 :: a4 :: a5 :: a6 :: a7 :: some (.int x) :: t) st w sz cc ss := by
  intro p e s m args below meth c H locs ls C hW hF hL hl
  exact lv_iload C.1 C.2.1 hd (hl.2.2 (8, .int x) (lpr_mem _ 0 8 _ rfl)) (k p e s m args below meth c H locs ls C hW hF hL hl)
theorem N.lload8 {a0 a1 a2 a3 a4 a5 a6 a7 : Option Value} {t : List (Option Value)} {x : Int64} (hd : decode M.2.1 pc = .ok (.lload 8, 2)) (k : N K M d mc ms Q (pc + 2) (a0 :: a1 :: a2 :: a3 :: a4 :: a5 :: a6 :: a7 :: some (.long x) :: t) (.long x :: st) w sz cc ss) : N K M d mc ms Q pc (a0 :: a1 :: a2 :: a3 :: a4 :: a5 :: a6 :: a7 :: some (.long x) :: t) st w sz cc ss := by
  intro p e s m args below meth c H locs ls C hW hF hL hl
  exact lv_lload C.1 C.2.1 hd (hl.2.2 (8, .long x) (lpr_mem _ 0 8 _ rfl)) (k p e s m args below meth c H locs ls C hW hF hL hl)
theorem N.aload8 {a0 a1 a2 a3 a4 a5 a6 a7 : Option Value} {t : List (Option Value)} {x : Nat} (hd : decode M.2.1 pc = .ok (.aload 8, 2)) (k : N K M d mc ms Q (pc + 2) (a0 :: a1 :: a2 :: a3 :: a4 :: a5 :: a6 :: a7 :: some (.ref x) :: t) (.ref x :: st) w sz cc ss) : N K M d mc ms Q pc (a0 :: a1 :: a2 :: a3 :: a4 :: a5 :: a6 :: a7 :: some (.ref x) :: t) st w sz cc ss := by
  intro p e s m args below meth c H locs ls C hW hF hL hl
  exact lv_aload C.1 C.2.1 hd (hl.2.2 (8, .ref x) (lpr_mem _ 0 8 _ rfl)) (k p e s m args below meth c H locs ls C hW hF hL hl)
theorem N.istore8 {a0 a1 a2 a3 a4 a5 a6 a7 a8 : Option Value} {t : List (Option Value)} {x : Int32} (hd : decode M.2.1 pc = .ok (.istore 8, 2)) (hp : c1 a7 = true) (k : N K M d mc ms Q (pc + 2) (a0 :: a1 :: a2 :: a3 :: a4 :: a5 :: a6 :: a7 :: some (.int x) :: t) st w sz cc ss) : N K M d mc ms Q pc (a0 :: a1 :: a2 :: a3 :: a4 :: a5 :: a6 :: a7 :: a8 :: t) (.int x :: st) w sz cc ss := by
  intro p e s m args below meth c H locs ls C hW hF hL hl
  exact lv_istore C.1 C.2.1 hd hl (by rw [← hL]; simp only [List.length_cons]; omega) rfl (fun ls hl => k p e s m args below meth c H locs ls C hW hF (by simpa using hL) (lv_mono hl (lpr_set1 (show okS (a0 :: a1 :: a2 :: a3 :: a4 :: a5 :: a6 :: a7 :: a8 :: t) 8 = true from hp))))
theorem N.astore8 {a0 a1 a2 a3 a4 a5 a6 a7 a8 : Option Value} {t : List (Option Value)} {x : Nat} (hd : decode M.2.1 pc = .ok (.astore 8, 2)) (hp : c1 a7 = true) (k : N K M d mc ms Q (pc + 2) (a0 :: a1 :: a2 :: a3 :: a4 :: a5 :: a6 :: a7 :: some (.ref x) :: t) st w sz cc ss) : N K M d mc ms Q pc (a0 :: a1 :: a2 :: a3 :: a4 :: a5 :: a6 :: a7 :: a8 :: t) (.ref x :: st) w sz cc ss := by
  intro p e s m args below meth c H locs ls C hW hF hL hl
  exact lv_astore C.1 C.2.1 hd hl (by rw [← hL]; simp only [List.length_cons]; omega) rfl (fun ls hl => k p e s m args below meth c H locs ls C hW hF (by simpa using hL) (lv_mono hl (lpr_set1 (show okS (a0 :: a1 :: a2 :: a3 :: a4 :: a5 :: a6 :: a7 :: a8 :: t) 8 = true from hp))))
theorem N.lstore8 {a0 a1 a2 a3 a4 a5 a6 a7 a8 a9 : Option Value} {t : List (Option Value)} {x : Int64} (hd : decode M.2.1 pc = .ok (.lstore 8, 2)) (hp : c1 a7 = true) (k : N K M d mc ms Q (pc + 2) (a0 :: a1 :: a2 :: a3 :: a4 :: a5 :: a6 :: a7 :: some (.long x) :: none :: t) st w sz cc ss) : N K M d mc ms Q pc (a0 :: a1 :: a2 :: a3 :: a4 :: a5 :: a6 :: a7 :: a8 :: a9 :: t) (.long x :: st) w sz cc ss := by
  intro p e s m args below meth c H locs ls C hW hF hL hl
  exact lv_lstore C.1 C.2.1 hd hl (by rw [← hL]; simp only [List.length_cons]; omega) rfl (fun ls hl => k p e s m args below meth c H locs ls C hW hF (by simpa using hL) (lv_mono hl (lpr_set2 (show okS (a0 :: a1 :: a2 :: a3 :: a4 :: a5 :: a6 :: a7 :: a8 :: a9 :: t) 8 = true from hp))))
theorem N.iinc8 {a0 a1 a2 a3 a4 a5 a6 a7 : Option Value} {t : List (Option Value)} {x v : Int32} {n : Int} (hd : decode M.2.1 pc = .ok (.iinc 8 n, 3)) (hp : c1 a7 = true) (hv : x + Int32.ofInt n = v) (k : N K M d mc ms Q (pc + 3) (a0 :: a1 :: a2 :: a3 :: a4 :: a5 :: a6 :: a7 :: some (.int v) :: t) st w sz cc ss) : N K M d mc ms Q pc (a0 :: a1 :: a2 :: a3 :: a4 :: a5 :: a6 :: a7 :: some (.int x) :: t) st w sz cc ss := by
  intro p e s m args below meth c H locs ls C hW hF hL hl
  obtain ⟨j, hj⟩ := List.getElem?_of_mem (lpr_mem (a0 :: a1 :: a2 :: a3 :: a4 :: a5 :: a6 :: a7 :: some (.int x) :: t) 0 8 (.int x) rfl)
  rw [Nat.zero_add] at hj
  exact lv_iinc C.1 C.2.1 hd hl hj hv (by rw [← hL]; simp only [List.length_cons]; omega) rfl (fun ls hl => k p e s m args below meth c H locs ls C hW hF (by simpa using hL) (lv_mono hl (lpr_set1 (show okS (a0 :: a1 :: a2 :: a3 :: a4 :: a5 :: a6 :: a7 :: some (.int x) :: t) 8 = true from hp))))
theorem N.iload9 {a0 a1 a2 a3 a4 a5 a6 a7 a8 : Option Value} {t : List (Option Value)} {x : Int32} (hd : decode M.2.1 pc = .ok (.iload 9, 2)) (k : N K M d mc ms Q (pc + 2) (a0 :: a1 :: a2 :: a3 :: a4 :: a5 :: a6 :: a7 :: a8 :: some (.int x) :: t) (.int x :: st) w sz cc ss) : N K M d mc ms Q pc (a0 :: a1 :: a2 :: a3 :: a4 :: a5 :: a6 :: a7 :: a8 :: some (.int x) :: t) st w sz cc ss := by
  intro p e s m args below meth c H locs ls C hW hF hL hl
  exact lv_iload C.1 C.2.1 hd (hl.2.2 (9, .int x) (lpr_mem _ 0 9 _ rfl)) (k p e s m args below meth c H locs ls C hW hF hL hl)
theorem N.lload9 {a0 a1 a2 a3 a4 a5 a6 a7 a8 : Option Value} {t : List (Option Value)} {x : Int64} (hd : decode M.2.1 pc = .ok (.lload 9, 2)) (k : N K M d mc ms Q (pc + 2) (a0 :: a1 :: a2 :: a3 :: a4 :: a5 :: a6 :: a7 :: a8 :: some (.long x) :: t) (.long x :: st) w sz cc ss) : N K M d mc ms Q pc (a0 :: a1 :: a2 :: a3 :: a4 :: a5 :: a6 :: a7 :: a8 :: some (.long x) :: t) st w sz cc ss := by
  intro p e s m args below meth c H locs ls C hW hF hL hl
  exact lv_lload C.1 C.2.1 hd (hl.2.2 (9, .long x) (lpr_mem _ 0 9 _ rfl)) (k p e s m args below meth c H locs ls C hW hF hL hl)
theorem N.aload9 {a0 a1 a2 a3 a4 a5 a6 a7 a8 : Option Value} {t : List (Option Value)} {x : Nat} (hd : decode M.2.1 pc = .ok (.aload 9, 2)) (k : N K M d mc ms Q (pc + 2) (a0 :: a1 :: a2 :: a3 :: a4 :: a5 :: a6 :: a7 :: a8 :: some (.ref x) :: t) (.ref x :: st) w sz cc ss) : N K M d mc ms Q pc (a0 :: a1 :: a2 :: a3 :: a4 :: a5 :: a6 :: a7 :: a8 :: some (.ref x) :: t) st w sz cc ss := by
  intro p e s m args below meth c H locs ls C hW hF hL hl
  exact lv_aload C.1 C.2.1 hd (hl.2.2 (9, .ref x) (lpr_mem _ 0 9 _ rfl)) (k p e s m args below meth c H locs ls C hW hF hL hl)
theorem N.istore9 {a0 a1 a2 a3 a4 a5 a6 a7 a8 a9 : Option Value} {t : List (Option Value)} {x : Int32} (hd : decode M.2.1 pc = .ok (.istore 9, 2)) (hp : c1 a8 = true) (k : N K M d mc ms Q (pc + 2) (a0 :: a1 :: a2 :: a3 :: a4 :: a5 :: a6 :: a7 :: a8 :: some (.int x) :: t) st w sz cc ss) : N K M d mc ms Q pc (a0 :: a1 :: a2 :: a3 :: a4 :: a5 :: a6 :: a7 :: a8 :: a9 :: t) (.int x :: st) w sz cc ss := by
  intro p e s m args below meth c H locs ls C hW hF hL hl
  exact lv_istore C.1 C.2.1 hd hl (by rw [← hL]; simp only [List.length_cons]; omega) rfl (fun ls hl => k p e s m args below meth c H locs ls C hW hF (by simpa using hL) (lv_mono hl (lpr_set1 (show okS (a0 :: a1 :: a2 :: a3 :: a4 :: a5 :: a6 :: a7 :: a8 :: a9 :: t) 9 = true from hp))))
theorem N.astore9 {a0 a1 a2 a3 a4 a5 a6 a7 a8 a9 : Option Value} {t : List (Option Value)} {x : Nat} (hd : decode M.2.1 pc = .ok (.astore 9, 2)) (hp : c1 a8 = true) (k : N K M d mc ms Q (pc + 2) (a0 :: a1 :: a2 :: a3 :: a4 :: a5 :: a6 :: a7 :: a8 :: some (.ref x) :: t) st w sz cc ss) : N K M d mc ms Q pc (a0 :: a1 :: a2 :: a3 :: a4 :: a5 :: a6 :: a7 :: a8 :: a9 :: t) (.ref x :: st) w sz cc ss := by
  intro p e s m args below meth c H locs ls C hW hF hL hl
  exact lv_astore C.1 C.2.1 hd hl (by rw [← hL]; simp only [List.length_cons]; omega) rfl (fun ls hl => k p e s m args below meth c H locs ls C hW hF (by simpa using hL) (lv_mono hl (lpr_set1 (show okS (a0 :: a1 :: a2 :: a3 :: a4 :: a5 :: a6 :: a7 :: a8 :: a9 :: t) 9 = true from hp))))
theorem N.lstore9 {a0 a1 a2 a3 a4 a5 a6 a7 a8 a9 a10 : Option Value} {t : List (Option Value)} {x : Int64} (hd : decode M.2.1 pc = .ok (.lstore 9, 2)) (hp : c1 a8 = true) (k : N K M d mc ms Q (pc + 2) (a0 :: a1 :: a2 :: a3 :: a4 :: a5 :: a6 :: a7 :: a8 :: some (.long x) :: none :: t) st w sz cc ss) : N K M d mc ms Q pc (a0 :: a1 :: a2 :: a3 :: a4 :: a5 :: a6 :: a7 :: a8 :: a9 :: a10 :: t) (.long x :: st) w sz cc ss := by
  intro p e s m args below meth c H locs ls C hW hF hL hl
  exact lv_lstore C.1 C.2.1 hd hl (by rw [← hL]; simp only [List.length_cons]; omega) rfl (fun ls hl => k p e s m args below meth c H locs ls C hW hF (by simpa using hL) (lv_mono hl (lpr_set2 (show okS (a0 :: a1 :: a2 :: a3 :: a4 :: a5 :: a6 :: a7 :: a8 :: a9 :: a10 :: t) 9 = true from hp))))
theorem N.iinc9 {a0 a1 a2 a3 a4 a5 a6 a7 a8 : Option Value} {t : List (Option Value)} {x v : Int32} {n : Int} (hd : decode M.2.1 pc = .ok (.iinc 9 n, 3)) (hp : c1 a8 = true) (hv : x + Int32.ofInt n = v) (k : N K M d mc ms Q (pc + 3) (a0 :: a1 :: a2 :: a3 :: a4 :: a5 :: a6 :: a7 :: a8 :: some (.int v) :: t) st w sz cc ss) : N K M d mc ms Q pc (a0 :: a1 :: a2 :: a3 :: a4 :: a5 :: a6 :: a7 :: a8 :: some (.int x) :: t) st w sz cc ss := by
  intro p e s m args below meth c H locs ls C hW hF hL hl
  obtain ⟨j, hj⟩ := List.getElem?_of_mem (lpr_mem (a0 :: a1 :: a2 :: a3 :: a4 :: a5 :: a6 :: a7 :: a8 :: some (.int x) :: t) 0 9 (.int x) rfl)
  rw [Nat.zero_add] at hj
  exact lv_iinc C.1 C.2.1 hd hl hj hv (by rw [← hL]; simp only [List.length_cons]; omega) rfl (fun ls hl => k p e s m args below meth c H locs ls C hW hF (by simpa using hL) (lv_mono hl (lpr_set1 (show okS (a0 :: a1 :: a2 :: a3 :: a4 :: a5 :: a6 :: a7 :: a8 :: some (.int x) :: t) 9 = true from hp))))
theorem N.iload10 {a0 a1 a2 a3 a4 a5 a6 a7 a8 a9 : Option Value} {t : List (Option Value)} {x : Int32} (hd : decode M.2.1 pc = .ok (.iload 10, 2)) (k : N K M d mc ms Q (pc + 2) (a0 :: a1 :: a2 :: a3 :: a4 :: a5 :: a6 :: a7 :: a8 :: a9 :: some (.int x) :: t) (.int x :: st) w sz cc ss) : N K M d mc ms Q pc (a0 :: a1 :: a2 :: a3 :: a4 :: a5 :: a6 :: a7 :: a8 :: a9 :: some (.int x) :: t) st w sz cc ss := by
  intro p e s m args below meth c H locs ls C hW hF hL hl
  exact lv_iload C.1 C.2.1 hd (hl.2.2 (10, .int x) (lpr_mem _ 0 10 _ rfl)) (k p e s m args below meth c H locs ls C hW hF hL hl)
theorem N.lload10 {a0 a1 a2 a3 a4 a5 a6 a7 a8 a9 : Option Value} {t : List (Option Value)} {x : Int64} (hd : decode M.2.1 pc = .ok (.lload 10, 2)) (k : N K M d mc ms Q (pc + 2) (a0 :: a1 :: a2 :: a3 :: a4 :: a5 :: a6 :: a7 :: a8 :: a9 :: some (.long x) :: t) (.long x :: st) w sz cc ss) : N K M d mc ms Q pc (a0 :: a1 :: a2 :: a3 :: a4 :: a5 :: a6 :: a7 :: a8 :: a9 :: some (.long x) :: t) st w sz cc ss := by
  intro p e s m args below meth c H locs ls C hW hF hL hl
  exact lv_lload C.1 C.2.1 hd (hl.2.2 (10, .long x) (lpr_mem _ 0 10 _ rfl)) (k p e s m args below meth c H locs ls C hW hF hL hl)
theorem N.aload10 {a0 a1 a2 a3 a4 a5 a6 a7 a8 a9 : Option Value} {t : List (Option Value)} {x : Nat} (hd : decode M.2.1 pc = .ok (.aload 10, 2)) (k : N K M d mc ms Q (pc + 2) (a0 :: a1 :: a2 :: a3 :: a4 :: a5 :: a6 :: a7 :: a8 :: a9 :: some (.ref x) :: t) (.ref x :: st) w sz cc ss) : N K M d mc ms Q pc (a0 :: a1 :: a2 :: a3 :: a4 :: a5 :: a6 :: a7 :: a8 :: a9 :: some (.ref x) :: t) st w sz cc ss := by
  intro p e s m args below meth c H locs ls C hW hF hL hl
  exact lv_aload C.1 C.2.1 hd (hl.2.2 (10, .ref x) (lpr_mem _ 0 10 _ rfl)) (k p e s m args below meth c H locs ls C hW hF hL hl)
theorem N.istore10 {a0 a1 a2 a3 a4 a5 a6 a7 a8 a9 a10 : Option Value} {t : List (Option Value)} {x : Int32} (hd : decode M.2.1 pc = .ok (.istore 10, 2)) (hp : c1 a9 = true) (k : N K M d mc ms Q (pc + 2) (a0 :: a1 :: a2 :: a3 :: a4 :: a5 :: a6 :: a7 :: a8 :: a9 :: some (.int x) :: t) st w sz cc ss) : N K M d mc ms Q pc (a0 :: a1 :: a2 :: a3 :: a4 :: a5 :: a6 :: a7 :: a8 :: a9 :: a10 :: t) (.int x :: st) w sz cc ss := by
  intro p e s m args below meth c H locs ls C hW hF hL hl
  exact lv_istore C.1 C.2.1 hd hl (by rw [← hL]; simp only [List.length_cons]; omega) rfl (fun ls hl => k p e s m args below meth c H locs ls C hW hF (by simpa using hL) (lv_mono hl (lpr_set1 (show okS (a0 :: a1 :: a2 :: a3 :: a4 :: a5 :: a6 :: a7 :: a8 :: a9 :: a10 :: t) 10 = true from hp))))
theorem N.astore10 {a0 a1 a2 a3 a4 a5 a6 a7 a8 a9 a10 : Option Value} {t : List (Option Value)} {x : Nat} (hd : decode M.2.1 pc = .ok (.astore 10, 2)) (hp : c1 a9 = true) (k : N K M d mc ms Q (pc + 2) (a0 :: a1 :: a2 :: a3 :: a4 :: a5 :: a6 :: a7 :: a8 :: a9 :: some (.ref x) :: t) st w sz cc ss) : N K M d mc ms Q pc (a0 :: a1 :: a2 :: a3 :: a4 :: a5 :: a6 :: a7 :: a8 :: a9 :: a10 :: t) (.ref x :: st) w sz cc ss := by
  intro p e s m args below meth c H locs ls C hW hF hL hl
  exact lv_astore C.1 C.2.1 hd hl (by rw [← hL]; simp only [List.length_cons]; omega) rfl (fun ls hl => k p e s m args below meth c H locs ls C hW hF (by simpa using hL) (lv_mono hl (lpr_set1 (show okS (a0 :: a1 :: a2 :: a3 :: a4 :: a5 :: a6 :: a7 :: a8 :: a9 :: a10 :: t) 10 = true from hp))))
theorem N.lstore10 {a0 a1 a2 a3 a4 a5 a6 a7 a8 a9 a10 a11 : Option Value} {t : List (Option Value)} {x : Int64} (hd : decode M.2.1 pc = .ok (.lstore 10, 2)) (hp : c1 a9 = true) (k : N K M d mc ms Q (pc + 2) (a0 :: a1 :: a2 :: a3 :: a4 :: a5 :: a6 :: a7 :: a8 :: a9 :: some (.long x) :: none :: t) st w sz cc ss) : N K M d mc ms Q pc (a0 :: a1 :: a2 :: a3 :: a4 :: a5 :: a6 :: a7 :: a8 :: a9 :: a10 :: a11 :: t) (.long x :: st) w sz cc ss := by
  intro p e s m args below meth c H locs ls C hW hF hL hl
  exact lv_lstore C.1 C.2.1 hd hl (by rw [← hL]; simp only [List.length_cons]; omega) rfl (fun ls hl => k p e s m args below meth c H locs ls C hW hF (by simpa using hL) (lv_mono hl (lpr_set2 (show okS (a0 :: a1 :: a2 :: a3 :: a4 :: a5 :: a6 :: a7 :: a8 :: a9 :: a10 :: a11 :: t) 10 = true from hp))))
theorem N.iinc10 {a0 a1 a2 a3 a4 a5 a6 a7 a8 a9 : Option Value} {t : List (Option Value)} {x v : Int32} {n : Int} (hd : decode M.2.1 pc = .ok (.iinc 10 n, 3)) (hp : c1 a9 = true) (hv : x + Int32.ofInt n = v) (k : N K M d mc ms Q (pc + 3) (a0 :: a1 :: a2 :: a3 :: a4 :: a5 :: a6 :: a7 :: a8 :: a9 :: some (.int v) :: t) st w sz cc ss) : N K M d mc ms Q pc (a0 :: a1 :: a2 :: a3 :: a4 :: a5 :: a6 :: a7 :: a8 :: a9 :: some (.int x) :: t) st w sz cc ss := by
  intro p e s m args below meth c H locs ls C hW hF hL hl
  obtain ⟨j, hj⟩ := List.getElem?_of_mem (lpr_mem (a0 :: a1 :: a2 :: a3 :: a4 :: a5 :: a6 :: a7 :: a8 :: a9 :: some (.int x) :: t) 0 10 (.int x) rfl)
  rw [Nat.zero_add] at hj
  exact lv_iinc C.1 C.2.1 hd hl hj hv (by rw [← hL]; simp only [List.length_cons]; omega) rfl (fun ls hl => k p e s m args below meth c H locs ls C hW hF (by simpa using hL) (lv_mono hl (lpr_set1 (show okS (a0 :: a1 :: a2 :: a3 :: a4 :: a5 :: a6 :: a7 :: a8 :: a9 :: some (.int x) :: t) 10 = true from hp))))
theorem N.iload11 {a0 a1 a2 a3 a4 a5 a6 a7 a8 a9 a10 : Option Value} {t : List (Option Value)} {x : Int32} (hd : decode M.2.1 pc = .ok (.iload 11, 2)) (k : N K M d mc ms Q (pc + 2) (a0 :: a1 :: a2 :: a3 :: a4 :: a5 :: a6 :: a7 :: a8 :: a9 :: a10 :: some (.int x) :: t) (.int x :: st) w sz cc ss) : N K M d mc ms Q pc (a0 :: a1 :: a2 :: a3 :: a4 :: a5 :: a6 :: a7 :: a8 :: a9 :: a10 :: some (.int x) :: t) st w sz cc ss := by
  intro p e s m args below meth c H locs ls C hW hF hL hl
  exact lv_iload C.1 C.2.1 hd (hl.2.2 (11, .int x) (lpr_mem _ 0 11 _ rfl)) (k p e s m args below meth c H locs ls C hW hF hL hl)
theorem N.lload11 {a0 a1 a2 a3 a4 a5 a6 a7 a8 a9 a10 : Option Value} {t : List (Option Value)} {x : Int64} (hd : decode M.2.1 pc = .ok (.lload 11, 2)) (k : N K M d mc ms Q (pc + 2) (a0 :: a1 :: a2 :: a3 :: a4 :: a5 :: a6 :: a7 :: a8 :: a9 :: a10 :: some (.long x) :: t) (.long x :: st) w sz cc ss) : N K M d mc ms Q pc (a0 :: a1 :: a2 :: a3 :: a4 :: a5 :: a6 :: a7 :: a8 :: a9 :: a10 :: some (.long x) :: t) st w sz cc ss := by
  intro p e s m args below meth c H locs ls C hW hF hL hl
  exact lv_lload C.1 C.2.1 hd (hl.2.2 (11, .long x) (lpr_mem _ 0 11 _ rfl)) (k p e s m args below meth c H locs ls C hW hF hL hl)
theorem N.aload11 {a0 a1 a2 a3 a4 a5 a6 a7 a8 a9 a10 : Option Value} {t : List (Option Value)} {x : Nat} (hd : decode M.2.1 pc = .ok (.aload 11, 2)) (k : N K M d mc ms Q (pc + 2) (a0 :: a1 :: a2 :: a3 :: a4 :: a5 :: a6 :: a7 :: a8 :: a9 :: a10 :: some (.ref x) :: t) (.ref x :: st) w sz cc ss) : N K M d mc ms Q pc (a0 :: a1 :: a2 :: a3 :: a4 :: a5 :: a6 :: a7 :: a8 :: a9 :: a10 :: some (.ref x) :: t) st w sz cc ss := by
  intro p e s m args below meth c H locs ls C hW hF hL hl
  exact lv_aload C.1 C.2.1 hd (hl.2.2 (11, .ref x) (lpr_mem _ 0 11 _ rfl)) (k p e s m args below meth c H locs ls C hW hF hL hl)
theorem N.istore11 {a0 a1 a2 a3 a4 a5 a6 a7 a8 a9 a10 a11 : Option Value} {t : List (Option Value)} {x : Int32} (hd : decode M.2.1 pc = .ok (.istore 11, 2)) (hp : c1 a10 = true) (k : N K M d mc ms Q (pc + 2) (a0 :: a1 :: a2 :: a3 :: a4 :: a5 :: a6 :: a7 :: a8 :: a9 :: a10 :: some (.int x) :: t) st w sz cc ss) : N K M d mc ms Q pc (a0 :: a1 :: a2 :: a3 :: a4 :: a5 :: a6 :: a7 :: a8 :: a9 :: a10 :: a11 :: t) (.int x :: st) w sz cc ss := by
  intro p e s m args below meth c H locs ls C hW hF hL hl
  exact lv_istore C.1 C.2.1 hd hl (by rw [← hL]; simp only [List.length_cons]; omega) rfl (fun ls hl => k p e s m args below meth c H locs ls C hW hF (by simpa using hL) (lv_mono hl (lpr_set1 (show okS (a0 :: a1 :: a2 :: a3 :: a4 :: a5 :: a6 :: a7 :: a8 :: a9 :: a10 :: a11 :: t) 11 = true from hp))))
theorem N.astore11 {a0 a1 a2 a3 a4 a5 a6 a7 a8 a9 a10 a11 : Option Value} {t : List (Option Value)} {x : Nat} (hd : decode M.2.1 pc = .ok (.astore 11, 2)) (hp : c1 a10 = true) (k : N K M d mc ms Q (pc + 2) (a0 :: a1 :: a2 :: a3 :: a4 :: a5 :: a6 :: a7 :: a8 :: a9 :: a10 :: some (.ref x) :: t) st w sz cc ss) : N K M d mc ms Q pc (a0 :: a1 :: a2 :: a3 :: a4 :: a5 :: a6 :: a7 :: a8 :: a9 :: a10 :: a11 :: t) (.ref x :: st) w sz cc ss := by
  intro p e s m args below meth c H locs ls C hW hF hL hl
  exact lv_astore C.1 C.2.1 hd hl (by rw [← hL]; simp only [List.length_cons]; omega) rfl (fun ls hl => k p e s m args below meth c H locs ls C hW hF (by simpa using hL) (lv_mono hl (lpr_set1 (show okS (a0 :: a1 :: a2 :: a3 :: a4 :: a5 :: a6 :: a7 :: a8 :: a9 :: a10 :: a11 :: t) 11 = true from hp))))
theorem N.lstore11 {a0 a1 a2 a3 a4 a5 a6 a7 a8 a9 a10 a11 a12 : Option Value} {t : List (Option Value)} {x : Int64} (hd : decode M.2.1 pc = .ok (.lstore 11, 2)) (hp : c1 a10 = true) (k : N K M d mc ms Q (pc + 2) (a0 :: a1 :: a2 :: a3 :: a4 :: a5 :: a6 :: a7 :: a8 :: a9 :: a10 :: some (.long x) :: none :: t) st w sz cc ss) : N K M d mc ms Q pc (a0 :: a1 :: a2 :: a3 :: a4 :: a5 :: a6 :: a7 :: a8 :: a9 :: a10 :: a11 :: a12 :: t) (.long x :: st) w sz cc ss := by
  intro p e s m args below meth c H locs ls C hW hF hL hl
  exact lv_lstore C.1 C.2.1 hd hl (by rw [← hL]; simp only [List.length_cons]; omega) rfl (fun ls hl => k p e s m args below meth c H locs ls C hW hF (by simpa using hL) (lv_mono hl (lpr_set2 (show okS (a0 :: a1 :: a2 :: a3 :: a4 :: a5 :: a6 :: a7 :: a8 :: a9 :: a10 :: a11 :: a12 :: t) 11 = true from hp))))
theorem N.iinc11 {a0 a1 a2 a3 a4 a5 a6 a7 a8 a9 a10 : Option Value} {t : List (Option Value)} {x v : Int32} {n : Int} (hd : decode M.2.1 pc = .ok (.iinc 11 n, 3)) (hp : c1 a10 = true) (hv : x + Int32.ofInt n = v) (k : N K M d mc ms Q (pc + 3) (a0 :: a1 :: a2 :: a3 :: a4 :: a5 :: a6 :: a7 :: a8 :: a9 :: a10 :: some (.int v) :: t) st w sz cc ss) : N K M d mc ms Q pc (a0 :: a1 :: a2 :: a3 :: a4 :: a5 :: a6 :: a7 :: a8 :: a9 :: a10 :: some (.int x) :: t) st w sz cc ss := by
  intro p e s m args below meth c H locs ls C hW hF hL hl
  obtain ⟨j, hj⟩ := List.getElem?_of_mem (lpr_mem (a0 :: a1 :: a2 :: a3 :: a4 :: a5 :: a6 :: a7 :: a8 :: a9 :: a10 :: some (.int x) :: t) 0 11 (.int x) rfl)
  rw [Nat.zero_add] at hj
  exact lv_iinc C.1 C.2.1 hd hl hj hv (by rw [← hL]; simp only [List.length_cons]; omega) rfl (fun ls hl => k p e s m args below meth c H locs ls C hW hF (by simpa using hL) (lv_mono hl (lpr_set1 (show okS (a0 :: a1 :: a2 :: a3 :: a4 :: a5 :: a6 :: a7 :: a8 :: a9 :: a10 :: some (.int x) :: t) 11 = true from hp))))
theorem N.iload12 {a0 a1 a2 a3 a4 a5 a6 a7 a8 a9 a10 a11 : Option Value} {t : List (Option Value)} {x : Int32} (hd : decode M.2.1 pc = .ok (.iload 12, 2)) (k : N K M d mc ms Q (pc + 2) (a0 :: a1 :: a2 :: a3 :: a4 :: a5 :: a6 :: a7 :: a8 :: a9 :: a10 :: a11 :: some (.int x) :: t) (.int x :: st) w sz cc ss) : N K M d mc ms Q pc (a0 :: a1 :: a2 :: a3 :: a4 :: a5 :: a6 :: a7 :: a8 :: a9 :: a10 :: a11 :: some (.int x) :: t) st w sz cc ss := by
  intro p e s m args below meth c H locs ls C hW hF hL hl
  exact lv_iload C.1 C.2.1 hd (hl.2.2 (12, .int x) (lpr_mem _ 0 12 _ rfl)) (k p e s m args below meth c H locs ls C hW hF hL hl)
theorem N.lload12 {a0 a1 a2 a3 a4 a5 a6 a7 a8 a9 a10 a11 : Option Value} {t : List (Option Value)} {x : Int64} (hd : decode M.2.1 pc = .ok (.lload 12, 2)) (k : N K M d mc ms Q (pc + 2) (a0 :: a1 :: a2 :: a3 :: a4 :: a5 :: a6 :: a7 :: a8 :: a9 :: a10 :: a11 :: some (.long x) :: t) (.long x :: st) w sz cc ss) : N K M d mc ms Q pc (a0 :: a1 :: a2 :: a3 :: a4 :: a5 :: a6 :: a7 :: a8 :: a9 :: a10 :: a11 :: some (.long x) :: t) st w sz cc ss := by
  intro p e s m args below meth c H locs ls C hW hF hL hl
  exact lv_lload C.1 C.2.1 hd (hl.2.2 (12, .long x) (lpr_mem _ 0 12 _ rfl)) (k p e s m args below meth c H locs ls C hW hF hL hl)
theorem N.aload12 {a0 a1 a2 a3 a4 a5 a6 a7 a8 a9 a10 a11 : Option Value} {t : List (Option Value)} {x : Nat} (hd : decode M.2.1 pc = .ok (.aload 12, 2)) (k : N K M d mc ms Q (pc + 2) (a0 :: a1 :: a2 :: a3 :: a4 :: a5 :: a6 :: a7 :: a8 :: a9 :: a10 :: a11 :: some (.ref x) :: t) (.ref x :: st) w sz cc ss) : N K M d mc ms Q pc (a0 :: a1 :: a2 :: a3 :: a4 :: a5 :: a6 :: a7 :: a8 :: a9 :: a10 :: a11 :: some (.ref x) :: t) st w sz cc ss := by
  intro p e s m args below meth c H locs ls C hW hF hL hl
  exact lv_aload C.1 C.2.1 hd (hl.2.2 (12, .ref x) (lpr_mem _ 0 12 _ rfl)) (k p e s m args below meth c H locs ls C hW hF hL hl)
theorem N.istore12 {a0 a1 a2 a3 a4 a5 a6 a7 a8 a9 a10 a11 a12 : Option Value} {t : List (Option Value)} {x : Int32} (hd : decode M.2.1 pc = .ok (.istore 12, 2)) (hp : c1 a11 = true) (k : N K M d mc ms Q (pc + 2) (a0 :: a1 :: a2 :: a3 :: a4 :: a5 :: a6 :: a7 :: a8 :: a9 :: a10 :: a11 :: some (.int x) :: t) st w sz cc ss) : N K M d mc ms Q pc (a0 :: a1 :: a2 :: a3 :: a4 :: a5 :: a6 :: a7 :: a8 :: a9 :: a10 :: a11 :: a12 :: t) (.int x :: st) w sz cc ss := by
  intro p e s m args below meth c H locs ls C hW hF hL hl
  exact lv_istore C.1 C.2.1 hd hl (by rw [← hL]; simp only [List.length_cons]; omega) rfl (fun ls hl => k p e s m args below meth c H locs ls C hW hF (by simpa using hL) (lv_mono hl (lpr_set1 (show okS (a0 :: a1 :: a2 :: a3 :: a4 :: a5 :: a6 :: a7 :: a8 :: a9 :: a10 :: a11 :: a12 :: t) 12 = true from hp))))
theorem N.astore12 {a0 a1 a2 a3 a4 a5 a6 a7 a8 a9 a10 a11 a12 : Option Value} {t : List (Option Value)} {x : Nat} (hd : decode M.2.1 pc = .ok (.astore 12, 2)) (hp : c1 a11 = true) (k : N K M d mc ms Q (pc + 2) (a0 :: a1 :: a2 :: a3 :: a4 :: a5 :: a6 :: a7 :: a8 :: a9 :: a10 :: a11 :: some (.ref x) :: t) st w sz cc ss) : N K M d mc ms Q pc (a0 :: a1 :: a2 :: a3 :: a4 :: a5 :: a6 :: a7 :: a8 :: a9 :: a10 :: a11 :: a12 :: t) (.ref x :: st) w sz cc ss := by
  intro p e s m args below meth c H locs ls C hW hF hL hl
  exact lv_astore C.1 C.2.1 hd hl (by rw [← hL]; simp only [List.length_cons]; omega) rfl (fun ls hl => k p e s m args below meth c H locs ls C hW hF (by simpa using hL) (lv_mono hl (lpr_set1 (show okS (a0 :: a1 :: a2 :: a3 :: a4 :: a5 :: a6 :: a7 :: a8 :: a9 :: a10 :: a11 :: a12 :: t) 12 = true from hp))))
theorem N.lstore12 {a0 a1 a2 a3 a4 a5 a6 a7 a8 a9 a10 a11 a12 a13 : Option Value} {t : List (Option Value)} {x : Int64} (hd : decode M.2.1 pc = .ok (.lstore 12, 2)) (hp : c1 a11 = true) (k : N K M d mc ms Q (pc + 2) (a0 :: a1 :: a2 :: a3 :: a4 :: a5 :: a6 :: a7 :: a8 :: a9 :: a10 :: a11 :: some (.long x) :: none :: t) st w sz cc ss) : N K M d mc ms Q pc (a0 :: a1 :: a2 :: a3 :: a4 :: a5 :: a6 :: a7 :: a8 :: a9 :: a10 :: a11 :: a12 :: a13 :: t) (.long x :: st) w sz cc ss := by
  intro p e s m args below meth c H locs ls C hW hF hL hl
  exact lv_lstore C.1 C.2.1 hd hl (by rw [← hL]; simp only [List.length_cons]; omega) rfl (fun ls hl => k p e s m args below meth c H locs ls C hW hF (by simpa using hL) (lv_mono hl (lpr_set2 (show okS (a0 :: a1 :: a2 :: a3 :: a4 :: a5 :: a6 :: a7 :: a8 :: a9 :: a10 :: a11 :: a12 :: a13 :: t) 12 = true from hp))))
theorem N.iinc12 {a0 a1 a2 a3 a4 a5 a6 a7 a8 a9 a10 a11 : Option Value} {t : List (Option Value)} {x v : Int32} {n : Int} (hd : decode M.2.1 pc = .ok (.iinc 12 n, 3)) (hp : c1 a11 = true) (hv : x + Int32.ofInt n = v) (k : N K M d mc ms Q (pc + 3) (a0 :: a1 :: a2 :: a3 :: a4 :: a5 :: a6 :: a7 :: a8 :: a9 :: a10 :: a11 :: some (.int v) :: t) st w sz cc ss) : N K M d mc ms Q pc (a0 :: a1 :: a2 :: a3 :: a4 :: a5 :: a6 :: a7 :: a8 :: a9 :: a10 :: a11 :: some (.int x) :: t) st w sz cc ss := by
  intro p e s m args below meth c H locs ls C hW hF hL hl
  obtain ⟨j, hj⟩ := List.getElem?_of_mem (lpr_mem (a0 :: a1 :: a2 :: a3 :: a4 :: a5 :: a6 :: a7 :: a8 :: a9 :: a10 :: a11 :: some (.int x) :: t) 0 12 (.int x) rfl)
  rw [Nat.zero_add] at hj
  exact lv_iinc C.1 C.2.1 hd hl hj hv (by rw [← hL]; simp only [List.length_cons]; omega) rfl (fun ls hl => k p e s m args below meth c H locs ls C hW hF (by simpa using hL) (lv_mono hl (lpr_set1 (show okS (a0 :: a1 :: a2 :: a3 :: a4 :: a5 :: a6 :: a7 :: a8 :: a9 :: a10 :: a11 :: some (.int x) :: t) 12 = true from hp))))
theorem N.iload13 {a0 a1 a2 a3 a4 a5 a6 a7 a8 a9 a10 a11 a12 : Option Value} {t : List (Option Value)} {x : Int32} (hd : decode M.2.1 pc = .ok (.iload 13, 2)) (k : N K M d mc ms Q (pc + 2) (a0 :: a1 :: a2 :: a3 :: a4 :: a5 :: a6 :: a7 :: a8 :: a9 :: a10 :: a11 :: a12 :: some (.int x) :: t) (.int x :: st) w sz cc ss) : N K M d mc ms Q pc (a0 :: a1 :: a2 :: a3 :: a4 :: a5 :: a6 :: a7 :: a8 :: a9 :: a10 :: a11 :: a12 :: some (.int x) :: t) st w sz cc ss := by
  intro p e s m args below meth c H locs ls C hW hF hL hl
  exact lv_iload C.1 C.2.1 hd (hl.2.2 (13, .int x) (lpr_mem _ 0 13 _ rfl)) (k p e s m args below meth c H locs ls C hW hF hL hl)
theorem N.lload13 {a0 a1 a2 a3 a4 a5 a6 a7 a8 a9 a10 a11 a12 : Option Value} {t : List (Option Value)} {x : Int64} (hd : decode M.2.1 pc = .ok (.lload 13, 2)) (k : N K M d mc ms Q (pc + 2) (a0 :: a1 :: a2 :: a3 :: a4 :: a5 :: a6 :: a7 :: a8 :: a9 :: a10 :: a11 :: a12 :: some (.long x) :: t) (.long x :: st) w sz cc ss) : N K M d mc ms Q pc (a0 :: a1 :: a2 :: a3 :: a4 :: a5 :: a6 :: a7 :: a8 :: a9 :: a10 :: a11 :: a12 :: some (.long x) :: t) st w sz cc ss := by
  intro p e s m args below meth c H locs ls C hW hF hL hl
  exact lv_lload C.1 C.2.1 hd (hl.2.2 (13, .long x) (lpr_mem _ 0 13 _ rfl)) (k p e s m args below meth c H locs ls C hW hF hL hl)
theorem N.aload13 {a0 a1 a2 a3 a4 a5 a6 a7 a8 a9 a10 a11 a12 : Option Value} {t : List (Option Value)} {x : Nat} (hd : decode M.2.1 pc = .ok (.aload 13, 2)) (k : N K M d mc ms Q (pc + 2) (a0 :: a1 :: a2 :: a3 :: a4 :: a5 :: a6 :: a7 :: a8 :: a9 :: a10 :: a11 :: a12 :: some (.ref x) :: t) (.ref x :: st) w sz cc ss) : N K M d mc ms Q pc (a0 :: a1 :: a2 :: a3 :: a4 :: a5 :: a6 :: a7 :: a8 :: a9 :: a10 :: a11 :: a12 :: some (.ref x) :: t) st w sz cc ss := by
  intro p e s m args below meth c H locs ls C hW hF hL hl
  exact lv_aload C.1 C.2.1 hd (hl.2.2 (13, .ref x) (lpr_mem _ 0 13 _ rfl)) (k p e s m args below meth c H locs ls C hW hF hL hl)
theorem N.istore13 {a0 a1 a2 a3 a4 a5 a6 a7 a8 a9 a10 a11 a12 a13 : Option Value} {t : List (Option Value)} {x : Int32} (hd : decode M.2.1 pc = .ok (.istore 13, 2)) (hp : c1 a12 = true) (k : N K M d mc ms Q (pc + 2) (a0 :: a1 :: a2 :: a3 :: a4 :: a5 :: a6 :: a7 :: a8 :: a9 :: a10 :: a11 :: a12 :: some (.int x) :: t) st w sz cc ss) : N K M d mc ms Q pc (a0 :: a1 :: a2 :: a3 :: a4 :: a5 :: a6 :: a7 :: a8 :: a9 :: a10 :: a11 :: a12 :: a13 :: t) (.int x :: st) w sz cc ss := by
  intro p e s m args below meth c H locs ls C hW hF hL hl
  exact lv_istore C.1 C.2.1 hd hl (by rw [← hL]; simp only [List.length_cons]; omega) rfl (fun ls hl => k p e s m args below meth c H locs ls C hW hF (by simpa using hL) (lv_mono hl (lpr_set1 (show okS (a0 :: a1 :: a2 :: a3 :: a4 :: a5 :: a6 :: a7 :: a8 :: a9 :: a10 :: a11 :: a12 :: a13 :: t) 13 = true from hp))))
theorem N.astore13 {a0 a1 a2 a3 a4 a5 a6 a7 a8 a9 a10 a11 a12 a13 : Option Value} {t : List (Option Value)} {x : Nat} (hd : decode M.2.1 pc = .ok (.astore 13, 2)) (hp : c1 a12 = true) (k : N K M d mc ms Q (pc + 2) (a0 :: a1 :: a2 :: a3 :: a4 :: a5 :: a6 :: a7 :: a8 :: a9 :: a10 :: a11 :: a12 :: some (.ref x) :: t) st w sz cc ss) : N K M d mc ms Q pc (a0 :: a1 :: a2 :: a3 :: a4 :: a5 :: a6 :: a7 :: a8 :: a9 :: a10 :: a11 :: a12 :: a13 :: t) (.ref x :: st) w sz cc ss := by
  intro p e s m args below meth c H locs ls C hW hF hL hl
  exact lv_astore C.1 C.2.1 hd hl (by rw [← hL]; simp only [List.length_cons]; omega) rfl (fun ls hl => k p e s m args below meth c H locs ls C hW hF (by simpa using hL) (lv_mono hl (lpr_set1 (show okS (a0 :: a1 :: a2 :: a3 :: a4 :: a5 :: a6 :: a7 :: a8 :: a9 :: a10 :: a11 :: a12 :: a13 :: t) 13 = true from hp))))
theorem N.lstore13 {a0 a1 a2 a3 a4 a5 a6 a7 a8 a9 a10 a11 a12 a13 a14 : Option Value} {t : List (Option Value)} {x : Int64} (hd : decode M.2.1 pc = .ok (.lstore 13, 2)) (hp : c1 a12 = true) (k : N K M d mc ms Q (pc + 2) (a0 :: a1 :: a2 :: a3 :: a4 :: a5 :: a6 :: a7 :: a8 :: a9 :: a10 :: a11 :: a12 :: some (.long x) :: none :: t) st w sz cc ss) : N K M d mc ms Q pc (a0 :: a1 :: a2 :: a3 :: a4 :: a5 :: a6 :: a7 :: a8 :: a9 :: a10 :: a11 :: a12 :: a13 :: a14 :: t) (.long x :: st) w sz cc ss := by
  intro p e s m args below meth c H locs ls C hW hF hL hl
  exact lv_lstore C.1 C.2.1 hd hl (by rw [← hL]; simp only [List.length_cons]; omega) rfl (fun ls hl => k p e s m args below meth c H locs ls C hW hF (by simpa using hL) (lv_mono hl (lpr_set2 (show okS (a0 :: a1 :: a2 :: a3 :: a4 :: a5 :: a6 :: a7 :: a8 :: a9 :: a10 :: a11 :: a12 :: a13 :: a14 :: t) 13 = true from hp))))
theorem N.iinc13 {a0 a1 a2 a3 a4 a5 a6 a7 a8 a9 a10 a11 a12 : Option Value} {t : List (Option Value)} {x v : Int32} {n : Int} (hd : decode M.2.1 pc = .ok (.iinc 13 n, 3)) (hp : c1 a12 = true) (hv : x + Int32.ofInt n = v) (k : N K M d mc ms Q (pc + 3) (a0 :: a1 :: a2 :: a3 :: a4 :: a5 :: a6 :: a7 :: a8 :: a9 :: a10 :: a11 :: a12 :: some (.int v) :: t) st w sz cc ss) : N K M d mc ms Q pc (a0 :: a1 :: a2 :: a3 :: a4 :: a5 :: a6 :: a7 :: a8 :: a9 :: a10 :: a11 :: a12 :: some (.int x) :: t) st w sz cc ss := by
  intro p e s m args below meth c H locs ls C hW hF hL hl
  obtain ⟨j, hj⟩ := List.getElem?_of_mem (lpr_mem (a0 :: a1 :: a2 :: a3 :: a4 :: a5 :: a6 :: a7 :: a8 :: a9 :: a10 :: a11 :: a12 :: some (.int x) :: t) 0 13 (.int x) rfl)
  rw [Nat.zero_add] at hj
  exact lv_iinc C.1 C.2.1 hd hl hj hv (by rw [← hL]; simp only [List.length_cons]; omega) rfl (fun ls hl => k p e s m args below meth c H locs ls C hW hF (by simpa using hL) (lv_mono hl (lpr_set1 (show okS (a0 :: a1 :: a2 :: a3 :: a4 :: a5 :: a6 :: a7 :: a8 :: a9 :: a10 :: a11 :: a12 :: some (.int x) :: t) 13 = true from hp))))
theorem N.iload14 {a0 a1 a2 a3 a4 a5 a6 a7 a8 a9 a10 a11 a12 a13 : Option Value} {t : List (Option Value)} {x : Int32} (hd : decode M.2.1 pc = .ok (.iload 14, 2)) (k : N K M d mc ms Q (pc + 2) (a0 :: a1 :: a2 :: a3 :: a4 :: a5 :: a6 :: a7 :: a8 :: a9 :: a10 :: a11 :: a12 :: a13 :: some (.int x) :: t) (.int x :: st) w sz cc ss) : N K M d mc ms Q pc (a0 :: a1 :: a2 :: a3 :: a4 :: a5 :: a6 :: a7 :: a8 :: a9 :: a10 :: a11 :: a12 :: a13 :: some (.int x) :: t) st w sz cc ss := by
  intro p e s m args below meth c H locs ls C hW hF hL hl
  exact lv_iload C.1 C.2.1 hd (hl.2.2 (14, .int x) (lpr_mem _ 0 14 _ rfl)) (k p e s m args below meth c H locs ls C hW hF hL hl)
theorem N.lload14 {a0 a1 a2 a3 a4 a5 a6 a7 a8 a9 a10 a11 a12 a13 : Option Value} {t : List (Option Value)} {x : Int64} (hd : decode M.2.1 pc = .ok (.lload 14, 2)) (k : N K M d mc ms Q (pc + 2) (a0 :: a1 :: a2 :: a3 :: a4 :: a5 :: a6 :: a7 :: a8 :: a9 :: a10 :: a11 :: a12 :: a13 :: some (.long x) :: t) (.long x :: st) w sz cc ss) : N K M d mc ms Q pc (a0 :: a1 :: a2 :: a3 :: a4 :: a5 :: a6 :: a7 :: a8 :: a9 :: a10 :: a11 :: a12 :: a13 :: some (.long x) :: t) st w sz cc ss := by
  intro p e s m args below meth c H locs ls C hW hF hL hl
  exact lv_lload C.1 C.2.1 hd (hl.2.2 (14, .long x) (lpr_mem _ 0 14 _ rfl)) (k p e s m args below meth c H locs ls C hW hF hL hl)
theorem N.aload14 {a0 a1 a2 a3 a4 a5 a6 a7 a8 a9 a10 a11 a12 a13 : Option Value} {t : List (Option Value)} {x : Nat} (hd : decode M.2.1 pc = .ok (.aload 14, 2)) (k : N K M d mc ms Q (pc + 2) (a0 :: a1 :: a2 :: a3 :: a4 :: a5 :: a6 :: a7 :: a8 :: a9 :: a10 :: a11 :: a12 :: a13 :: some (.ref x) :: t) (.ref x :: st) w sz cc ss) : N K M d mc ms Q pc (a0 :: a1 :: a2 :: a3 :: a4 :: a5 :: a6 :: a7 :: a8 :: a9 :: a10 :: a11 :: a12 :: a13 :: some (.ref x) :: t) st w sz cc ss := by
  intro p e s m args below meth c H locs ls C hW hF hL hl
  exact lv_aload C.1 C.2.1 hd (hl.2.2 (14, .ref x) (lpr_mem _ 0 14 _ rfl)) (k p e s m args below meth c H locs ls C hW hF hL hl)
theorem N.istore14 {a0 a1 a2 a3 a4 a5 a6 a7 a8 a9 a10 a11 a12 a13 a14 : Option Value} {t : List (Option Value)} {x : Int32} (hd : decode M.2.1 pc = .ok (.istore 14, 2)) (hp : c1 a13 = true) (k : N K M d mc ms Q (pc + 2) (a0 :: a1 :: a2 :: a3 :: a4 :: a5 :: a6 :: a7 :: a8 :: a9 :: a10 :: a11 :: a12 :: a13 :: some (.int x) :: t) st w sz cc ss) : N K M d mc ms Q pc (a0 :: a1 :: a2 :: a3 :: a4 :: a5 :: a6 :: a7 :: a8 :: a9 :: a10 :: a11 :: a12 :: a13 :: a14 :: t) (.int x :: st) w sz cc ss := by
  intro p e s m args below meth c H locs ls C hW hF hL hl
  exact lv_istore C.1 C.2.1 hd hl (by rw [← hL]; simp only [List.length_cons]; omega) rfl (fun ls hl => k p e s m args below meth c H locs ls C hW hF (by simpa using hL) (lv_mono hl (lpr_set1 (show okS (a0 :: a1 :: a2 :: a3 :: a4 :: a5 :: a6 :: a7 :: a8 :: a9 :: a10 :: a11 :: a12 :: a13 :: a14 :: t) 14 = true from hp))))
theorem N.astore14 {a0 a1 a2 a3 a4 a5 a6 a7 a8 a9 a10 a11 a12 a13 a14 : Option Value} {t : List (Option Value)} {x : Nat} (hd : decode M.2.1 pc = .ok (.astore 14, 2)) (hp : c1 a13 = true) (k : N K M d mc ms Q (pc + 2) (a0 :: a1 :: a2 :: a3 :: a4 :: a5 :: a6 :: a7 :: a8 :: a9 :: a10 :: a11 :: a12 :: a13 :: some (.ref x) :: t) st w sz cc ss) : N K M d mc ms Q pc (a0 :: a1 :: a2 :: a3 :: a4 :: a5 :: a6 :: a7 :: a8 :: a9 :: a10 :: a11 :: a12 :: a13 :: a14 :: t) (.ref x :: st) w sz cc ss := by
  intro p e s m args below meth c H locs ls C hW hF hL hl
  exact lv_astore C.1 C.2.1 hd hl (by rw [← hL]; simp only [List.length_cons]; omega) rfl (fun ls hl => k p e s m args below meth c H locs ls C hW hF (by simpa using hL) (lv_mono hl (lpr_set1 (show okS (a0 :: a1 :: a2 :: a3 :: a4 :: a5 :: a6 :: a7 :: a8 :: a9 :: a10 :: a11 :: a12 :: a13 :: a14 :: t) 14 = true from hp))))
theorem N.lstore14 {a0 a1 a2 a3 a4 a5 a6 a7 a8 a9 a10 a11 a12 a13 a14 a15 : Option Value} {t : List (Option Value)} {x : Int64} (hd : decode M.2.1 pc = .ok (.lstore 14, 2)) (hp : c1 a13 = true) (k : N K M d mc ms Q (pc + 2) (a0 :: a1 :: a2 :: a3 :: a4 :: a5 :: a6 :: a7 :: a8 :: a9 :: a10 :: a11 :: a12 :: a13 :: some (.long x) :: none :: t) st w sz cc ss) : N K M d mc ms Q pc (a0 :: a1 :: a2 :: a3 :: a4 :: a5 :: a6 :: a7 :: a8 :: a9 :: a10 :: a11 :: a12 :: a13 :: a14 :: a15 :: t) (.long x :: st) w sz cc ss := by
  intro p e s m args below meth c H locs ls C hW hF hL hl
  exact lv_lstore C.1 C.2.1 hd hl (by rw [← hL]; simp only [List.length_cons]; omega) rfl (fun ls hl => k p e s m args below meth c H locs ls C hW hF (by simpa using hL) (lv_mono hl (lpr_set2 (show okS (a0 :: a1 :: a2 :: a3 :: a4 :: a5 :: a6 :: a7 :: a8 :: a9 :: a10 :: a11 :: a12 :: a13 :: a14 :: a15 :: t) 14 = true from hp))))
theorem N.iinc14 {a0 a1 a2 a3 a4 a5 a6 a7 a8 a9 a10 a11 a12 a13 : Option Value} {t : List (Option Value)} {x v : Int32} {n : Int} (hd : decode M.2.1 pc = .ok (.iinc 14 n, 3)) (hp : c1 a13 = true) (hv : x + Int32.ofInt n = v) (k : N K M d mc ms Q (pc + 3) (a0 :: a1 :: a2 :: a3 :: a4 :: a5 :: a6 :: a7 :: a8 :: a9 :: a10 :: a11 :: a12 :: a13 :: some (.int v) :: t) st w sz cc ss) : N K M d mc ms Q pc (a0 :: a1 :: a2 :: a3 :: a4 :: a5 :: a6 :: a7 :: a8 :: a9 :: a10 :: a11 :: a12 :: a13 :: some (.int x) :: t) st w sz cc ss := by
  intro p e s m args below meth c H locs ls C hW hF hL hl
  obtain ⟨j, hj⟩ := List.getElem?_of_mem (lpr_mem (a0 :: a1 :: a2 :: a3 :: a4 :: a5 :: a6 :: a7 :: a8 :: a9 :: a10 :: a11 :: a12 :: a13 :: some (.int x) :: t) 0 14 (.int x) rfl)
  rw [Nat.zero_add] at hj
  exact lv_iinc C.1 C.2.1 hd hl hj hv (by rw [← hL]; simp only [List.length_cons]; omega) rfl (fun ls hl => k p e s m args below meth c H locs ls C hW hF (by simpa using hL) (lv_mono hl (lpr_set1 (show okS (a0 :: a1 :: a2 :: a3 :: a4 :: a5 :: a6 :: a7 :: a8 :: a9 :: a10 :: a11 :: a12 :: a13 :: some (.int x) :: t) 14 = true from hp))))
end FR

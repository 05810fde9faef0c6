section AXR
variable {M : ax_M} {d pc : Nat} {lv : ax_L} {st : List Value} {h : ax_H} {Q : Option Value → ax_H → Prop}
theorem ax_iadd {x y : Int32} (hd : decode M.2.1 pc = .ok (.iadd, 1))  (k : ax_W M d (pc + 1) lv (.int (x + y) :: st) h Q) : ax_W M d pc lv (.int y :: .int x :: st) h Q :=
  ax_step (fun p l e R s m args below meth c H locs cells slots Qs ls b base hx hb ho ht hl k => lv_iadd hx hb hd (k ls hl)) k
theorem ax_isub {x y : Int32} (hd : decode M.2.1 pc = .ok (.isub, 1))  (k : ax_W M d (pc + 1) lv (.int (x - y) :: st) h Q) : ax_W M d pc lv (.int y :: .int x :: st) h Q :=
  ax_step (fun p l e R s m args below meth c H locs cells slots Qs ls b base hx hb ho ht hl k => lv_isub hx hb hd (k ls hl)) k
theorem ax_imul {x y : Int32} (hd : decode M.2.1 pc = .ok (.imul, 1))  (k : ax_W M d (pc + 1) lv (.int (x * y) :: st) h Q) : ax_W M d pc lv (.int y :: .int x :: st) h Q :=
  ax_step (fun p l e R s m args below meth c H locs cells slots Qs ls b base hx hb ho ht hl k => lv_imul hx hb hd (k ls hl)) k
theorem ax_iand {x y : Int32} (hd : decode M.2.1 pc = .ok (.iand, 1))  (k : ax_W M d (pc + 1) lv (.int (x &&& y) :: st) h Q) : ax_W M d pc lv (.int y :: .int x :: st) h Q :=
  ax_step (fun p l e R s m args below meth c H locs cells slots Qs ls b base hx hb ho ht hl k => lv_iand hx hb hd (k ls hl)) k
theorem ax_ior {x y : Int32} (hd : decode M.2.1 pc = .ok (.ior, 1))  (k : ax_W M d (pc + 1) lv (.int (x ||| y) :: st) h Q) : ax_W M d pc lv (.int y :: .int x :: st) h Q :=
  ax_step (fun p l e R s m args below meth c H locs cells slots Qs ls b base hx hb ho ht hl k => lv_ior hx hb hd (k ls hl)) k
theorem ax_ixor {x y : Int32} (hd : decode M.2.1 pc = .ok (.ixor, 1))  (k : ax_W M d (pc + 1) lv (.int (x ^^^ y) :: st) h Q) : ax_W M d pc lv (.int y :: .int x :: st) h Q :=
  ax_step (fun p l e R s m args below meth c H locs cells slots Qs ls b base hx hb ho ht hl k => lv_ixor hx hb hd (k ls hl)) k
theorem ax_idiv {x y : Int32} (hd : decode M.2.1 pc = .ok (.idiv, 1)) (hne : ¬ y = 0) (k : ax_W M d (pc + 1) lv (.int (x / y) :: st) h Q) : ax_W M d pc lv (.int y :: .int x :: st) h Q :=
  ax_step (fun p l e R s m args below meth c H locs cells slots Qs ls b base hx hb ho ht hl k => lv_idiv hx hb hd hne (k ls hl)) k
theorem ax_irem {x y : Int32} (hd : decode M.2.1 pc = .ok (.irem, 1)) (hne : ¬ y = 0) (k : ax_W M d (pc + 1) lv (.int (x - x / y * y) :: st) h Q) : ax_W M d pc lv (.int y :: .int x :: st) h Q :=
  ax_step (fun p l e R s m args below meth c H locs cells slots Qs ls b base hx hb ho ht hl k => lv_irem hx hb hd hne (k ls hl)) k
theorem ax_ineg {x : Int32} (hd : decode M.2.1 pc = .ok (.ineg, 1))  (k : ax_W M d (pc + 1) lv (.int (-x) :: st) h Q) : ax_W M d pc lv (.int x :: st) h Q :=
  ax_step (fun p l e R s m args below meth c H locs cells slots Qs ls b base hx hb ho ht hl k => lv_ineg hx hb hd (k ls hl)) k
theorem ax_ishl {x y : Int32} (hd : decode M.2.1 pc = .ok (.ishl, 1))  (k : ax_W M d (pc + 1) lv (.int (x <<< (y &&& 31)) :: st) h Q) : ax_W M d pc lv (.int y :: .int x :: st) h Q :=
  ax_step (fun p l e R s m args below meth c H locs cells slots Qs ls b base hx hb ho ht hl k => lv_ishl hx hb hd (k ls hl)) k
theorem ax_ishr {x y : Int32} (hd : decode M.2.1 pc = .ok (.ishr, 1))  (k : ax_W M d (pc + 1) lv (.int (x >>> (y &&& 31)) :: st) h Q) : ax_W M d pc lv (.int y :: .int x :: st) h Q :=
  ax_step (fun p l e R s m args below meth c H locs cells slots Qs ls b base hx hb ho ht hl k => lv_ishr hx hb hd (k ls hl)) k
theorem ax_iushr {x y : Int32} (hd : decode M.2.1 pc = .ok (.iushr, 1))  (k : ax_W M d (pc + 1) lv (.int ((x.toUInt32 >>> (y.toUInt32 &&& Int32.toUInt32 31)).toInt32) :: st) h Q) : ax_W M d pc lv (.int y :: .int x :: st) h Q :=
  ax_step (fun p l e R s m args below meth c H locs cells slots Qs ls b base hx hb ho ht hl k => lv_iushr hx hb hd rfl (k ls hl)) k
theorem ax_ladd {x y : Int64} (hd : decode M.2.1 pc = .ok (.ladd, 1))  (k : ax_W M d (pc + 1) lv (.long (x + y) :: st) h Q) : ax_W M d pc lv (.long y :: .long x :: st) h Q :=
  ax_step (fun p l e R s m args below meth c H locs cells slots Qs ls b base hx hb ho ht hl k => lv_ladd hx hb hd (k ls hl)) k
theorem ax_lsub {x y : Int64} (hd : decode M.2.1 pc = .ok (.lsub, 1))  (k : ax_W M d (pc + 1) lv (.long (x - y) :: st) h Q) : ax_W M d pc lv (.long y :: .long x :: st) h Q :=
  ax_step (fun p l e R s m args below meth c H locs cells slots Qs ls b base hx hb ho ht hl k => lv_lsub hx hb hd (k ls hl)) k
theorem ax_lmul {x y : Int64} (hd : decode M.2.1 pc = .ok (.lmul, 1))  (k : ax_W M d (pc + 1) lv (.long (x * y) :: st) h Q) : ax_W M d pc lv (.long y :: .long x :: st) h Q :=
  ax_step (fun p l e R s m args below meth c H locs cells slots Qs ls b base hx hb ho ht hl k => lv_lmul hx hb hd (k ls hl)) k
theorem ax_land {x y : Int64} (hd : decode M.2.1 pc = .ok (.land, 1))  (k : ax_W M d (pc + 1) lv (.long (x &&& y) :: st) h Q) : ax_W M d pc lv (.long y :: .long x :: st) h Q :=
  ax_step (fun p l e R s m args below meth c H locs cells slots Qs ls b base hx hb ho ht hl k => lv_land hx hb hd (k ls hl)) k
theorem ax_lor {x y : Int64} (hd : decode M.2.1 pc = .ok (.lor, 1))  (k : ax_W M d (pc + 1) lv (.long (x ||| y) :: st) h Q) : ax_W M d pc lv (.long y :: .long x :: st) h Q :=
  ax_step (fun p l e R s m args below meth c H locs cells slots Qs ls b base hx hb ho ht hl k => lv_lor hx hb hd (k ls hl)) k
theorem ax_lxor {x y : Int64} (hd : decode M.2.1 pc = .ok (.lxor, 1))  (k : ax_W M d (pc + 1) lv (.long (x ^^^ y) :: st) h Q) : ax_W M d pc lv (.long y :: .long x :: st) h Q :=
  ax_step (fun p l e R s m args below meth c H locs cells slots Qs ls b base hx hb ho ht hl k => lv_lxor hx hb hd (k ls hl)) k
theorem ax_lushr {x : Int64} {y : Int32} (hd : decode M.2.1 pc = .ok (.lushr, 1))  (k : ax_W M d (pc + 1) lv (.long ((x.toUInt64 >>> (y.toInt64.toUInt64 &&& Int64.toUInt64 63)).toInt64) :: st) h Q) : ax_W M d pc lv (.int y :: .long x :: st) h Q :=
  ax_step (fun p l e R s m args below meth c H locs cells slots Qs ls b base hx hb ho ht hl k => lv_lushr hx hb hd rfl (k ls hl)) k
theorem ax_lshl {x : Int64} {y : Int32} (hd : decode M.2.1 pc = .ok (.lshl, 1))  (k : ax_W M d (pc + 1) lv (.long (x <<< (y.toInt64 &&& 63)) :: st) h Q) : ax_W M d pc lv (.int y :: .long x :: st) h Q :=
  ax_step (fun p l e R s m args below meth c H locs cells slots Qs ls b base hx hb ho ht hl k => lv_lshl hx hb hd rfl (k ls hl)) k
theorem ax_lshr {x : Int64} {y : Int32} (hd : decode M.2.1 pc = .ok (.lshr, 1))  (k : ax_W M d (pc + 1) lv (.long (x >>> (y.toInt64 &&& 63)) :: st) h Q) : ax_W M d pc lv (.int y :: .long x :: st) h Q :=
  ax_step (fun p l e R s m args below meth c H locs cells slots Qs ls b base hx hb ho ht hl k => lv_lshr hx hb hd rfl (k ls hl)) k
theorem ax_i2l {x : Int32} (hd : decode M.2.1 pc = .ok (.i2l, 1))  (k : ax_W M d (pc + 1) lv (.long x.toInt64 :: st) h Q) : ax_W M d pc lv (.int x :: st) h Q :=
  ax_step (fun p l e R s m args below meth c H locs cells slots Qs ls b base hx hb ho ht hl k => lv_i2l hx hb hd rfl (k ls hl)) k
theorem ax_l2i {x : Int64} (hd : decode M.2.1 pc = .ok (.l2i, 1))  (k : ax_W M d (pc + 1) lv (.int x.toInt32 :: st) h Q) : ax_W M d pc lv (.long x :: st) h Q :=
  ax_step (fun p l e R s m args below meth c H locs cells slots Qs ls b base hx hb ho ht hl k => lv_l2i hx hb hd rfl (k ls hl)) k
theorem ax_lcmp {x y : Int64} (hd : decode M.2.1 pc = .ok (.lcmp, 1))  (k : ax_W M d (pc + 1) lv (.int (lg_cmp x y) :: st) h Q) : ax_W M d pc lv (.long y :: .long x :: st) h Q :=
  ax_step (fun p l e R s m args below meth c H locs cells slots Qs ls b base hx hb ho ht hl k => W.lcmp hx hb hd (k ls hl)) k
theorem ax_i2b {x : Int32} (hd : decode M.2.1 pc = .ok (.i2b, 1))  (k : ax_W M d (pc + 1) lv (.int x.toInt8.toInt32 :: st) h Q) : ax_W M d pc lv (.int x :: st) h Q :=
  ax_step (fun p l e R s m args below meth c H locs cells slots Qs ls b base hx hb ho ht hl k => lv_i2b hx hb hd rfl (k ls hl)) k
theorem ax_i2c {x : Int32} (hd : decode M.2.1 pc = .ok (.i2c, 1))  (k : ax_W M d (pc + 1) lv (.int (x.toUInt32 % 65536).toInt32 :: st) h Q) : ax_W M d pc lv (.int x :: st) h Q :=
  ax_step (fun p l e R s m args below meth c H locs cells slots Qs ls b base hx hb ho ht hl k => lv_i2c hx hb hd rfl (k ls hl)) k
theorem ax_iconst {n : Int} (v : Int32) (hd : decode M.2.1 pc = .ok (.iconst n, 1)) (hv : Int32.ofInt n = v) (k : ax_W M d (pc + 1) lv (.int v :: st) h Q) : ax_W M d pc lv (st) h Q :=
  ax_step (fun p l e R s m args below meth c H locs cells slots Qs ls b base hx hb ho ht hl k => lv_iconst hx hb hd hv (k ls hl)) k
theorem ax_bipush {n : Int} (v : Int32) (hd : decode M.2.1 pc = .ok (.bipush n, 2)) (hv : (Int8.ofInt n).toInt32 = v) (k : ax_W M d (pc + 2) lv (.int v :: st) h Q) : ax_W M d pc lv (st) h Q :=
  ax_step (fun p l e R s m args below meth c H locs cells slots Qs ls b base hx hb ho ht hl k => lv_bipush hx hb hd hv (k ls hl)) k
theorem ax_sipush {n : Int} (v : Int32) (hd : decode M.2.1 pc = .ok (.sipush n, 3)) (hv : (Int16.ofInt n).toInt32 = v) (k : ax_W M d (pc + 3) lv (.int v :: st) h Q) : ax_W M d pc lv (st) h Q :=
  ax_step (fun p l e R s m args below meth c H locs cells slots Qs ls b base hx hb ho ht hl k => lv_sipush hx hb hd hv (k ls hl)) k
theorem ax_lconst {n : Fin 2} (v : Int64) (hd : decode M.2.1 pc = .ok (.lconst n, 1)) (hv : Int64.ofNat (n : Nat) = v) (k : ax_W M d (pc + 1) lv (.long v :: st) h Q) : ax_W M d pc lv (st) h Q :=
  ax_step (fun p l e R s m args below meth c H locs cells slots Qs ls b base hx hb ho ht hl k => lv_lconst hx hb hd hv (k ls hl)) k
theorem ax_null  (hd : decode M.2.1 pc = .ok (.aconst_null, 1))  (k : ax_W M d (pc + 1) lv (.null :: st) h Q) : ax_W M d pc lv (st) h Q :=
  ax_step (fun p l e R s m args below meth c H locs cells slots Qs ls b base hx hb ho ht hl k => lv_null hx hb hd (k ls hl)) k
theorem ax_ldc {index : Nat} {v : Int32} (hd : decode M.2.1 pc = .ok (.ldc index, 2)) (hw : Cond.constant M.1.cls index v ∈ ax_all) (k : ax_W M d (pc + 2) lv (.int v :: st) h Q) : ax_W M d pc lv (st) h Q :=
  ax_step (fun p l e R s m args below meth c H locs cells slots Qs ls b base hx hb ho ht hl k => lv_ldc hx hb ho (ht _ hw) hd (k ls hl)) k
theorem ax_ldc2 {index : Nat} {v : Int64} (hd : decode M.2.1 pc = .ok (.ldc2_w index, 3)) (hw : Cond.constantLong M.1.cls index v ∈ ax_all) (k : ax_W M d (pc + 3) lv (.long v :: st) h Q) : ax_W M d pc lv (st) h Q :=
  ax_step (fun p l e R s m args below meth c H locs cells slots Qs ls b base hx hb ho ht hl k => lv_ldc2 hx hb ho (ht _ hw) hd (k ls hl)) k
theorem ax_iload_n {n : Fin 4} {x : Int32} (hd : decode M.2.1 pc = .ok (.iload_n n, 1)) (hl0 : lv[(n : Nat)]? = some (some (.int x))) (k : ax_W M d (pc + 1) lv (.int x :: st) h Q) : ax_W M d pc lv (st) h Q :=
  ax_step (fun p l e R s m args below meth c H locs cells slots Qs ls b base hx hb ho ht hl k => lv_iload_n hx hb hd rfl (ax_lv_at hl hl0) (k ls hl)) k
theorem ax_iload {n : Nat} {x : Int32} (hd : decode M.2.1 pc = .ok (.iload n, 2)) (hl0 : lv[n]? = some (some (.int x))) (k : ax_W M d (pc + 2) lv (.int x :: st) h Q) : ax_W M d pc lv (st) h Q :=
  ax_step (fun p l e R s m args below meth c H locs cells slots Qs ls b base hx hb ho ht hl k => lv_iload hx hb hd (ax_lv_at hl hl0) (k ls hl)) k
theorem ax_lload_n {n : Fin 4} {x : Int64} (hd : decode M.2.1 pc = .ok (.lload_n n, 1)) (hl0 : lv[(n : Nat)]? = some (some (.long x))) (k : ax_W M d (pc + 1) lv (.long x :: st) h Q) : ax_W M d pc lv (st) h Q :=
  ax_step (fun p l e R s m args below meth c H locs cells slots Qs ls b base hx hb ho ht hl k => lv_lload_n hx hb hd rfl (ax_lv_at hl hl0) (k ls hl)) k
theorem ax_lload {n : Nat} {x : Int64} (hd : decode M.2.1 pc = .ok (.lload n, 2)) (hl0 : lv[n]? = some (some (.long x))) (k : ax_W M d (pc + 2) lv (.long x :: st) h Q) : ax_W M d pc lv (st) h Q :=
  ax_step (fun p l e R s m args below meth c H locs cells slots Qs ls b base hx hb ho ht hl k => lv_lload hx hb hd (ax_lv_at hl hl0) (k ls hl)) k
theorem ax_aload_n {n : Fin 4} {x : Nat} (hd : decode M.2.1 pc = .ok (.aload_n n, 1)) (hl0 : lv[(n : Nat)]? = some (some (.ref x))) (k : ax_W M d (pc + 1) lv (.ref x :: st) h Q) : ax_W M d pc lv (st) h Q :=
  ax_step (fun p l e R s m args below meth c H locs cells slots Qs ls b base hx hb ho ht hl k => lv_aload_n hx hb hd rfl (ax_lv_at hl hl0) (k ls hl)) k
theorem ax_aload {n : Nat} {x : Nat} (hd : decode M.2.1 pc = .ok (.aload n, 2)) (hl0 : lv[n]? = some (some (.ref x))) (k : ax_W M d (pc + 2) lv (.ref x :: st) h Q) : ax_W M d pc lv (st) h Q :=
  ax_step (fun p l e R s m args below meth c H locs cells slots Qs ls b base hx hb ho ht hl k => lv_aload hx hb hd (ax_lv_at hl hl0) (k ls hl)) k
theorem ax_dup {v : Value} (hd : decode M.2.1 pc = .ok (.dup, 1)) (hv : v.category = 1) (k : ax_W M d (pc + 1) lv (v :: v :: st) h Q) : ax_W M d pc lv (v :: st) h Q :=
  ax_step (fun p l e R s m args below meth c H locs cells slots Qs ls b base hx hb ho ht hl k => lv_dup hx hb hd ((ax_v_cat b base v).trans hv) (k ls hl)) k
theorem ax_pop {v : Value} (hd : decode M.2.1 pc = .ok (.pop, 1)) (hv : v.category = 1) (k : ax_W M d (pc + 1) lv (st) h Q) : ax_W M d pc lv (v :: st) h Q :=
  ax_step (fun p l e R s m args below meth c H locs cells slots Qs ls b base hx hb ho ht hl k => lv_pop hx hb hd ((ax_v_cat b base v).trans hv) (k ls hl)) k
theorem ax_dup_x1 {v w : Value} (hd : decode M.2.1 pc = .ok (.dup_x1, 1)) (hv : v.category = 1) (hw : w.category = 1) (k : ax_W M d (pc + 1) lv (v :: w :: v :: st) h Q) : ax_W M d pc lv (v :: w :: st) h Q :=
  ax_step (fun p l e R s m args below meth c H locs cells slots Qs ls b base hx hb ho ht hl k => lv_dup_x1 hx hb hd ((ax_v_cat b base v).trans hv) ((ax_v_cat b base w).trans hw) (k ls hl)) k
theorem ax_dup_x2 {v w z : Value} (hd : decode M.2.1 pc = .ok (.dup_x2, 1)) (hv : v.category = 1) (hw : w.category = 1) (hz : z.category = 1) (k : ax_W M d (pc + 1) lv (v :: w :: z :: v :: st) h Q) : ax_W M d pc lv (v :: w :: z :: st) h Q :=
  ax_step (fun p l e R s m args below meth c H locs cells slots Qs ls b base hx hb ho ht hl k => lv_dup_x2 hx hb hd ((ax_v_cat b base v).trans hv) ((ax_v_cat b base w).trans hw) ((ax_v_cat b base z).trans hz) (k ls hl)) k
theorem ax_dup2 {v w : Value} (hd : decode M.2.1 pc = .ok (.dup2, 1)) (hv : v.category = 1) (hw : w.category = 1) (k : ax_W M d (pc + 1) lv (v :: w :: v :: w :: st) h Q) : ax_W M d pc lv (v :: w :: st) h Q :=
  ax_step (fun p l e R s m args below meth c H locs cells slots Qs ls b base hx hb ho ht hl k => lv_dup2_11 hx hb hd ((ax_v_cat b base v).trans hv) ((ax_v_cat b base w).trans hw) (k ls hl)) k
theorem ax_istore_n {n : Fin 4} {x : Int32} (hd : decode M.2.1 pc = .ok (.istore_n n, 1)) (hn : ((n : Nat)) < M.2.2.1) (hc : ax_c2 lv ((n : Nat)) = false) (k : ax_W M d (pc + 1) (lv.set ((n : Nat)) (some (.int x))) st h Q) : ax_W M d pc lv (.int x :: st) h Q :=
  ax_step (fun p l e R s m args below meth c H locs cells slots Qs ls b base hx hb ho ht hl k => lv_istore_n hx hb hd rfl (ax_lv_has hl) hn rfl (fun ls' hl' => k ls' (ax_lv_st1 (v := .int x) hc hl'))) k
theorem ax_istore {n : Nat} {x : Int32} (hd : decode M.2.1 pc = .ok (.istore n, 2)) (hn : (n) < M.2.2.1) (hc : ax_c2 lv (n) = false) (k : ax_W M d (pc + 2) (lv.set (n) (some (.int x))) st h Q) : ax_W M d pc lv (.int x :: st) h Q :=
  ax_step (fun p l e R s m args below meth c H locs cells slots Qs ls b base hx hb ho ht hl k => lv_istore hx hb hd (ax_lv_has hl) hn rfl (fun ls' hl' => k ls' (ax_lv_st1 (v := .int x) hc hl'))) k
theorem ax_astore_n {n : Fin 4} {x : Nat} (hd : decode M.2.1 pc = .ok (.astore_n n, 1)) (hn : ((n : Nat)) < M.2.2.1) (hc : ax_c2 lv ((n : Nat)) = false) (k : ax_W M d (pc + 1) (lv.set ((n : Nat)) (some (.ref x))) st h Q) : ax_W M d pc lv (.ref x :: st) h Q :=
  ax_step (fun p l e R s m args below meth c H locs cells slots Qs ls b base hx hb ho ht hl k => lv_astore_n hx hb hd rfl (ax_lv_has hl) hn rfl (fun ls' hl' => k ls' (ax_lv_st1 (v := .ref x) hc hl'))) k
theorem ax_astore {n : Nat} {x : Nat} (hd : decode M.2.1 pc = .ok (.astore n, 2)) (hn : (n) < M.2.2.1) (hc : ax_c2 lv (n) = false) (k : ax_W M d (pc + 2) (lv.set (n) (some (.ref x))) st h Q) : ax_W M d pc lv (.ref x :: st) h Q :=
  ax_step (fun p l e R s m args below meth c H locs cells slots Qs ls b base hx hb ho ht hl k => lv_astore hx hb hd (ax_lv_has hl) hn rfl (fun ls' hl' => k ls' (ax_lv_st1 (v := .ref x) hc hl'))) k
theorem ax_lstore_n {n : Fin 4} {x : Int64} (hd : decode M.2.1 pc = .ok (.lstore_n n, 1)) (hn : ((n : Nat)) + 1 < M.2.2.1) (hc : ax_c2 lv ((n : Nat)) = false) (k : ax_W M d (pc + 1) ((lv.set ((n : Nat)) (some (.long x))).set ((n : Nat) + 1) none) st h Q) : ax_W M d pc lv (.long x :: st) h Q :=
  ax_step (fun p l e R s m args below meth c H locs cells slots Qs ls b base hx hb ho ht hl k => lv_lstore_n hx hb hd rfl (ax_lv_has hl) hn rfl (fun ls' hl' => k ls' (ax_lv_st2 (v := .long x) hc hl'))) k
theorem ax_lstore {n : Nat} {x : Int64} (hd : decode M.2.1 pc = .ok (.lstore n, 2)) (hn : (n) + 1 < M.2.2.1) (hc : ax_c2 lv (n) = false) (k : ax_W M d (pc + 2) ((lv.set (n) (some (.long x))).set (n + 1) none) st h Q) : ax_W M d pc lv (.long x :: st) h Q :=
  ax_step (fun p l e R s m args below meth c H locs cells slots Qs ls b base hx hb ho ht hl k => lv_lstore hx hb hd (ax_lv_has hl) hn rfl (fun ls' hl' => k ls' (ax_lv_st2 (v := .long x) hc hl'))) k
theorem ax_iinc {n : Nat} {z : Int} {x : Int32} (v : Int32) (hd : decode M.2.1 pc = .ok (.iinc n z, 3)) (hl0 : lv[n]? = some (some (.int x))) (hv : x + Int32.ofInt z = v) (hn : n < M.2.2.1) (hc : ax_c2 lv n = false) (k : ax_W M d (pc + 3) (lv.set n (some (.int v))) st h Q) : ax_W M d pc lv st h Q := by
  refine ax_step (fun p l e R s m args below meth c H locs cells slots Qs ls b base hx hb ho ht hl k => ?_) k
  have hm : (n, Value.int x) ∈ ax_as b base lv := ax_as_mem.mpr ⟨.int x, hl0, rfl⟩
  obtain ⟨q, hq⟩ := List.getElem?_of_mem hm
  exact lv_iinc hx hb hd (ax_lv_has hl) hq hv hn rfl (fun ls' hl' => k ls' (ax_lv_st1 (v := .int v) hc hl'))
theorem ax_if_eq {x : Int32} {off : Int} (tgt : Nat) (hd : decode M.2.1 pc = .ok (.ifCond .eq off, 3)) (htg : (pc : Int) + off = (tgt : Int)) (kt : x = 0 → ax_W M d tgt lv st h Q) (kf : ¬ x = 0 → ax_W M d (pc + 3) lv st h Q) : ax_W M d pc lv (.int x :: st) h Q := by
  by_cases hc : x = 0
  · exact ax_step (fun p l e R s m args below meth c H locs cells slots Qs ls b base hx hb ho ht hl k => lv_if_eq hx hb hd htg (fun _ => k ls hl) (fun n => by first | exact absurd hc n | exact absurd n hc)) (kt hc)
  · exact ax_step (fun p l e R s m args below meth c H locs cells slots Qs ls b base hx hb ho ht hl k => lv_if_eq hx hb hd htg (fun n => absurd n hc) (fun _ => k ls hl)) (kf (by first | exact hc | exact Decidable.not_not.mp hc))
theorem ax_if_ne {x : Int32} {off : Int} (tgt : Nat) (hd : decode M.2.1 pc = .ok (.ifCond .ne off, 3)) (htg : (pc : Int) + off = (tgt : Int)) (kt : ¬ x = 0 → ax_W M d tgt lv st h Q) (kf : x = 0 → ax_W M d (pc + 3) lv st h Q) : ax_W M d pc lv (.int x :: st) h Q := by
  by_cases hc : ¬ x = 0
  · exact ax_step (fun p l e R s m args below meth c H locs cells slots Qs ls b base hx hb ho ht hl k => lv_if_ne hx hb hd htg (fun _ => k ls hl) (fun n => by first | exact absurd hc n | exact absurd n hc)) (kt hc)
  · exact ax_step (fun p l e R s m args below meth c H locs cells slots Qs ls b base hx hb ho ht hl k => lv_if_ne hx hb hd htg (fun n => absurd n hc) (fun _ => k ls hl)) (kf (by first | exact hc | exact Decidable.not_not.mp hc))
theorem ax_if_lt {x : Int32} {off : Int} (tgt : Nat) (hd : decode M.2.1 pc = .ok (.ifCond .lt off, 3)) (htg : (pc : Int) + off = (tgt : Int)) (kt : x < 0 → ax_W M d tgt lv st h Q) (kf : ¬ x < 0 → ax_W M d (pc + 3) lv st h Q) : ax_W M d pc lv (.int x :: st) h Q := by
  by_cases hc : x < 0
  · exact ax_step (fun p l e R s m args below meth c H locs cells slots Qs ls b base hx hb ho ht hl k => lv_if_lt hx hb hd htg (fun _ => k ls hl) (fun n => by first | exact absurd hc n | exact absurd n hc)) (kt hc)
  · exact ax_step (fun p l e R s m args below meth c H locs cells slots Qs ls b base hx hb ho ht hl k => lv_if_lt hx hb hd htg (fun n => absurd n hc) (fun _ => k ls hl)) (kf (by first | exact hc | exact Decidable.not_not.mp hc))
theorem ax_if_ge {x : Int32} {off : Int} (tgt : Nat) (hd : decode M.2.1 pc = .ok (.ifCond .ge off, 3)) (htg : (pc : Int) + off = (tgt : Int)) (kt : 0 ≤ x → ax_W M d tgt lv st h Q) (kf : ¬ 0 ≤ x → ax_W M d (pc + 3) lv st h Q) : ax_W M d pc lv (.int x :: st) h Q := by
  by_cases hc : 0 ≤ x
  · exact ax_step (fun p l e R s m args below meth c H locs cells slots Qs ls b base hx hb ho ht hl k => lv_if_ge hx hb hd htg (fun _ => k ls hl) (fun n => by first | exact absurd hc n | exact absurd n hc)) (kt hc)
  · exact ax_step (fun p l e R s m args below meth c H locs cells slots Qs ls b base hx hb ho ht hl k => lv_if_ge hx hb hd htg (fun n => absurd n hc) (fun _ => k ls hl)) (kf (by first | exact hc | exact Decidable.not_not.mp hc))
theorem ax_if_gt {x : Int32} {off : Int} (tgt : Nat) (hd : decode M.2.1 pc = .ok (.ifCond .gt off, 3)) (htg : (pc : Int) + off = (tgt : Int)) (kt : 0 < x → ax_W M d tgt lv st h Q) (kf : ¬ 0 < x → ax_W M d (pc + 3) lv st h Q) : ax_W M d pc lv (.int x :: st) h Q := by
  by_cases hc : 0 < x
  · exact ax_step (fun p l e R s m args below meth c H locs cells slots Qs ls b base hx hb ho ht hl k => lv_if_gt hx hb hd htg (fun _ => k ls hl) (fun n => by first | exact absurd hc n | exact absurd n hc)) (kt hc)
  · exact ax_step (fun p l e R s m args below meth c H locs cells slots Qs ls b base hx hb ho ht hl k => lv_if_gt hx hb hd htg (fun n => absurd n hc) (fun _ => k ls hl)) (kf (by first | exact hc | exact Decidable.not_not.mp hc))
theorem ax_if_le {x : Int32} {off : Int} (tgt : Nat) (hd : decode M.2.1 pc = .ok (.ifCond .le off, 3)) (htg : (pc : Int) + off = (tgt : Int)) (kt : x ≤ 0 → ax_W M d tgt lv st h Q) (kf : ¬ x ≤ 0 → ax_W M d (pc + 3) lv st h Q) : ax_W M d pc lv (.int x :: st) h Q := by
  by_cases hc : x ≤ 0
  · exact ax_step (fun p l e R s m args below meth c H locs cells slots Qs ls b base hx hb ho ht hl k => lv_if_le hx hb hd htg (fun _ => k ls hl) (fun n => by first | exact absurd hc n | exact absurd n hc)) (kt hc)
  · exact ax_step (fun p l e R s m args below meth c H locs cells slots Qs ls b base hx hb ho ht hl k => lv_if_le hx hb hd htg (fun n => absurd n hc) (fun _ => k ls hl)) (kf (by first | exact hc | exact Decidable.not_not.mp hc))
theorem ax_icmp_eq {x y : Int32} {off : Int} (tgt : Nat) (hd : decode M.2.1 pc = .ok (.if_icmp .eq off, 3)) (htg : (pc : Int) + off = (tgt : Int)) (kt : x = y → ax_W M d tgt lv st h Q) (kf : ¬ x = y → ax_W M d (pc + 3) lv st h Q) : ax_W M d pc lv (.int y :: .int x :: st) h Q := by
  by_cases hc : x = y
  · exact ax_step (fun p l e R s m args below meth c H locs cells slots Qs ls b base hx hb ho ht hl k => lv_icmp_eq hx hb hd htg (fun _ => k ls hl) (fun n => by first | exact absurd hc n | exact absurd n hc)) (kt hc)
  · exact ax_step (fun p l e R s m args below meth c H locs cells slots Qs ls b base hx hb ho ht hl k => lv_icmp_eq hx hb hd htg (fun n => absurd n hc) (fun _ => k ls hl)) (kf (by first | exact hc | exact Decidable.not_not.mp hc))
theorem ax_icmp_ne {x y : Int32} {off : Int} (tgt : Nat) (hd : decode M.2.1 pc = .ok (.if_icmp .ne off, 3)) (htg : (pc : Int) + off = (tgt : Int)) (kt : ¬ x = y → ax_W M d tgt lv st h Q) (kf : x = y → ax_W M d (pc + 3) lv st h Q) : ax_W M d pc lv (.int y :: .int x :: st) h Q := by
  by_cases hc : ¬ x = y
  · exact ax_step (fun p l e R s m args below meth c H locs cells slots Qs ls b base hx hb ho ht hl k => lv_icmp_ne hx hb hd htg (fun _ => k ls hl) (fun n => by first | exact absurd hc n | exact absurd n hc)) (kt hc)
  · exact ax_step (fun p l e R s m args below meth c H locs cells slots Qs ls b base hx hb ho ht hl k => lv_icmp_ne hx hb hd htg (fun n => absurd n hc) (fun _ => k ls hl)) (kf (by first | exact hc | exact Decidable.not_not.mp hc))
theorem ax_icmp_lt {x y : Int32} {off : Int} (tgt : Nat) (hd : decode M.2.1 pc = .ok (.if_icmp .lt off, 3)) (htg : (pc : Int) + off = (tgt : Int)) (kt : x < y → ax_W M d tgt lv st h Q) (kf : ¬ x < y → ax_W M d (pc + 3) lv st h Q) : ax_W M d pc lv (.int y :: .int x :: st) h Q := by
  by_cases hc : x < y
  · exact ax_step (fun p l e R s m args below meth c H locs cells slots Qs ls b base hx hb ho ht hl k => lv_icmp_lt hx hb hd htg (fun _ => k ls hl) (fun n => by first | exact absurd hc n | exact absurd n hc)) (kt hc)
  · exact ax_step (fun p l e R s m args below meth c H locs cells slots Qs ls b base hx hb ho ht hl k => lv_icmp_lt hx hb hd htg (fun n => absurd n hc) (fun _ => k ls hl)) (kf (by first | exact hc | exact Decidable.not_not.mp hc))
theorem ax_icmp_ge {x y : Int32} {off : Int} (tgt : Nat) (hd : decode M.2.1 pc = .ok (.if_icmp .ge off, 3)) (htg : (pc : Int) + off = (tgt : Int)) (kt : y ≤ x → ax_W M d tgt lv st h Q) (kf : ¬ y ≤ x → ax_W M d (pc + 3) lv st h Q) : ax_W M d pc lv (.int y :: .int x :: st) h Q := by
  by_cases hc : y ≤ x
  · exact ax_step (fun p l e R s m args below meth c H locs cells slots Qs ls b base hx hb ho ht hl k => lv_icmp_ge hx hb hd htg (fun _ => k ls hl) (fun n => by first | exact absurd hc n | exact absurd n hc)) (kt hc)
  · exact ax_step (fun p l e R s m args below meth c H locs cells slots Qs ls b base hx hb ho ht hl k => lv_icmp_ge hx hb hd htg (fun n => absurd n hc) (fun _ => k ls hl)) (kf (by first | exact hc | exact Decidable.not_not.mp hc))
theorem ax_icmp_gt {x y : Int32} {off : Int} (tgt : Nat) (hd : decode M.2.1 pc = .ok (.if_icmp .gt off, 3)) (htg : (pc : Int) + off = (tgt : Int)) (kt : y < x → ax_W M d tgt lv st h Q) (kf : ¬ y < x → ax_W M d (pc + 3) lv st h Q) : ax_W M d pc lv (.int y :: .int x :: st) h Q := by
  by_cases hc : y < x
  · exact ax_step (fun p l e R s m args below meth c H locs cells slots Qs ls b base hx hb ho ht hl k => lv_icmp_gt hx hb hd htg (fun _ => k ls hl) (fun n => by first | exact absurd hc n | exact absurd n hc)) (kt hc)
  · exact ax_step (fun p l e R s m args below meth c H locs cells slots Qs ls b base hx hb ho ht hl k => lv_icmp_gt hx hb hd htg (fun n => absurd n hc) (fun _ => k ls hl)) (kf (by first | exact hc | exact Decidable.not_not.mp hc))
theorem ax_icmp_le {x y : Int32} {off : Int} (tgt : Nat) (hd : decode M.2.1 pc = .ok (.if_icmp .le off, 3)) (htg : (pc : Int) + off = (tgt : Int)) (kt : x ≤ y → ax_W M d tgt lv st h Q) (kf : ¬ x ≤ y → ax_W M d (pc + 3) lv st h Q) : ax_W M d pc lv (.int y :: .int x :: st) h Q := by
  by_cases hc : x ≤ y
  · exact ax_step (fun p l e R s m args below meth c H locs cells slots Qs ls b base hx hb ho ht hl k => lv_icmp_le hx hb hd htg (fun _ => k ls hl) (fun n => by first | exact absurd hc n | exact absurd n hc)) (kt hc)
  · exact ax_step (fun p l e R s m args below meth c H locs cells slots Qs ls b base hx hb ho ht hl k => lv_icmp_le hx hb hd htg (fun n => absurd n hc) (fun _ => k ls hl)) (kf (by first | exact hc | exact Decidable.not_not.mp hc))
theorem ax_goto {off : Int} (tgt : Nat) (hd : decode M.2.1 pc = .ok (.goto off, 3)) (htg : (pc : Int) + off = (tgt : Int)) (k : ax_W M d tgt lv st h Q) : ax_W M d pc lv st h Q :=
  ax_step (fun p l e R s m args below meth c H locs cells slots Qs ls b base hx hb ho ht hl k => lv_goto hx hb hd htg (k ls hl)) k
end AXR

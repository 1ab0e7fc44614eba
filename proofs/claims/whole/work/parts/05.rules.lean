section ZRULES
variable {E : zE} {lv mc ms : Nat} {M : zMI} {cc : ByteArray} {pc : Nat} {ls : List (Option zV)} {st : List zV} {S : zM} {Q : Option zV → zM → Prop}
theorem j_iconst {n : Int} {v : Int32} (hd : decode cc pc = .ok (.iconst n, 1)) (hv : Int32.ofInt n = v) (k : zJ E lv mc ms M cc (pc + 1) ls (zI v :: st) S Q) : zJ E lv mc ms M cc pc ls st S Q := by
  intro p l e R s m args below meth c H locs cells slots mcT msT lsA C hP hL
  exact lv_iconst C.1 C.2.1 hd hv (k p l e R s m args below meth c H locs cells slots mcT msT lsA C hP hL)
theorem j_bipush {n : Int} {v : Int32} (hd : decode cc pc = .ok (.bipush n, 2)) (hv : (Int8.ofInt n).toInt32 = v) (k : zJ E lv mc ms M cc (pc + 2) ls (zI v :: st) S Q) : zJ E lv mc ms M cc pc ls st S Q := by
  intro p l e R s m args below meth c H locs cells slots mcT msT lsA C hP hL
  exact lv_bipush C.1 C.2.1 hd hv (k p l e R s m args below meth c H locs cells slots mcT msT lsA C hP hL)
theorem j_sipush {n : Int} {v : Int32} (hd : decode cc pc = .ok (.sipush n, 3)) (hv : (Int16.ofInt n).toInt32 = v) (k : zJ E lv mc ms M cc (pc + 3) ls (zI v :: st) S Q) : zJ E lv mc ms M cc pc ls st S Q := by
  intro p l e R s m args below meth c H locs cells slots mcT msT lsA C hP hL
  exact lv_sipush C.1 C.2.1 hd hv (k p l e R s m args below meth c H locs cells slots mcT msT lsA C hP hL)
theorem j_lconst {n : Fin 2} {v : Int64} (hd : decode cc pc = .ok (.lconst n, 1)) (hv : Int64.ofNat (n : Nat) = v) (k : zJ E lv mc ms M cc (pc + 1) ls (zL v :: st) S Q) : zJ E lv mc ms M cc pc ls st S Q := by
  intro p l e R s m args below meth c H locs cells slots mcT msT lsA C hP hL
  exact lv_lconst C.1 C.2.1 hd hv (k p l e R s m args below meth c H locs cells slots mcT msT lsA C hP hL)
theorem j_null  (hd : decode cc pc = .ok (.aconst_null, 1))  (k : zJ E lv mc ms M cc (pc + 1) ls (zR 0 :: st) S Q) : zJ E lv mc ms M cc pc ls st S Q := by
  intro p l e R s m args below meth c H locs cells slots mcT msT lsA C hP hL
  exact lv_null C.1 C.2.1 hd (k p l e R s m args below meth c H locs cells slots mcT msT lsA C hP hL)
theorem j_ldcI {i : Nat} {v : Int32} (hd : decode cc pc = .ok (.ldc i, 2)) (hc : Cond.constant M.1 i v ∈ lw_tbl) (k : zJ E lv mc ms M cc (pc + 2) ls (zI v :: st) S Q) : zJ E lv mc ms M cc pc ls st S Q := by
  intro p l e R s m args below meth c H locs cells slots mcT msT lsA C hP hL
  exact lv_ldc C.1 C.2.1 C.2.2.2.2.2.2.1 (C.2.2.2.2.2.2.2.1.w hc rfl _) hd (k p l e R s m args below meth c H locs cells slots mcT msT lsA C hP hL)
theorem j_ldcL {i : Nat} {v : Int64} (hd : decode cc pc = .ok (.ldc2_w i, 3)) (hc : Cond.constantLong M.1 i v ∈ lw_tbl) (k : zJ E lv mc ms M cc (pc + 3) ls (zL v :: st) S Q) : zJ E lv mc ms M cc pc ls st S Q := by
  intro p l e R s m args below meth c H locs cells slots mcT msT lsA C hP hL
  exact lv_ldc2 C.1 C.2.1 C.2.2.2.2.2.2.1 (C.2.2.2.2.2.2.2.1.w hc rfl _) hd (k p l e R s m args below meth c H locs cells slots mcT msT lsA C hP hL)
theorem j_iload_n {n : Fin 4} {x : Int32} (hd : decode cc pc = .ok (.iload_n n, 1)) (hl : ls[(n : Nat)]? = some (some (zI x))) (k : zJ E lv mc ms M cc (pc + 1) ls (zI x :: st) S Q) : zJ E lv mc ms M cc pc ls st S Q := by
  intro p l e R s m args below meth c H locs cells slots mcT msT lsA C hP hL
  exact lv_iload_n C.1 C.2.1 hd rfl (hL.2.2 _ _ hl) (k p l e R s m args below meth c H locs cells slots mcT msT lsA C hP hL)
theorem j_iload {i : Nat} {x : Int32} (hd : decode cc pc = .ok (.iload i, 2)) (hl : ls[i]? = some (some (zI x))) (k : zJ E lv mc ms M cc (pc + 2) ls (zI x :: st) S Q) : zJ E lv mc ms M cc pc ls st S Q := by
  intro p l e R s m args below meth c H locs cells slots mcT msT lsA C hP hL
  exact lv_iload C.1 C.2.1 hd (hL.2.2 _ _ hl) (k p l e R s m args below meth c H locs cells slots mcT msT lsA C hP hL)
theorem j_lload_n {n : Fin 4} {x : Int64} (hd : decode cc pc = .ok (.lload_n n, 1)) (hl : ls[(n : Nat)]? = some (some (zL x))) (k : zJ E lv mc ms M cc (pc + 1) ls (zL x :: st) S Q) : zJ E lv mc ms M cc pc ls st S Q := by
  intro p l e R s m args below meth c H locs cells slots mcT msT lsA C hP hL
  exact lv_lload_n C.1 C.2.1 hd rfl (hL.2.2 _ _ hl) (k p l e R s m args below meth c H locs cells slots mcT msT lsA C hP hL)
theorem j_lload {i : Nat} {x : Int64} (hd : decode cc pc = .ok (.lload i, 2)) (hl : ls[i]? = some (some (zL x))) (k : zJ E lv mc ms M cc (pc + 2) ls (zL x :: st) S Q) : zJ E lv mc ms M cc pc ls st S Q := by
  intro p l e R s m args below meth c H locs cells slots mcT msT lsA C hP hL
  exact lv_lload C.1 C.2.1 hd (hL.2.2 _ _ hl) (k p l e R s m args below meth c H locs cells slots mcT msT lsA C hP hL)
theorem j_aload_n {n : Fin 4} {x : Nat} (hd : decode cc pc = .ok (.aload_n n, 1)) (hl : ls[(n : Nat)]? = some (some (zR x))) (k : zJ E lv mc ms M cc (pc + 1) ls (zR x :: st) S Q) : zJ E lv mc ms M cc pc ls st S Q := by
  intro p l e R s m args below meth c H locs cells slots mcT msT lsA C hP hL
  have h := hL.2.2 _ _ hl
  cases x with
  | zero => exact lv_aload_nN C.1 C.2.1 hd rfl h (k p l e R s m args below meth c H locs cells slots mcT msT lsA C hP hL)
  | succ x => exact lv_aload_n C.1 C.2.1 hd rfl h (k p l e R s m args below meth c H locs cells slots mcT msT lsA C hP hL)
theorem j_aload {i : Nat} {x : Nat} (hd : decode cc pc = .ok (.aload i, 2)) (hl : ls[i]? = some (some (zR x))) (k : zJ E lv mc ms M cc (pc + 2) ls (zR x :: st) S Q) : zJ E lv mc ms M cc pc ls st S Q := by
  intro p l e R s m args below meth c H locs cells slots mcT msT lsA C hP hL
  have h := hL.2.2 _ _ hl
  cases x with
  | zero => exact lv_aloadN C.1 C.2.1 hd h (k p l e R s m args below meth c H locs cells slots mcT msT lsA C hP hL)
  | succ x => exact lv_aload C.1 C.2.1 hd h (k p l e R s m args below meth c H locs cells slots mcT msT lsA C hP hL)
theorem j_aload_nq {n : Fin 4} {x : Nat} (hd : decode cc pc = .ok (.aload_n n, 1)) (hl : ls[(n : Nat)]? = some (some (zQ x))) (k : zJ E lv mc ms M cc (pc + 1) ls (zQ x :: st) S Q) : zJ E lv mc ms M cc pc ls st S Q := by
  intro p l e R s m args below meth c H locs cells slots mcT msT lsA C hP hL
  exact lv_aload_n C.1 C.2.1 hd rfl (hL.2.2 _ _ hl) (k p l e R s m args below meth c H locs cells slots mcT msT lsA C hP hL)
theorem j_iadd {x y : Int32} (hd : decode cc pc = .ok (.iadd, 1))  (k : zJ E lv mc ms M cc (pc + 1) ls (zI (x + y) :: st) S Q) : zJ E lv mc ms M cc pc ls (zI y :: zI x :: st) S Q := by
  intro p l e R s m args below meth c H locs cells slots mcT msT lsA C hP hL
  exact lv_iadd C.1 C.2.1 hd (k p l e R s m args below meth c H locs cells slots mcT msT lsA C hP hL)
theorem j_isub {x y : Int32} (hd : decode cc pc = .ok (.isub, 1))  (k : zJ E lv mc ms M cc (pc + 1) ls (zI (x - y) :: st) S Q) : zJ E lv mc ms M cc pc ls (zI y :: zI x :: st) S Q := by
  intro p l e R s m args below meth c H locs cells slots mcT msT lsA C hP hL
  exact lv_isub C.1 C.2.1 hd (k p l e R s m args below meth c H locs cells slots mcT msT lsA C hP hL)
theorem j_imul {x y : Int32} (hd : decode cc pc = .ok (.imul, 1))  (k : zJ E lv mc ms M cc (pc + 1) ls (zI (x * y) :: st) S Q) : zJ E lv mc ms M cc pc ls (zI y :: zI x :: st) S Q := by
  intro p l e R s m args below meth c H locs cells slots mcT msT lsA C hP hL
  exact lv_imul C.1 C.2.1 hd (k p l e R s m args below meth c H locs cells slots mcT msT lsA C hP hL)
theorem j_iand {x y : Int32} (hd : decode cc pc = .ok (.iand, 1))  (k : zJ E lv mc ms M cc (pc + 1) ls (zI (x &&& y) :: st) S Q) : zJ E lv mc ms M cc pc ls (zI y :: zI x :: st) S Q := by
  intro p l e R s m args below meth c H locs cells slots mcT msT lsA C hP hL
  exact lv_iand C.1 C.2.1 hd (k p l e R s m args below meth c H locs cells slots mcT msT lsA C hP hL)
theorem j_ior {x y : Int32} (hd : decode cc pc = .ok (.ior, 1))  (k : zJ E lv mc ms M cc (pc + 1) ls (zI (x ||| y) :: st) S Q) : zJ E lv mc ms M cc pc ls (zI y :: zI x :: st) S Q := by
  intro p l e R s m args below meth c H locs cells slots mcT msT lsA C hP hL
  exact lv_ior C.1 C.2.1 hd (k p l e R s m args below meth c H locs cells slots mcT msT lsA C hP hL)
theorem j_ixor {x y : Int32} (hd : decode cc pc = .ok (.ixor, 1))  (k : zJ E lv mc ms M cc (pc + 1) ls (zI (x ^^^ y) :: st) S Q) : zJ E lv mc ms M cc pc ls (zI y :: zI x :: st) S Q := by
  intro p l e R s m args below meth c H locs cells slots mcT msT lsA C hP hL
  exact lv_ixor C.1 C.2.1 hd (k p l e R s m args below meth c H locs cells slots mcT msT lsA C hP hL)
theorem j_ishl {x y : Int32} (hd : decode cc pc = .ok (.ishl, 1))  (k : zJ E lv mc ms M cc (pc + 1) ls (zI (x <<< (y &&& 31)) :: st) S Q) : zJ E lv mc ms M cc pc ls (zI y :: zI x :: st) S Q := by
  intro p l e R s m args below meth c H locs cells slots mcT msT lsA C hP hL
  exact lv_ishl C.1 C.2.1 hd (k p l e R s m args below meth c H locs cells slots mcT msT lsA C hP hL)
theorem j_ishr {x y : Int32} (hd : decode cc pc = .ok (.ishr, 1))  (k : zJ E lv mc ms M cc (pc + 1) ls (zI (x >>> (y &&& 31)) :: st) S Q) : zJ E lv mc ms M cc pc ls (zI y :: zI x :: st) S Q := by
  intro p l e R s m args below meth c H locs cells slots mcT msT lsA C hP hL
  exact lv_ishr C.1 C.2.1 hd (k p l e R s m args below meth c H locs cells slots mcT msT lsA C hP hL)
theorem j_idiv {x y : Int32} (hd : decode cc pc = .ok (.idiv, 1)) (hne : ¬ y = 0) (k : zJ E lv mc ms M cc (pc + 1) ls (zI (x / y) :: st) S Q) : zJ E lv mc ms M cc pc ls (zI y :: zI x :: st) S Q := by
  intro p l e R s m args below meth c H locs cells slots mcT msT lsA C hP hL
  exact lv_idiv C.1 C.2.1 hd hne (k p l e R s m args below meth c H locs cells slots mcT msT lsA C hP hL)
theorem j_irem {x y : Int32} (hd : decode cc pc = .ok (.irem, 1)) (hne : ¬ y = 0) (k : zJ E lv mc ms M cc (pc + 1) ls (zI (x - x / y * y) :: st) S Q) : zJ E lv mc ms M cc pc ls (zI y :: zI x :: st) S Q := by
  intro p l e R s m args below meth c H locs cells slots mcT msT lsA C hP hL
  exact lv_irem C.1 C.2.1 hd hne (k p l e R s m args below meth c H locs cells slots mcT msT lsA C hP hL)
theorem j_ineg {x : Int32} (hd : decode cc pc = .ok (.ineg, 1))  (k : zJ E lv mc ms M cc (pc + 1) ls (zI (-x) :: st) S Q) : zJ E lv mc ms M cc pc ls (zI x :: st) S Q := by
  intro p l e R s m args below meth c H locs cells slots mcT msT lsA C hP hL
  exact lv_ineg C.1 C.2.1 hd (k p l e R s m args below meth c H locs cells slots mcT msT lsA C hP hL)
theorem j_ladd {x y : Int64} (hd : decode cc pc = .ok (.ladd, 1))  (k : zJ E lv mc ms M cc (pc + 1) ls (zL (x + y) :: st) S Q) : zJ E lv mc ms M cc pc ls (zL y :: zL x :: st) S Q := by
  intro p l e R s m args below meth c H locs cells slots mcT msT lsA C hP hL
  exact lv_ladd C.1 C.2.1 hd (k p l e R s m args below meth c H locs cells slots mcT msT lsA C hP hL)
theorem j_lsub {x y : Int64} (hd : decode cc pc = .ok (.lsub, 1))  (k : zJ E lv mc ms M cc (pc + 1) ls (zL (x - y) :: st) S Q) : zJ E lv mc ms M cc pc ls (zL y :: zL x :: st) S Q := by
  intro p l e R s m args below meth c H locs cells slots mcT msT lsA C hP hL
  exact lv_lsub C.1 C.2.1 hd (k p l e R s m args below meth c H locs cells slots mcT msT lsA C hP hL)
theorem j_lmul {x y : Int64} (hd : decode cc pc = .ok (.lmul, 1))  (k : zJ E lv mc ms M cc (pc + 1) ls (zL (x * y) :: st) S Q) : zJ E lv mc ms M cc pc ls (zL y :: zL x :: st) S Q := by
  intro p l e R s m args below meth c H locs cells slots mcT msT lsA C hP hL
  exact lv_lmul C.1 C.2.1 hd (k p l e R s m args below meth c H locs cells slots mcT msT lsA C hP hL)
theorem j_land {x y : Int64} (hd : decode cc pc = .ok (.land, 1))  (k : zJ E lv mc ms M cc (pc + 1) ls (zL (x &&& y) :: st) S Q) : zJ E lv mc ms M cc pc ls (zL y :: zL x :: st) S Q := by
  intro p l e R s m args below meth c H locs cells slots mcT msT lsA C hP hL
  exact lv_land C.1 C.2.1 hd (k p l e R s m args below meth c H locs cells slots mcT msT lsA C hP hL)
theorem j_lor {x y : Int64} (hd : decode cc pc = .ok (.lor, 1))  (k : zJ E lv mc ms M cc (pc + 1) ls (zL (x ||| y) :: st) S Q) : zJ E lv mc ms M cc pc ls (zL y :: zL x :: st) S Q := by
  intro p l e R s m args below meth c H locs cells slots mcT msT lsA C hP hL
  exact lv_lor C.1 C.2.1 hd (k p l e R s m args below meth c H locs cells slots mcT msT lsA C hP hL)
theorem j_lneg {x : Int64} (hd : decode cc pc = .ok (.lneg, 1))  (k : zJ E lv mc ms M cc (pc + 1) ls (zL (-x) :: st) S Q) : zJ E lv mc ms M cc pc ls (zL x :: st) S Q := by
  intro p l e R s m args below meth c H locs cells slots mcT msT lsA C hP hL
  exact lv_lneg C.1 C.2.1 hd (k p l e R s m args below meth c H locs cells slots mcT msT lsA C hP hL)
theorem j_lshl {x : Int64} {y : Int32} (hd : decode cc pc = .ok (.lshl, 1))  (k : zJ E lv mc ms M cc (pc + 1) ls (zL (x <<< (y.toInt64 &&& 63)) :: st) S Q) : zJ E lv mc ms M cc pc ls (zI y :: zL x :: st) S Q := by
  intro p l e R s m args below meth c H locs cells slots mcT msT lsA C hP hL
  exact lv_lshl C.1 C.2.1 hd rfl (k p l e R s m args below meth c H locs cells slots mcT msT lsA C hP hL)
theorem j_lshr {x : Int64} {y : Int32} (hd : decode cc pc = .ok (.lshr, 1))  (k : zJ E lv mc ms M cc (pc + 1) ls (zL (x >>> (y.toInt64 &&& 63)) :: st) S Q) : zJ E lv mc ms M cc pc ls (zI y :: zL x :: st) S Q := by
  intro p l e R s m args below meth c H locs cells slots mcT msT lsA C hP hL
  exact lv_lshr C.1 C.2.1 hd rfl (k p l e R s m args below meth c H locs cells slots mcT msT lsA C hP hL)
theorem j_lcmp {x y : Int64} (hd : decode cc pc = .ok (.lcmp, 1))  (k : zJ E lv mc ms M cc (pc + 1) ls (zI (lg_cmp x y) :: st) S Q) : zJ E lv mc ms M cc pc ls (zL y :: zL x :: st) S Q := by
  intro p l e R s m args below meth c H locs cells slots mcT msT lsA C hP hL
  exact W.lcmp C.1 C.2.1 hd (k p l e R s m args below meth c H locs cells slots mcT msT lsA C hP hL)
theorem j_i2l {x : Int32} (hd : decode cc pc = .ok (.i2l, 1))  (k : zJ E lv mc ms M cc (pc + 1) ls (zL x.toInt64 :: st) S Q) : zJ E lv mc ms M cc pc ls (zI x :: st) S Q := by
  intro p l e R s m args below meth c H locs cells slots mcT msT lsA C hP hL
  exact lv_i2l C.1 C.2.1 hd rfl (k p l e R s m args below meth c H locs cells slots mcT msT lsA C hP hL)
theorem j_l2i {x : Int64} (hd : decode cc pc = .ok (.l2i, 1))  (k : zJ E lv mc ms M cc (pc + 1) ls (zI x.toInt32 :: st) S Q) : zJ E lv mc ms M cc pc ls (zL x :: st) S Q := by
  intro p l e R s m args below meth c H locs cells slots mcT msT lsA C hP hL
  exact lv_l2i C.1 C.2.1 hd rfl (k p l e R s m args below meth c H locs cells slots mcT msT lsA C hP hL)
theorem j_i2c {x : Int32} (hd : decode cc pc = .ok (.i2c, 1))  (k : zJ E lv mc ms M cc (pc + 1) ls (zI (x.toUInt32 % 65536).toInt32 :: st) S Q) : zJ E lv mc ms M cc pc ls (zI x :: st) S Q := by
  intro p l e R s m args below meth c H locs cells slots mcT msT lsA C hP hL
  exact lv_i2c C.1 C.2.1 hd rfl (k p l e R s m args below meth c H locs cells slots mcT msT lsA C hP hL)
theorem j_dup {v : zV} (hd : decode cc pc = .ok (.dup, 1)) (hv : zcat v = 1) (k : zJ E lv mc ms M cc (pc + 1) ls (v :: v :: st) S Q) : zJ E lv mc ms M cc pc ls (v :: st) S Q := by
  intro p l e R s m args below meth c H locs cells slots mcT msT lsA C hP hL
  exact lv_dup C.1 C.2.1 hd ((ztv_cat E v).trans hv) (k p l e R s m args below meth c H locs cells slots mcT msT lsA C hP hL)
theorem j_pop {v : zV} (hd : decode cc pc = .ok (.pop, 1)) (hv : zcat v = 1) (k : zJ E lv mc ms M cc (pc + 1) ls st S Q) : zJ E lv mc ms M cc pc ls (v :: st) S Q := by
  intro p l e R s m args below meth c H locs cells slots mcT msT lsA C hP hL
  exact lv_pop C.1 C.2.1 hd ((ztv_cat E v).trans hv) (k p l e R s m args below meth c H locs cells slots mcT msT lsA C hP hL)
theorem j_dup2 {v w : zV} (hd : decode cc pc = .ok (.dup2, 1)) (hv : zcat v = 1) (hw : zcat w = 1) (k : zJ E lv mc ms M cc (pc + 1) ls (v :: w :: v :: w :: st) S Q) : zJ E lv mc ms M cc pc ls (v :: w :: st) S Q := by
  intro p l e R s m args below meth c H locs cells slots mcT msT lsA C hP hL
  exact lv_dup2_11 C.1 C.2.1 hd ((ztv_cat E v).trans hv) ((ztv_cat E w).trans hw) (k p l e R s m args below meth c H locs cells slots mcT msT lsA C hP hL)
theorem j_if_eq {x : Int32} {off : Int} {tgt : Nat} (hd : decode cc pc = .ok (.ifCond .eq off, 3)) (ht : (pc : Int) + off = (tgt : Int)) (kt : (x = 0) → zJ E lv mc ms M cc tgt ls st S Q) (kf : ¬ (x = 0) → zJ E lv mc ms M cc (pc + 3) ls st S Q) : zJ E lv mc ms M cc pc ls (zI x :: st) S Q := by
  intro p l e R s m args below meth c H locs cells slots mcT msT lsA C hP hL
  exact lv_if_eq C.1 C.2.1 hd ht (fun h => kt h p l e R s m args below meth c H locs cells slots mcT msT lsA C hP hL) (fun h => kf h p l e R s m args below meth c H locs cells slots mcT msT lsA C hP hL)
theorem j_if_ne {x : Int32} {off : Int} {tgt : Nat} (hd : decode cc pc = .ok (.ifCond .ne off, 3)) (ht : (pc : Int) + off = (tgt : Int)) (kt : (¬ x = 0) → zJ E lv mc ms M cc tgt ls st S Q) (kf : (x = 0) → zJ E lv mc ms M cc (pc + 3) ls st S Q) : zJ E lv mc ms M cc pc ls (zI x :: st) S Q := by
  intro p l e R s m args below meth c H locs cells slots mcT msT lsA C hP hL
  exact lv_if_ne C.1 C.2.1 hd ht (fun h => kt h p l e R s m args below meth c H locs cells slots mcT msT lsA C hP hL) (fun h => kf h p l e R s m args below meth c H locs cells slots mcT msT lsA C hP hL)
theorem j_if_lt {x : Int32} {off : Int} {tgt : Nat} (hd : decode cc pc = .ok (.ifCond .lt off, 3)) (ht : (pc : Int) + off = (tgt : Int)) (kt : (x < 0) → zJ E lv mc ms M cc tgt ls st S Q) (kf : ¬ (x < 0) → zJ E lv mc ms M cc (pc + 3) ls st S Q) : zJ E lv mc ms M cc pc ls (zI x :: st) S Q := by
  intro p l e R s m args below meth c H locs cells slots mcT msT lsA C hP hL
  exact lv_if_lt C.1 C.2.1 hd ht (fun h => kt h p l e R s m args below meth c H locs cells slots mcT msT lsA C hP hL) (fun h => kf h p l e R s m args below meth c H locs cells slots mcT msT lsA C hP hL)
theorem j_if_ge {x : Int32} {off : Int} {tgt : Nat} (hd : decode cc pc = .ok (.ifCond .ge off, 3)) (ht : (pc : Int) + off = (tgt : Int)) (kt : (0 ≤ x) → zJ E lv mc ms M cc tgt ls st S Q) (kf : ¬ (0 ≤ x) → zJ E lv mc ms M cc (pc + 3) ls st S Q) : zJ E lv mc ms M cc pc ls (zI x :: st) S Q := by
  intro p l e R s m args below meth c H locs cells slots mcT msT lsA C hP hL
  exact lv_if_ge C.1 C.2.1 hd ht (fun h => kt h p l e R s m args below meth c H locs cells slots mcT msT lsA C hP hL) (fun h => kf h p l e R s m args below meth c H locs cells slots mcT msT lsA C hP hL)
theorem j_if_gt {x : Int32} {off : Int} {tgt : Nat} (hd : decode cc pc = .ok (.ifCond .gt off, 3)) (ht : (pc : Int) + off = (tgt : Int)) (kt : (0 < x) → zJ E lv mc ms M cc tgt ls st S Q) (kf : ¬ (0 < x) → zJ E lv mc ms M cc (pc + 3) ls st S Q) : zJ E lv mc ms M cc pc ls (zI x :: st) S Q := by
  intro p l e R s m args below meth c H locs cells slots mcT msT lsA C hP hL
  exact lv_if_gt C.1 C.2.1 hd ht (fun h => kt h p l e R s m args below meth c H locs cells slots mcT msT lsA C hP hL) (fun h => kf h p l e R s m args below meth c H locs cells slots mcT msT lsA C hP hL)
theorem j_if_le {x : Int32} {off : Int} {tgt : Nat} (hd : decode cc pc = .ok (.ifCond .le off, 3)) (ht : (pc : Int) + off = (tgt : Int)) (kt : (x ≤ 0) → zJ E lv mc ms M cc tgt ls st S Q) (kf : ¬ (x ≤ 0) → zJ E lv mc ms M cc (pc + 3) ls st S Q) : zJ E lv mc ms M cc pc ls (zI x :: st) S Q := by
  intro p l e R s m args below meth c H locs cells slots mcT msT lsA C hP hL
  exact lv_if_le C.1 C.2.1 hd ht (fun h => kt h p l e R s m args below meth c H locs cells slots mcT msT lsA C hP hL) (fun h => kf h p l e R s m args below meth c H locs cells slots mcT msT lsA C hP hL)
theorem j_icmp_eq {x y : Int32} {off : Int} {tgt : Nat} (hd : decode cc pc = .ok (.if_icmp .eq off, 3)) (ht : (pc : Int) + off = (tgt : Int)) (kt : (x = y) → zJ E lv mc ms M cc tgt ls st S Q) (kf : ¬ (x = y) → zJ E lv mc ms M cc (pc + 3) ls st S Q) : zJ E lv mc ms M cc pc ls (zI y :: zI x :: st) S Q := by
  intro p l e R s m args below meth c H locs cells slots mcT msT lsA C hP hL
  exact lv_icmp_eq C.1 C.2.1 hd ht (fun h => kt h p l e R s m args below meth c H locs cells slots mcT msT lsA C hP hL) (fun h => kf h p l e R s m args below meth c H locs cells slots mcT msT lsA C hP hL)
theorem j_icmp_ne {x y : Int32} {off : Int} {tgt : Nat} (hd : decode cc pc = .ok (.if_icmp .ne off, 3)) (ht : (pc : Int) + off = (tgt : Int)) (kt : (¬ x = y) → zJ E lv mc ms M cc tgt ls st S Q) (kf : (x = y) → zJ E lv mc ms M cc (pc + 3) ls st S Q) : zJ E lv mc ms M cc pc ls (zI y :: zI x :: st) S Q := by
  intro p l e R s m args below meth c H locs cells slots mcT msT lsA C hP hL
  exact lv_icmp_ne C.1 C.2.1 hd ht (fun h => kt h p l e R s m args below meth c H locs cells slots mcT msT lsA C hP hL) (fun h => kf h p l e R s m args below meth c H locs cells slots mcT msT lsA C hP hL)
theorem j_icmp_lt {x y : Int32} {off : Int} {tgt : Nat} (hd : decode cc pc = .ok (.if_icmp .lt off, 3)) (ht : (pc : Int) + off = (tgt : Int)) (kt : (x < y) → zJ E lv mc ms M cc tgt ls st S Q) (kf : ¬ (x < y) → zJ E lv mc ms M cc (pc + 3) ls st S Q) : zJ E lv mc ms M cc pc ls (zI y :: zI x :: st) S Q := by
  intro p l e R s m args below meth c H locs cells slots mcT msT lsA C hP hL
  exact lv_icmp_lt C.1 C.2.1 hd ht (fun h => kt h p l e R s m args below meth c H locs cells slots mcT msT lsA C hP hL) (fun h => kf h p l e R s m args below meth c H locs cells slots mcT msT lsA C hP hL)
theorem j_icmp_ge {x y : Int32} {off : Int} {tgt : Nat} (hd : decode cc pc = .ok (.if_icmp .ge off, 3)) (ht : (pc : Int) + off = (tgt : Int)) (kt : (y ≤ x) → zJ E lv mc ms M cc tgt ls st S Q) (kf : ¬ (y ≤ x) → zJ E lv mc ms M cc (pc + 3) ls st S Q) : zJ E lv mc ms M cc pc ls (zI y :: zI x :: st) S Q := by
  intro p l e R s m args below meth c H locs cells slots mcT msT lsA C hP hL
  exact lv_icmp_ge C.1 C.2.1 hd ht (fun h => kt h p l e R s m args below meth c H locs cells slots mcT msT lsA C hP hL) (fun h => kf h p l e R s m args below meth c H locs cells slots mcT msT lsA C hP hL)
theorem j_icmp_gt {x y : Int32} {off : Int} {tgt : Nat} (hd : decode cc pc = .ok (.if_icmp .gt off, 3)) (ht : (pc : Int) + off = (tgt : Int)) (kt : (y < x) → zJ E lv mc ms M cc tgt ls st S Q) (kf : ¬ (y < x) → zJ E lv mc ms M cc (pc + 3) ls st S Q) : zJ E lv mc ms M cc pc ls (zI y :: zI x :: st) S Q := by
  intro p l e R s m args below meth c H locs cells slots mcT msT lsA C hP hL
  exact lv_icmp_gt C.1 C.2.1 hd ht (fun h => kt h p l e R s m args below meth c H locs cells slots mcT msT lsA C hP hL) (fun h => kf h p l e R s m args below meth c H locs cells slots mcT msT lsA C hP hL)
theorem j_icmp_le {x y : Int32} {off : Int} {tgt : Nat} (hd : decode cc pc = .ok (.if_icmp .le off, 3)) (ht : (pc : Int) + off = (tgt : Int)) (kt : (x ≤ y) → zJ E lv mc ms M cc tgt ls st S Q) (kf : ¬ (x ≤ y) → zJ E lv mc ms M cc (pc + 3) ls st S Q) : zJ E lv mc ms M cc pc ls (zI y :: zI x :: st) S Q := by
  intro p l e R s m args below meth c H locs cells slots mcT msT lsA C hP hL
  exact lv_icmp_le C.1 C.2.1 hd ht (fun h => kt h p l e R s m args below meth c H locs cells slots mcT msT lsA C hP hL) (fun h => kf h p l e R s m args below meth c H locs cells slots mcT msT lsA C hP hL)
theorem j_goto {off : Int} {tgt : Nat} (hd : decode cc pc = .ok (.goto off, 3)) (ht : (pc : Int) + off = (tgt : Int)) (k : zJ E lv mc ms M cc tgt ls st S Q) : zJ E lv mc ms M cc pc ls st S Q := by
  intro p l e R s m args below meth c H locs cells slots mcT msT lsA C hP hL
  exact lv_goto C.1 C.2.1 hd ht (k p l e R s m args below meth c H locs cells slots mcT msT lsA C hP hL)
theorem j_ifnull {x : Nat} {off : Int} {tgt : Nat} (hd : decode cc pc = .ok (.ifnull off, 3)) (ht : (pc : Int) + off = (tgt : Int)) (kt : x = 0 → zJ E lv mc ms M cc tgt ls st S Q) (kf : ¬ x = 0 → zJ E lv mc ms M cc (pc + 3) ls st S Q) : zJ E lv mc ms M cc pc ls (zR x :: st) S Q := by
  intro p l e R s m args below meth c H locs cells slots mcT msT lsA C hP hL
  cases x with
  | zero => exact lv_ifnullN C.1 C.2.1 hd ht (kt rfl p l e R s m args below meth c H locs cells slots mcT msT lsA C hP hL)
  | succ x => exact lv_ifnull C.1 C.2.1 hd (kf (Nat.succ_ne_zero x) p l e R s m args below meth c H locs cells slots mcT msT lsA C hP hL)
theorem j_ifnonnull {x : Nat} {off : Int} {tgt : Nat} (hd : decode cc pc = .ok (.ifnonnull off, 3)) (ht : (pc : Int) + off = (tgt : Int)) (kt : ¬ x = 0 → zJ E lv mc ms M cc tgt ls st S Q) (kf : x = 0 → zJ E lv mc ms M cc (pc + 3) ls st S Q) : zJ E lv mc ms M cc pc ls (zR x :: st) S Q := by
  intro p l e R s m args below meth c H locs cells slots mcT msT lsA C hP hL
  cases x with
  | zero => exact lv_ifnonnullN C.1 C.2.1 hd (kf rfl p l e R s m args below meth c H locs cells slots mcT msT lsA C hP hL)
  | succ x => exact lv_ifnonnull C.1 C.2.1 hd ht (kt (Nat.succ_ne_zero x) p l e R s m args below meth c H locs cells slots mcT msT lsA C hP hL)
theorem zrv_rf (b x : Nat) : zrv b x = va_rf (if x = 0 then none else some (b + (x - 1))) := by
  cases x with
  | zero => rfl
  | succ x => rfl
theorem zrv_inj {b x y : Nat} : ((if x = 0 then none else some (b + (x - 1)) : Option Nat) = if y = 0 then none else some (b + (y - 1))) ↔ x = y := by
  by_cases hx : x = 0 <;> by_cases hy : y = 0 <;> simp [hx, hy] <;> omega
theorem j_acmp_ne {x y : Nat} {off : Int} {tgt : Nat} (hd : decode cc pc = .ok (.if_acmp .ne off, 3)) (ht : (pc : Int) + off = (tgt : Int)) (kt : ¬ x = y → zJ E lv mc ms M cc tgt ls st S Q) (kf : x = y → zJ E lv mc ms M cc (pc + 3) ls st S Q) : zJ E lv mc ms M cc pc ls (zR y :: zR x :: st) S Q := by
  intro p l e R s m args below meth c H locs cells slots mcT msT lsA C hP hL
  show W _ _ _ _ _ _ _ _ _ _ _ _ _ _ _ (F0 m pc lsA (zrv (zb E) y :: zrv (zb E) x :: st.map (ztv E)))
  rw [zrv_rf, zrv_rf]
  exact lv_acmp_ne C.1 C.2.1 hd ht (fun h => kt (fun q => h (zrv_inj.mpr q)) p l e R s m args below meth c H locs cells slots mcT msT lsA C hP hL) (fun h => kf (zrv_inj.mp h) p l e R s m args below meth c H locs cells slots mcT msT lsA C hP hL)
theorem j_acmp_eq {x y : Nat} {off : Int} {tgt : Nat} (hd : decode cc pc = .ok (.if_acmp .eq off, 3)) (ht : (pc : Int) + off = (tgt : Int)) (kt : x = y → zJ E lv mc ms M cc tgt ls st S Q) (kf : ¬ x = y → zJ E lv mc ms M cc (pc + 3) ls st S Q) : zJ E lv mc ms M cc pc ls (zR y :: zR x :: st) S Q := by
  intro p l e R s m args below meth c H locs cells slots mcT msT lsA C hP hL
  show W _ _ _ _ _ _ _ _ _ _ _ _ _ _ _ (F0 m pc lsA (zrv (zb E) y :: zrv (zb E) x :: st.map (ztv E)))
  rw [zrv_rf, zrv_rf]
  exact lv_acmp_eq C.1 C.2.1 hd ht (fun h => kt (zrv_inj.mp h) p l e R s m args below meth c H locs cells slots mcT msT lsA C hP hL) (fun h => kf (fun q => h (zrv_inj.mpr q)) p l e R s m args below meth c H locs cells slots mcT msT lsA C hP hL)
theorem j_swIn {dflt lo hi : Int} {offs : Array Int} {len : Nat} {x : Int32} {off : Int} {tgt : Nat} (hd : decode cc pc = .ok (.tableswitch dflt lo hi offs, len)) (h1 : ¬ x.toInt < lo) (h2 : ¬ hi < x.toInt) (ho : offs[(x.toInt - lo).toNat]? = some off) (ht : (pc : Int) + off = (tgt : Int)) (k : zJ E lv mc ms M cc tgt ls st S Q) : zJ E lv mc ms M cc pc ls (zI x :: st) S Q := by
  intro p l e R s m args below meth c H locs cells slots mcT msT lsA C hP hL
  exact lv_tableIn C.1 C.2.1 hd h1 h2 ho ht (k p l e R s m args below meth c H locs cells slots mcT msT lsA C hP hL)
theorem j_swOut {dflt lo hi : Int} {offs : Array Int} {len : Nat} {x : Int32} {tgt : Nat} (hd : decode cc pc = .ok (.tableswitch dflt lo hi offs, len)) (h : x.toInt < lo ∨ hi < x.toInt) (ht : (pc : Int) + dflt = (tgt : Int)) (k : zJ E lv mc ms M cc tgt ls st S Q) : zJ E lv mc ms M cc pc ls (zI x :: st) S Q := by
  intro p l e R s m args below meth c H locs cells slots mcT msT lsA C hP hL
  exact lv_tableOut C.1 C.2.1 hd h ht (k p l e R s m args below meth c H locs cells slots mcT msT lsA C hP hL)
def znl (ls : List (Option zV)) (i : Nat) : Bool := match i with
  | 0 => true
  | j + 1 => match ls[j]? with
    | some (some v) => zcat v == 1
    | _ => true
theorem znl_not {i j : Nat} {v : zV} (h : znl ls i = true) (hj : j + 1 = i) (hv : ls[j]? = some (some v)) : zcat v = 1 := by
  subst hj
  simpa [znl, hv] using h
theorem zLs.one {E : zE} {lsA : Array Slot} {nL i : Nat} {v : zV} (h : zLs E lsA nL ls) (hi : i < nL) (hc : zcat v = 1) (hn : znl ls i = true) : ∃ l', storeLocals lsA i (ztv E v) = some l' ∧ zLs E l' nL (ls.set i (some v)) := by
  have hcv : (ztv E v).category = 1 := (ztv_cat E v).trans hc
  obtain ⟨l', e, g⟩ := lv_store1 (l := []) ⟨h.1, h.2.1, fun q hq => by simp at hq⟩ hi hcv
  refine ⟨l', e, g.1, g.2.1, fun j w hj => ?_⟩
  by_cases hji : j = i
  · subst hji
    have hlt : j < ls.length := by
      have := (List.getElem?_eq_some_iff.mp hj).1
      simpa using this
    rw [List.getElem?_set_self hlt] at hj
    cases hj
    exact g.2.2 (j, ztv E v) (by simp)
  · rw [List.getElem?_set_ne (fun q => hji q.symm)] at hj
    obtain ⟨l2, e2, g2⟩ := lv_store1 (l := [(j, ztv E w)]) ⟨h.1, h.2.1, fun q hq => by rw [List.mem_singleton.mp hq]; exact h.2.2 j w hj⟩ hi hcv
    have el : l' = l2 := Option.some.inj (e.symm.trans e2)
    subst el
    refine g2.2.2 (j, ztv E w) (List.mem_cons_of_mem _ (List.mem_filter.mpr ⟨List.mem_singleton.mpr rfl, ?_⟩))
    by_cases hq : j + 1 = i
    · have hw := znl_not hn hq hj
      simp [hji, ztv_cat, hw]
    · simp [hji, hq]
theorem zLs.two {E : zE} {lsA : Array Slot} {nL i : Nat} {v : zV} (h : zLs E lsA nL ls) (hi : i + 1 < nL) (hc : zcat v = 2) (hn : znl ls i = true) : ∃ l', storeLocals lsA i (ztv E v) = some l' ∧ zLs E l' nL ((ls.set i (some v)).set (i + 1) none) := by
  have hcv : (ztv E v).category = 2 := (ztv_cat E v).trans hc
  obtain ⟨l', e, g⟩ := lv_store2 (l := []) ⟨h.1, h.2.1, fun q hq => by simp at hq⟩ hi hcv
  refine ⟨l', e, g.1, g.2.1, fun j w hj => ?_⟩
  by_cases hj2 : j = i + 1
  · subst hj2
    rw [List.getElem?_set] at hj
    simp at hj
  · rw [List.getElem?_set_ne (fun q => hj2 q.symm)] at hj
    by_cases hji : j = i
    · subst hji
      have hlt : j < ls.length := by
        have := (List.getElem?_eq_some_iff.mp hj).1
        simpa using this
      rw [List.getElem?_set_self hlt] at hj
      cases hj
      exact g.2.2 (j, ztv E v) (by simp)
    · rw [List.getElem?_set_ne (fun q => hji q.symm)] at hj
      obtain ⟨l2, e2, g2⟩ := lv_store2 (l := [(j, ztv E w)]) ⟨h.1, h.2.1, fun q hq => by rw [List.mem_singleton.mp hq]; exact h.2.2 j w hj⟩ hi hcv
      have el : l' = l2 := Option.some.inj (e.symm.trans e2)
      subst el
      refine g2.2.2 (j, ztv E w) (List.mem_cons_of_mem _ (List.mem_filter.mpr ⟨List.mem_singleton.mpr rfl, ?_⟩))
      by_cases hq : j + 1 = i
      · have hw := znl_not hn hq hj
        simp [hji, hj2, ztv_cat, hw]
      · simp [hji, hj2, hq]
theorem j_istore_n {n : Fin 4} {x : Int32} (hd : decode cc pc = .ok (.istore_n n, 1)) (hi : (n : Nat) < M.2.2.1) (hn : znl ls (n : Nat) = true) {ls' : List (Option zV)} (hl : (ls.set (n : Nat) (some (zI x))) = ls') (k : zJ E lv mc ms M cc (pc + 1) ls' st S Q) : zJ E lv mc ms M cc pc ls ((zI x) :: st) S Q := by
  intro p l e R s m args below meth c H locs cells slots mcT msT lsA C hP hL
  obtain ⟨l', e1, g⟩ := hL.one (v := (zI x)) hi rfl hn
  subst hl
  intro T hT X
  obtain ⟨t, a, b⟩ := k p l e R s m args below meth c H locs cells slots mcT msT l' C hP g T hT X
  refine ⟨t, ?_, b⟩
  have e1 : storeLocals lsA (n : Nat) (.int x) = some l' := e1
  show Steps p.tables e below (T.setTop (F0 m pc lsA (.int x :: st.map (ztv E)))) t
  jvm_step X.here [X.here.top, ↓top_set X.here.top, C.1, C.2.1, hd, e1]
  exact a
theorem j_istore {i : Nat} {x : Int32} (hd : decode cc pc = .ok (.istore i, 2)) (hi : i < M.2.2.1) (hn : znl ls i = true) {ls' : List (Option zV)} (hl : (ls.set i (some (zI x))) = ls') (k : zJ E lv mc ms M cc (pc + 2) ls' st S Q) : zJ E lv mc ms M cc pc ls ((zI x) :: st) S Q := by
  intro p l e R s m args below meth c H locs cells slots mcT msT lsA C hP hL
  obtain ⟨l', e1, g⟩ := hL.one (v := (zI x)) hi rfl hn
  subst hl
  intro T hT X
  obtain ⟨t, a, b⟩ := k p l e R s m args below meth c H locs cells slots mcT msT l' C hP g T hT X
  refine ⟨t, ?_, b⟩
  have e1 : storeLocals lsA i (.int x) = some l' := e1
  show Steps p.tables e below (T.setTop (F0 m pc lsA (.int x :: st.map (ztv E)))) t
  jvm_step X.here [X.here.top, ↓top_set X.here.top, C.1, C.2.1, hd, e1]
  exact a
theorem j_lstore_n {n : Fin 4} {x : Int64} (hd : decode cc pc = .ok (.lstore_n n, 1)) (hi : (n : Nat) + 1 < M.2.2.1) (hn : znl ls (n : Nat) = true) {ls' : List (Option zV)} (hl : ((ls.set (n : Nat) (some (zL x))).set ((n : Nat) + 1) none) = ls') (k : zJ E lv mc ms M cc (pc + 1) ls' st S Q) : zJ E lv mc ms M cc pc ls ((zL x) :: st) S Q := by
  intro p l e R s m args below meth c H locs cells slots mcT msT lsA C hP hL
  obtain ⟨l', e1, g⟩ := hL.two (v := (zL x)) hi rfl hn
  subst hl
  intro T hT X
  obtain ⟨t, a, b⟩ := k p l e R s m args below meth c H locs cells slots mcT msT l' C hP g T hT X
  refine ⟨t, ?_, b⟩
  have e1 : storeLocals lsA (n : Nat) (.long x) = some l' := e1
  show Steps p.tables e below (T.setTop (F0 m pc lsA (.long x :: st.map (ztv E)))) t
  jvm_step X.here [X.here.top, ↓top_set X.here.top, C.1, C.2.1, hd, e1]
  exact a
theorem j_lstore {i : Nat} {x : Int64} (hd : decode cc pc = .ok (.lstore i, 2)) (hi : i + 1 < M.2.2.1) (hn : znl ls i = true) {ls' : List (Option zV)} (hl : ((ls.set i (some (zL x))).set (i + 1) none) = ls') (k : zJ E lv mc ms M cc (pc + 2) ls' st S Q) : zJ E lv mc ms M cc pc ls ((zL x) :: st) S Q := by
  intro p l e R s m args below meth c H locs cells slots mcT msT lsA C hP hL
  obtain ⟨l', e1, g⟩ := hL.two (v := (zL x)) hi rfl hn
  subst hl
  intro T hT X
  obtain ⟨t, a, b⟩ := k p l e R s m args below meth c H locs cells slots mcT msT l' C hP g T hT X
  refine ⟨t, ?_, b⟩
  have e1 : storeLocals lsA i (.long x) = some l' := e1
  show Steps p.tables e below (T.setTop (F0 m pc lsA (.long x :: st.map (ztv E)))) t
  jvm_step X.here [X.here.top, ↓top_set X.here.top, C.1, C.2.1, hd, e1]
  exact a
theorem j_astore_n {n : Fin 4} {x : Nat} (hd : decode cc pc = .ok (.astore_n n, 1)) (hi : (n : Nat) < M.2.2.1) (hn : znl ls (n : Nat) = true) {ls' : List (Option zV)} (hl : (ls.set (n : Nat) (some (zR x))) = ls') (k : zJ E lv mc ms M cc (pc + 1) ls' st S Q) : zJ E lv mc ms M cc pc ls ((zR x) :: st) S Q := by
  intro p l e R s m args below meth c H locs cells slots mcT msT lsA C hP hL
  obtain ⟨l', e1, g⟩ := hL.one (v := (zR x)) hi rfl hn
  subst hl
  intro T hT X
  obtain ⟨t, a, b⟩ := k p l e R s m args below meth c H locs cells slots mcT msT l' C hP g T hT X
  refine ⟨t, ?_, b⟩
  cases x with
  | zero =>
    have e1 : storeLocals lsA (n : Nat) .null = some l' := e1
    show Steps p.tables e below (T.setTop (F0 m pc lsA (.null :: st.map (ztv E)))) t
    jvm_step X.here [X.here.top, ↓top_set X.here.top, C.1, C.2.1, hd, e1, Value.isRef]
    exact a
  | succ x =>
    have e1 : storeLocals lsA (n : Nat) (.ref (zb E + x)) = some l' := e1
    show Steps p.tables e below (T.setTop (F0 m pc lsA (.ref (zb E + x) :: st.map (ztv E)))) t
    jvm_step X.here [X.here.top, ↓top_set X.here.top, C.1, C.2.1, hd, e1, Value.isRef]
    exact a
theorem j_astore {i : Nat} {x : Nat} (hd : decode cc pc = .ok (.astore i, 2)) (hi : i < M.2.2.1) (hn : znl ls i = true) {ls' : List (Option zV)} (hl : (ls.set i (some (zR x))) = ls') (k : zJ E lv mc ms M cc (pc + 2) ls' st S Q) : zJ E lv mc ms M cc pc ls ((zR x) :: st) S Q := by
  intro p l e R s m args below meth c H locs cells slots mcT msT lsA C hP hL
  obtain ⟨l', e1, g⟩ := hL.one (v := (zR x)) hi rfl hn
  subst hl
  intro T hT X
  obtain ⟨t, a, b⟩ := k p l e R s m args below meth c H locs cells slots mcT msT l' C hP g T hT X
  refine ⟨t, ?_, b⟩
  cases x with
  | zero =>
    have e1 : storeLocals lsA i .null = some l' := e1
    show Steps p.tables e below (T.setTop (F0 m pc lsA (.null :: st.map (ztv E)))) t
    jvm_step X.here [X.here.top, ↓top_set X.here.top, C.1, C.2.1, hd, e1, Value.isRef]
    exact a
  | succ x =>
    have e1 : storeLocals lsA i (.ref (zb E + x)) = some l' := e1
    show Steps p.tables e below (T.setTop (F0 m pc lsA (.ref (zb E + x) :: st.map (ztv E)))) t
    jvm_step X.here [X.here.top, ↓top_set X.here.top, C.1, C.2.1, hd, e1, Value.isRef]
    exact a
theorem j_iinc {i : Nat} {n : Int} {x v : Int32} (hd : decode cc pc = .ok (.iinc i n, 3)) (hx : ls[i]? = some (some (zI x))) (hv : x + Int32.ofInt n = v) (hi : i < M.2.2.1) (hn : znl ls i = true) {ls' : List (Option zV)} (hl : (ls.set i (some (zI v))) = ls') (k : zJ E lv mc ms M cc (pc + 3) ls' st S Q) : zJ E lv mc ms M cc pc ls st S Q := by
  intro p l e R s m args below meth c H locs cells slots mcT msT lsA C hP hL
  subst hv
  obtain ⟨l', e1, g⟩ := hL.one (v := zI (x + Int32.ofInt n)) hi rfl hn
  subst hl
  intro T hT X
  obtain ⟨t, a, b⟩ := k p l e R s m args below meth c H locs cells slots mcT msT l' C hP g T hT X
  refine ⟨t, ?_, b⟩
  have hg : lsA[i]? = some (.val (.int x)) := hL.2.2 i (zI x) hx
  have e1 : storeLocals lsA i (.int (x + Int32.ofInt n)) = some l' := e1
  jvm_step X.here [X.here.top, ↓top_set X.here.top, C.1, C.2.1, hd, hg, e1]
  exact a
theorem j_iret {v : Int32} (hd : decode cc pc = .ok (.ireturn, 1)) (hr : M.2.2.2 = some .int) (hq : Q (some (zI v)) S) : zJ E lv mc ms M cc pc ls [zI v] S Q := by
  intro p l e R s m args below meth c H locs cells slots mcT msT lsA C hP hL
  refine W.widen (Nat.le_trans (Nat.le_add_right _ _) C.2.2.2.2.2.2.2.2.2.2.2.1.1) (Nat.le_trans (Nat.le_add_right _ _) C.2.2.2.2.2.2.2.2.2.2.2.1.2) ?_
  exact W.iret C.1 C.2.1 (C.2.2.2.1.trans hr) (fun t ht _ => ⟨some (zI v), S, rfl, by rw [ht]; exact hP, hq⟩) (fun q h => C.2.2.2.2.2.2.2.2.2.2.2.2 q h) hd C.2.2.2.2.1
theorem j_zret {v : Int32} (hd : decode cc pc = .ok (.ireturn, 1)) (hr : M.2.2.2 = some .boolean) (hv : narrow .boolean (.int v) = .int v) (hq : Q (some (zI v)) S) : zJ E lv mc ms M cc pc ls [zI v] S Q := by
  intro p l e R s m args below meth c H locs cells slots mcT msT lsA C hP hL
  refine W.widen (Nat.le_trans (Nat.le_add_right _ _) C.2.2.2.2.2.2.2.2.2.2.2.1.1) (Nat.le_trans (Nat.le_add_right _ _) C.2.2.2.2.2.2.2.2.2.2.2.1.2) ?_
  exact W.zret C.1 C.2.1 (C.2.2.2.1.trans hr) hv (fun t ht _ => ⟨some (zI v), S, rfl, by rw [ht]; exact hP, hq⟩) (fun q h => C.2.2.2.2.2.2.2.2.2.2.2.2 q h) hd C.2.2.2.2.1
theorem j_lret {v : Int64} (hd : decode cc pc = .ok (.lreturn, 1)) (hr : M.2.2.2 = some .long) (hq : Q (some (zL v)) S) : zJ E lv mc ms M cc pc ls [zL v] S Q := by
  intro p l e R s m args below meth c H locs cells slots mcT msT lsA C hP hL
  refine W.widen (Nat.le_trans (Nat.le_add_right _ _) C.2.2.2.2.2.2.2.2.2.2.2.1.1) (Nat.le_trans (Nat.le_add_right _ _) C.2.2.2.2.2.2.2.2.2.2.2.1.2) ?_
  exact W.lret C.1 C.2.1 (C.2.2.2.1.trans hr) (fun t ht _ => ⟨some (zL v), S, rfl, by rw [ht]; exact hP, hq⟩) (fun q h => C.2.2.2.2.2.2.2.2.2.2.2.2 q h) hd C.2.2.2.2.1
theorem j_vret  (hd : decode cc pc = .ok (.return_, 1)) (hr : M.2.2.2 = none) (hq : Q (none) S) : zJ E lv mc ms M cc pc ls [] S Q := by
  intro p l e R s m args below meth c H locs cells slots mcT msT lsA C hP hL
  refine W.widen (Nat.le_trans (Nat.le_add_right _ _) C.2.2.2.2.2.2.2.2.2.2.2.1.1) (Nat.le_trans (Nat.le_add_right _ _) C.2.2.2.2.2.2.2.2.2.2.2.1.2) ?_
  exact W.vret C.1 C.2.1 (C.2.2.2.1.trans hr) (fun t ht _ => ⟨none, S, rfl, by rw [ht]; exact hP, hq⟩) (fun q h => C.2.2.2.2.2.2.2.2.2.2.2.2 q h) hd C.2.2.2.2.1
theorem j_aret {v : Nat} {n : String} (hd : decode cc pc = .ok (.areturn, 1)) (hr : M.2.2.2 = some (.object n)) (hq : Q (some (zR v)) S) : zJ E lv mc ms M cc pc ls [zR v] S Q := by
  intro p l e R s m args below meth c H locs cells slots mcT msT lsA C hP hL
  refine W.widen (Nat.le_trans (Nat.le_add_right _ _) C.2.2.2.2.2.2.2.2.2.2.2.1.1) (Nat.le_trans (Nat.le_add_right _ _) C.2.2.2.2.2.2.2.2.2.2.2.1.2) ?_
  exact W.aret C.1 C.2.1 (C.2.2.2.1.trans hr) (Or.inl ⟨n, rfl⟩) (by cases v with | zero => exact Or.inl rfl | succ v => exact Or.inr ⟨_, rfl⟩) (fun t ht _ => ⟨some (zR v), S, rfl, by rw [ht]; exact hP, hq⟩) (fun q h => C.2.2.2.2.2.2.2.2.2.2.2.2 q h) hd C.2.2.2.2.1
end ZRULES

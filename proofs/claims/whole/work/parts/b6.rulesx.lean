/-! A SECOND JUDGEMENT: bodies that may throw, or stand under a premise of their launch; every rule once more -/
abbrev zQx : Type := (Launch → State → Code → Prop) × (List Frame → Array Value → State → Nat → Nat → State → Prop)
def zJx (E : zE) (lv mc ms : Nat) (M : zMI) (cc : ByteArray) (pc : Nat) (ls : List (Option zV)) (st : List zV) (S : zM) (Q : zQx) : Prop :=
  ∀ (p : Program) (l : Launch) (e : Env) (R : Room) (s : State) (m : MethodId) (args : Array Value) (below : List Frame) (meth : Method) (c : Code) (H : Heap) (locs : List Loc) (cells slots mcT msT : Nat) (lsA : Array Slot),
    Q.1 l s c → zCx E M cc lv mc ms p R s m meth c locs cells slots mcT msT → zRp E S H → zLs E lsA M.2.2.1 ls →
    W p l e R s m args below meth c H locs cells slots (Q.2 below args s mcT msT) (F0 m pc lsA (st.map (ztv E)))
theorem zJ.gx {E : zE} {lv mc ms : Nat} {M : zMI} {cc : ByteArray} {pc : Nat} {ls : List (Option zV)} {st : List zV} {S : zM} {Q' : Option zV → zM → Prop} {Q : zQx} (k : zJ E lv mc ms M cc pc ls st S Q') (h : ∀ below args s mcT msT t, MQ below (zQc E Q') args s mcT msT (zfr E) t → Q.2 below args s mcT msT t) : zJx E lv mc ms M cc pc ls st S Q := by
  intro p l e R s m args below meth c H locs cells slots mcT msT lsA hz C hP hL T hT X
  obtain ⟨t, a, b⟩ := k p l e R s m args below meth c H locs cells slots mcT msT lsA C hP hL T hT X
  exact ⟨t, a, h _ _ _ _ _ _ b⟩
section ZRULESX
variable {E : zE} {lv mc ms : Nat} {M : zMI} {cc : ByteArray} {pc : Nat} {ls : List (Option zV)} {st rest : List zV} {S : zM} {Q : zQx}
theorem x_iconst {n : Int} {v : Int32} (hd : decode cc pc = .ok (.iconst n, 1)) (hv : Int32.ofInt n = v) (k : zJx E lv mc ms M cc (pc + 1) ls (zI v :: st) S Q) : zJx E lv mc ms M cc pc ls st S Q := by
  intro p l e R s m args below meth c H locs cells slots mcT msT lsA hz C hP hL
  exact lv_iconst C.1 C.2.1 hd hv (k p l e R s m args below meth c H locs cells slots mcT msT lsA hz C hP hL)
theorem x_bipush {n : Int} {v : Int32} (hd : decode cc pc = .ok (.bipush n, 2)) (hv : (Int8.ofInt n).toInt32 = v) (k : zJx E lv mc ms M cc (pc + 2) ls (zI v :: st) S Q) : zJx E lv mc ms M cc pc ls st S Q := by
  intro p l e R s m args below meth c H locs cells slots mcT msT lsA hz C hP hL
  exact lv_bipush C.1 C.2.1 hd hv (k p l e R s m args below meth c H locs cells slots mcT msT lsA hz C hP hL)
theorem x_sipush {n : Int} {v : Int32} (hd : decode cc pc = .ok (.sipush n, 3)) (hv : (Int16.ofInt n).toInt32 = v) (k : zJx E lv mc ms M cc (pc + 3) ls (zI v :: st) S Q) : zJx E lv mc ms M cc pc ls st S Q := by
  intro p l e R s m args below meth c H locs cells slots mcT msT lsA hz C hP hL
  exact lv_sipush C.1 C.2.1 hd hv (k p l e R s m args below meth c H locs cells slots mcT msT lsA hz C hP hL)
theorem x_lconst {n : Fin 2} {v : Int64} (hd : decode cc pc = .ok (.lconst n, 1)) (hv : Int64.ofNat (n : Nat) = v) (k : zJx E lv mc ms M cc (pc + 1) ls (zL v :: st) S Q) : zJx E lv mc ms M cc pc ls st S Q := by
  intro p l e R s m args below meth c H locs cells slots mcT msT lsA hz C hP hL
  exact lv_lconst C.1 C.2.1 hd hv (k p l e R s m args below meth c H locs cells slots mcT msT lsA hz C hP hL)
theorem x_null  (hd : decode cc pc = .ok (.aconst_null, 1))  (k : zJx E lv mc ms M cc (pc + 1) ls (zR 0 :: st) S Q) : zJx E lv mc ms M cc pc ls st S Q := by
  intro p l e R s m args below meth c H locs cells slots mcT msT lsA hz C hP hL
  exact lv_null C.1 C.2.1 hd (k p l e R s m args below meth c H locs cells slots mcT msT lsA hz C hP hL)
theorem x_ldcI {i : Nat} {v : Int32} (hd : decode cc pc = .ok (.ldc i, 2)) (hc : Cond.constant M.1 i v ∈ lw_tbl) (k : zJx E lv mc ms M cc (pc + 2) ls (zI v :: st) S Q) : zJx E lv mc ms M cc pc ls st S Q := by
  intro p l e R s m args below meth c H locs cells slots mcT msT lsA hz C hP hL
  exact lv_ldc C.1 C.2.1 C.2.2.2.2.2.2.1 (C.2.2.2.2.2.2.2.1.w hc rfl _) hd (k p l e R s m args below meth c H locs cells slots mcT msT lsA hz C hP hL)
theorem x_ldcL {i : Nat} {v : Int64} (hd : decode cc pc = .ok (.ldc2_w i, 3)) (hc : Cond.constantLong M.1 i v ∈ lw_tbl) (k : zJx E lv mc ms M cc (pc + 3) ls (zL v :: st) S Q) : zJx E lv mc ms M cc pc ls st S Q := by
  intro p l e R s m args below meth c H locs cells slots mcT msT lsA hz C hP hL
  exact lv_ldc2 C.1 C.2.1 C.2.2.2.2.2.2.1 (C.2.2.2.2.2.2.2.1.w hc rfl _) hd (k p l e R s m args below meth c H locs cells slots mcT msT lsA hz C hP hL)
theorem x_iload_n {n : Fin 4} {x : Int32} (hd : decode cc pc = .ok (.iload_n n, 1)) (hl : ls[(n : Nat)]? = some (some (zI x))) (k : zJx E lv mc ms M cc (pc + 1) ls (zI x :: st) S Q) : zJx E lv mc ms M cc pc ls st S Q := by
  intro p l e R s m args below meth c H locs cells slots mcT msT lsA hz C hP hL
  exact lv_iload_n C.1 C.2.1 hd rfl (hL.2.2 _ _ hl) (k p l e R s m args below meth c H locs cells slots mcT msT lsA hz C hP hL)
theorem x_iload {i : Nat} {x : Int32} (hd : decode cc pc = .ok (.iload i, 2)) (hl : ls[i]? = some (some (zI x))) (k : zJx E lv mc ms M cc (pc + 2) ls (zI x :: st) S Q) : zJx E lv mc ms M cc pc ls st S Q := by
  intro p l e R s m args below meth c H locs cells slots mcT msT lsA hz C hP hL
  exact lv_iload C.1 C.2.1 hd (hL.2.2 _ _ hl) (k p l e R s m args below meth c H locs cells slots mcT msT lsA hz C hP hL)
theorem x_lload_n {n : Fin 4} {x : Int64} (hd : decode cc pc = .ok (.lload_n n, 1)) (hl : ls[(n : Nat)]? = some (some (zL x))) (k : zJx E lv mc ms M cc (pc + 1) ls (zL x :: st) S Q) : zJx E lv mc ms M cc pc ls st S Q := by
  intro p l e R s m args below meth c H locs cells slots mcT msT lsA hz C hP hL
  exact lv_lload_n C.1 C.2.1 hd rfl (hL.2.2 _ _ hl) (k p l e R s m args below meth c H locs cells slots mcT msT lsA hz C hP hL)
theorem x_lload {i : Nat} {x : Int64} (hd : decode cc pc = .ok (.lload i, 2)) (hl : ls[i]? = some (some (zL x))) (k : zJx E lv mc ms M cc (pc + 2) ls (zL x :: st) S Q) : zJx E lv mc ms M cc pc ls st S Q := by
  intro p l e R s m args below meth c H locs cells slots mcT msT lsA hz C hP hL
  exact lv_lload C.1 C.2.1 hd (hL.2.2 _ _ hl) (k p l e R s m args below meth c H locs cells slots mcT msT lsA hz C hP hL)
theorem x_aload_n {n : Fin 4} {x : Nat} (hd : decode cc pc = .ok (.aload_n n, 1)) (hl : ls[(n : Nat)]? = some (some (zR x))) (k : zJx E lv mc ms M cc (pc + 1) ls (zR x :: st) S Q) : zJx E lv mc ms M cc pc ls st S Q := by
  intro p l e R s m args below meth c H locs cells slots mcT msT lsA hz C hP hL
  have h := hL.2.2 _ _ hl
  cases x with
  | zero => exact lv_aload_nN C.1 C.2.1 hd rfl h (k p l e R s m args below meth c H locs cells slots mcT msT lsA hz C hP hL)
  | succ x => exact lv_aload_n C.1 C.2.1 hd rfl h (k p l e R s m args below meth c H locs cells slots mcT msT lsA hz C hP hL)
theorem x_aload {i : Nat} {x : Nat} (hd : decode cc pc = .ok (.aload i, 2)) (hl : ls[i]? = some (some (zR x))) (k : zJx E lv mc ms M cc (pc + 2) ls (zR x :: st) S Q) : zJx E lv mc ms M cc pc ls st S Q := by
  intro p l e R s m args below meth c H locs cells slots mcT msT lsA hz C hP hL
  have h := hL.2.2 _ _ hl
  cases x with
  | zero => exact lv_aloadN C.1 C.2.1 hd h (k p l e R s m args below meth c H locs cells slots mcT msT lsA hz C hP hL)
  | succ x => exact lv_aload C.1 C.2.1 hd h (k p l e R s m args below meth c H locs cells slots mcT msT lsA hz C hP hL)
theorem x_aload_nq {n : Fin 4} {x : Nat} (hd : decode cc pc = .ok (.aload_n n, 1)) (hl : ls[(n : Nat)]? = some (some (zQ x))) (k : zJx E lv mc ms M cc (pc + 1) ls (zQ x :: st) S Q) : zJx E lv mc ms M cc pc ls st S Q := by
  intro p l e R s m args below meth c H locs cells slots mcT msT lsA hz C hP hL
  exact lv_aload_n C.1 C.2.1 hd rfl (hL.2.2 _ _ hl) (k p l e R s m args below meth c H locs cells slots mcT msT lsA hz C hP hL)
theorem x_iadd {x y : Int32} (hd : decode cc pc = .ok (.iadd, 1))  (k : zJx E lv mc ms M cc (pc + 1) ls (zI (x + y) :: st) S Q) : zJx E lv mc ms M cc pc ls (zI y :: zI x :: st) S Q := by
  intro p l e R s m args below meth c H locs cells slots mcT msT lsA hz C hP hL
  exact lv_iadd C.1 C.2.1 hd (k p l e R s m args below meth c H locs cells slots mcT msT lsA hz C hP hL)
theorem x_isub {x y : Int32} (hd : decode cc pc = .ok (.isub, 1))  (k : zJx E lv mc ms M cc (pc + 1) ls (zI (x - y) :: st) S Q) : zJx E lv mc ms M cc pc ls (zI y :: zI x :: st) S Q := by
  intro p l e R s m args below meth c H locs cells slots mcT msT lsA hz C hP hL
  exact lv_isub C.1 C.2.1 hd (k p l e R s m args below meth c H locs cells slots mcT msT lsA hz C hP hL)
theorem x_imul {x y : Int32} (hd : decode cc pc = .ok (.imul, 1))  (k : zJx E lv mc ms M cc (pc + 1) ls (zI (x * y) :: st) S Q) : zJx E lv mc ms M cc pc ls (zI y :: zI x :: st) S Q := by
  intro p l e R s m args below meth c H locs cells slots mcT msT lsA hz C hP hL
  exact lv_imul C.1 C.2.1 hd (k p l e R s m args below meth c H locs cells slots mcT msT lsA hz C hP hL)
theorem x_iand {x y : Int32} (hd : decode cc pc = .ok (.iand, 1))  (k : zJx E lv mc ms M cc (pc + 1) ls (zI (x &&& y) :: st) S Q) : zJx E lv mc ms M cc pc ls (zI y :: zI x :: st) S Q := by
  intro p l e R s m args below meth c H locs cells slots mcT msT lsA hz C hP hL
  exact lv_iand C.1 C.2.1 hd (k p l e R s m args below meth c H locs cells slots mcT msT lsA hz C hP hL)
theorem x_ior {x y : Int32} (hd : decode cc pc = .ok (.ior, 1))  (k : zJx E lv mc ms M cc (pc + 1) ls (zI (x ||| y) :: st) S Q) : zJx E lv mc ms M cc pc ls (zI y :: zI x :: st) S Q := by
  intro p l e R s m args below meth c H locs cells slots mcT msT lsA hz C hP hL
  exact lv_ior C.1 C.2.1 hd (k p l e R s m args below meth c H locs cells slots mcT msT lsA hz C hP hL)
theorem x_ixor {x y : Int32} (hd : decode cc pc = .ok (.ixor, 1))  (k : zJx E lv mc ms M cc (pc + 1) ls (zI (x ^^^ y) :: st) S Q) : zJx E lv mc ms M cc pc ls (zI y :: zI x :: st) S Q := by
  intro p l e R s m args below meth c H locs cells slots mcT msT lsA hz C hP hL
  exact lv_ixor C.1 C.2.1 hd (k p l e R s m args below meth c H locs cells slots mcT msT lsA hz C hP hL)
theorem x_ishl {x y : Int32} (hd : decode cc pc = .ok (.ishl, 1))  (k : zJx E lv mc ms M cc (pc + 1) ls (zI (x <<< (y &&& 31)) :: st) S Q) : zJx E lv mc ms M cc pc ls (zI y :: zI x :: st) S Q := by
  intro p l e R s m args below meth c H locs cells slots mcT msT lsA hz C hP hL
  exact lv_ishl C.1 C.2.1 hd (k p l e R s m args below meth c H locs cells slots mcT msT lsA hz C hP hL)
theorem x_ishr {x y : Int32} (hd : decode cc pc = .ok (.ishr, 1))  (k : zJx E lv mc ms M cc (pc + 1) ls (zI (x >>> (y &&& 31)) :: st) S Q) : zJx E lv mc ms M cc pc ls (zI y :: zI x :: st) S Q := by
  intro p l e R s m args below meth c H locs cells slots mcT msT lsA hz C hP hL
  exact lv_ishr C.1 C.2.1 hd (k p l e R s m args below meth c H locs cells slots mcT msT lsA hz C hP hL)
theorem x_idiv {x y : Int32} (hd : decode cc pc = .ok (.idiv, 1)) (hne : ¬ y = 0) (k : zJx E lv mc ms M cc (pc + 1) ls (zI (x / y) :: st) S Q) : zJx E lv mc ms M cc pc ls (zI y :: zI x :: st) S Q := by
  intro p l e R s m args below meth c H locs cells slots mcT msT lsA hz C hP hL
  exact lv_idiv C.1 C.2.1 hd hne (k p l e R s m args below meth c H locs cells slots mcT msT lsA hz C hP hL)
theorem x_irem {x y : Int32} (hd : decode cc pc = .ok (.irem, 1)) (hne : ¬ y = 0) (k : zJx E lv mc ms M cc (pc + 1) ls (zI (x - x / y * y) :: st) S Q) : zJx E lv mc ms M cc pc ls (zI y :: zI x :: st) S Q := by
  intro p l e R s m args below meth c H locs cells slots mcT msT lsA hz C hP hL
  exact lv_irem C.1 C.2.1 hd hne (k p l e R s m args below meth c H locs cells slots mcT msT lsA hz C hP hL)
theorem x_ineg {x : Int32} (hd : decode cc pc = .ok (.ineg, 1))  (k : zJx E lv mc ms M cc (pc + 1) ls (zI (-x) :: st) S Q) : zJx E lv mc ms M cc pc ls (zI x :: st) S Q := by
  intro p l e R s m args below meth c H locs cells slots mcT msT lsA hz C hP hL
  exact lv_ineg C.1 C.2.1 hd (k p l e R s m args below meth c H locs cells slots mcT msT lsA hz C hP hL)
theorem x_ladd {x y : Int64} (hd : decode cc pc = .ok (.ladd, 1))  (k : zJx E lv mc ms M cc (pc + 1) ls (zL (x + y) :: st) S Q) : zJx E lv mc ms M cc pc ls (zL y :: zL x :: st) S Q := by
  intro p l e R s m args below meth c H locs cells slots mcT msT lsA hz C hP hL
  exact lv_ladd C.1 C.2.1 hd (k p l e R s m args below meth c H locs cells slots mcT msT lsA hz C hP hL)
theorem x_lsub {x y : Int64} (hd : decode cc pc = .ok (.lsub, 1))  (k : zJx E lv mc ms M cc (pc + 1) ls (zL (x - y) :: st) S Q) : zJx E lv mc ms M cc pc ls (zL y :: zL x :: st) S Q := by
  intro p l e R s m args below meth c H locs cells slots mcT msT lsA hz C hP hL
  exact lv_lsub C.1 C.2.1 hd (k p l e R s m args below meth c H locs cells slots mcT msT lsA hz C hP hL)
theorem x_lmul {x y : Int64} (hd : decode cc pc = .ok (.lmul, 1))  (k : zJx E lv mc ms M cc (pc + 1) ls (zL (x * y) :: st) S Q) : zJx E lv mc ms M cc pc ls (zL y :: zL x :: st) S Q := by
  intro p l e R s m args below meth c H locs cells slots mcT msT lsA hz C hP hL
  exact lv_lmul C.1 C.2.1 hd (k p l e R s m args below meth c H locs cells slots mcT msT lsA hz C hP hL)
theorem x_land {x y : Int64} (hd : decode cc pc = .ok (.land, 1))  (k : zJx E lv mc ms M cc (pc + 1) ls (zL (x &&& y) :: st) S Q) : zJx E lv mc ms M cc pc ls (zL y :: zL x :: st) S Q := by
  intro p l e R s m args below meth c H locs cells slots mcT msT lsA hz C hP hL
  exact lv_land C.1 C.2.1 hd (k p l e R s m args below meth c H locs cells slots mcT msT lsA hz C hP hL)
theorem x_lor {x y : Int64} (hd : decode cc pc = .ok (.lor, 1))  (k : zJx E lv mc ms M cc (pc + 1) ls (zL (x ||| y) :: st) S Q) : zJx E lv mc ms M cc pc ls (zL y :: zL x :: st) S Q := by
  intro p l e R s m args below meth c H locs cells slots mcT msT lsA hz C hP hL
  exact lv_lor C.1 C.2.1 hd (k p l e R s m args below meth c H locs cells slots mcT msT lsA hz C hP hL)
theorem x_lneg {x : Int64} (hd : decode cc pc = .ok (.lneg, 1))  (k : zJx E lv mc ms M cc (pc + 1) ls (zL (-x) :: st) S Q) : zJx E lv mc ms M cc pc ls (zL x :: st) S Q := by
  intro p l e R s m args below meth c H locs cells slots mcT msT lsA hz C hP hL
  exact lv_lneg C.1 C.2.1 hd (k p l e R s m args below meth c H locs cells slots mcT msT lsA hz C hP hL)
theorem x_lshl {x : Int64} {y : Int32} (hd : decode cc pc = .ok (.lshl, 1))  (k : zJx E lv mc ms M cc (pc + 1) ls (zL (x <<< (y.toInt64 &&& 63)) :: st) S Q) : zJx E lv mc ms M cc pc ls (zI y :: zL x :: st) S Q := by
  intro p l e R s m args below meth c H locs cells slots mcT msT lsA hz C hP hL
  exact lv_lshl C.1 C.2.1 hd rfl (k p l e R s m args below meth c H locs cells slots mcT msT lsA hz C hP hL)
theorem x_lshr {x : Int64} {y : Int32} (hd : decode cc pc = .ok (.lshr, 1))  (k : zJx E lv mc ms M cc (pc + 1) ls (zL (x >>> (y.toInt64 &&& 63)) :: st) S Q) : zJx E lv mc ms M cc pc ls (zI y :: zL x :: st) S Q := by
  intro p l e R s m args below meth c H locs cells slots mcT msT lsA hz C hP hL
  exact lv_lshr C.1 C.2.1 hd rfl (k p l e R s m args below meth c H locs cells slots mcT msT lsA hz C hP hL)
theorem x_lcmp {x y : Int64} (hd : decode cc pc = .ok (.lcmp, 1))  (k : zJx E lv mc ms M cc (pc + 1) ls (zI (lg_cmp x y) :: st) S Q) : zJx E lv mc ms M cc pc ls (zL y :: zL x :: st) S Q := by
  intro p l e R s m args below meth c H locs cells slots mcT msT lsA hz C hP hL
  exact W.lcmp C.1 C.2.1 hd (k p l e R s m args below meth c H locs cells slots mcT msT lsA hz C hP hL)
theorem x_i2l {x : Int32} (hd : decode cc pc = .ok (.i2l, 1))  (k : zJx E lv mc ms M cc (pc + 1) ls (zL x.toInt64 :: st) S Q) : zJx E lv mc ms M cc pc ls (zI x :: st) S Q := by
  intro p l e R s m args below meth c H locs cells slots mcT msT lsA hz C hP hL
  exact lv_i2l C.1 C.2.1 hd rfl (k p l e R s m args below meth c H locs cells slots mcT msT lsA hz C hP hL)
theorem x_l2i {x : Int64} (hd : decode cc pc = .ok (.l2i, 1))  (k : zJx E lv mc ms M cc (pc + 1) ls (zI x.toInt32 :: st) S Q) : zJx E lv mc ms M cc pc ls (zL x :: st) S Q := by
  intro p l e R s m args below meth c H locs cells slots mcT msT lsA hz C hP hL
  exact lv_l2i C.1 C.2.1 hd rfl (k p l e R s m args below meth c H locs cells slots mcT msT lsA hz C hP hL)
theorem x_i2c {x : Int32} (hd : decode cc pc = .ok (.i2c, 1))  (k : zJx E lv mc ms M cc (pc + 1) ls (zI (x.toUInt32 % 65536).toInt32 :: st) S Q) : zJx E lv mc ms M cc pc ls (zI x :: st) S Q := by
  intro p l e R s m args below meth c H locs cells slots mcT msT lsA hz C hP hL
  exact lv_i2c C.1 C.2.1 hd rfl (k p l e R s m args below meth c H locs cells slots mcT msT lsA hz C hP hL)
theorem x_dup {v : zV} (hd : decode cc pc = .ok (.dup, 1)) (hv : zcat v = 1) (k : zJx E lv mc ms M cc (pc + 1) ls (v :: v :: st) S Q) : zJx E lv mc ms M cc pc ls (v :: st) S Q := by
  intro p l e R s m args below meth c H locs cells slots mcT msT lsA hz C hP hL
  exact lv_dup C.1 C.2.1 hd ((ztv_cat E v).trans hv) (k p l e R s m args below meth c H locs cells slots mcT msT lsA hz C hP hL)
theorem x_pop {v : zV} (hd : decode cc pc = .ok (.pop, 1)) (hv : zcat v = 1) (k : zJx E lv mc ms M cc (pc + 1) ls st S Q) : zJx E lv mc ms M cc pc ls (v :: st) S Q := by
  intro p l e R s m args below meth c H locs cells slots mcT msT lsA hz C hP hL
  exact lv_pop C.1 C.2.1 hd ((ztv_cat E v).trans hv) (k p l e R s m args below meth c H locs cells slots mcT msT lsA hz C hP hL)
theorem x_dup2 {v w : zV} (hd : decode cc pc = .ok (.dup2, 1)) (hv : zcat v = 1) (hw : zcat w = 1) (k : zJx E lv mc ms M cc (pc + 1) ls (v :: w :: v :: w :: st) S Q) : zJx E lv mc ms M cc pc ls (v :: w :: st) S Q := by
  intro p l e R s m args below meth c H locs cells slots mcT msT lsA hz C hP hL
  exact lv_dup2_11 C.1 C.2.1 hd ((ztv_cat E v).trans hv) ((ztv_cat E w).trans hw) (k p l e R s m args below meth c H locs cells slots mcT msT lsA hz C hP hL)
theorem x_if_eq {x : Int32} {off : Int} {tgt : Nat} (hd : decode cc pc = .ok (.ifCond .eq off, 3)) (ht : (pc : Int) + off = (tgt : Int)) (kt : (x = 0) → zJx E lv mc ms M cc tgt ls st S Q) (kf : ¬ (x = 0) → zJx E lv mc ms M cc (pc + 3) ls st S Q) : zJx E lv mc ms M cc pc ls (zI x :: st) S Q := by
  intro p l e R s m args below meth c H locs cells slots mcT msT lsA hz C hP hL
  exact lv_if_eq C.1 C.2.1 hd ht (fun h => kt h p l e R s m args below meth c H locs cells slots mcT msT lsA hz C hP hL) (fun h => kf h p l e R s m args below meth c H locs cells slots mcT msT lsA hz C hP hL)
theorem x_if_ne {x : Int32} {off : Int} {tgt : Nat} (hd : decode cc pc = .ok (.ifCond .ne off, 3)) (ht : (pc : Int) + off = (tgt : Int)) (kt : (¬ x = 0) → zJx E lv mc ms M cc tgt ls st S Q) (kf : (x = 0) → zJx E lv mc ms M cc (pc + 3) ls st S Q) : zJx E lv mc ms M cc pc ls (zI x :: st) S Q := by
  intro p l e R s m args below meth c H locs cells slots mcT msT lsA hz C hP hL
  exact lv_if_ne C.1 C.2.1 hd ht (fun h => kt h p l e R s m args below meth c H locs cells slots mcT msT lsA hz C hP hL) (fun h => kf h p l e R s m args below meth c H locs cells slots mcT msT lsA hz C hP hL)
theorem x_if_lt {x : Int32} {off : Int} {tgt : Nat} (hd : decode cc pc = .ok (.ifCond .lt off, 3)) (ht : (pc : Int) + off = (tgt : Int)) (kt : (x < 0) → zJx E lv mc ms M cc tgt ls st S Q) (kf : ¬ (x < 0) → zJx E lv mc ms M cc (pc + 3) ls st S Q) : zJx E lv mc ms M cc pc ls (zI x :: st) S Q := by
  intro p l e R s m args below meth c H locs cells slots mcT msT lsA hz C hP hL
  exact lv_if_lt C.1 C.2.1 hd ht (fun h => kt h p l e R s m args below meth c H locs cells slots mcT msT lsA hz C hP hL) (fun h => kf h p l e R s m args below meth c H locs cells slots mcT msT lsA hz C hP hL)
theorem x_if_ge {x : Int32} {off : Int} {tgt : Nat} (hd : decode cc pc = .ok (.ifCond .ge off, 3)) (ht : (pc : Int) + off = (tgt : Int)) (kt : (0 ≤ x) → zJx E lv mc ms M cc tgt ls st S Q) (kf : ¬ (0 ≤ x) → zJx E lv mc ms M cc (pc + 3) ls st S Q) : zJx E lv mc ms M cc pc ls (zI x :: st) S Q := by
  intro p l e R s m args below meth c H locs cells slots mcT msT lsA hz C hP hL
  exact lv_if_ge C.1 C.2.1 hd ht (fun h => kt h p l e R s m args below meth c H locs cells slots mcT msT lsA hz C hP hL) (fun h => kf h p l e R s m args below meth c H locs cells slots mcT msT lsA hz C hP hL)
theorem x_if_gt {x : Int32} {off : Int} {tgt : Nat} (hd : decode cc pc = .ok (.ifCond .gt off, 3)) (ht : (pc : Int) + off = (tgt : Int)) (kt : (0 < x) → zJx E lv mc ms M cc tgt ls st S Q) (kf : ¬ (0 < x) → zJx E lv mc ms M cc (pc + 3) ls st S Q) : zJx E lv mc ms M cc pc ls (zI x :: st) S Q := by
  intro p l e R s m args below meth c H locs cells slots mcT msT lsA hz C hP hL
  exact lv_if_gt C.1 C.2.1 hd ht (fun h => kt h p l e R s m args below meth c H locs cells slots mcT msT lsA hz C hP hL) (fun h => kf h p l e R s m args below meth c H locs cells slots mcT msT lsA hz C hP hL)
theorem x_if_le {x : Int32} {off : Int} {tgt : Nat} (hd : decode cc pc = .ok (.ifCond .le off, 3)) (ht : (pc : Int) + off = (tgt : Int)) (kt : (x ≤ 0) → zJx E lv mc ms M cc tgt ls st S Q) (kf : ¬ (x ≤ 0) → zJx E lv mc ms M cc (pc + 3) ls st S Q) : zJx E lv mc ms M cc pc ls (zI x :: st) S Q := by
  intro p l e R s m args below meth c H locs cells slots mcT msT lsA hz C hP hL
  exact lv_if_le C.1 C.2.1 hd ht (fun h => kt h p l e R s m args below meth c H locs cells slots mcT msT lsA hz C hP hL) (fun h => kf h p l e R s m args below meth c H locs cells slots mcT msT lsA hz C hP hL)
theorem x_icmp_eq {x y : Int32} {off : Int} {tgt : Nat} (hd : decode cc pc = .ok (.if_icmp .eq off, 3)) (ht : (pc : Int) + off = (tgt : Int)) (kt : (x = y) → zJx E lv mc ms M cc tgt ls st S Q) (kf : ¬ (x = y) → zJx E lv mc ms M cc (pc + 3) ls st S Q) : zJx E lv mc ms M cc pc ls (zI y :: zI x :: st) S Q := by
  intro p l e R s m args below meth c H locs cells slots mcT msT lsA hz C hP hL
  exact lv_icmp_eq C.1 C.2.1 hd ht (fun h => kt h p l e R s m args below meth c H locs cells slots mcT msT lsA hz C hP hL) (fun h => kf h p l e R s m args below meth c H locs cells slots mcT msT lsA hz C hP hL)
theorem x_icmp_ne {x y : Int32} {off : Int} {tgt : Nat} (hd : decode cc pc = .ok (.if_icmp .ne off, 3)) (ht : (pc : Int) + off = (tgt : Int)) (kt : (¬ x = y) → zJx E lv mc ms M cc tgt ls st S Q) (kf : (x = y) → zJx E lv mc ms M cc (pc + 3) ls st S Q) : zJx E lv mc ms M cc pc ls (zI y :: zI x :: st) S Q := by
  intro p l e R s m args below meth c H locs cells slots mcT msT lsA hz C hP hL
  exact lv_icmp_ne C.1 C.2.1 hd ht (fun h => kt h p l e R s m args below meth c H locs cells slots mcT msT lsA hz C hP hL) (fun h => kf h p l e R s m args below meth c H locs cells slots mcT msT lsA hz C hP hL)
theorem x_icmp_lt {x y : Int32} {off : Int} {tgt : Nat} (hd : decode cc pc = .ok (.if_icmp .lt off, 3)) (ht : (pc : Int) + off = (tgt : Int)) (kt : (x < y) → zJx E lv mc ms M cc tgt ls st S Q) (kf : ¬ (x < y) → zJx E lv mc ms M cc (pc + 3) ls st S Q) : zJx E lv mc ms M cc pc ls (zI y :: zI x :: st) S Q := by
  intro p l e R s m args below meth c H locs cells slots mcT msT lsA hz C hP hL
  exact lv_icmp_lt C.1 C.2.1 hd ht (fun h => kt h p l e R s m args below meth c H locs cells slots mcT msT lsA hz C hP hL) (fun h => kf h p l e R s m args below meth c H locs cells slots mcT msT lsA hz C hP hL)
theorem x_icmp_ge {x y : Int32} {off : Int} {tgt : Nat} (hd : decode cc pc = .ok (.if_icmp .ge off, 3)) (ht : (pc : Int) + off = (tgt : Int)) (kt : (y ≤ x) → zJx E lv mc ms M cc tgt ls st S Q) (kf : ¬ (y ≤ x) → zJx E lv mc ms M cc (pc + 3) ls st S Q) : zJx E lv mc ms M cc pc ls (zI y :: zI x :: st) S Q := by
  intro p l e R s m args below meth c H locs cells slots mcT msT lsA hz C hP hL
  exact lv_icmp_ge C.1 C.2.1 hd ht (fun h => kt h p l e R s m args below meth c H locs cells slots mcT msT lsA hz C hP hL) (fun h => kf h p l e R s m args below meth c H locs cells slots mcT msT lsA hz C hP hL)
theorem x_icmp_gt {x y : Int32} {off : Int} {tgt : Nat} (hd : decode cc pc = .ok (.if_icmp .gt off, 3)) (ht : (pc : Int) + off = (tgt : Int)) (kt : (y < x) → zJx E lv mc ms M cc tgt ls st S Q) (kf : ¬ (y < x) → zJx E lv mc ms M cc (pc + 3) ls st S Q) : zJx E lv mc ms M cc pc ls (zI y :: zI x :: st) S Q := by
  intro p l e R s m args below meth c H locs cells slots mcT msT lsA hz C hP hL
  exact lv_icmp_gt C.1 C.2.1 hd ht (fun h => kt h p l e R s m args below meth c H locs cells slots mcT msT lsA hz C hP hL) (fun h => kf h p l e R s m args below meth c H locs cells slots mcT msT lsA hz C hP hL)
theorem x_icmp_le {x y : Int32} {off : Int} {tgt : Nat} (hd : decode cc pc = .ok (.if_icmp .le off, 3)) (ht : (pc : Int) + off = (tgt : Int)) (kt : (x ≤ y) → zJx E lv mc ms M cc tgt ls st S Q) (kf : ¬ (x ≤ y) → zJx E lv mc ms M cc (pc + 3) ls st S Q) : zJx E lv mc ms M cc pc ls (zI y :: zI x :: st) S Q := by
  intro p l e R s m args below meth c H locs cells slots mcT msT lsA hz C hP hL
  exact lv_icmp_le C.1 C.2.1 hd ht (fun h => kt h p l e R s m args below meth c H locs cells slots mcT msT lsA hz C hP hL) (fun h => kf h p l e R s m args below meth c H locs cells slots mcT msT lsA hz C hP hL)
theorem x_goto {off : Int} {tgt : Nat} (hd : decode cc pc = .ok (.goto off, 3)) (ht : (pc : Int) + off = (tgt : Int)) (k : zJx E lv mc ms M cc tgt ls st S Q) : zJx E lv mc ms M cc pc ls st S Q := by
  intro p l e R s m args below meth c H locs cells slots mcT msT lsA hz C hP hL
  exact lv_goto C.1 C.2.1 hd ht (k p l e R s m args below meth c H locs cells slots mcT msT lsA hz C hP hL)
theorem x_ifnull {x : Nat} {off : Int} {tgt : Nat} (hd : decode cc pc = .ok (.ifnull off, 3)) (ht : (pc : Int) + off = (tgt : Int)) (kt : x = 0 → zJx E lv mc ms M cc tgt ls st S Q) (kf : ¬ x = 0 → zJx E lv mc ms M cc (pc + 3) ls st S Q) : zJx E lv mc ms M cc pc ls (zR x :: st) S Q := by
  intro p l e R s m args below meth c H locs cells slots mcT msT lsA hz C hP hL
  cases x with
  | zero => exact lv_ifnullN C.1 C.2.1 hd ht (kt rfl p l e R s m args below meth c H locs cells slots mcT msT lsA hz C hP hL)
  | succ x => exact lv_ifnull C.1 C.2.1 hd (kf (Nat.succ_ne_zero x) p l e R s m args below meth c H locs cells slots mcT msT lsA hz C hP hL)
theorem x_ifnonnull {x : Nat} {off : Int} {tgt : Nat} (hd : decode cc pc = .ok (.ifnonnull off, 3)) (ht : (pc : Int) + off = (tgt : Int)) (kt : ¬ x = 0 → zJx E lv mc ms M cc tgt ls st S Q) (kf : x = 0 → zJx E lv mc ms M cc (pc + 3) ls st S Q) : zJx E lv mc ms M cc pc ls (zR x :: st) S Q := by
  intro p l e R s m args below meth c H locs cells slots mcT msT lsA hz C hP hL
  cases x with
  | zero => exact lv_ifnonnullN C.1 C.2.1 hd (kf rfl p l e R s m args below meth c H locs cells slots mcT msT lsA hz C hP hL)
  | succ x => exact lv_ifnonnull C.1 C.2.1 hd ht (kt (Nat.succ_ne_zero x) p l e R s m args below meth c H locs cells slots mcT msT lsA hz C hP hL)
theorem x_acmp_ne {x y : Nat} {off : Int} {tgt : Nat} (hd : decode cc pc = .ok (.if_acmp .ne off, 3)) (ht : (pc : Int) + off = (tgt : Int)) (kt : ¬ x = y → zJx E lv mc ms M cc tgt ls st S Q) (kf : x = y → zJx E lv mc ms M cc (pc + 3) ls st S Q) : zJx E lv mc ms M cc pc ls (zR y :: zR x :: st) S Q := by
  intro p l e R s m args below meth c H locs cells slots mcT msT lsA hz C hP hL
  show W _ _ _ _ _ _ _ _ _ _ _ _ _ _ _ (F0 m pc lsA (zrv (zb E) y :: zrv (zb E) x :: st.map (ztv E)))
  rw [zrv_rf, zrv_rf]
  exact lv_acmp_ne C.1 C.2.1 hd ht (fun h => kt (fun q => h (zrv_inj.mpr q)) p l e R s m args below meth c H locs cells slots mcT msT lsA hz C hP hL) (fun h => kf (zrv_inj.mp h) p l e R s m args below meth c H locs cells slots mcT msT lsA hz C hP hL)
theorem x_acmp_eq {x y : Nat} {off : Int} {tgt : Nat} (hd : decode cc pc = .ok (.if_acmp .eq off, 3)) (ht : (pc : Int) + off = (tgt : Int)) (kt : x = y → zJx E lv mc ms M cc tgt ls st S Q) (kf : ¬ x = y → zJx E lv mc ms M cc (pc + 3) ls st S Q) : zJx E lv mc ms M cc pc ls (zR y :: zR x :: st) S Q := by
  intro p l e R s m args below meth c H locs cells slots mcT msT lsA hz C hP hL
  show W _ _ _ _ _ _ _ _ _ _ _ _ _ _ _ (F0 m pc lsA (zrv (zb E) y :: zrv (zb E) x :: st.map (ztv E)))
  rw [zrv_rf, zrv_rf]
  exact lv_acmp_eq C.1 C.2.1 hd ht (fun h => kt (zrv_inj.mp h) p l e R s m args below meth c H locs cells slots mcT msT lsA hz C hP hL) (fun h => kf (fun q => h (zrv_inj.mpr q)) p l e R s m args below meth c H locs cells slots mcT msT lsA hz C hP hL)
theorem x_swIn {dflt lo hi : Int} {offs : Array Int} {len : Nat} {x : Int32} {off : Int} {tgt : Nat} (hd : decode cc pc = .ok (.tableswitch dflt lo hi offs, len)) (h1 : ¬ x.toInt < lo) (h2 : ¬ hi < x.toInt) (ho : offs[(x.toInt - lo).toNat]? = some off) (ht : (pc : Int) + off = (tgt : Int)) (k : zJx E lv mc ms M cc tgt ls st S Q) : zJx E lv mc ms M cc pc ls (zI x :: st) S Q := by
  intro p l e R s m args below meth c H locs cells slots mcT msT lsA hz C hP hL
  exact lv_tableIn C.1 C.2.1 hd h1 h2 ho ht (k p l e R s m args below meth c H locs cells slots mcT msT lsA hz C hP hL)
theorem x_swOut {dflt lo hi : Int} {offs : Array Int} {len : Nat} {x : Int32} {tgt : Nat} (hd : decode cc pc = .ok (.tableswitch dflt lo hi offs, len)) (h : x.toInt < lo ∨ hi < x.toInt) (ht : (pc : Int) + dflt = (tgt : Int)) (k : zJx E lv mc ms M cc tgt ls st S Q) : zJx E lv mc ms M cc pc ls (zI x :: st) S Q := by
  intro p l e R s m args below meth c H locs cells slots mcT msT lsA hz C hP hL
  exact lv_tableOut C.1 C.2.1 hd h ht (k p l e R s m args below meth c H locs cells slots mcT msT lsA hz C hP hL)
theorem x_istore_n {n : Fin 4} {x : Int32} (hd : decode cc pc = .ok (.istore_n n, 1)) (hi : (n : Nat) < M.2.2.1) (hn : znl ls (n : Nat) = true) {ls' : List (Option zV)} (hl : (ls.set (n : Nat) (some (zI x))) = ls') (k : zJx E lv mc ms M cc (pc + 1) ls' st S Q) : zJx E lv mc ms M cc pc ls ((zI x) :: st) S Q := by
  intro p l e R s m args below meth c H locs cells slots mcT msT lsA hz C hP hL
  obtain ⟨l', e1, g⟩ := hL.one (v := (zI x)) hi rfl hn
  subst hl
  intro T hT X
  obtain ⟨t, a, b⟩ := k p l e R s m args below meth c H locs cells slots mcT msT l' hz C hP g T hT X
  refine ⟨t, ?_, b⟩
  have e1 : storeLocals lsA (n : Nat) (.int x) = some l' := e1
  show Steps p.tables e below (T.setTop (F0 m pc lsA (.int x :: st.map (ztv E)))) t
  jvm_step X.here [X.here.top, ↓top_set X.here.top, C.1, C.2.1, hd, e1]
  exact a
theorem x_istore {i : Nat} {x : Int32} (hd : decode cc pc = .ok (.istore i, 2)) (hi : i < M.2.2.1) (hn : znl ls i = true) {ls' : List (Option zV)} (hl : (ls.set i (some (zI x))) = ls') (k : zJx E lv mc ms M cc (pc + 2) ls' st S Q) : zJx E lv mc ms M cc pc ls ((zI x) :: st) S Q := by
  intro p l e R s m args below meth c H locs cells slots mcT msT lsA hz C hP hL
  obtain ⟨l', e1, g⟩ := hL.one (v := (zI x)) hi rfl hn
  subst hl
  intro T hT X
  obtain ⟨t, a, b⟩ := k p l e R s m args below meth c H locs cells slots mcT msT l' hz C hP g T hT X
  refine ⟨t, ?_, b⟩
  have e1 : storeLocals lsA i (.int x) = some l' := e1
  show Steps p.tables e below (T.setTop (F0 m pc lsA (.int x :: st.map (ztv E)))) t
  jvm_step X.here [X.here.top, ↓top_set X.here.top, C.1, C.2.1, hd, e1]
  exact a
theorem x_lstore_n {n : Fin 4} {x : Int64} (hd : decode cc pc = .ok (.lstore_n n, 1)) (hi : (n : Nat) + 1 < M.2.2.1) (hn : znl ls (n : Nat) = true) {ls' : List (Option zV)} (hl : ((ls.set (n : Nat) (some (zL x))).set ((n : Nat) + 1) none) = ls') (k : zJx E lv mc ms M cc (pc + 1) ls' st S Q) : zJx E lv mc ms M cc pc ls ((zL x) :: st) S Q := by
  intro p l e R s m args below meth c H locs cells slots mcT msT lsA hz C hP hL
  obtain ⟨l', e1, g⟩ := hL.two (v := (zL x)) hi rfl hn
  subst hl
  intro T hT X
  obtain ⟨t, a, b⟩ := k p l e R s m args below meth c H locs cells slots mcT msT l' hz C hP g T hT X
  refine ⟨t, ?_, b⟩
  have e1 : storeLocals lsA (n : Nat) (.long x) = some l' := e1
  show Steps p.tables e below (T.setTop (F0 m pc lsA (.long x :: st.map (ztv E)))) t
  jvm_step X.here [X.here.top, ↓top_set X.here.top, C.1, C.2.1, hd, e1]
  exact a
theorem x_lstore {i : Nat} {x : Int64} (hd : decode cc pc = .ok (.lstore i, 2)) (hi : i + 1 < M.2.2.1) (hn : znl ls i = true) {ls' : List (Option zV)} (hl : ((ls.set i (some (zL x))).set (i + 1) none) = ls') (k : zJx E lv mc ms M cc (pc + 2) ls' st S Q) : zJx E lv mc ms M cc pc ls ((zL x) :: st) S Q := by
  intro p l e R s m args below meth c H locs cells slots mcT msT lsA hz C hP hL
  obtain ⟨l', e1, g⟩ := hL.two (v := (zL x)) hi rfl hn
  subst hl
  intro T hT X
  obtain ⟨t, a, b⟩ := k p l e R s m args below meth c H locs cells slots mcT msT l' hz C hP g T hT X
  refine ⟨t, ?_, b⟩
  have e1 : storeLocals lsA i (.long x) = some l' := e1
  show Steps p.tables e below (T.setTop (F0 m pc lsA (.long x :: st.map (ztv E)))) t
  jvm_step X.here [X.here.top, ↓top_set X.here.top, C.1, C.2.1, hd, e1]
  exact a
theorem x_astore_n {n : Fin 4} {x : Nat} (hd : decode cc pc = .ok (.astore_n n, 1)) (hi : (n : Nat) < M.2.2.1) (hn : znl ls (n : Nat) = true) {ls' : List (Option zV)} (hl : (ls.set (n : Nat) (some (zR x))) = ls') (k : zJx E lv mc ms M cc (pc + 1) ls' st S Q) : zJx E lv mc ms M cc pc ls ((zR x) :: st) S Q := by
  intro p l e R s m args below meth c H locs cells slots mcT msT lsA hz C hP hL
  obtain ⟨l', e1, g⟩ := hL.one (v := (zR x)) hi rfl hn
  subst hl
  intro T hT X
  obtain ⟨t, a, b⟩ := k p l e R s m args below meth c H locs cells slots mcT msT l' hz C hP g T hT X
  refine ⟨t, ?_, b⟩
  cases x with
  | zero =>
    have e1 : storeLocals lsA (n : Nat) .null = some l' := e1
    show Steps p.tables e below (T.setTop (F0 m pc lsA (.null :: st.map (ztv E)))) t
    jvm_step X.here [X.here.top, ↓top_set X.here.top, C.1, C.2.1, hd, e1, Value.isRef]
    exact a
  | succ x =>
    have e1 : storeLocals lsA (n : Nat) (.ref (zb E + x)) = some l' := e1
    show Steps p.tables e below (T.setTop (F0 m pc lsA (.ref (zb E + x) :: st.map (ztv E)))) t
    jvm_step X.here [X.here.top, ↓top_set X.here.top, C.1, C.2.1, hd, e1, Value.isRef]
    exact a
theorem x_astore {i : Nat} {x : Nat} (hd : decode cc pc = .ok (.astore i, 2)) (hi : i < M.2.2.1) (hn : znl ls i = true) {ls' : List (Option zV)} (hl : (ls.set i (some (zR x))) = ls') (k : zJx E lv mc ms M cc (pc + 2) ls' st S Q) : zJx E lv mc ms M cc pc ls ((zR x) :: st) S Q := by
  intro p l e R s m args below meth c H locs cells slots mcT msT lsA hz C hP hL
  obtain ⟨l', e1, g⟩ := hL.one (v := (zR x)) hi rfl hn
  subst hl
  intro T hT X
  obtain ⟨t, a, b⟩ := k p l e R s m args below meth c H locs cells slots mcT msT l' hz C hP g T hT X
  refine ⟨t, ?_, b⟩
  cases x with
  | zero =>
    have e1 : storeLocals lsA i .null = some l' := e1
    show Steps p.tables e below (T.setTop (F0 m pc lsA (.null :: st.map (ztv E)))) t
    jvm_step X.here [X.here.top, ↓top_set X.here.top, C.1, C.2.1, hd, e1, Value.isRef]
    exact a
  | succ x =>
    have e1 : storeLocals lsA i (.ref (zb E + x)) = some l' := e1
    show Steps p.tables e below (T.setTop (F0 m pc lsA (.ref (zb E + x) :: st.map (ztv E)))) t
    jvm_step X.here [X.here.top, ↓top_set X.here.top, C.1, C.2.1, hd, e1, Value.isRef]
    exact a
theorem x_iinc {i : Nat} {n : Int} {x v : Int32} (hd : decode cc pc = .ok (.iinc i n, 3)) (hx : ls[i]? = some (some (zI x))) (hv : x + Int32.ofInt n = v) (hi : i < M.2.2.1) (hn : znl ls i = true) {ls' : List (Option zV)} (hl : (ls.set i (some (zI v))) = ls') (k : zJx E lv mc ms M cc (pc + 3) ls' st S Q) : zJx E lv mc ms M cc pc ls st S Q := by
  intro p l e R s m args below meth c H locs cells slots mcT msT lsA hz C hP hL
  subst hv
  obtain ⟨l', e1, g⟩ := hL.one (v := zI (x + Int32.ofInt n)) hi rfl hn
  subst hl
  intro T hT X
  obtain ⟨t, a, b⟩ := k p l e R s m args below meth c H locs cells slots mcT msT l' hz C hP g T hT X
  refine ⟨t, ?_, b⟩
  have hg : lsA[i]? = some (.val (.int x)) := hL.2.2 i (zI x) hx
  have e1 : storeLocals lsA i (.int (x + Int32.ofInt n)) = some l' := e1
  jvm_step X.here [X.here.top, ↓top_set X.here.top, C.1, C.2.1, hd, hg, e1]
  exact a
theorem x_getf {i t k a : Nat} {v : zV} (hd : decode cc pc = .ok (.getfield i, 3)) (hf : zFL M.1 i t k) (ha : zkd S a = (t + 1, 0)) (hv : ztv E v = zfv E S a (zty t k) k) (kk : zJx E lv mc ms M cc (pc + 3) ls (v :: st) S Q) : zJx E lv mc ms M cc pc ls (zR a :: st) S Q := by
  intro p l e R s m args below meth c H locs cells slots mcT msT lsA hz C hP hL
  obtain ⟨ht, hk, hlink⟩ := hf
  obtain ⟨a0, cell, q1, q2, q3, q4⟩ := hP.2.2.1 a t 0 ha ht
  have hT := C.2.2.2.2.2.2.2.1
  obtain ⟨hS, hfc, kC, hkC, hkind⟩ := hT.2.1.1 t _ (zcl t ht)
  obtain ⟨cf, kf, fi, f, hi, hsl⟩ := hS k hk
  have hst := (u_facts hfc hkC (u_lays (zlays zlaysIn hT ht args) (fun _ h => h) hk) hi).1
  have hi' : s.fieldFound? (zC t) (zT t k).2.1 (zT t k).2.2.1 = some (cf, kf, fi, f) := by rw [← zown t ht k hk]; exact hi
  have hvv : cell.slots[f.slot]? = some (ztv E v) := by rw [hsl, q4 k hk, hv]
  show W _ _ _ _ _ _ _ _ _ _ _ _ _ _ _ (F0 m pc lsA (zrv (zb E) a :: st.map (ztv E)))
  rw [zrv_ad a0]
  rcases hlink with hl | ⟨host, hl⟩
  · exact W.getf C.1 C.2.1 C.2.2.2.2.2.2.1 (hT.w hl rfl _) hi' hst q1 (by rw [q3]; exact fun h => by cases h) hvv rfl rfl hd (kk p l e R s m args below meth c H locs cells slots mcT msT lsA hz C hP hL)
  · exact va_Wgetf C.1 C.2.1 C.2.2.2.2.2.2.1 (hT.w hl rfl _) hi' hst q1 (by rw [q3]; exact fun h => by cases h) hvv rfl rfl hd (kk p l e R s m args below meth c H locs cells slots mcT msT lsA hz C hP hL)
theorem x_getI {i t k a : Nat} (hd : decode cc pc = .ok (.getfield i, 3)) (hf : zFL M.1 i t k) (hy : zty t k = .int ∨ zty t k = .boolean) (ha : zkd S a = (t + 1, 0)) (kk : zJx E lv mc ms M cc (pc + 3) ls (zI (zgI S a k) :: st) S Q) : zJx E lv mc ms M cc pc ls (zR a :: st) S Q := x_getf (v := zI (zgI S a k)) hd hf ha (zfv_I hy).symm kk
theorem x_getL {i t k a : Nat} (hd : decode cc pc = .ok (.getfield i, 3)) (hf : zFL M.1 i t k) (hy : zty t k = .long) (ha : zkd S a = (t + 1, 0)) (kk : zJx E lv mc ms M cc (pc + 3) ls (zL (zgL S a k) :: st) S Q) : zJx E lv mc ms M cc pc ls (zR a :: st) S Q := x_getf (v := zL (zgL S a k)) hd hf ha (by rw [hy]; rfl) kk
theorem x_getP {i t k a : Nat} (hd : decode cc pc = .ok (.getfield i, 3)) (hf : zFL M.1 i t k) (hy : (∃ n, zty t k = .object n) ∨ ∃ n, zty t k = .array n) (ha : zkd S a = (t + 1, 0)) (kk : zJx E lv mc ms M cc (pc + 3) ls (zR (zgP S a k) :: st) S Q) : zJx E lv mc ms M cc pc ls (zR a :: st) S Q := x_getf (v := zR (zgP S a k)) hd hf ha (by rcases hy with ⟨n, h⟩ | ⟨n, h⟩ <;> rw [h] <;> rfl) kk
theorem x_putf {S' : zM} {i t k a : Nat} {v : zV} (hd : decode cc pc = .ok (.putfield i, 3)) (hf : zFL M.1 i t k) (ha : zkd S a = (t + 1, 0)) (hfin : (zT t k).2.2.2 = false) (hn : narrow (zty t k) (ztv E v) = ztv E v) (hfit : fits (zty t k) (ztv E v) = true)
    (hk1 : zkd S' = zkd S) (hn1 : zgn S' = zgn S) (hc1 : ∀ b, b ≠ a → ∀ ty k, zfv E S' b ty k = zfv E S b ty k) (hc2 : ∀ ty j, j ≠ k → zfv E S' a ty j = zfv E S a ty j) (hc3 : zfv E S' a (zty t k) k = ztv E v)
    (kk : zJx E lv mc ms M cc (pc + 3) ls st S' Q) : zJx E lv mc ms M cc pc ls (v :: zR a :: st) S Q := by
  intro p l e R s m args below meth c H locs cells slots mcT msT lsA hz C hP hL
  obtain ⟨ht, hk, hlink⟩ := hf
  obtain ⟨a0, cell, q1, q2, q3, q4⟩ := hP.2.2.1 a t 0 ha ht
  have hT := C.2.2.2.2.2.2.2.1
  have hts := zlays zlaysIn hT ht args
  obtain ⟨hS, hfc, kC, hkC, hkind⟩ := hT.2.1.1 t _ (zcl t ht)
  obtain ⟨cf, kf, fi, f, hi, hsl⟩ := hS k hk
  have hst := (u_facts hfc hkC (u_lays hts (fun _ h => h) hk) hi).1
  have hi' : s.fieldFound? (zC t) (zT t k).2.1 (zT t k).2.2.1 = some (cf, kf, fi, f) := by rw [← zown t ht k hk]; exact hi
  have hlay := hts _ (u_in_lay hk)
  unfold u_lay at hlay
  rw [if_neg (by rw [hfin]; decide)] at hlay
  have h6 := u_store hfc hkC hkind hlay hi (zty_ok t ht k hk) hn hfit
  have hap := va_apart (own := M.1) hts (fun _ h => h) (zty t) (zty_ok t ht) (znm t ht) hT.2.1 (zcl t ht)
  have hlt : f.slot < cell.slots.size := by rw [hsl]; exact k2_hasslot (q4 k hk)
  have hend : ∀ H' : Heap, H'[zad E a]? = some (cell.setSlot f.slot (ztv E v)) → H'.size = H.size → (∀ q, q ≠ zad E a → H'[q]? = H[q]?) → W p l e R s m args below meth c H' (locs ++ [⟨zad E a, f.slot⟩]) cells slots (Q.2 below args s mcT msT) (F0 m (pc + 3) lsA (st.map (ztv E))) := by
    intro H' e1 e2 e3
    rw [hsl] at e1
    refine kk p l e R s m args below meth c H' _ cells slots mcT msT lsA hz ?_ (hP.put a0 hk1 hn1 hc1 e2 e3 (fun u n hu hu' => ?_) (fun j n hj hj' => ?_)) hL
    · obtain ⟨c1, c2, c3, c4, c5, c6, c7, c8, c9, c10, c11, c12, c13⟩ := C
      exact ⟨c1, c2, c3, c4, c5, c6, c7, c8, c9, c10, c11, c12, fun q hq => by
        rcases List.mem_append.mp hq with h | h
        · exact c13 q h
        · rw [List.mem_singleton.mp h]; exact Nat.le_add_right _ _⟩
    · have e0 : u = t := by rw [ha] at hu; injection hu with h7 h8; omega
      subst e0
      exact zput_val hc2 hc3 e1 q2 q3 (t_set q4 hap hk (ztv E v))
    · rw [ha] at hj
      injection hj with h7 h8
      omega
  show W _ _ _ _ _ _ _ _ _ _ _ _ _ _ _ (F0 m pc lsA (ztv E v :: zrv (zb E) a :: st.map (ztv E)))
  rw [zrv_ad a0]
  rcases hlink with hl | ⟨host, hl⟩
  · exact W.putK C.1 C.2.1 (f := f) ⟨C.2.2.2.2.2.2.1, hT.w hl rfl _, ⟨_, _, _, hi'⟩, hst⟩ (by rw [q2]; exact h6) q1 q3 hlt rfl rfl hd hend
  · exact va_WputK C.1 C.2.1 (f := f) C.2.2.2.2.2.2.1 (hT.w hl rfl _) hi' hst (by rw [q2]; exact h6) q1 q3 hlt rfl rfl hd hend
theorem x_putF {S' : zM} {i t k a : Nat} {v : zV} (hd : decode cc pc = .ok (.putfield i, 3)) (hf : zFL M.1 i t k) (hin : M.2.1.name = "<init>") (ho : M.1 = zC t) (hpl : Cond.fieldLink M.1 i (zC t) (zT t k).2.1 (zT t k).2.2.1 ∈ lw_tbl) (ha : zkd S a = (t + 1, 0)) (hfin : (zT t k).2.2.2 = true) (hn : narrow (zty t k) (ztv E v) = ztv E v) (hfit : fits (zty t k) (ztv E v) = true)
    (hk1 : zkd S' = zkd S) (hn1 : zgn S' = zgn S) (hc1 : ∀ b, b ≠ a → ∀ ty k, zfv E S' b ty k = zfv E S b ty k) (hc2 : ∀ ty j, j ≠ k → zfv E S' a ty j = zfv E S a ty j) (hc3 : zfv E S' a (zty t k) k = ztv E v)
    (kk : zJx E lv mc ms M cc (pc + 3) ls st S' Q) : zJx E lv mc ms M cc pc ls (v :: zR a :: st) S Q := by
  intro p l e R s m args below meth c H locs cells slots mcT msT lsA hz C hP hL
  obtain ⟨ht, hk, -⟩ := hf
  obtain ⟨a0, cell, q1, q2, q3, q4⟩ := hP.2.2.1 a t 0 ha ht
  have hT := C.2.2.2.2.2.2.2.1
  have hts := zlays zlaysIn hT ht args
  obtain ⟨hS, hfc, kC, hkC, hkind⟩ := hT.2.1.1 t _ (zcl t ht)
  obtain ⟨cf, kf, fi, f, hi, hsl⟩ := hS k hk
  have hst := (u_facts hfc hkC (u_lays hts (fun _ h => h) hk) hi).1
  have hi' : s.fieldFound? (zC t) (zT t k).2.1 (zT t k).2.2.1 = some (cf, kf, fi, f) := by rw [← zown t ht k hk]; exact hi
  have hlay := hts _ (u_in_lay hk)
  unfold u_lay at hlay
  rw [if_pos hfin] at hlay
  have hcf : m.cls = cf := by
    obtain ⟨_, _, c', _, _, _, -, -, hf', -, -, -, hown2, -⟩ := Cond.laysFinal_spec hlay
    have e1 : c' = cf := by have := hi.symm.trans hf'; simp at this; exact this.1.symm
    rw [zown t ht k hk, ← ho] at hown2
    rw [← e1]; exact Option.some.inj (C.2.2.2.2.2.2.1.symm.trans hown2)
  have h6 := u_fits hfc hkC hkind (Or.inr hlay) hi (zty_ok t ht k hk) hn hfit
  have hap := va_apart (own := M.1) hts (fun _ h => h) (zty t) (zty_ok t ht) (znm t ht) hT.2.1 (zcl t ht)
  have hlt : f.slot < cell.slots.size := by rw [hsl]; exact k2_hasslot (q4 k hk)
  show W _ _ _ _ _ _ _ _ _ _ _ _ _ _ _ (F0 m pc lsA (ztv E v :: zrv (zb E) a :: st.map (ztv E)))
  rw [zrv_ad a0]
  refine W.putFinK C.1 C.2.1 C.2.2.2.2.2.2.1 (hT.w hpl rfl _) hi' hst hcf (C.2.2.2.2.2.1.trans hin) (by rw [q2]; exact h6) q1 q3 hlt rfl rfl hd fun H' e1 e2 e3 => ?_
  rw [hsl] at e1
  refine kk p l e R s m args below meth c H' _ cells slots mcT msT lsA hz ?_ (hP.put a0 hk1 hn1 hc1 e2 e3 (fun u n hu hu' => ?_) (fun j n hj hj' => ?_)) hL
  · obtain ⟨c1, c2, c3, c4, c5, c6, c7, c8, c9, c10, c11, c12, c13⟩ := C
    exact ⟨c1, c2, c3, c4, c5, c6, c7, c8, c9, c10, c11, c12, fun q hq => by
      rcases List.mem_append.mp hq with h | h
      · exact c13 q h
      · rw [List.mem_singleton.mp h]; exact Nat.le_add_right _ _⟩
  · have e0 : u = t := by rw [ha] at hu; injection hu with h7 h8; omega
    subst e0
    exact zput_val hc2 hc3 e1 q2 q3 (t_set q4 hap hk (ztv E v))
  · rw [ha] at hj
    injection hj with h7 h8
    omega
theorem x_putI {i t k a : Nat} {v : Int32} (hd : decode cc pc = .ok (.putfield i, 3)) (hf : zFL M.1 i t k) (hy : zty t k = .int) (ha : zkd S a = (t + 1, 0)) (hfin : (zT t k).2.2.2 = false) (kk : zJx E lv mc ms M cc (pc + 3) ls st (zwI S a k v) Q) : zJx E lv mc ms M cc pc ls (zI v :: zR a :: st) S Q := x_putf (S' := zwI S a k v) (v := zI v) hd hf ha hfin (by rw [hy]; rfl) (by rw [hy]; rfl) rfl rfl zwI_o zwI_s (by rw [hy]; show Value.int _ = _; rw [zgI_self]; rfl) kk
theorem x_putFI {i t k a : Nat} {v : Int32} (hd : decode cc pc = .ok (.putfield i, 3)) (hf : zFL M.1 i t k) (hy : zty t k = .int) (hin : M.2.1.name = "<init>") (ho : M.1 = zC t) (hpl : Cond.fieldLink M.1 i (zC t) (zT t k).2.1 (zT t k).2.2.1 ∈ lw_tbl) (ha : zkd S a = (t + 1, 0)) (hfin : (zT t k).2.2.2 = true) (kk : zJx E lv mc ms M cc (pc + 3) ls st (zwI S a k v) Q) : zJx E lv mc ms M cc pc ls (zI v :: zR a :: st) S Q := x_putF (S' := zwI S a k v) (v := zI v) hd hf hin ho hpl ha hfin (by rw [hy]; rfl) (by rw [hy]; rfl) rfl rfl zwI_o zwI_s (by rw [hy]; show Value.int _ = _; rw [zgI_self]; rfl) kk
theorem x_putZ {i t k a : Nat} {v : Int32} (hd : decode cc pc = .ok (.putfield i, 3)) (hf : zFL M.1 i t k) (hy : zty t k = .boolean) (hx : v = 0 ∨ v = 1) (ha : zkd S a = (t + 1, 0)) (hfin : (zT t k).2.2.2 = false) (kk : zJx E lv mc ms M cc (pc + 3) ls st (zwI S a k v) Q) : zJx E lv mc ms M cc pc ls (zI v :: zR a :: st) S Q := x_putf (S' := zwI S a k v) (v := zI v) hd hf ha hfin (by rw [hy]; exact (zfit_bool hx).1) (by rw [hy]; exact (zfit_bool hx).2) rfl rfl zwI_o zwI_s (by rw [hy]; show Value.int _ = _; rw [zgI_self]; rfl) kk
theorem x_putFZ {i t k a : Nat} {v : Int32} (hd : decode cc pc = .ok (.putfield i, 3)) (hf : zFL M.1 i t k) (hy : zty t k = .boolean) (hx : v = 0 ∨ v = 1) (hin : M.2.1.name = "<init>") (ho : M.1 = zC t) (hpl : Cond.fieldLink M.1 i (zC t) (zT t k).2.1 (zT t k).2.2.1 ∈ lw_tbl) (ha : zkd S a = (t + 1, 0)) (hfin : (zT t k).2.2.2 = true) (kk : zJx E lv mc ms M cc (pc + 3) ls st (zwI S a k v) Q) : zJx E lv mc ms M cc pc ls (zI v :: zR a :: st) S Q := x_putF (S' := zwI S a k v) (v := zI v) hd hf hin ho hpl ha hfin (by rw [hy]; exact (zfit_bool hx).1) (by rw [hy]; exact (zfit_bool hx).2) rfl rfl zwI_o zwI_s (by rw [hy]; show Value.int _ = _; rw [zgI_self]; rfl) kk
theorem x_putL {i t k a : Nat} {v : Int64} (hd : decode cc pc = .ok (.putfield i, 3)) (hf : zFL M.1 i t k) (hy : zty t k = .long) (ha : zkd S a = (t + 1, 0)) (hfin : (zT t k).2.2.2 = false) (kk : zJx E lv mc ms M cc (pc + 3) ls st (zwL S a k v) Q) : zJx E lv mc ms M cc pc ls (zL v :: zR a :: st) S Q := x_putf (S' := zwL S a k v) (v := zL v) hd hf ha hfin (by rw [hy]; rfl) (by rw [hy]; rfl) rfl rfl zwL_o zwL_s (by rw [hy]; show Value.long _ = _; rw [zgL_self]; rfl) kk
theorem x_putFL {i t k a : Nat} {v : Int64} (hd : decode cc pc = .ok (.putfield i, 3)) (hf : zFL M.1 i t k) (hy : zty t k = .long) (hin : M.2.1.name = "<init>") (ho : M.1 = zC t) (hpl : Cond.fieldLink M.1 i (zC t) (zT t k).2.1 (zT t k).2.2.1 ∈ lw_tbl) (ha : zkd S a = (t + 1, 0)) (hfin : (zT t k).2.2.2 = true) (kk : zJx E lv mc ms M cc (pc + 3) ls st (zwL S a k v) Q) : zJx E lv mc ms M cc pc ls (zL v :: zR a :: st) S Q := x_putF (S' := zwL S a k v) (v := zL v) hd hf hin ho hpl ha hfin (by rw [hy]; rfl) (by rw [hy]; rfl) rfl rfl zwL_o zwL_s (by rw [hy]; show Value.long _ = _; rw [zgL_self]; rfl) kk
theorem x_putP {i t k a : Nat} {v : Nat} (hd : decode cc pc = .ok (.putfield i, 3)) (hf : zFL M.1 i t k) (hy : (∃ n, zty t k = .object n) ∨ ∃ n, zty t k = .array n) (ha : zkd S a = (t + 1, 0)) (hfin : (zT t k).2.2.2 = false) (kk : zJx E lv mc ms M cc (pc + 3) ls st (zwP S a k v) Q) : zJx E lv mc ms M cc pc ls (zR v :: zR a :: st) S Q := x_putf (S' := zwP S a k v) (v := zR v) hd hf ha hfin (zfit_ref hy).1 (zfit_ref hy).2 rfl rfl zwP_o zwP_s (by rcases hy with ⟨n, h⟩ | ⟨n, h⟩ <;> rw [h] <;> show zrv _ _ = _ <;> rw [zgP_self] <;> rfl) kk
theorem x_putFP {i t k a : Nat} {v : Nat} (hd : decode cc pc = .ok (.putfield i, 3)) (hf : zFL M.1 i t k) (hy : (∃ n, zty t k = .object n) ∨ ∃ n, zty t k = .array n) (hin : M.2.1.name = "<init>") (ho : M.1 = zC t) (hpl : Cond.fieldLink M.1 i (zC t) (zT t k).2.1 (zT t k).2.2.1 ∈ lw_tbl) (ha : zkd S a = (t + 1, 0)) (hfin : (zT t k).2.2.2 = true) (kk : zJx E lv mc ms M cc (pc + 3) ls st (zwP S a k v) Q) : zJx E lv mc ms M cc pc ls (zR v :: zR a :: st) S Q := x_putF (S' := zwP S a k v) (v := zR v) hd hf hin ho hpl ha hfin (zfit_ref hy).1 (zfit_ref hy).2 rfl rfl zwP_o zwP_s (by rcases hy with ⟨n, h⟩ | ⟨n, h⟩ <;> rw [h] <;> show zrv _ _ = _ <;> rw [zgP_self] <;> rfl) kk
theorem x_iald {a n : Nat} {x : Int32} (hd : decode cc pc = .ok (.iaload, 1)) (ha : zkd S a = (14, n)) (hin : vp_in x n) (kk : zJx E lv mc ms M cc (pc + 1) ls (zI (zgI S a x.toNatClampNeg) :: st) S Q) : zJx E lv mc ms M cc pc ls (zI x :: zR a :: st) S Q := by
  intro p l e R s m args below meth c H locs cells slots mcT msT lsA hz C hP hL
  obtain ⟨a0, -, hc⟩ := hP.2.2.2 a 0 n ha (by decide)
  have hlt : x.toNatClampNeg < n := Nat.not_le.mp fun q => hin (Or.inr q)
  show W _ _ _ _ _ _ _ _ _ _ _ _ _ _ _ (F0 m pc lsA (.int x :: zrv (zb E) a :: st.map (ztv E)))
  rw [zrv_ad a0]
  exact W.iald (v := ztv E (zI (zgI S a x.toNatClampNeg))) C.1 C.2.1 hc ((C.2.2.2.2.2.2.2.1.2.1.2 0 _ rfl).1 n _) (fun q => by cases q) (by rw [arrV_size]; exact hin) (by rw [arrV_read _ _ hlt]; rfl) rfl rfl hd (kk p l e R s m args below meth c H locs cells slots mcT msT lsA hz C hP hL)
theorem x_lald {a n : Nat} {x : Int32} (hd : decode cc pc = .ok (.laload, 1)) (ha : zkd S a = (15, n)) (hin : vp_in x n) (kk : zJx E lv mc ms M cc (pc + 1) ls (zL (zgL S a x.toNatClampNeg) :: st) S Q) : zJx E lv mc ms M cc pc ls (zI x :: zR a :: st) S Q := by
  intro p l e R s m args below meth c H locs cells slots mcT msT lsA hz C hP hL
  obtain ⟨a0, -, hc⟩ := hP.2.2.2 a 1 n ha (by decide)
  have hlt : x.toNatClampNeg < n := Nat.not_le.mp fun q => hin (Or.inr q)
  show W _ _ _ _ _ _ _ _ _ _ _ _ _ _ _ (F0 m pc lsA (.int x :: zrv (zb E) a :: st.map (ztv E)))
  rw [zrv_ad a0]
  exact W.lald (v := ztv E (zL (zgL S a x.toNatClampNeg))) C.1 C.2.1 hc ((C.2.2.2.2.2.2.2.1.2.1.2 1 _ rfl).1 n _) (fun q => by cases q) (by rw [arrV_size]; exact hin) (by rw [arrV_read _ _ hlt]; rfl) rfl rfl hd (kk p l e R s m args below meth c H locs cells slots mcT msT lsA hz C hP hL)
theorem x_zald {a n : Nat} {x : Int32} (hd : decode cc pc = .ok (.baload, 1)) (ha : zkd S a = (16, n)) (hin : vp_in x n) (kk : zJx E lv mc ms M cc (pc + 1) ls (zI (zgI S a x.toNatClampNeg) :: st) S Q) : zJx E lv mc ms M cc pc ls (zI x :: zR a :: st) S Q := by
  intro p l e R s m args below meth c H locs cells slots mcT msT lsA hz C hP hL
  obtain ⟨a0, -, hc⟩ := hP.2.2.2 a 2 n ha (by decide)
  have hlt : x.toNatClampNeg < n := Nat.not_le.mp fun q => hin (Or.inr q)
  show W _ _ _ _ _ _ _ _ _ _ _ _ _ _ _ (F0 m pc lsA (.int x :: zrv (zb E) a :: st.map (ztv E)))
  rw [zrv_ad a0]
  exact W.zald (v := ztv E (zI (zgI S a x.toNatClampNeg))) C.1 C.2.1 hc ((C.2.2.2.2.2.2.2.1.2.1.2 2 _ rfl).1 n _) (fun q => by cases q) (by rw [arrV_size]; exact hin) (by rw [arrV_read _ _ hlt]; rfl) rfl rfl hd (kk p l e R s m args below meth c H locs cells slots mcT msT lsA hz C hP hL)
theorem x_aald {a n j : Nat} {x : Int32} (hd : decode cc pc = .ok (.aaload, 1)) (ha : zkd S a = (14 + j, n)) (hj : j = 3 ∨ j = 4) (hin : vp_in x n) (kk : zJx E lv mc ms M cc (pc + 1) ls (zR (zgP S a x.toNatClampNeg) :: st) S Q) : zJx E lv mc ms M cc pc ls (zI x :: zR a :: st) S Q := by
  intro p l e R s m args below meth c H locs cells slots mcT msT lsA hz C hP hL
  obtain ⟨a0, -, hc⟩ := hP.2.2.2 a j n ha (by omega)
  have hlt : x.toNatClampNeg < n := Nat.not_le.mp fun q => hin (Or.inr q)
  show W _ _ _ _ _ _ _ _ _ _ _ _ _ _ _ (F0 m pc lsA (.int x :: zrv (zb E) a :: st.map (ztv E)))
  rw [zrv_ad a0]
  rcases hj with rfl | rfl
  · exact W.aald (v := ztv E (zR (zgP S a x.toNatClampNeg))) (ty := .object RX1) C.1 C.2.1 hc ((C.2.2.2.2.2.2.2.1.2.1.2 3 _ rfl).1 n _) rfl (fun q => by cases q) (by rw [arrV_size]; exact hin) (by rw [arrV_read _ _ hlt]; rfl) rfl rfl hd (kk p l e R s m args below meth c H locs cells slots mcT msT lsA hz C hP hL)
  · exact W.aald (v := ztv E (zR (zgP S a x.toNatClampNeg))) (ty := .object RX6) C.1 C.2.1 hc ((C.2.2.2.2.2.2.2.1.2.1.2 4 _ rfl).1 n _) rfl (fun q => by cases q) (by rw [arrV_size]; exact hin) (by rw [arrV_read _ _ hlt]; rfl) rfl rfl hd (kk p l e R s m args below meth c H locs cells slots mcT msT lsA hz C hP hL)
theorem x_alen {a n j : Nat} (hd : decode cc pc = .ok (.arraylength, 1)) (ha : zkd S a = (14 + j, n)) (hj : j < 5) (kk : zJx E lv mc ms M cc (pc + 1) ls (zI (Int32.ofNat n) :: st) S Q) : zJx E lv mc ms M cc pc ls (zR a :: st) S Q := by
  intro p l e R s m args below meth c H locs cells slots mcT msT lsA hz C hP hL
  obtain ⟨a0, -, hc⟩ := hP.2.2.2 a j n ha hj
  show W _ _ _ _ _ _ _ _ _ _ _ _ _ _ _ (F0 m pc lsA (zrv (zb E) a :: st.map (ztv E)))
  rw [zrv_ad a0]
  have hK := C.2.2.2.2.2.2.2.1.2.1.2
  have hA : ∃ ty, s.isArrayOf (arrV (zA E j) n (zfv E S a (zat j))) ty := by
    match j, hj with
    | 0, _ => exact ⟨_, (hK 0 _ rfl).1 n _⟩
    | 1, _ => exact ⟨_, (hK 1 _ rfl).1 n _⟩
    | 2, _ => exact ⟨_, (hK 2 _ rfl).1 n _⟩
    | 3, _ => exact ⟨_, (hK 3 _ rfl).1 n _⟩
    | 4, _ => exact ⟨_, (hK 4 _ rfl).1 n _⟩
  obtain ⟨ty, hA⟩ := hA
  exact W.alen (n := Int32.ofNat n) C.1 C.2.1 hc hA (by rw [arrV_size] <;> rfl) rfl rfl hd (kk p l e R s m args below meth c H locs cells slots mcT msT lsA hz C hP hL)
theorem x_iast {a n : Nat} {x : Int32} {v : Int32} (hd : decode cc pc = .ok (.iastore, 1)) (ha : zkd S a = (14, n)) (hin : vp_in x n) (kk : zJx E lv mc ms M cc (pc + 1) ls st (zwI S a x.toNatClampNeg v) Q) : zJx E lv mc ms M cc pc ls (zI v :: zI x :: zR a :: st) S Q := by
  intro p l e R s m args below meth c H locs cells slots mcT msT lsA hz C hP hL
  obtain ⟨a0, -, hc⟩ := hP.2.2.2 a 0 n ha (by decide)
  show W _ _ _ _ _ _ _ _ _ _ _ _ _ _ _ (F0 m pc lsA (.int v :: .int x :: zrv (zb E) a :: st.map (ztv E)))
  rw [zrv_ad a0]
  refine W.iast C.1 C.2.1 hc ((C.2.2.2.2.2.2.2.1.2.1.2 0 _ rfl).1 n _) (fun q => by cases q) (by rw [arrV_size]; exact hin) rfl rfl hd fun H' e1 e2 e3 => ?_
  refine kk p l e R s m args below meth c H' _ cells slots mcT msT lsA hz ?_ (hP.put a0 rfl rfl zwI_o e2 e3 (fun u q hu hu' => ?_) (fun i q hi hi' => ?_)) hL
  · obtain ⟨c1, c2, c3, c4, c5, c6, c7, c8, c9, c10, c11, c12, c13⟩ := C
    exact ⟨c1, c2, c3, c4, c5, c6, c7, c8, c9, c10, c11, c12, fun q hq => by
      rcases List.mem_append.mp hq with h | h
      · exact c13 q h
      · rw [List.mem_singleton.mp h]; exact Nat.le_add_right _ _⟩
  · rw [ha] at hu
    injection hu with h7 h8
    omega
  · have e4 : i = 0 ∧ q = n := by rw [ha] at hi; injection hi with h7 h8; omega
    obtain ⟨rfl, rfl⟩ := e4
    rw [e1, arrV_store]
    congr 2
    funext z
    by_cases hz : z = x.toNatClampNeg
    · subst hz
      simp [updV, zfv, zat, zgI_self]
    · simp only [updV, hz, if_false]
      exact (zwI_s _ _ hz).symm
theorem x_last {a n : Nat} {x : Int32} {v : Int64} (hd : decode cc pc = .ok (.lastore, 1)) (ha : zkd S a = (15, n)) (hin : vp_in x n) (kk : zJx E lv mc ms M cc (pc + 1) ls st (zwL S a x.toNatClampNeg v) Q) : zJx E lv mc ms M cc pc ls (zL v :: zI x :: zR a :: st) S Q := by
  intro p l e R s m args below meth c H locs cells slots mcT msT lsA hz C hP hL
  obtain ⟨a0, -, hc⟩ := hP.2.2.2 a 1 n ha (by decide)
  show W _ _ _ _ _ _ _ _ _ _ _ _ _ _ _ (F0 m pc lsA (.long v :: .int x :: zrv (zb E) a :: st.map (ztv E)))
  rw [zrv_ad a0]
  refine W.last C.1 C.2.1 hc ((C.2.2.2.2.2.2.2.1.2.1.2 1 _ rfl).1 n _) (fun q => by cases q) (by rw [arrV_size]; exact hin) rfl rfl hd fun H' e1 e2 e3 => ?_
  refine kk p l e R s m args below meth c H' _ cells slots mcT msT lsA hz ?_ (hP.put a0 rfl rfl zwL_o e2 e3 (fun u q hu hu' => ?_) (fun i q hi hi' => ?_)) hL
  · obtain ⟨c1, c2, c3, c4, c5, c6, c7, c8, c9, c10, c11, c12, c13⟩ := C
    exact ⟨c1, c2, c3, c4, c5, c6, c7, c8, c9, c10, c11, c12, fun q hq => by
      rcases List.mem_append.mp hq with h | h
      · exact c13 q h
      · rw [List.mem_singleton.mp h]; exact Nat.le_add_right _ _⟩
  · rw [ha] at hu
    injection hu with h7 h8
    omega
  · have e4 : i = 1 ∧ q = n := by rw [ha] at hi; injection hi with h7 h8; omega
    obtain ⟨rfl, rfl⟩ := e4
    rw [e1, arrV_store]
    congr 2
    funext z
    by_cases hz : z = x.toNatClampNeg
    · subst hz
      simp [updV, zfv, zat, zgL_self]
    · simp only [updV, hz, if_false]
      exact (zwL_s _ _ hz).symm
theorem x_zast {a n : Nat} {x : Int32} {v : Int32} (hd : decode cc pc = .ok (.bastore, 1)) (ha : zkd S a = (16, n)) (hin : vp_in x n) (hx : v = 0 ∨ v = 1) (kk : zJx E lv mc ms M cc (pc + 1) ls st (zwI S a x.toNatClampNeg v) Q) : zJx E lv mc ms M cc pc ls (zI v :: zI x :: zR a :: st) S Q := by
  intro p l e R s m args below meth c H locs cells slots mcT msT lsA hz C hP hL
  obtain ⟨a0, -, hc⟩ := hP.2.2.2 a 2 n ha (by decide)
  show W _ _ _ _ _ _ _ _ _ _ _ _ _ _ _ (F0 m pc lsA (.int v :: .int x :: zrv (zb E) a :: st.map (ztv E)))
  rw [zrv_ad a0]
  refine W.zast C.1 C.2.1 hc ((C.2.2.2.2.2.2.2.1.2.1.2 2 _ rfl).1 n _) (fun q => by cases q) (by rw [arrV_size]; exact hin) rfl rfl hd fun H' e1 e2 e3 => ?_
  rw [(zfit_bool hx).1] at e1
  refine kk p l e R s m args below meth c H' _ cells slots mcT msT lsA hz ?_ (hP.put a0 rfl rfl zwI_o e2 e3 (fun u q hu hu' => ?_) (fun i q hi hi' => ?_)) hL
  · obtain ⟨c1, c2, c3, c4, c5, c6, c7, c8, c9, c10, c11, c12, c13⟩ := C
    exact ⟨c1, c2, c3, c4, c5, c6, c7, c8, c9, c10, c11, c12, fun q hq => by
      rcases List.mem_append.mp hq with h | h
      · exact c13 q h
      · rw [List.mem_singleton.mp h]; exact Nat.le_add_right _ _⟩
  · rw [ha] at hu
    injection hu with h7 h8
    omega
  · have e4 : i = 2 ∧ q = n := by rw [ha] at hi; injection hi with h7 h8; omega
    obtain ⟨rfl, rfl⟩ := e4
    rw [e1, arrV_store]
    congr 2
    funext z
    by_cases hz : z = x.toNatClampNeg
    · subst hz
      simp [updV, zfv, zat, zgI_self]
    · simp only [updV, hz, if_false]
      exact (zwI_s _ _ hz).symm
theorem x_aast {a n v j t : Nat} {x : Int32} (hd : decode cc pc = .ok (.aastore, 1)) (ha : zkd S a = (14 + j, n)) (hj : (j = 3 ∧ t = 1) ∨ (j = 4 ∧ t = 6)) (hv : zkd S v = (t + 1, 0)) (hin : vp_in x n) (kk : zJx E lv mc ms M cc (pc + 1) ls st (zwP S a x.toNatClampNeg v) Q) : zJx E lv mc ms M cc pc ls (zR v :: zI x :: zR a :: st) S Q := by
  intro p l e R s m args below meth c H locs cells slots mcT msT lsA hz C hP hL
  obtain ⟨a0, -, hc⟩ := hP.2.2.2 a j n ha (by omega)
  have ht : t < 13 := by omega
  obtain ⟨v0, cellV, g1, g2, g3, -⟩ := hP.2.2.1 v t 0 hv ht
  have hlt : x.toNatClampNeg < n := Nat.not_le.mp fun q => hin (Or.inr q)
  have h0 : ¬ x < 0 := fun q => hin (Or.inl q)
  have hT := C.2.2.2.2.2.2.2.1
  have hcls := (hT.2.1.1 t _ (zcl t ht)).2
  have hRA : ∃ (kA : Class) (comp : ClassId), s.vm.classes[zA E j]? = some kA ∧ kA.kind = .array comp (.object (zC t)) ∧ s.vm.findClass (zC t) = some comp := by
    rcases hj with ⟨rfl, rfl⟩ | ⟨rfl, rfl⟩
    · obtain ⟨kA, comp, k1, k2, k3, -⟩ := (hT.2.1.2 3 _ rfl).2
      exact ⟨kA, comp, k1, k2, k3⟩
    · obtain ⟨kA, comp, k1, k2, k3, -⟩ := (hT.2.1.2 4 _ rfl).2
      exact ⟨kA, comp, k1, k2, k3⟩
  obtain ⟨kA, comp, k1, k2, k3⟩ := hRA
  have hcomp : comp = (zD E).1 t := Option.some.inj (k3.symm.trans hcls.1)
  subst hcomp
  obtain ⟨kC, hkC, -⟩ := hcls.2
  show W _ _ _ _ _ _ _ _ _ _ _ _ _ _ _ (F0 m pc lsA (zrv (zb E) v :: .int x :: zrv (zb E) a :: st.map (ztv E)))
  rw [zrv_ad a0, zrv_ad v0]
  refine W.aast C.1 C.2.1 hc (fun q h => by cases h) (fun h => by cases h) k1 k2 rfl hkC ⟨h0, by rw [arrV_size]; exact hlt⟩ g1 (fun q h => by rw [g3] at h; cases h) (by rw [g2]; exact hkC) (by rw [g2]; exact va_assign hcls) rfl rfl hd fun H' e1 e2 e3 => ?_
  refine kk p l e R s m args below meth c H' _ cells slots mcT msT lsA hz ?_ (hP.put a0 rfl rfl zwP_o e2 e3 (fun u q hu hu' => ?_) (fun i q hi hi' => ?_)) hL
  · obtain ⟨c1, c2, c3, c4, c5, c6, c7, c8, c9, c10, c11, c12, c13⟩ := C
    exact ⟨c1, c2, c3, c4, c5, c6, c7, c8, c9, c10, c11, c12, fun q hq => by
      rcases List.mem_append.mp hq with h | h
      · exact c13 q h
      · rw [List.mem_singleton.mp h]; exact Nat.le_add_right _ _⟩
  · rw [ha] at hu
    injection hu with h7 h8
    omega
  · have e4 : i = j ∧ q = n := by rw [ha] at hi; injection hi with h7 h8; omega
    obtain ⟨rfl, rfl⟩ := e4
    rw [e1, arrV_store]
    congr 2
    funext z
    by_cases hz : z = x.toNatClampNeg
    · subst hz
      have hz2 : zfv E (zwP S a x.toNatClampNeg v) a (zat i) x.toNatClampNeg = zrv (zb E) v := by
        rcases hj with ⟨rfl, rfl⟩ | ⟨rfl, rfl⟩ <;> show zrv _ _ = _ <;> rw [zgP_self]
      rw [hz2, zrv_ad v0]
      simp [updV]
    · simp only [updV, hz, if_false]
      exact (zwP_s _ _ hz).symm
theorem x_new {i t : Nat} {mc2 ms2 : Nat} (hd : decode cc pc = .ok (.new i, 3)) (hf : zNL M.1 i t) (h1 : mc2 + 1 ≤ mc) (h2 : ms2 + zN t ≤ ms) (kk : zJx E lv mc2 ms2 M cc (pc + 3) ls (zR (zgn S + 1) :: st) (znw S (t + 1) 0) Q) : zJx E lv mc ms M cc pc ls st S Q := by
  intro p l e R s m args below meth c H locs cells slots mcT msT lsA hz C hP hL
  obtain ⟨ht, hl1, hl2, hl3⟩ := hf
  have hT := C.2.2.2.2.2.2.2.1
  have hKn := hT.2.1.1 t _ (zcl t ht)
  obtain ⟨⟨cc1, cc2⟩, -⟩ := C.2.2.2.2.2.2.2.2.2.2
  refine W.newcK C.1 C.2.1 C.2.2.2.2.2.2.1 (hT.w hl1 rfl _) (hT.w hl2 rfl _) (hT.w hl3 rfl _) rfl hd (by omega) (by omega) hKn.2.1 rfl fun H1 kC hkC e1 z1 o1 => ?_
  have hr : zRp E (znw S (t + 1) 0) H1 := hP.new z1 o1 (fun u hu hu' => by
      have e : u = t := by omega
      subst e
      exact (u_born (zty u) (zlays zlaysIn hT ht args) (fun _ h => h) hKn hkC e1 (zty_ok u ht)).to (fun k hk => zdefault u ht k hk E S (u + 1) 0)) (fun j hj hj' => by omega)
  have := kk p l e R s m args below meth c H1 locs (cells + 1) (slots + zN t) mcT msT lsA hz (zC_made C h1 h2) hr hL
  have ead : zrv (zb E) (zgn S + 1) = .ref H.size := by rw [hP.1]; rfl
  show W _ _ _ _ _ _ _ _ _ _ _ _ _ _ _ (F0 m (pc + 3) lsA (.ref H.size :: st.map (ztv E)))
  rw [← ead]
  exact this
theorem x_newa {j : Nat} {at' : ArrayType} {x : Int32} {n mc2 ms2 : Nat} (hd : decode cc pc = .ok (.newarray at', 2)) (hj : (at' = .int ∧ j = 0) ∨ (at' = .long ∧ j = 1) ∨ (at' = .boolean ∧ j = 2)) (hw : Cond.arrayClass (newarray.typeOf at') ∈ lw_tbl) (hx : ¬ x < 0) (hn : x.toNatClampNeg = n) (hs : n ≤ 65536) (h1 : mc2 + 1 ≤ mc) (h2 : ms2 + n ≤ ms) (kk : zJx E lv mc2 ms2 M cc (pc + 2) ls (zR (zgn S + 1) :: st) (znw S (14 + j) n) Q) : zJx E lv mc ms M cc pc ls (zI x :: st) S Q := by
  intro p l e R s m args below meth c H locs cells slots mcT msT lsA hz C hP hL
  have hT := C.2.2.2.2.2.2.2.1
  obtain ⟨⟨cc1, cc2⟩, -⟩ := C.2.2.2.2.2.2.2.2.2.2
  refine va_newaK C.1 C.2.1 (hT.w hw rfl _) rfl hd rfl hx hn (by rcases hj with ⟨rfl, -⟩ | ⟨rfl, -⟩ | ⟨rfl, -⟩ <;> simp [componentBytes, newarray.typeOf] <;> omega) (by omega) (by omega) rfl fun H1 cA e1 z1 o1 hAr hNm => ?_
  have hr : zRp E (znw S (14 + j) n) H1 := hP.new z1 o1 (fun u hu hu' => by omega) (fun i hi hi' => by
      have e : i = j := by omega
      subst e
      refine ⟨by omega, ?_⟩
      rcases hj with ⟨rfl, rfl⟩ | ⟨rfl, rfl⟩ | ⟨rfl, rfl⟩
      · rw [e1, show cA = zA E 0 from Option.some.inj (hNm.symm.trans (hT.2.1.2 0 _ rfl).2)]
        congr 2
        funext k
        rw [znew_def]
        rfl
      · rw [e1, show cA = zA E 1 from Option.some.inj (hNm.symm.trans (hT.2.1.2 1 _ rfl).2)]
        congr 2
        funext k
        rw [znew_def]
        rfl
      · rw [e1, show cA = zA E 2 from Option.some.inj (hNm.symm.trans (hT.2.1.2 2 _ rfl).2)]
        congr 2
        funext k
        rw [znew_def]
        rfl)
  have := kk p l e R s m args below meth c H1 locs (cells + 1) (slots + n) mcT msT lsA hz (zC_made C h1 h2) hr hL
  have ead : zrv (zb E) (zgn S + 1) = .ref H.size := by rw [hP.1]; rfl
  show W _ _ _ _ _ _ _ _ _ _ _ _ _ _ _ (F0 m (pc + 2) lsA (.ref H.size :: st.map (ztv E)))
  rw [← ead]
  exact this
theorem x_anew {i j t : Nat} {x : Int32} {n mc2 ms2 : Nat} (hd : decode cc pc = .ok (.anewarray i, 3)) (hj : (j = 3 ∧ t = 1) ∨ (j = 4 ∧ t = 6)) (hw : Cond.classLink M.1 i (zC t) ∈ lw_tbl) (hx : ¬ x < 0) (hn : x.toNatClampNeg = n) (hs : n ≤ 65536) (h1 : mc2 + 1 ≤ mc) (h2 : ms2 + n ≤ ms) (kk : zJx E lv mc2 ms2 M cc (pc + 3) ls (zR (zgn S + 1) :: st) (znw S (14 + j) n) Q) : zJx E lv mc ms M cc pc ls (zI x :: st) S Q := by
  intro p l e R s m args below meth c H locs cells slots mcT msT lsA hz C hP hL
  have hT := C.2.2.2.2.2.2.2.1
  obtain ⟨⟨cc1, cc2⟩, -⟩ := C.2.2.2.2.2.2.2.2.2.2
  subst hn
  have hAO : va_AO (zC t) s := by
    rcases hj with ⟨rfl, rfl⟩ | ⟨rfl, rfl⟩
    · exact hT.2.2.1
    · exact hT.2.2.2.1
  refine W.anew C.1 C.2.1 C.2.2.2.2.2.2.1 (hT.w hw rfl _) (va_AO.use hAO) rfl hd rfl hx (by omega) (by omega) (by omega) fun cA kA comp f1 f2 f3 f4 => ?_
  generalize hH1 : H.push ({ cls := cA, slots := Array.replicate x.toNatClampNeg .null, vm := .none } : Cell) = H1
  have z1 : H1.size = H.size + 1 := by rw [← hH1, Array.size_push]
  have e1 : H1[H.size]? = some (arrV cA x.toNatClampNeg (fun _ => .null)) := by rw [← hH1, Array.getElem?_push_size, ← arrV_new]
  have o1 : ∀ q : Nat, q < H.size → H1[q]? = H[q]? := fun q hq => by rw [← hH1, Array.getElem?_push, if_neg (Nat.ne_of_lt hq)]
  have hr : zRp E (znw S (14 + j) x.toNatClampNeg) H1 := hP.new z1 o1 (fun u hu hu' => by omega) (fun i hi hi' => by
      have e : i = j := by omega
      subst e
      refine ⟨by omega, ?_⟩
      rcases hj with ⟨rfl, rfl⟩ | ⟨rfl, rfl⟩
      · obtain ⟨_, _, _, _, _, k4⟩ := (hT.2.1.2 3 _ rfl).2
        rw [e1, show cA = zA E 3 from Option.some.inj (f1.symm.trans k4)]
        congr 2
        funext k
        rw [znew_def]
        rfl
      · obtain ⟨_, _, _, _, _, k4⟩ := (hT.2.1.2 4 _ rfl).2
        rw [e1, show cA = zA E 4 from Option.some.inj (f1.symm.trans k4)]
        congr 2
        funext k
        rw [znew_def]
        rfl)
  have := kk p l e R s m args below meth c H1 locs (cells + 1) (slots + x.toNatClampNeg) mcT msT lsA hz (zC_made C h1 h2) hr hL
  have ead : zrv (zb E) (zgn S + 1) = .ref H.size := by rw [hP.1]; rfl
  show W _ _ _ _ _ _ _ _ _ _ _ _ _ _ _ (F0 m (pc + 3) lsA (.ref H.size :: st.map (ztv E)))
  rw [← ead]
  exact this
theorem zbackx {p : Program} {l : Launch} {e : Env} {R : Room} {s : State} {m : MethodId} {args a : Array Value} {below : List Frame} {meth : Method} {c : Code} {H : Heap} {locs : List Loc} {cells slots mcT msT mc' ms' mc2 ms2 : Nat} {lsA : Array Slot} {stk : List Value} {Post : Option zV → zM → Prop}
    (hz : Q.1 l s c) (hr : va_Run p l e R s m args below meth c H locs cells slots mc' ms' (F0 m pc lsA stk) (rest.map (ztv E)) (zQc E Post a) (zfr E)) (C : zCx E M cc lv mc ms p R s m meth c locs cells slots mcT msT) (hL : zLs E lsA M.2.2.1 ls) (h1 : mc2 + mc' ≤ mc) (h2 : ms2 + ms' ≤ ms)
    (kk : ∀ r T, Post r T → zJx E lv mc2 ms2 M cc (pc + 3) ls (r.toList ++ rest) T Q) : W p l e R s m args below meth c H locs cells slots (Q.2 below args s mcT msT) (F0 m pc lsA stk) := by
  intro T hT X
  obtain ⟨v, st₀, t, T', L, h0, X', hLf, e1, e2, ⟨r, S', hv, hrp, hq⟩, stp⟩ := hr T hT X
  cases hv
  have C2 : zCx E M cc lv mc2 ms2 p R s m meth c (locs ++ L) (cells + mc') (slots + ms') mcT msT := by
    obtain ⟨c1, c2, c3, c4, c5, c6, c7, c8, c9, c10, c11, c12, c13⟩ := zC_made C h1 h2
    exact ⟨c1, c2, c3, c4, c5, c6, c7, c8, c9, c10, c11, c12, fun q hq => by
      rcases List.mem_append.mp hq with h | h
      · exact c13 q h
      · exact hLf q h⟩
  obtain ⟨t2, a1, b1⟩ := kk r S' hq p l e R s m args below meth c T'.heap (locs ++ L) (cells + mc') (slots + ms') mcT msT lsA hz C2 (by rw [e1]; exact hrp) hL T' rfl X'
  refine ⟨t2, stp t2 ?_, b1⟩
  have e3 : (r.map (ztv E)).toList ++ rest.map (ztv E) = (r.toList ++ rest).map (ztv E) := by cases r <;> rfl
  rw [e3]
  exact a1
theorem x_callV {M' : zMI} {cc' : ByteArray} {i n lv' mc' ms' mc2 ms2 : Nat} {As : List zV} {Post : Option zV → zM → Prop} {b t : Nat} (hs : zSp E lv' mc' ms' M' cc' (zR b :: As) S Post) (hd : decode cc pc = .ok (.invokevirtual i, 3)) (hl : Cond.methodLink M.1 i M'.2.1 ∈ lw_tbl) (hm : zMK M' cc' n) (hv : zMV M'.2.1) (ht : t < 13) (htc : M'.2.1.cls = zC t) (hb : zkd S b = (t + 1, 0)) (hlv : lv' + 1 ≤ lv) (hn : As.length = n) (hst : (As.reverse ++ zR b :: rest) = st) (hw : (rest.map zcat).sum ≤ 8) (h1 : mc2 + mc' ≤ mc) (h2 : ms2 + ms' ≤ ms)
    (kk : ∀ r T, Post r T → zJx E lv mc2 ms2 M cc (pc + 3) ls (r.toList ++ rest) T Q) : zJx E lv mc ms M cc pc ls st S Q := by
  intro p l e R s m args below meth c H locs cells slots mcT msT lsA hz C hP hL
  subst hst
  have hT := C.2.2.2.2.2.2.2.1
  obtain ⟨k1, k2, k3, k4, k5, k6, k7, k8, k9, k10⟩ := zCB (args := args) (mc' := mc') (ms' := ms') (i := i) C hm hlv
  refine zbackx hz (a := ((zR b :: As).map (ztv E)).toArray) ?_ C hL h1 h2 kk
  obtain ⟨b0, cell, q1, q2, q3, -⟩ := hP.2.2.1 b t 0 hb ht
  have hfc := (hT.2.1.1 t _ (zcl t ht)).2.1
  have est : ((As.reverse ++ zR b :: rest).map (ztv E)) = (As.map (ztv E)).reverse ++ .ref (zad E b) :: rest.map (ztv E) := by
    rw [List.map_append, List.map_cons, List.map_reverse]
    show _ ++ zrv (zb E) b :: _ = _
    rw [zrv_ad b0]
  have eav : ((zR b :: As).map (ztv E)).toArray = (Value.ref (zad E b) :: As.map (ztv E)).toArray := by
    rw [List.map_cons]
    show (zrv (zb E) b :: _).toArray = _
    rw [zrv_ad b0]
  rw [est, eav]
  exact va_runV (C := zC t) (n := n) (bytes := cc') (maxL := M'.2.2.1) (ret := M'.2.2.2) (Ts := []) ⟨C.1, C.2.1, C.2.2.1, C.2.2.2.2.2.2.1, fun w h => by simp at h⟩ (hs l) ⟨⟨k1, k2, k3, k4, k5, k6, k7, k8, k9, k10, hT.w hl rfl _⟩, hT.w hv.1 rfl _, by rw [← htc]; exact hT.w hv.2 rfl _⟩ ⟨zblind, ⟨cell, q1, by rw [q3]; rfl, by rw [q2]; exact hfc⟩, fun U hU hW => ⟨by rw [← eav], hT.moved hW, by rw [hU]; exact hP⟩⟩ rfl (by rw [List.length_map]; exact hn) (by rw [hL.1]) rfl (lv_room (zroom rest hw)) hd (zcells C h1 h2)
theorem x_callI {M' : zMI} {cc' : ByteArray} {i n lv' mc' ms' mc2 ms2 : Nat} {As : List zV} {Post : Option zV → zM → Prop} {b : Nat} (hs : zSp E lv' mc' ms' M' cc' (zR b :: As) S Post) (hd : decode cc pc = .ok (.invokespecial i, 3)) (hl : Cond.methodLink M.1 i M'.2.1 ∈ lw_tbl) (hm : zMK M' cc' n) (hr : M'.2.2.2 = none) (hi : M'.2.1.name = "<init>") (hv : Cond.instanceMethod M'.2.1 ∈ lw_tbl) (hb : 0 < b) (hlv : lv' + 1 ≤ lv) (hn : As.length = n) (hst : (As.reverse ++ zR b :: rest) = st) (hw : (rest.map zcat).sum ≤ 8) (h1 : mc2 + mc' ≤ mc) (h2 : ms2 + ms' ≤ ms)
    (kk : ∀ r T, Post r T → zJx E lv mc2 ms2 M cc (pc + 3) ls (r.toList ++ rest) T Q) : zJx E lv mc ms M cc pc ls st S Q := by
  intro p l e R s m args below meth c H locs cells slots mcT msT lsA hz C hP hL
  subst hst
  have hT := C.2.2.2.2.2.2.2.1
  obtain ⟨k1, k2, k3, k4, k5, k6, k7, k8, k9, k10⟩ := zCB (args := args) (mc' := mc') (ms' := ms') (i := i) C hm hlv
  refine zbackx hz (a := ((zR b :: As).map (ztv E)).toArray) ?_ C hL h1 h2 kk
  have est : ((As.reverse ++ zR b :: rest).map (ztv E)) = (As.map (ztv E)).reverse ++ .ref (zad E b) :: rest.map (ztv E) := by
    rw [List.map_append, List.map_cons, List.map_reverse]
    show _ ++ zrv (zb E) b :: _ = _
    rw [zrv_ad hb]
  have eav : ((zR b :: As).map (ztv E)).toArray = (Value.ref (zad E b) :: As.map (ztv E)).toArray := by
    rw [List.map_cons]
    show (zrv (zb E) b :: _).toArray = _
    rw [zrv_ad hb]
  rw [est, eav]
  rw [hr] at k6 k7
  exact va_runI (n := n) (bytes := cc') (maxL := M'.2.2.1) (Ts := []) ⟨C.1, C.2.1, C.2.2.1, C.2.2.2.2.2.2.1, fun w h => by simp at h⟩ (hs l) ⟨⟨k1, k2, k3, k4, k5, k6, k7, k8, k9, k10, hT.w hl rfl _⟩, hi, hT.w hv rfl _⟩ ⟨zblind, fun U hU hW => ⟨by rw [← eav], hT.moved hW, by rw [hU]; exact hP⟩⟩ rfl (by rw [List.length_map]; exact hn) (by rw [hL.1]) rfl (lv_room (zroom rest hw)) hd (zcells C h1 h2)
theorem x_callS {M' : zMI} {cc' : ByteArray} {i n lv' mc' ms' mc2 ms2 : Nat} {As : List zV} {Post : Option zV → zM → Prop}  (hs : zSp E lv' mc' ms' M' cc' As S Post) (hd : decode cc pc = .ok (.invokestatic i, 3)) (hl : Cond.methodLink M.1 i M'.2.1 ∈ lw_tbl) (hm : zMK M' cc' n) (hv : Cond.static M'.2.1 ∈ lw_tbl) (hlv : lv' + 1 ≤ lv) (hn : As.length = n) (hst : (As.reverse ++ rest) = st) (hw : (rest.map zcat).sum ≤ 8) (h1 : mc2 + mc' ≤ mc) (h2 : ms2 + ms' ≤ ms)
    (kk : ∀ r T, Post r T → zJx E lv mc2 ms2 M cc (pc + 3) ls (r.toList ++ rest) T Q) : zJx E lv mc ms M cc pc ls st S Q := by
  intro p l e R s m args below meth c H locs cells slots mcT msT lsA hz C hP hL
  subst hst
  have hT := C.2.2.2.2.2.2.2.1
  obtain ⟨k1, k2, k3, k4, k5, k6, k7, k8, k9, k10⟩ := zCB (args := args) (mc' := mc') (ms' := ms') (i := i) C hm hlv
  refine zbackx hz (a := (As.map (ztv E)).toArray) ?_ C hL h1 h2 kk
  rw [List.map_append, List.map_reverse]
  exact va_runS (n := n) (bytes := cc') (maxL := M'.2.2.1) (ret := M'.2.2.2) (Ts := []) ⟨C.1, C.2.1, C.2.2.1, C.2.2.2.2.2.2.1, fun w h => by simp at h⟩ (hs l) ⟨⟨k1, k2, k3, k4, k5, k6, k7, k8, k9, k10, hT.w hl rfl _⟩, hT.w hv rfl _⟩ ⟨zblind, fun U hU hW => ⟨rfl, hT.moved hW, by rw [hU]; exact hP⟩⟩ rfl (by rw [List.length_map]; exact hn) (by rw [hL.1]) rfl (lv_room (zroom rest hw)) hd (zcells C h1 h2)
theorem x_callSN {M' : zMI} {cc' : ByteArray} {i n lv' mc' ms' mc2 ms2 : Nat} {As : List zV} {Post : Option zV → zM → Prop} {host : String} (hs : zSp E lv' mc' ms' M' cc' As S Post) (hd : decode cc pc = .ok (.invokestatic i, 3)) (hl : Cond.methodLinkNest M.1 i M'.2.1 host ∈ lw_tbl) (hm : zMK M' cc' n) (hv : Cond.static M'.2.1 ∈ lw_tbl) (hlv : lv' + 1 ≤ lv) (hn : As.length = n) (hst : (As.reverse ++ rest) = st) (hw : (rest.map zcat).sum ≤ 8) (h1 : mc2 + mc' ≤ mc) (h2 : ms2 + ms' ≤ ms)
    (kk : ∀ r T, Post r T → zJx E lv mc2 ms2 M cc (pc + 3) ls (r.toList ++ rest) T Q) : zJx E lv mc ms M cc pc ls st S Q := by
  intro p l e R s m args below meth c H locs cells slots mcT msT lsA hz C hP hL
  subst hst
  have hT := C.2.2.2.2.2.2.2.1
  obtain ⟨k1, k2, k3, k4, k5, k6, k7, k8, k9, k10⟩ := zCB (args := args) (mc' := mc') (ms' := ms') (i := i) C hm hlv
  refine zbackx hz (a := (As.map (ztv E)).toArray) ?_ C hL h1 h2 kk
  rw [List.map_append, List.map_reverse]
  exact va_runSN (n := n) (bytes := cc') (maxL := M'.2.2.1) (ret := M'.2.2.2) (host := host) (Ts := []) ⟨C.1, C.2.1, C.2.2.1, C.2.2.2.2.2.2.1, fun w h => by simp at h⟩ (hs l) ⟨⟨⟨k1, k2, k3, k4, k5, k6⟩, k7, k8, k9, k10, hT.w hl rfl _⟩, hT.w hv rfl _, trivial⟩ ⟨zblind, fun U hU hW => ⟨rfl, hT.moved hW, by rw [hU]; exact hP⟩⟩ rfl (by rw [List.length_map]; exact hn) (by rw [hL.1]) rfl (lv_room (zroom rest hw)) hd (zcells C h1 h2)
theorem x_objInit {i a : Nat} (hd : decode cc pc = .ok (.invokespecial i, 3)) (hf : zOI M.1 i) (ha : 0 < a) (hlv : 1 ≤ lv) (hw : (st.map zcat).sum ≤ 8) (kk : zJx E lv mc ms M cc (pc + 3) ls st S Q) : zJx E lv mc ms M cc pc ls (zR a :: st) S Q := by
  intro p l e R s m args below meth c H locs cells slots mcT msT lsA hz C hP hL
  have hT := C.2.2.2.2.2.2.2.1
  obtain ⟨o1, o2, o3⟩ := hf
  have hr := lv_room (m := m) (pc := pc) (ls := lsA) (rest := []) (zroom (E := E) st hw)
  obtain ⟨-, -, -, -, -, -, -, -, c9, c10, -⟩ := id C
  show W _ _ _ _ _ _ _ _ _ _ _ _ _ _ _ (F0 m pc lsA (zrv (zb E) a :: st.map (ztv E)))
  rw [zrv_ad ha]
  exact W.objInit C.1 C.2.1 C.2.2.2.2.2.2.1 (hT.w o1 rfl _) (hT.w o2 rfl _) (hT.w o3 rfl _) rfl (by rw [C.2.2.1]; exact hL.1) rfl hd (by omega) (by
    have h : 2 * (F0 m pc lsA (Value.ref (zb E + (a - 1)) :: st.map (ztv E))).monitorRoom + ((st.map (ztv E)).map fun v => v.category).sum ≤ 8 := lv_room (zroom st hw)
    omega) (kk p l e R s m args below meth c H locs cells slots mcT msT lsA hz C hP hL)
theorem x_swC {E : zE} {lv mc ms : Nat} {M : zMI} {cc : ByteArray} {pc : Nat} {ls : List (Option zV)} {st : List zV} {S : zM} {Q : zQx} {dflt lo hi : Int} {offs : Array Int} {len : Nat} {x k : Int32} {off : Int} {tgt : Nat} (hd : decode cc pc = .ok (.tableswitch dflt lo hi offs, len)) (h1 : ¬ k.toInt < lo) (h2 : ¬ hi < k.toInt) (ho : offs[(k.toInt - lo).toNat]? = some off) (ht : (pc : Int) + off = (tgt : Int)) (y : x = k → zJx E lv mc ms M cc tgt ls st S Q) (n : x ≠ k → zJx E lv mc ms M cc pc ls (zI x :: st) S Q) : zJx E lv mc ms M cc pc ls (zI x :: st) S Q := by
  by_cases e : x = k
  · have y1 := y e
    subst e
    exact x_swIn hd h1 h2 ho ht y1
  · exact n e
theorem x_swD {E : zE} {lv mc ms : Nat} {M : zMI} {cc : ByteArray} {pc : Nat} {ls : List (Option zV)} {st : List zV} {S : zM} {Q : zQx} {dflt hi : Int} {offs : Array Int} {len n : Nat} {x : Int32} {tgt : Nat} (hd : decode cc pc = .ok (.tableswitch dflt 0 hi offs, len)) (hn : hi + 1 = (n : Int)) (hx : ∀ k, k < n → x ≠ nI k) (ht : (pc : Int) + dflt = (tgt : Int)) (y : zJx E lv mc ms M cc tgt ls st S Q) : zJx E lv mc ms M cc pc ls (zI x :: st) S Q := by
  refine x_swOut hd ?_ ht y
  by_cases h0 : x.toInt < 0
  · exact Or.inl h0
  · refine Or.inr (Int.not_le.mp (fun h => ?_))
    refine hx x.toInt.toNat (by omega) ?_
    apply Int32.toInt_inj.mp
    have := Int32.toInt_lt x
    rw [nI_toInt (by omega)]
    omega
theorem x_getIv {i t k a : Nat} {v : Int32} (hd : decode cc pc = .ok (.getfield i, 3)) (hf : zFL M.1 i t k) (hy : zty t k = .int ∨ zty t k = .boolean) (ha : zkd S a = (t + 1, 0)) (hv : zgI S a k = v) (kk : zJx E lv mc ms M cc (pc + 3) ls (zI v :: st) S Q) : zJx E lv mc ms M cc pc ls (zR a :: st) S Q := x_getI hd hf hy ha (hv ▸ kk)
theorem x_getLv {i t k a : Nat} {v : Int64} (hd : decode cc pc = .ok (.getfield i, 3)) (hf : zFL M.1 i t k) (hy : zty t k = .long) (ha : zkd S a = (t + 1, 0)) (hv : zgL S a k = v) (kk : zJx E lv mc ms M cc (pc + 3) ls (zL v :: st) S Q) : zJx E lv mc ms M cc pc ls (zR a :: st) S Q := x_getL hd hf hy ha (hv ▸ kk)
theorem x_getPv {i t k a b : Nat} (hd : decode cc pc = .ok (.getfield i, 3)) (hf : zFL M.1 i t k) (hy : (∃ n, zty t k = .object n) ∨ ∃ n, zty t k = .array n) (ha : zkd S a = (t + 1, 0)) (hv : zgP S a k = b) (kk : zJx E lv mc ms M cc (pc + 3) ls (zR b :: st) S Q) : zJx E lv mc ms M cc pc ls (zR a :: st) S Q := x_getP hd hf hy ha (hv ▸ kk)
theorem x_ialdn {a n i : Nat} {v : Int32} (hd : decode cc pc = .ok (.iaload, 1)) (ha : zkd S a = (14, n)) (hi : i < n) (hn : n ≤ 65536) (hv : zgI S a i = v) (kk : zJx E lv mc ms M cc (pc + 1) ls (zI v :: st) S Q) : zJx E lv mc ms M cc pc ls (zI (nI i) :: zR a :: st) S Q := x_iald hd ha (vp_in_nI hi (by omega)) (by rw [nI_clamp (by omega), hv]; exact kk)
theorem x_laldn {a n i : Nat} {v : Int64} (hd : decode cc pc = .ok (.laload, 1)) (ha : zkd S a = (15, n)) (hi : i < n) (hn : n ≤ 65536) (hv : zgL S a i = v) (kk : zJx E lv mc ms M cc (pc + 1) ls (zL v :: st) S Q) : zJx E lv mc ms M cc pc ls (zI (nI i) :: zR a :: st) S Q := x_lald hd ha (vp_in_nI hi (by omega)) (by rw [nI_clamp (by omega), hv]; exact kk)
theorem x_zaldn {a n i : Nat} {v : Int32} (hd : decode cc pc = .ok (.baload, 1)) (ha : zkd S a = (16, n)) (hi : i < n) (hn : n ≤ 65536) (hv : zgI S a i = v) (kk : zJx E lv mc ms M cc (pc + 1) ls (zI v :: st) S Q) : zJx E lv mc ms M cc pc ls (zI (nI i) :: zR a :: st) S Q := x_zald hd ha (vp_in_nI hi (by omega)) (by rw [nI_clamp (by omega), hv]; exact kk)
theorem x_aaldn {a n i j b : Nat} (hd : decode cc pc = .ok (.aaload, 1)) (ha : zkd S a = (14 + j, n)) (hj : j = 3 ∨ j = 4) (hi : i < n) (hn : n ≤ 65536) (hv : zgP S a i = b) (kk : zJx E lv mc ms M cc (pc + 1) ls (zR b :: st) S Q) : zJx E lv mc ms M cc pc ls (zI (nI i) :: zR a :: st) S Q := x_aald hd ha hj (vp_in_nI hi (by omega)) (by rw [nI_clamp (by omega), hv]; exact kk)
theorem x_iastn {a n i : Nat} {v : Int32} (hd : decode cc pc = .ok (.iastore, 1)) (ha : zkd S a = (14, n)) (hi : i < n) (hn : n ≤ 65536) (kk : zJx E lv mc ms M cc (pc + 1) ls st (zwI S a i v) Q) : zJx E lv mc ms M cc pc ls (zI v :: zI (nI i) :: zR a :: st) S Q := x_iast hd ha (vp_in_nI hi (by omega)) (by rw [nI_clamp (by omega)]; exact kk)
theorem x_lastn {a n i : Nat} {v : Int64} (hd : decode cc pc = .ok (.lastore, 1)) (ha : zkd S a = (15, n)) (hi : i < n) (hn : n ≤ 65536) (kk : zJx E lv mc ms M cc (pc + 1) ls st (zwL S a i v) Q) : zJx E lv mc ms M cc pc ls (zL v :: zI (nI i) :: zR a :: st) S Q := x_last hd ha (vp_in_nI hi (by omega)) (by rw [nI_clamp (by omega)]; exact kk)
theorem x_zastn {a n i : Nat} {v : Int32} (hd : decode cc pc = .ok (.bastore, 1)) (ha : zkd S a = (16, n)) (hi : i < n) (hn : n ≤ 65536) (hx : v = 0 ∨ v = 1) (kk : zJx E lv mc ms M cc (pc + 1) ls st (zwI S a i v) Q) : zJx E lv mc ms M cc pc ls (zI v :: zI (nI i) :: zR a :: st) S Q := x_zast hd ha (vp_in_nI hi (by omega)) hx (by rw [nI_clamp (by omega)]; exact kk)
theorem x_eqI {x y : Int32} (h : x = y) (kk : zJx E lv mc ms M cc pc ls (zI y :: st) S Q) : zJx E lv mc ms M cc pc ls (zI x :: st) S Q := h ▸ kk
theorem x_eqL {x y : Int64} (h : x = y) (kk : zJx E lv mc ms M cc pc ls (zL y :: st) S Q) : zJx E lv mc ms M cc pc ls (zL x :: st) S Q := h ▸ kk
theorem x_eqS {S' : zM} (h : S = S') (kk : zJx E lv mc ms M cc pc ls st S' Q) : zJx E lv mc ms M cc pc ls st S Q := h ▸ kk
end ZRULESX

theorem zv_iconst {m : ZMD} {d : Nat} {Q : Option Value → ZMem → Prop} {pc pc' : Nat} {L : ZLc} {st : List Value} {M : ZMem} {n : Int} {v : Int32} (hd : decode m.2.1 pc = .ok (.iconst n, 1)) (hp : pc + 1 = pc') (hv : Int32.ofInt n = v) (k : ZV m d Q pc' L (.int v :: st) M) : ZV m d Q pc L (st) M := by
  subst hp
  intro G cI cQ ad A p l e s mi args below meth c H locs ls S hr hlk hK hW hS hL
  exact lv_iconst S.1 S.2.1 hd hv (k G cI cQ ad A p l e s mi args below meth c H locs ls S hr hlk hK hW hS hL)
theorem zv_bipush {m : ZMD} {d : Nat} {Q : Option Value → ZMem → Prop} {pc pc' : Nat} {L : ZLc} {st : List Value} {M : ZMem} {n : Int} {v : Int32} (hd : decode m.2.1 pc = .ok (.bipush n, 2)) (hp : pc + 2 = pc') (hv : (Int8.ofInt n).toInt32 = v) (k : ZV m d Q pc' L (.int v :: st) M) : ZV m d Q pc L (st) M := by
  subst hp
  intro G cI cQ ad A p l e s mi args below meth c H locs ls S hr hlk hK hW hS hL
  exact lv_bipush S.1 S.2.1 hd hv (k G cI cQ ad A p l e s mi args below meth c H locs ls S hr hlk hK hW hS hL)
theorem zv_sipush {m : ZMD} {d : Nat} {Q : Option Value → ZMem → Prop} {pc pc' : Nat} {L : ZLc} {st : List Value} {M : ZMem} {n : Int} {v : Int32} (hd : decode m.2.1 pc = .ok (.sipush n, 3)) (hp : pc + 3 = pc') (hv : (Int16.ofInt n).toInt32 = v) (k : ZV m d Q pc' L (.int v :: st) M) : ZV m d Q pc L (st) M := by
  subst hp
  intro G cI cQ ad A p l e s mi args below meth c H locs ls S hr hlk hK hW hS hL
  exact lv_sipush S.1 S.2.1 hd hv (k G cI cQ ad A p l e s mi args below meth c H locs ls S hr hlk hK hW hS hL)
theorem zv_lconst {m : ZMD} {d : Nat} {Q : Option Value → ZMem → Prop} {pc pc' : Nat} {L : ZLc} {st : List Value} {M : ZMem} {n : Fin 2} {v : Int64} (hd : decode m.2.1 pc = .ok (.lconst n, 1)) (hp : pc + 1 = pc') (hv : Int64.ofNat (n : Nat) = v) (k : ZV m d Q pc' L (.long v :: st) M) : ZV m d Q pc L (st) M := by
  subst hp
  intro G cI cQ ad A p l e s mi args below meth c H locs ls S hr hlk hK hW hS hL
  exact lv_lconst S.1 S.2.1 hd hv (k G cI cQ ad A p l e s mi args below meth c H locs ls S hr hlk hK hW hS hL)
theorem zv_iadd {m : ZMD} {d : Nat} {Q : Option Value → ZMem → Prop} {pc pc' : Nat} {L : ZLc} {st : List Value} {M : ZMem} {x y : Int32} (hd : decode m.2.1 pc = .ok (.iadd, 1)) (hp : pc + 1 = pc')  (k : ZV m d Q pc' L (.int (x + y) :: st) M) : ZV m d Q pc L (.int y :: .int x :: st) M := by
  subst hp
  intro G cI cQ ad A p l e s mi args below meth c H locs ls S hr hlk hK hW hS hL
  exact lv_iadd S.1 S.2.1 hd (k G cI cQ ad A p l e s mi args below meth c H locs ls S hr hlk hK hW hS hL)
theorem zv_isub {m : ZMD} {d : Nat} {Q : Option Value → ZMem → Prop} {pc pc' : Nat} {L : ZLc} {st : List Value} {M : ZMem} {x y : Int32} (hd : decode m.2.1 pc = .ok (.isub, 1)) (hp : pc + 1 = pc')  (k : ZV m d Q pc' L (.int (x - y) :: st) M) : ZV m d Q pc L (.int y :: .int x :: st) M := by
  subst hp
  intro G cI cQ ad A p l e s mi args below meth c H locs ls S hr hlk hK hW hS hL
  exact lv_isub S.1 S.2.1 hd (k G cI cQ ad A p l e s mi args below meth c H locs ls S hr hlk hK hW hS hL)
theorem zv_imul {m : ZMD} {d : Nat} {Q : Option Value → ZMem → Prop} {pc pc' : Nat} {L : ZLc} {st : List Value} {M : ZMem} {x y : Int32} (hd : decode m.2.1 pc = .ok (.imul, 1)) (hp : pc + 1 = pc')  (k : ZV m d Q pc' L (.int (x * y) :: st) M) : ZV m d Q pc L (.int y :: .int x :: st) M := by
  subst hp
  intro G cI cQ ad A p l e s mi args below meth c H locs ls S hr hlk hK hW hS hL
  exact lv_imul S.1 S.2.1 hd (k G cI cQ ad A p l e s mi args below meth c H locs ls S hr hlk hK hW hS hL)
theorem zv_iand {m : ZMD} {d : Nat} {Q : Option Value → ZMem → Prop} {pc pc' : Nat} {L : ZLc} {st : List Value} {M : ZMem} {x y : Int32} (hd : decode m.2.1 pc = .ok (.iand, 1)) (hp : pc + 1 = pc')  (k : ZV m d Q pc' L (.int (x &&& y) :: st) M) : ZV m d Q pc L (.int y :: .int x :: st) M := by
  subst hp
  intro G cI cQ ad A p l e s mi args below meth c H locs ls S hr hlk hK hW hS hL
  exact lv_iand S.1 S.2.1 hd (k G cI cQ ad A p l e s mi args below meth c H locs ls S hr hlk hK hW hS hL)
theorem zv_ior {m : ZMD} {d : Nat} {Q : Option Value → ZMem → Prop} {pc pc' : Nat} {L : ZLc} {st : List Value} {M : ZMem} {x y : Int32} (hd : decode m.2.1 pc = .ok (.ior, 1)) (hp : pc + 1 = pc')  (k : ZV m d Q pc' L (.int (x ||| y) :: st) M) : ZV m d Q pc L (.int y :: .int x :: st) M := by
  subst hp
  intro G cI cQ ad A p l e s mi args below meth c H locs ls S hr hlk hK hW hS hL
  exact lv_ior S.1 S.2.1 hd (k G cI cQ ad A p l e s mi args below meth c H locs ls S hr hlk hK hW hS hL)
theorem zv_ixor {m : ZMD} {d : Nat} {Q : Option Value → ZMem → Prop} {pc pc' : Nat} {L : ZLc} {st : List Value} {M : ZMem} {x y : Int32} (hd : decode m.2.1 pc = .ok (.ixor, 1)) (hp : pc + 1 = pc')  (k : ZV m d Q pc' L (.int (x ^^^ y) :: st) M) : ZV m d Q pc L (.int y :: .int x :: st) M := by
  subst hp
  intro G cI cQ ad A p l e s mi args below meth c H locs ls S hr hlk hK hW hS hL
  exact lv_ixor S.1 S.2.1 hd (k G cI cQ ad A p l e s mi args below meth c H locs ls S hr hlk hK hW hS hL)
theorem zv_ishl {m : ZMD} {d : Nat} {Q : Option Value → ZMem → Prop} {pc pc' : Nat} {L : ZLc} {st : List Value} {M : ZMem} {x y : Int32} (hd : decode m.2.1 pc = .ok (.ishl, 1)) (hp : pc + 1 = pc')  (k : ZV m d Q pc' L (.int (x <<< (y &&& 31)) :: st) M) : ZV m d Q pc L (.int y :: .int x :: st) M := by
  subst hp
  intro G cI cQ ad A p l e s mi args below meth c H locs ls S hr hlk hK hW hS hL
  exact lv_ishl S.1 S.2.1 hd (k G cI cQ ad A p l e s mi args below meth c H locs ls S hr hlk hK hW hS hL)
theorem zv_ishr {m : ZMD} {d : Nat} {Q : Option Value → ZMem → Prop} {pc pc' : Nat} {L : ZLc} {st : List Value} {M : ZMem} {x y : Int32} (hd : decode m.2.1 pc = .ok (.ishr, 1)) (hp : pc + 1 = pc')  (k : ZV m d Q pc' L (.int (x >>> (y &&& 31)) :: st) M) : ZV m d Q pc L (.int y :: .int x :: st) M := by
  subst hp
  intro G cI cQ ad A p l e s mi args below meth c H locs ls S hr hlk hK hW hS hL
  exact lv_ishr S.1 S.2.1 hd (k G cI cQ ad A p l e s mi args below meth c H locs ls S hr hlk hK hW hS hL)
theorem zv_idiv {m : ZMD} {d : Nat} {Q : Option Value → ZMem → Prop} {pc pc' : Nat} {L : ZLc} {st : List Value} {M : ZMem} {x y : Int32} (hd : decode m.2.1 pc = .ok (.idiv, 1)) (hp : pc + 1 = pc') (hne : ¬ y = 0) (k : ZV m d Q pc' L (.int (x / y) :: st) M) : ZV m d Q pc L (.int y :: .int x :: st) M := by
  subst hp
  intro G cI cQ ad A p l e s mi args below meth c H locs ls S hr hlk hK hW hS hL
  exact lv_idiv S.1 S.2.1 hd hne (k G cI cQ ad A p l e s mi args below meth c H locs ls S hr hlk hK hW hS hL)
theorem zv_irem {m : ZMD} {d : Nat} {Q : Option Value → ZMem → Prop} {pc pc' : Nat} {L : ZLc} {st : List Value} {M : ZMem} {x y : Int32} (hd : decode m.2.1 pc = .ok (.irem, 1)) (hp : pc + 1 = pc') (hne : ¬ y = 0) (k : ZV m d Q pc' L (.int (x - x / y * y) :: st) M) : ZV m d Q pc L (.int y :: .int x :: st) M := by
  subst hp
  intro G cI cQ ad A p l e s mi args below meth c H locs ls S hr hlk hK hW hS hL
  exact lv_irem S.1 S.2.1 hd hne (k G cI cQ ad A p l e s mi args below meth c H locs ls S hr hlk hK hW hS hL)
theorem zv_iushr {m : ZMD} {d : Nat} {Q : Option Value → ZMem → Prop} {pc pc' : Nat} {L : ZLc} {st : List Value} {M : ZMem} {x y : Int32} (hd : decode m.2.1 pc = .ok (.iushr, 1)) (hp : pc + 1 = pc')  (k : ZV m d Q pc' L (.int ((x.toUInt32 >>> (y.toUInt32 &&& Int32.toUInt32 31)).toInt32) :: st) M) : ZV m d Q pc L (.int y :: .int x :: st) M := by
  subst hp
  intro G cI cQ ad A p l e s mi args below meth c H locs ls S hr hlk hK hW hS hL
  exact lv_iushr S.1 S.2.1 hd rfl (k G cI cQ ad A p l e s mi args below meth c H locs ls S hr hlk hK hW hS hL)
theorem zv_ineg {m : ZMD} {d : Nat} {Q : Option Value → ZMem → Prop} {pc pc' : Nat} {L : ZLc} {st : List Value} {M : ZMem} {x : Int32} (hd : decode m.2.1 pc = .ok (.ineg, 1)) (hp : pc + 1 = pc')  (k : ZV m d Q pc' L (.int (-x) :: st) M) : ZV m d Q pc L (.int x :: st) M := by
  subst hp
  intro G cI cQ ad A p l e s mi args below meth c H locs ls S hr hlk hK hW hS hL
  exact lv_ineg S.1 S.2.1 hd (k G cI cQ ad A p l e s mi args below meth c H locs ls S hr hlk hK hW hS hL)
theorem zv_i2l {m : ZMD} {d : Nat} {Q : Option Value → ZMem → Prop} {pc pc' : Nat} {L : ZLc} {st : List Value} {M : ZMem} {x : Int32} (hd : decode m.2.1 pc = .ok (.i2l, 1)) (hp : pc + 1 = pc')  (k : ZV m d Q pc' L (.long x.toInt64 :: st) M) : ZV m d Q pc L (.int x :: st) M := by
  subst hp
  intro G cI cQ ad A p l e s mi args below meth c H locs ls S hr hlk hK hW hS hL
  exact lv_i2l S.1 S.2.1 hd rfl (k G cI cQ ad A p l e s mi args below meth c H locs ls S hr hlk hK hW hS hL)
theorem zv_i2c {m : ZMD} {d : Nat} {Q : Option Value → ZMem → Prop} {pc pc' : Nat} {L : ZLc} {st : List Value} {M : ZMem} {x : Int32} (hd : decode m.2.1 pc = .ok (.i2c, 1)) (hp : pc + 1 = pc')  (k : ZV m d Q pc' L (.int ((x.toUInt32 % 65536).toInt32) :: st) M) : ZV m d Q pc L (.int x :: st) M := by
  subst hp
  intro G cI cQ ad A p l e s mi args below meth c H locs ls S hr hlk hK hW hS hL
  exact lv_i2c S.1 S.2.1 hd rfl (k G cI cQ ad A p l e s mi args below meth c H locs ls S hr hlk hK hW hS hL)
theorem zv_i2b {m : ZMD} {d : Nat} {Q : Option Value → ZMem → Prop} {pc pc' : Nat} {L : ZLc} {st : List Value} {M : ZMem} {x : Int32} (hd : decode m.2.1 pc = .ok (.i2b, 1)) (hp : pc + 1 = pc')  (k : ZV m d Q pc' L (.int (x.toInt8.toInt32) :: st) M) : ZV m d Q pc L (.int x :: st) M := by
  subst hp
  intro G cI cQ ad A p l e s mi args below meth c H locs ls S hr hlk hK hW hS hL
  exact lv_i2b S.1 S.2.1 hd rfl (k G cI cQ ad A p l e s mi args below meth c H locs ls S hr hlk hK hW hS hL)
theorem zv_ladd {m : ZMD} {d : Nat} {Q : Option Value → ZMem → Prop} {pc pc' : Nat} {L : ZLc} {st : List Value} {M : ZMem} {x y : Int64} (hd : decode m.2.1 pc = .ok (.ladd, 1)) (hp : pc + 1 = pc')  (k : ZV m d Q pc' L (.long (x + y) :: st) M) : ZV m d Q pc L (.long y :: .long x :: st) M := by
  subst hp
  intro G cI cQ ad A p l e s mi args below meth c H locs ls S hr hlk hK hW hS hL
  exact lv_ladd S.1 S.2.1 hd (k G cI cQ ad A p l e s mi args below meth c H locs ls S hr hlk hK hW hS hL)
theorem zv_lsub {m : ZMD} {d : Nat} {Q : Option Value → ZMem → Prop} {pc pc' : Nat} {L : ZLc} {st : List Value} {M : ZMem} {x y : Int64} (hd : decode m.2.1 pc = .ok (.lsub, 1)) (hp : pc + 1 = pc')  (k : ZV m d Q pc' L (.long (x - y) :: st) M) : ZV m d Q pc L (.long y :: .long x :: st) M := by
  subst hp
  intro G cI cQ ad A p l e s mi args below meth c H locs ls S hr hlk hK hW hS hL
  exact lv_lsub S.1 S.2.1 hd (k G cI cQ ad A p l e s mi args below meth c H locs ls S hr hlk hK hW hS hL)
theorem zv_lmul {m : ZMD} {d : Nat} {Q : Option Value → ZMem → Prop} {pc pc' : Nat} {L : ZLc} {st : List Value} {M : ZMem} {x y : Int64} (hd : decode m.2.1 pc = .ok (.lmul, 1)) (hp : pc + 1 = pc')  (k : ZV m d Q pc' L (.long (x * y) :: st) M) : ZV m d Q pc L (.long y :: .long x :: st) M := by
  subst hp
  intro G cI cQ ad A p l e s mi args below meth c H locs ls S hr hlk hK hW hS hL
  exact lv_lmul S.1 S.2.1 hd (k G cI cQ ad A p l e s mi args below meth c H locs ls S hr hlk hK hW hS hL)
theorem zv_ldiv {m : ZMD} {d : Nat} {Q : Option Value → ZMem → Prop} {pc pc' : Nat} {L : ZLc} {st : List Value} {M : ZMem} {x y : Int64} (hd : decode m.2.1 pc = .ok (.ldiv, 1)) (hp : pc + 1 = pc') (hne : ¬ y = 0) (k : ZV m d Q pc' L (.long (x / y) :: st) M) : ZV m d Q pc L (.long y :: .long x :: st) M := by
  subst hp
  intro G cI cQ ad A p l e s mi args below meth c H locs ls S hr hlk hK hW hS hL
  exact lv_ldiv S.1 S.2.1 hd hne (k G cI cQ ad A p l e s mi args below meth c H locs ls S hr hlk hK hW hS hL)
theorem zv_lrem {m : ZMD} {d : Nat} {Q : Option Value → ZMem → Prop} {pc pc' : Nat} {L : ZLc} {st : List Value} {M : ZMem} {x y : Int64} (hd : decode m.2.1 pc = .ok (.lrem, 1)) (hp : pc + 1 = pc') (hne : ¬ y = 0) (k : ZV m d Q pc' L (.long (x - x / y * y) :: st) M) : ZV m d Q pc L (.long y :: .long x :: st) M := by
  subst hp
  intro G cI cQ ad A p l e s mi args below meth c H locs ls S hr hlk hK hW hS hL
  exact lv_lrem S.1 S.2.1 hd hne (k G cI cQ ad A p l e s mi args below meth c H locs ls S hr hlk hK hW hS hL)
theorem zv_lcmp {m : ZMD} {d : Nat} {Q : Option Value → ZMem → Prop} {pc pc' : Nat} {L : ZLc} {st : List Value} {M : ZMem} {x y : Int64} (hd : decode m.2.1 pc = .ok (.lcmp, 1)) (hp : pc + 1 = pc')  (k : ZV m d Q pc' L (.int (lg_cmp x y) :: st) M) : ZV m d Q pc L (.long y :: .long x :: st) M := by
  subst hp
  intro G cI cQ ad A p l e s mi args below meth c H locs ls S hr hlk hK hW hS hL
  exact W.lcmp S.1 S.2.1 hd (k G cI cQ ad A p l e s mi args below meth c H locs ls S hr hlk hK hW hS hL)
theorem zv_dup {m : ZMD} {d : Nat} {Q : Option Value → ZMem → Prop} {pc pc' : Nat} {L : ZLc} {st : List Value} {M : ZMem} {v : Value} (hd : decode m.2.1 pc = .ok (.dup, 1)) (hp : pc + 1 = pc') (hv : v.category = 1) (k : ZV m d Q pc' L (v :: v :: st) M) : ZV m d Q pc L (v :: st) M := by
  subst hp
  intro G cI cQ ad A p l e s mi args below meth c H locs ls S hr hlk hK hW hS hL
  exact lv_dup S.1 S.2.1 hd ((zc_cat ad v).trans hv) (k G cI cQ ad A p l e s mi args below meth c H locs ls S hr hlk hK hW hS hL)
theorem zv_pop {m : ZMD} {d : Nat} {Q : Option Value → ZMem → Prop} {pc pc' : Nat} {L : ZLc} {st : List Value} {M : ZMem} {v : Value} (hd : decode m.2.1 pc = .ok (.pop, 1)) (hp : pc + 1 = pc') (hv : v.category = 1) (k : ZV m d Q pc' L (st) M) : ZV m d Q pc L (v :: st) M := by
  subst hp
  intro G cI cQ ad A p l e s mi args below meth c H locs ls S hr hlk hK hW hS hL
  exact lv_pop S.1 S.2.1 hd ((zc_cat ad v).trans hv) (k G cI cQ ad A p l e s mi args below meth c H locs ls S hr hlk hK hW hS hL)
theorem zv_dup2 {m : ZMD} {d : Nat} {Q : Option Value → ZMem → Prop} {pc pc' : Nat} {L : ZLc} {st : List Value} {M : ZMem} {v w : Value} (hd : decode m.2.1 pc = .ok (.dup2, 1)) (hp : pc + 1 = pc') (hv : v.category = 1) (hw : w.category = 1) (k : ZV m d Q pc' L (v :: w :: v :: w :: st) M) : ZV m d Q pc L (v :: w :: st) M := by
  subst hp
  intro G cI cQ ad A p l e s mi args below meth c H locs ls S hr hlk hK hW hS hL
  exact lv_dup2_11 S.1 S.2.1 hd ((zc_cat ad v).trans hv) ((zc_cat ad w).trans hw) (k G cI cQ ad A p l e s mi args below meth c H locs ls S hr hlk hK hW hS hL)
theorem zv_ldc {m : ZMD} {d : Nat} {Q : Option Value → ZMem → Prop} {pc pc' : Nat} {L : ZLc} {st : List Value} {M : ZMem} {ix : Nat} {v : Int32} (hd : decode m.2.1 pc = .ok (.ldc ix, 2)) (hp : pc + 2 = pc') (hw : Cond.constant m.1.cls ix v ∈ zgt) (k : ZV m d Q pc' L (.int v :: st) M) : ZV m d Q pc L (st) M := by
  subst hp
  intro G cI cQ ad A p l e s mi args below meth c H locs ls S hr hlk hK hW hS hL
  exact lv_ldc S.1 S.2.1 S.2.2.2.1 (S.2.2.2.2 _ hw) hd (k G cI cQ ad A p l e s mi args below meth c H locs ls S hr hlk hK hW hS hL)
theorem zv_ldcw {m : ZMD} {d : Nat} {Q : Option Value → ZMem → Prop} {pc pc' : Nat} {L : ZLc} {st : List Value} {M : ZMem} {ix : Nat} {v : Int32} (hd : decode m.2.1 pc = .ok (.ldc_w ix, 3)) (hp : pc + 3 = pc') (hw : Cond.constant m.1.cls ix v ∈ zgt) (k : ZV m d Q pc' L (.int v :: st) M) : ZV m d Q pc L (st) M := by
  subst hp
  intro G cI cQ ad A p l e s mi args below meth c H locs ls S hr hlk hK hW hS hL
  exact lv_ldcw S.1 S.2.1 S.2.2.2.1 (S.2.2.2.2 _ hw) hd (k G cI cQ ad A p l e s mi args below meth c H locs ls S hr hlk hK hW hS hL)
theorem zv_ldc2 {m : ZMD} {d : Nat} {Q : Option Value → ZMem → Prop} {pc pc' : Nat} {L : ZLc} {st : List Value} {M : ZMem} {ix : Nat} {v : Int64} (hd : decode m.2.1 pc = .ok (.ldc2_w ix, 3)) (hp : pc + 3 = pc') (hw : Cond.constantLong m.1.cls ix v ∈ zgt) (k : ZV m d Q pc' L (.long v :: st) M) : ZV m d Q pc L (st) M := by
  subst hp
  intro G cI cQ ad A p l e s mi args below meth c H locs ls S hr hlk hK hW hS hL
  exact lv_ldc2 S.1 S.2.1 S.2.2.2.1 (S.2.2.2.2 _ hw) hd (k G cI cQ ad A p l e s mi args below meth c H locs ls S hr hlk hK hW hS hL)
theorem zv_goto {m : ZMD} {d : Nat} {Q : Option Value → ZMem → Prop} {pc pc' : Nat} {L : ZLc} {st : List Value} {M : ZMem} {off : Int} (hd : decode m.2.1 pc = .ok (.goto off, 3)) (ht : (pc : Int) + off = (pc' : Int)) (k : ZV m d Q pc' L st M) : ZV m d Q pc L st M := by
  intro G cI cQ ad A p l e s mi args below meth c H locs ls S hr hlk hK hW hS hL
  exact lv_goto S.1 S.2.1 hd ht (k G cI cQ ad A p l e s mi args below meth c H locs ls S hr hlk hK hW hS hL)
theorem zv_if_eq {m : ZMD} {d : Nat} {Q : Option Value → ZMem → Prop} {pc pc' : Nat} {L : ZLc} {st : List Value} {M : ZMem} {tgt : Nat} {x : Int32} {off : Int} (hd : decode m.2.1 pc = .ok (.ifCond .eq off, 3)) (hp : pc + 3 = pc') (ht : (pc : Int) + off = (tgt : Int)) (kt : x = 0 → ZV m d Q tgt L st M) (kf : ¬ x = 0 → ZV m d Q pc' L st M) : ZV m d Q pc L (.int x :: st) M := by
  subst hp
  intro G cI cQ ad A p l e s mi args below meth c H locs ls S hr hlk hK hW hS hL
  exact lv_if_eq S.1 S.2.1 hd ht (fun h => kt h G cI cQ ad A p l e s mi args below meth c H locs ls S hr hlk hK hW hS hL) (fun h => kf h G cI cQ ad A p l e s mi args below meth c H locs ls S hr hlk hK hW hS hL)
theorem zv_icmp_eq {m : ZMD} {d : Nat} {Q : Option Value → ZMem → Prop} {pc pc' : Nat} {L : ZLc} {st : List Value} {M : ZMem} {tgt : Nat} {x y : Int32} {off : Int} (hd : decode m.2.1 pc = .ok (.if_icmp .eq off, 3)) (hp : pc + 3 = pc') (ht : (pc : Int) + off = (tgt : Int)) (kt : x = y → ZV m d Q tgt L st M) (kf : ¬ x = y → ZV m d Q pc' L st M) : ZV m d Q pc L (.int y :: .int x :: st) M := by
  subst hp
  intro G cI cQ ad A p l e s mi args below meth c H locs ls S hr hlk hK hW hS hL
  exact lv_icmp_eq S.1 S.2.1 hd ht (fun h => kt h G cI cQ ad A p l e s mi args below meth c H locs ls S hr hlk hK hW hS hL) (fun h => kf h G cI cQ ad A p l e s mi args below meth c H locs ls S hr hlk hK hW hS hL)
theorem zv_if_ne {m : ZMD} {d : Nat} {Q : Option Value → ZMem → Prop} {pc pc' : Nat} {L : ZLc} {st : List Value} {M : ZMem} {tgt : Nat} {x : Int32} {off : Int} (hd : decode m.2.1 pc = .ok (.ifCond .ne off, 3)) (hp : pc + 3 = pc') (ht : (pc : Int) + off = (tgt : Int)) (kt : ¬ x = 0 → ZV m d Q tgt L st M) (kf : x = 0 → ZV m d Q pc' L st M) : ZV m d Q pc L (.int x :: st) M := by
  subst hp
  intro G cI cQ ad A p l e s mi args below meth c H locs ls S hr hlk hK hW hS hL
  exact lv_if_ne S.1 S.2.1 hd ht (fun h => kt h G cI cQ ad A p l e s mi args below meth c H locs ls S hr hlk hK hW hS hL) (fun h => kf h G cI cQ ad A p l e s mi args below meth c H locs ls S hr hlk hK hW hS hL)
theorem zv_icmp_ne {m : ZMD} {d : Nat} {Q : Option Value → ZMem → Prop} {pc pc' : Nat} {L : ZLc} {st : List Value} {M : ZMem} {tgt : Nat} {x y : Int32} {off : Int} (hd : decode m.2.1 pc = .ok (.if_icmp .ne off, 3)) (hp : pc + 3 = pc') (ht : (pc : Int) + off = (tgt : Int)) (kt : ¬ x = y → ZV m d Q tgt L st M) (kf : x = y → ZV m d Q pc' L st M) : ZV m d Q pc L (.int y :: .int x :: st) M := by
  subst hp
  intro G cI cQ ad A p l e s mi args below meth c H locs ls S hr hlk hK hW hS hL
  exact lv_icmp_ne S.1 S.2.1 hd ht (fun h => kt h G cI cQ ad A p l e s mi args below meth c H locs ls S hr hlk hK hW hS hL) (fun h => kf h G cI cQ ad A p l e s mi args below meth c H locs ls S hr hlk hK hW hS hL)
theorem zv_if_lt {m : ZMD} {d : Nat} {Q : Option Value → ZMem → Prop} {pc pc' : Nat} {L : ZLc} {st : List Value} {M : ZMem} {tgt : Nat} {x : Int32} {off : Int} (hd : decode m.2.1 pc = .ok (.ifCond .lt off, 3)) (hp : pc + 3 = pc') (ht : (pc : Int) + off = (tgt : Int)) (kt : x < 0 → ZV m d Q tgt L st M) (kf : ¬ x < 0 → ZV m d Q pc' L st M) : ZV m d Q pc L (.int x :: st) M := by
  subst hp
  intro G cI cQ ad A p l e s mi args below meth c H locs ls S hr hlk hK hW hS hL
  exact lv_if_lt S.1 S.2.1 hd ht (fun h => kt h G cI cQ ad A p l e s mi args below meth c H locs ls S hr hlk hK hW hS hL) (fun h => kf h G cI cQ ad A p l e s mi args below meth c H locs ls S hr hlk hK hW hS hL)
theorem zv_icmp_lt {m : ZMD} {d : Nat} {Q : Option Value → ZMem → Prop} {pc pc' : Nat} {L : ZLc} {st : List Value} {M : ZMem} {tgt : Nat} {x y : Int32} {off : Int} (hd : decode m.2.1 pc = .ok (.if_icmp .lt off, 3)) (hp : pc + 3 = pc') (ht : (pc : Int) + off = (tgt : Int)) (kt : x < y → ZV m d Q tgt L st M) (kf : ¬ x < y → ZV m d Q pc' L st M) : ZV m d Q pc L (.int y :: .int x :: st) M := by
  subst hp
  intro G cI cQ ad A p l e s mi args below meth c H locs ls S hr hlk hK hW hS hL
  exact lv_icmp_lt S.1 S.2.1 hd ht (fun h => kt h G cI cQ ad A p l e s mi args below meth c H locs ls S hr hlk hK hW hS hL) (fun h => kf h G cI cQ ad A p l e s mi args below meth c H locs ls S hr hlk hK hW hS hL)
theorem zv_if_ge {m : ZMD} {d : Nat} {Q : Option Value → ZMem → Prop} {pc pc' : Nat} {L : ZLc} {st : List Value} {M : ZMem} {tgt : Nat} {x : Int32} {off : Int} (hd : decode m.2.1 pc = .ok (.ifCond .ge off, 3)) (hp : pc + 3 = pc') (ht : (pc : Int) + off = (tgt : Int)) (kt : 0 ≤ x → ZV m d Q tgt L st M) (kf : ¬ 0 ≤ x → ZV m d Q pc' L st M) : ZV m d Q pc L (.int x :: st) M := by
  subst hp
  intro G cI cQ ad A p l e s mi args below meth c H locs ls S hr hlk hK hW hS hL
  exact lv_if_ge S.1 S.2.1 hd ht (fun h => kt h G cI cQ ad A p l e s mi args below meth c H locs ls S hr hlk hK hW hS hL) (fun h => kf h G cI cQ ad A p l e s mi args below meth c H locs ls S hr hlk hK hW hS hL)
theorem zv_icmp_ge {m : ZMD} {d : Nat} {Q : Option Value → ZMem → Prop} {pc pc' : Nat} {L : ZLc} {st : List Value} {M : ZMem} {tgt : Nat} {x y : Int32} {off : Int} (hd : decode m.2.1 pc = .ok (.if_icmp .ge off, 3)) (hp : pc + 3 = pc') (ht : (pc : Int) + off = (tgt : Int)) (kt : y ≤ x → ZV m d Q tgt L st M) (kf : ¬ y ≤ x → ZV m d Q pc' L st M) : ZV m d Q pc L (.int y :: .int x :: st) M := by
  subst hp
  intro G cI cQ ad A p l e s mi args below meth c H locs ls S hr hlk hK hW hS hL
  exact lv_icmp_ge S.1 S.2.1 hd ht (fun h => kt h G cI cQ ad A p l e s mi args below meth c H locs ls S hr hlk hK hW hS hL) (fun h => kf h G cI cQ ad A p l e s mi args below meth c H locs ls S hr hlk hK hW hS hL)
theorem zv_if_gt {m : ZMD} {d : Nat} {Q : Option Value → ZMem → Prop} {pc pc' : Nat} {L : ZLc} {st : List Value} {M : ZMem} {tgt : Nat} {x : Int32} {off : Int} (hd : decode m.2.1 pc = .ok (.ifCond .gt off, 3)) (hp : pc + 3 = pc') (ht : (pc : Int) + off = (tgt : Int)) (kt : 0 < x → ZV m d Q tgt L st M) (kf : ¬ 0 < x → ZV m d Q pc' L st M) : ZV m d Q pc L (.int x :: st) M := by
  subst hp
  intro G cI cQ ad A p l e s mi args below meth c H locs ls S hr hlk hK hW hS hL
  exact lv_if_gt S.1 S.2.1 hd ht (fun h => kt h G cI cQ ad A p l e s mi args below meth c H locs ls S hr hlk hK hW hS hL) (fun h => kf h G cI cQ ad A p l e s mi args below meth c H locs ls S hr hlk hK hW hS hL)
theorem zv_icmp_gt {m : ZMD} {d : Nat} {Q : Option Value → ZMem → Prop} {pc pc' : Nat} {L : ZLc} {st : List Value} {M : ZMem} {tgt : Nat} {x y : Int32} {off : Int} (hd : decode m.2.1 pc = .ok (.if_icmp .gt off, 3)) (hp : pc + 3 = pc') (ht : (pc : Int) + off = (tgt : Int)) (kt : y < x → ZV m d Q tgt L st M) (kf : ¬ y < x → ZV m d Q pc' L st M) : ZV m d Q pc L (.int y :: .int x :: st) M := by
  subst hp
  intro G cI cQ ad A p l e s mi args below meth c H locs ls S hr hlk hK hW hS hL
  exact lv_icmp_gt S.1 S.2.1 hd ht (fun h => kt h G cI cQ ad A p l e s mi args below meth c H locs ls S hr hlk hK hW hS hL) (fun h => kf h G cI cQ ad A p l e s mi args below meth c H locs ls S hr hlk hK hW hS hL)
theorem zv_if_le {m : ZMD} {d : Nat} {Q : Option Value → ZMem → Prop} {pc pc' : Nat} {L : ZLc} {st : List Value} {M : ZMem} {tgt : Nat} {x : Int32} {off : Int} (hd : decode m.2.1 pc = .ok (.ifCond .le off, 3)) (hp : pc + 3 = pc') (ht : (pc : Int) + off = (tgt : Int)) (kt : x ≤ 0 → ZV m d Q tgt L st M) (kf : ¬ x ≤ 0 → ZV m d Q pc' L st M) : ZV m d Q pc L (.int x :: st) M := by
  subst hp
  intro G cI cQ ad A p l e s mi args below meth c H locs ls S hr hlk hK hW hS hL
  exact lv_if_le S.1 S.2.1 hd ht (fun h => kt h G cI cQ ad A p l e s mi args below meth c H locs ls S hr hlk hK hW hS hL) (fun h => kf h G cI cQ ad A p l e s mi args below meth c H locs ls S hr hlk hK hW hS hL)
theorem zv_icmp_le {m : ZMD} {d : Nat} {Q : Option Value → ZMem → Prop} {pc pc' : Nat} {L : ZLc} {st : List Value} {M : ZMem} {tgt : Nat} {x y : Int32} {off : Int} (hd : decode m.2.1 pc = .ok (.if_icmp .le off, 3)) (hp : pc + 3 = pc') (ht : (pc : Int) + off = (tgt : Int)) (kt : x ≤ y → ZV m d Q tgt L st M) (kf : ¬ x ≤ y → ZV m d Q pc' L st M) : ZV m d Q pc L (.int y :: .int x :: st) M := by
  subst hp
  intro G cI cQ ad A p l e s mi args below meth c H locs ls S hr hlk hK hW hS hL
  exact lv_icmp_le S.1 S.2.1 hd ht (fun h => kt h G cI cQ ad A p l e s mi args below meth c H locs ls S hr hlk hK hW hS hL) (fun h => kf h G cI cQ ad A p l e s mi args below meth c H locs ls S hr hlk hK hW hS hL)
theorem zv_tableIn {m : ZMD} {d : Nat} {Q : Option Value → ZMem → Prop} {pc pc' : Nat} {L : ZLc} {st : List Value} {M : ZMem} {dflt lo hi off : Int} {offs : Array Int} {len : Nat} {x : Int32} (hd : decode m.2.1 pc = .ok (.tableswitch dflt lo hi offs, len)) (h1 : ¬ x.toInt < lo) (h2 : ¬ hi < x.toInt) (ho : offs[(x.toInt - lo).toNat]? = some off) (ht : (pc : Int) + off = (pc' : Int)) (k : ZV m d Q pc' L st M) : ZV m d Q pc L (.int x :: st) M := by
  intro G cI cQ ad A p l e s mi args below meth c H locs ls S hr hlk hK hW hS hL
  exact lv_tableIn S.1 S.2.1 hd h1 h2 ho ht (k G cI cQ ad A p l e s mi args below meth c H locs ls S hr hlk hK hW hS hL)
theorem zv_tableOut {m : ZMD} {d : Nat} {Q : Option Value → ZMem → Prop} {pc pc' : Nat} {L : ZLc} {st : List Value} {M : ZMem} {dflt lo hi : Int} {offs : Array Int} {len : Nat} {x : Int32} (hd : decode m.2.1 pc = .ok (.tableswitch dflt lo hi offs, len)) (h : x.toInt < lo ∨ hi < x.toInt) (ht : (pc : Int) + dflt = (pc' : Int)) (k : ZV m d Q pc' L st M) : ZV m d Q pc L (.int x :: st) M := by
  intro G cI cQ ad A p l e s mi args below meth c H locs ls S hr hlk hK hW hS hL
  exact lv_tableOut S.1 S.2.1 hd h ht (k G cI cQ ad A p l e s mi args below meth c H locs ls S hr hlk hK hW hS hL)
theorem zv_lookup {m : ZMD} {d : Nat} {Q : Option Value → ZMem → Prop} {pc pc' : Nat} {L : ZLc} {st : List Value} {M : ZMem} {dflt off : Int} {ps : Array (Int × Int)} {len : Nat} {x : Int32} (hd : decode m.2.1 pc = .ok (.lookupswitch dflt ps, len)) (hs : (ps.toList.zip (ps.toList.drop 1)).all (fun (a, next) => a.1 < next.1) = true) (ho : Op.lookupswitch.offset ps.toList dflt x.toInt = off) (ht : (pc : Int) + off = (pc' : Int)) (k : ZV m d Q pc' L st M) : ZV m d Q pc L (.int x :: st) M := by
  intro G cI cQ ad A p l e s mi args below meth c H locs ls S hr hlk hK hW hS hL
  exact lv_lookup S.1 S.2.1 hd hs ho ht (k G cI cQ ad A p l e s mi args below meth c H locs ls S hr hlk hK hW hS hL)
theorem zv_iload {m : ZMD} {d : Nat} {Q : Option Value → ZMem → Prop} {pc pc' : Nat} {L : ZLc} {st : List Value} {M : ZMem} {i : Nat} {x : Int32} (hd : decode m.2.1 pc = .ok (.iload i, 2)) (hp : pc + 2 = pc') (hl : L[i]? = some (some (.int x))) (k : ZV m d Q pc' L (.int x :: st) M) : ZV m d Q pc L st M := by
  subst hp
  intro G cI cQ ad A p l e s mi args below meth c H locs ls S hr hlk hK hW hS hL
  exact lv_iload (x := x) S.1 S.2.1 hd (hL.2.2 _ _ (zmL_at hl)) (k G cI cQ ad A p l e s mi args below meth c H locs ls S hr hlk hK hW hS hL)
theorem zv_iload_n {m : ZMD} {d : Nat} {Q : Option Value → ZMem → Prop} {pc pc' : Nat} {L : ZLc} {st : List Value} {M : ZMem} {i : Fin 4} {x : Int32} (hd : decode m.2.1 pc = .ok (.iload_n i, 1)) (hp : pc + 1 = pc') (hl : L[(i : Nat)]? = some (some (.int x))) (k : ZV m d Q pc' L (.int x :: st) M) : ZV m d Q pc L st M := by
  subst hp
  intro G cI cQ ad A p l e s mi args below meth c H locs ls S hr hlk hK hW hS hL
  exact lv_iload_n (x := x) S.1 S.2.1 hd rfl (hL.2.2 _ _ (zmL_at hl)) (k G cI cQ ad A p l e s mi args below meth c H locs ls S hr hlk hK hW hS hL)
theorem zv_istore {m : ZMD} {d : Nat} {Q : Option Value → ZMem → Prop} {pc pc' : Nat} {L : ZLc} {st : List Value} {M : ZMem} {i : Nat} {x : Int32} (hd : decode m.2.1 pc = .ok (.istore i, 2)) (hp : pc + 2 = pc') (hn : i < m.2.2.1) (k : ZV m d Q pc' (zst1 L i (.int x)) st M) : ZV m d Q pc L (.int x :: st) M := by
  subst hp
  intro G cI cQ ad A p l e s mi args below meth c H locs ls S hr hlk hK hW hS hL
  exact lv_istore (x := x) S.1 S.2.1 hd hL.has hn rfl (fun ls' h' => k G cI cQ ad A p l e s mi args below meth c H locs ls' S hr hlk hK hW hS (by rw [zmL_st1]; exact zst1_of h'))
theorem zv_istore_n {m : ZMD} {d : Nat} {Q : Option Value → ZMem → Prop} {pc pc' : Nat} {L : ZLc} {st : List Value} {M : ZMem} {i : Fin 4} {x : Int32} (hd : decode m.2.1 pc = .ok (.istore_n i, 1)) (hp : pc + 1 = pc') (hn : (i : Nat) < m.2.2.1) (k : ZV m d Q pc' (zst1 L i (.int x)) st M) : ZV m d Q pc L (.int x :: st) M := by
  subst hp
  intro G cI cQ ad A p l e s mi args below meth c H locs ls S hr hlk hK hW hS hL
  exact lv_istore_n (x := x) S.1 S.2.1 hd rfl hL.has hn rfl (fun ls' h' => k G cI cQ ad A p l e s mi args below meth c H locs ls' S hr hlk hK hW hS (by rw [zmL_st1]; exact zst1_of h'))
theorem zv_lload {m : ZMD} {d : Nat} {Q : Option Value → ZMem → Prop} {pc pc' : Nat} {L : ZLc} {st : List Value} {M : ZMem} {i : Nat} {x : Int64} (hd : decode m.2.1 pc = .ok (.lload i, 2)) (hp : pc + 2 = pc') (hl : L[i]? = some (some (.long x))) (k : ZV m d Q pc' L (.long x :: st) M) : ZV m d Q pc L st M := by
  subst hp
  intro G cI cQ ad A p l e s mi args below meth c H locs ls S hr hlk hK hW hS hL
  exact lv_lload (x := x) S.1 S.2.1 hd (hL.2.2 _ _ (zmL_at hl)) (k G cI cQ ad A p l e s mi args below meth c H locs ls S hr hlk hK hW hS hL)
theorem zv_lload_n {m : ZMD} {d : Nat} {Q : Option Value → ZMem → Prop} {pc pc' : Nat} {L : ZLc} {st : List Value} {M : ZMem} {i : Fin 4} {x : Int64} (hd : decode m.2.1 pc = .ok (.lload_n i, 1)) (hp : pc + 1 = pc') (hl : L[(i : Nat)]? = some (some (.long x))) (k : ZV m d Q pc' L (.long x :: st) M) : ZV m d Q pc L st M := by
  subst hp
  intro G cI cQ ad A p l e s mi args below meth c H locs ls S hr hlk hK hW hS hL
  exact lv_lload_n (x := x) S.1 S.2.1 hd rfl (hL.2.2 _ _ (zmL_at hl)) (k G cI cQ ad A p l e s mi args below meth c H locs ls S hr hlk hK hW hS hL)
theorem zv_lstore {m : ZMD} {d : Nat} {Q : Option Value → ZMem → Prop} {pc pc' : Nat} {L : ZLc} {st : List Value} {M : ZMem} {i : Nat} {x : Int64} (hd : decode m.2.1 pc = .ok (.lstore i, 2)) (hp : pc + 2 = pc') (hn : i + 1 < m.2.2.1) (k : ZV m d Q pc' (zst2 L i (.long x)) st M) : ZV m d Q pc L (.long x :: st) M := by
  subst hp
  intro G cI cQ ad A p l e s mi args below meth c H locs ls S hr hlk hK hW hS hL
  exact lv_lstore (x := x) S.1 S.2.1 hd hL.has hn rfl (fun ls' h' => k G cI cQ ad A p l e s mi args below meth c H locs ls' S hr hlk hK hW hS (by rw [zmL_st2]; exact zst2_of h'))
theorem zv_lstore_n {m : ZMD} {d : Nat} {Q : Option Value → ZMem → Prop} {pc pc' : Nat} {L : ZLc} {st : List Value} {M : ZMem} {i : Fin 4} {x : Int64} (hd : decode m.2.1 pc = .ok (.lstore_n i, 1)) (hp : pc + 1 = pc') (hn : (i : Nat) + 1 < m.2.2.1) (k : ZV m d Q pc' (zst2 L i (.long x)) st M) : ZV m d Q pc L (.long x :: st) M := by
  subst hp
  intro G cI cQ ad A p l e s mi args below meth c H locs ls S hr hlk hK hW hS hL
  exact lv_lstore_n (x := x) S.1 S.2.1 hd rfl hL.has hn rfl (fun ls' h' => k G cI cQ ad A p l e s mi args below meth c H locs ls' S hr hlk hK hW hS (by rw [zmL_st2]; exact zst2_of h'))
theorem zv_aload {m : ZMD} {d : Nat} {Q : Option Value → ZMem → Prop} {pc pc' : Nat} {L : ZLc} {st : List Value} {M : ZMem} {i : Nat} {x : Nat} (hd : decode m.2.1 pc = .ok (.aload i, 2)) (hp : pc + 2 = pc') (hl : L[i]? = some (some (.ref x))) (k : ZV m d Q pc' L (.ref x :: st) M) : ZV m d Q pc L st M := by
  subst hp
  intro G cI cQ ad A p l e s mi args below meth c H locs ls S hr hlk hK hW hS hL
  exact lv_aload (x := ad x) S.1 S.2.1 hd (hL.2.2 _ _ (zmL_at hl)) (k G cI cQ ad A p l e s mi args below meth c H locs ls S hr hlk hK hW hS hL)
theorem zv_aload_n {m : ZMD} {d : Nat} {Q : Option Value → ZMem → Prop} {pc pc' : Nat} {L : ZLc} {st : List Value} {M : ZMem} {i : Fin 4} {x : Nat} (hd : decode m.2.1 pc = .ok (.aload_n i, 1)) (hp : pc + 1 = pc') (hl : L[(i : Nat)]? = some (some (.ref x))) (k : ZV m d Q pc' L (.ref x :: st) M) : ZV m d Q pc L st M := by
  subst hp
  intro G cI cQ ad A p l e s mi args below meth c H locs ls S hr hlk hK hW hS hL
  exact lv_aload_n (x := ad x) S.1 S.2.1 hd rfl (hL.2.2 _ _ (zmL_at hl)) (k G cI cQ ad A p l e s mi args below meth c H locs ls S hr hlk hK hW hS hL)
theorem zv_astore {m : ZMD} {d : Nat} {Q : Option Value → ZMem → Prop} {pc pc' : Nat} {L : ZLc} {st : List Value} {M : ZMem} {i : Nat} {x : Nat} (hd : decode m.2.1 pc = .ok (.astore i, 2)) (hp : pc + 2 = pc') (hn : i < m.2.2.1) (k : ZV m d Q pc' (zst1 L i (.ref x)) st M) : ZV m d Q pc L (.ref x :: st) M := by
  subst hp
  intro G cI cQ ad A p l e s mi args below meth c H locs ls S hr hlk hK hW hS hL
  exact lv_astore (x := ad x) S.1 S.2.1 hd hL.has hn rfl (fun ls' h' => k G cI cQ ad A p l e s mi args below meth c H locs ls' S hr hlk hK hW hS (by rw [zmL_st1]; exact zst1_of h'))
theorem zv_astore_n {m : ZMD} {d : Nat} {Q : Option Value → ZMem → Prop} {pc pc' : Nat} {L : ZLc} {st : List Value} {M : ZMem} {i : Fin 4} {x : Nat} (hd : decode m.2.1 pc = .ok (.astore_n i, 1)) (hp : pc + 1 = pc') (hn : (i : Nat) < m.2.2.1) (k : ZV m d Q pc' (zst1 L i (.ref x)) st M) : ZV m d Q pc L (.ref x :: st) M := by
  subst hp
  intro G cI cQ ad A p l e s mi args below meth c H locs ls S hr hlk hK hW hS hL
  exact lv_astore_n (x := ad x) S.1 S.2.1 hd rfl hL.has hn rfl (fun ls' h' => k G cI cQ ad A p l e s mi args below meth c H locs ls' S hr hlk hK hW hS (by rw [zmL_st1]; exact zst1_of h'))
theorem zv_iinc {m : ZMD} {d : Nat} {Q : Option Value → ZMem → Prop} {pc pc' : Nat} {L : ZLc} {st : List Value} {M : ZMem} {i : Nat} {n : Int} {x w : Int32} (hd : decode m.2.1 pc = .ok (.iinc i n, 3)) (hp : pc + 3 = pc') (hl : L[i]? = some (some (.int x))) (hw : Int32.ofInt n = w) (hn : i < m.2.2.1) (k : ZV m d Q pc' (zst1 L i (.int (x + w))) st M) : ZV m d Q pc L st M := by
  subst hp; subst hw
  intro G cI cQ ad A p l e s mi args below meth c H locs ls S hr hlk hK hW hS hL
  obtain ⟨j, hj⟩ := List.getElem?_of_mem (zlist_mem (q := (i, .int x)).mpr (zmL_at (ad := ad) hl))
  exact lv_iinc S.1 S.2.1 hd hL.has hj rfl hn rfl (fun ls' h' => k G cI cQ ad A p l e s mi args below meth c H locs ls' S hr hlk hK hW hS (by rw [zmL_st1]; exact zst1_of h'))
/-- a field's link: (class, pool entry) names slot k of class ci -/
def zfl (own : String) (idx ci k : Nat) : Prop := ∃ (C : String) (TT : u_T) (N : Nat), zcls[ci]? = some (C, TT, N) ∧ k < N ∧ (∀ w ∈ u_ws C TT N, w ∈ zgt) ∧ (Cond.fieldLink own idx (TT k).1 (TT k).2.1 (TT k).2.2.1 ∈ zgt ∨ ∃ host, Cond.fieldLinkNest own idx (TT k).1 (TT k).2.1 (TT k).2.2.1 host ∈ zNW)
/-- what a store into that slot wants -/
def zfp (ci k : Nat) (ty : FieldType) : Prop := ∃ (C : String) (TT : u_T) (N : Nat) (ty0 : Nat → FieldType), zcls[ci]? = some (C, TT, N) ∧ (∀ k, k < N → parseFieldDescriptor (TT k).2.2.1 = some (ty0 k)) ∧ (∀ a, a < N → ∀ b, b < N → a ≠ b → (TT a).2.1 ≠ (TT b).2.1) ∧ (TT k).2.2.2 = false ∧ parseFieldDescriptor (TT k).2.2.1 = some ty
theorem zv_getI {m : ZMD} {d : Nat} {Q : Option Value → ZMem → Prop} {pc pc' : Nat} {L : ZLc} {st : List Value} {M : ZMem} {idx ci j b : Nat} {fs : List (Option Nat)} (hd : decode m.2.1 pc = .ok (.getfield idx, 3)) (hp : pc + 3 = pc') (hf : zfl m.1.cls idx ci j) (hb : zshL[b]? = some (.inr (.inl (ci, fs)))) (hk : fs[j]? = some none) (k : ZV m d Q pc' L (.int (M b j) :: st) M) : ZV m d Q pc L (.ref b :: st) M := by
  subst hp
  intro G cI cQ ad A p l e s mi args below meth c H locs ls S hr hlk hK hW hS hL
  obtain ⟨C, TT, N, h1, h2, h3, h4⟩ := hf
  rcases h4 with h4 | ⟨host, h4⟩
  · exact va_get (D := G) (T := TT) S.1 S.2.1 S.2.2.2.2 h3 S.2.2.2.1 hK.1 hW.1 b (zwl_at hb) h1 j h2 (S.2.2.2.2 _ h4) (fun _ h9 => h9) (zfs_n hk) hd (k G cI cQ ad A p l e s mi args below meth c H locs ls S hr hlk hK hW hS hL)
  · exact va_getN (D := G) (T := TT) S.1 S.2.1 S.2.2.2.2 h3 S.2.2.2.1 hK.1 hW.1 b (zwl_at hb) h1 j h2 (va_Nw.use rfl (hK.2.1 _ h4)) (fun _ h9 => h9) (zfs_n hk) hd (k G cI cQ ad A p l e s mi args below meth c H locs ls S hr hlk hK hW hS hL)
theorem zv_getR {m : ZMD} {d : Nat} {Q : Option Value → ZMem → Prop} {pc pc' : Nat} {L : ZLc} {st : List Value} {M : ZMem} {idx ci j b r : Nat} {fs : List (Option Nat)} (hd : decode m.2.1 pc = .ok (.getfield idx, 3)) (hp : pc + 3 = pc') (hf : zfl m.1.cls idx ci j) (hb : zshL[b]? = some (.inr (.inl (ci, fs)))) (hk : fs[j]? = some (some r)) (k : ZV m d Q pc' L (.ref r :: st) M) : ZV m d Q pc L (.ref b :: st) M := by
  subst hp
  intro G cI cQ ad A p l e s mi args below meth c H locs ls S hr hlk hK hW hS hL
  obtain ⟨C, TT, N, h1, h2, h3, h4⟩ := hf
  rcases h4 with h4 | ⟨host, h4⟩
  · exact va_get (D := G) (T := TT) S.1 S.2.1 S.2.2.2.2 h3 S.2.2.2.1 hK.1 hW.1 b (zwl_at hb) h1 j h2 (S.2.2.2.2 _ h4) (fun _ h9 => h9) (zfs_s hk) hd (k G cI cQ ad A p l e s mi args below meth c H locs ls S hr hlk hK hW hS hL)
  · exact va_getN (D := G) (T := TT) S.1 S.2.1 S.2.2.2.2 h3 S.2.2.2.1 hK.1 hW.1 b (zwl_at hb) h1 j h2 (va_Nw.use rfl (hK.2.1 _ h4)) (fun _ h9 => h9) (zfs_s hk) hd (k G cI cQ ad A p l e s mi args below meth c H locs ls S hr hlk hK hW hS hL)
theorem zv_putI {m : ZMD} {d : Nat} {Q : Option Value → ZMem → Prop} {pc pc' : Nat} {L : ZLc} {st : List Value} {M : ZMem} {idx ci j b : Nat} {fs : List (Option Nat)} {ty : FieldType} {v : Int32} (hd : decode m.2.1 pc = .ok (.putfield idx, 3)) (hp : pc + 3 = pc') (hf : zfl m.1.cls idx ci j) (hf2 : zfp ci j ty) (hb : zshL[b]? = some (.inr (.inl (ci, fs)))) (hk : fs[j]? = some none) (hn : narrow ty (.int v) = .int v) (hfit : fits ty (.int v) = true) (k : ZV m d Q pc' L st (zup M b j v)) : ZV m d Q pc L (.int v :: .ref b :: st) M := by
  subst hp
  intro G cI cQ ad A p l e s mi args below meth c H locs ls S hr hlk hK hW hS hL
  obtain ⟨C, TT, N, h1, h2, h3, h4⟩ := hf
  obtain ⟨C', TT', N', ty0, g1, g2, g3, g4, g5⟩ := hf2
  have e := h1.symm.trans g1
  cases e
  have key : ∀ (H1 : Heap) (locs1 : List Loc), va_P G zcls ((zwl ad cI cQ M).set b (ad b, .inr (ci, (zfs ad fs (M b)).set j (.int v)))) H1 → va_D A ((zwl ad cI cQ M).set b (ad b, .inr (ci, (zfs ad fs (M b)).set j (.int v)))) → va_S A s.heap H1 locs1 → W p l e (zrm d) s mi args below meth c H1 locs1 0 0 (MQ below (ZQ G cI cQ ad A Q) args s 0 0 A) (F0 mi (pc + 3) ls (st.map (zc ad))) := by
    intro H1 locs1 hP1 hD1 hS1
    rw [zfs_set hk] at hP1 hD1
    have ee : (zwl ad cI cQ M).set b (ad b, .inr (ci, zfs ad fs (upd (M b) j v))) = zwl ad cI cQ (zup M b j v) := zwl_set (f := upd (M b) j v) hb
    rw [ee] at hP1 hD1
    exact k G cI cQ ad A p l e s mi args below meth c H1 locs1 ls S hr hlk hK ⟨hP1, hD1⟩ hS1 hL
  have hl : j < (zfs ad fs (M b)).length := by rw [zfs_len]; exact (List.getElem?_eq_some_iff.mp hk).1
  rcases h4 with h4 | ⟨host, h4⟩
  · exact va_put (D := G) (T := TT) S.1 S.2.1 S.2.2.2.2 h3 ty0 g2 g3 S.2.2.2.1 hK.1 hW.1 hW.2 hS b (zwl_at hb) h1 j h2 (S.2.2.2.2 _ h4) (fun _ h9 => h9) g4 g5 hn hfit hl hd key
  · exact va_putN (D := G) (T := TT) S.1 S.2.1 S.2.2.2.2 h3 ty0 g2 g3 S.2.2.2.1 hK.1 hW.1 hW.2 hS b (zwl_at hb) h1 j h2 (va_Nw.use rfl (hK.2.1 _ h4)) (fun _ h9 => h9) g4 g5 hn hfit hl hd key
theorem zv_iaload {m : ZMD} {d : Nat} {Q : Option Value → ZMem → Prop} {pc pc' : Nat} {L : ZLc} {st : List Value} {M : ZMem} {b n : Nat} {i : Int32} (hd : decode m.2.1 pc = .ok (.iaload, 1)) (hp : pc + 1 = pc') (hb : zshL[b]? = some (.inl n)) (hi : vp_in i n) (k : ZV m d Q pc' L (.int (M b i.toNatClampNeg) :: st) M) : ZV m d Q pc L (.int i :: .ref b :: st) M := by
  subst hp
  intro G cI cQ ad A p l e s mi args below meth c H locs ls S hr hlk hK hW hS hL
  exact va_iald (D := G) S.1 S.2.1 hK.1 hW.1 b 0 (zwl_at hb) rfl hi hd (k G cI cQ ad A p l e s mi args below meth c H locs ls S hr hlk hK hW hS hL)
theorem zv_ialoadN {m : ZMD} {d : Nat} {Q : Option Value → ZMem → Prop} {pc pc' : Nat} {L : ZLc} {st : List Value} {M : ZMem} {b n i : Nat} (hd : decode m.2.1 pc = .ok (.iaload, 1)) (hp : pc + 1 = pc') (hb : zshL[b]? = some (.inl n)) (hn : n < 2 ^ 31) (hi : i < n) (k : ZV m d Q pc' L (.int (M b i) :: st) M) : ZV m d Q pc L (.int (nI i) :: .ref b :: st) M :=
  zv_iaload hd hp hb (vp_in_nI hi hn) (by rw [nI_clamp (Nat.lt_trans hi hn)]; exact k)
theorem zv_iastore {m : ZMD} {d : Nat} {Q : Option Value → ZMem → Prop} {pc pc' : Nat} {L : ZLc} {st : List Value} {M : ZMem} {b n : Nat} {i v : Int32} (hd : decode m.2.1 pc = .ok (.iastore, 1)) (hp : pc + 1 = pc') (hb : zshL[b]? = some (.inl n)) (hi : vp_in i n) (k : ZV m d Q pc' L st (zup M b i.toNatClampNeg v)) : ZV m d Q pc L (.int v :: .int i :: .ref b :: st) M := by
  subst hp
  intro G cI cQ ad A p l e s mi args below meth c H locs ls S hr hlk hK hW hS hL
  refine va_iast (D := G) S.1 S.2.1 hK.1 hW.1 hW.2 hS b 0 (zwl_at hb) rfl hi hd (fun H1 locs1 hP1 hD1 hS1 => ?_)
  have ee : (zwl ad cI cQ M).set b (ad b, .inl (cI, n, .inl (upd (M b) i.toNatClampNeg v))) = zwl ad cI cQ (zup M b i.toNatClampNeg v) := zwl_set (f := upd (M b) i.toNatClampNeg v) hb
  rw [ee] at hP1 hD1
  exact k G cI cQ ad A p l e s mi args below meth c H1 locs1 ls S hr hlk hK ⟨hP1, hD1⟩ hS1 hL
theorem zv_iastoreN {m : ZMD} {d : Nat} {Q : Option Value → ZMem → Prop} {pc pc' : Nat} {L : ZLc} {st : List Value} {M : ZMem} {b n i : Nat} {v : Int32} (hd : decode m.2.1 pc = .ok (.iastore, 1)) (hp : pc + 1 = pc') (hb : zshL[b]? = some (.inl n)) (hn : n < 2 ^ 31) (hi : i < n) (k : ZV m d Q pc' L st (zup M b i v)) : ZV m d Q pc L (.int v :: .int (nI i) :: .ref b :: st) M :=
  zv_iastore hd hp hb (vp_in_nI hi hn) (by rw [nI_clamp (Nat.lt_trans hi hn)]; exact k)
theorem zv_aaload {m : ZMD} {d : Nat} {Q : Option Value → ZMem → Prop} {pc pc' : Nat} {L : ZLc} {st : List Value} {M : ZMem} {b n r : Nat} {i : Int32} {f : Nat → Option Nat} (hd : decode m.2.1 pc = .ok (.aaload, 1)) (hp : pc + 1 = pc') (hb : zshL[b]? = some (.inr (.inr (n, f)))) (hi : vp_in i n) (hf : f i.toNatClampNeg = some r) (k : ZV m d Q pc' L (.ref r :: st) M) : ZV m d Q pc L (.int i :: .ref b :: st) M := by
  subst hp
  intro G cI cQ ad A p l e s mi args below meth c H locs ls S hr hlk hK hW hS hL
  refine va_aldq (D := G) S.1 S.2.1 hK.1 hW.1 b 1 (zwl_at hb) rfl hi hd ?_
  show W p l e (zrm d) s mi args below meth c H locs 0 0 (MQ below (ZQ G cI cQ ad A Q) args s 0 0 A) (F0 mi (pc + 1) ls (va_rf ((f i.toNatClampNeg).map ad) :: st.map (zc ad)))
  rw [hf]
  exact k G cI cQ ad A p l e s mi args below meth c H locs ls S hr hlk hK hW hS hL
theorem zv_alen {m : ZMD} {d : Nat} {Q : Option Value → ZMem → Prop} {pc pc' : Nat} {L : ZLc} {st : List Value} {M : ZMem} {b n : Nat} (hd : decode m.2.1 pc = .ok (.arraylength, 1)) (hp : pc + 1 = pc') (hb : zshL[b]? = some (.inl n)) (k : ZV m d Q pc' L (.int (nI n) :: st) M) : ZV m d Q pc L (.ref b :: st) M := by
  subst hp
  intro G cI cQ ad A p l e s mi args below meth c H locs ls S hr hlk hK hW hS hL
  exact va_alen (D := G) S.1 S.2.1 hK.1 hW.1 b 0 (zwl_at hb) rfl rfl hd (k G cI cQ ad A p l e s mi args below meth c H locs ls S hr hlk hK hW hS hL)
theorem zv_ireturn {m : ZMD} {d : Nat} {Q : Option Value → ZMem → Prop} {pc : Nat} {L : ZLc} {M : ZMem} {ty : FieldType} {v : Int32} (hd : decode m.2.1 pc = .ok (.ireturn, 1)) (hty : m.2.2.2 = some ty) (hn : narrow ty (.int v) = .int v) (hq : Q (some (.int v)) M) : ZV m d Q pc L [.int v] M := by
  intro G cI cQ ad A p l e s mi args below meth c H locs ls S hr hlk hK hW hS hL
  exact W.zret S.1 S.2.1 (hr.trans hty) hn (fun t ht hWt => ⟨⟨some (.int v), M, rfl, hq, by rw [ht]; exact hW⟩, hS.F ht⟩) hS.2.2 hd hlk
theorem zv_iret {m : ZMD} {d : Nat} {Q : Option Value → ZMem → Prop} {pc : Nat} {L : ZLc} {M : ZMem} {v : Int32} (hd : decode m.2.1 pc = .ok (.ireturn, 1)) (hty : m.2.2.2 = some .int) (hq : Q (some (.int v)) M) : ZV m d Q pc L [.int v] M := zv_ireturn hd hty rfl hq
theorem zv_lret {m : ZMD} {d : Nat} {Q : Option Value → ZMem → Prop} {pc : Nat} {L : ZLc} {M : ZMem} {v : Int64} (hd : decode m.2.1 pc = .ok (.lreturn, 1)) (hty : m.2.2.2 = some .long) (hq : Q (some (.long v)) M) : ZV m d Q pc L [.long v] M := by
  intro G cI cQ ad A p l e s mi args below meth c H locs ls S hr hlk hK hW hS hL
  exact W.lret S.1 S.2.1 (hr.trans hty) (fun t ht hWt => ⟨⟨some (.long v), M, rfl, hq, by rw [ht]; exact hW⟩, hS.F ht⟩) hS.2.2 hd hlk
theorem zv_vret {m : ZMD} {d : Nat} {Q : Option Value → ZMem → Prop} {pc : Nat} {L : ZLc} {M : ZMem} (hd : decode m.2.1 pc = .ok (.return_, 1)) (hty : m.2.2.2 = none) (hq : Q none M) : ZV m d Q pc L [] M := by
  intro G cI cQ ad A p l e s mi args below meth c H locs ls S hr hlk hK hW hS hL
  exact W.vret S.1 S.2.1 (hr.trans hty) (fun t ht hWt => ⟨⟨none, M, rfl, hq, by rw [ht]; exact hW⟩, hS.F ht⟩) hS.2.2 hd hlk
/-- a call's link -/
def zlk (own : String) (idx : Nat) (m2 : ZMD) (n : Nat) : Prop := (Cond.methodLink own idx m2.1 ∈ zgt ∨ ∃ host, Cond.methodLinkNest own idx m2.1 host ∈ zNW) ∧ Cond.initialized m2.1.cls ∈ zgt ∧ Cond.code m2.1 m2.2.1 m2.2.2.1 m2.2.2.2 ∈ zgt ∧ (m2.1.cls ≠ "java/lang/invoke/MethodHandle" ∧ m2.1.cls ≠ "java/lang/invoke/VarHandle" ∧ (parseMethodDescriptor m2.1.desc).map (fun d => d.parameters.length) = some n) ∧ m2.2.2.1 ≤ 21
def zlkV (own : String) (idx : Nat) (m2 : ZMD) (n : Nat) : Prop := zlk own idx m2 n ∧ Cond.instanceMethod m2.1 ∈ zgt ∧ Cond.selects m2.1.cls m2.1 m2.1 ∈ zgt
def zlkS (own : String) (idx : Nat) (m2 : ZMD) (n : Nat) : Prop := zlk own idx m2 n ∧ Cond.static m2.1 ∈ zgt
theorem zgoodin {y : MethodName} {b : ByteArray} {n : Nat} {r : Option FieldType} (h : Cond.code y b n r ∈ zgt) : GoodIn zgt (Cond.code y b n r :: zgt) := fun w hw => by
  have h1 : w ∈ zgt := (List.mem_cons.mp hw).elim (fun e => e ▸ h) id
  exact ⟨h1, zgt_good h1⟩
theorem z_call {p : Program} {l : Launch} {e : Env} {d : Nat} {s : State} {mi : MethodId} {args : Array Value} {below : List Frame} {meth : Method} {c : Code} {H : Heap} {locs : List Loc} {Q : State → Prop} {G : va_G} {cI cQ : ClassId} {ad : Nat → Nat} {A : Nat → Prop} {Q2 : Option Value → ZMem → Prop} {a : Array Value} {pc : Nat} {ls : Array Slot} {st0 rest : List Value}
    (hr : va_Run p l e (zrm d) s mi args below meth c H locs 0 0 0 0 (F0 mi pc ls st0) rest (ZQ G cI cQ ad A Q2 a) A) (hS : va_S A s.heap H locs)
    (kk : ∀ (v : Option Value) (M' : ZMem) (H1 : Heap) (locs1 : List Loc), Q2 v M' → ZW G cI cQ ad A M' H1 → va_S A s.heap H1 locs1 → W p l e (zrm d) s mi args below meth c H1 locs1 0 0 Q (F0 mi (pc + 3) ls ((v.map (zc ad)).toList ++ rest))) : W p l e (zrm d) s mi args below meth c H locs 0 0 Q (F0 mi pc ls st0) := by
  intro T hT X
  obtain ⟨v0, st₀, t, T', L, h0, X', hL, e1, e2, ⟨⟨v, M', hv, hq, hw⟩, hz, hk⟩, st⟩ := hr T hT X
  cases hv
  rw [h0] at hz hk
  obtain ⟨t2, a1, b1⟩ := kk v M' T'.heap (locs ++ L) hq (by rw [e1]; exact hw)
    ⟨Nat.le_trans hS.1 (by rw [e1]; exact hz), fun q h1 h2 => by rw [e1, hk q (Nat.lt_of_lt_of_le h1 hS.1) h2]; exact hS.2.1 q h1 h2, fun q hq => by
      rcases List.mem_append.mp hq with h | h
      · exact hS.2.2 q h
      · exact hL q h⟩ T' rfl X'
  exact ⟨t2, st t2 a1, b1⟩
theorem zc_toList (ad : Nat → Nat) (v : Option Value) (st : List Value) : (v.map (zc ad)).toList ++ st.map (zc ad) = (v.toList ++ st).map (zc ad) := by cases v <;> rfl
theorem zc_cats (ad : Nat → Nat) (st : List Value) : ((st.map (zc ad)).map fun v => v.category) = st.map fun v => v.category := by simp [zc_cat]
theorem zv_callV {m : ZMD} {d : Nat} {Q : Option Value → ZMem → Prop} {pc pc' : Nat} {L : ZLc} {st : List Value} {M : ZMem} {idx n b ci : Nat} {m2 : ZMD} {as st0 : List Value} {fs : List (Option Nat)} {Q2 : Option Value → ZMem → Prop} (hd : decode m.2.1 pc = .ok (.invokevirtual idx, 3)) (hp : pc + 3 = pc') (lk : zlkV m.1.cls idx m2 n) (hb : zshL[b]? = some (.inr (.inl (ci, fs)))) (hci : (zcls[ci]?).map (fun q => q.1) = some m2.1.cls) (hn : as.length = n) (hst : as.reverse ++ .ref b :: st = st0) (hcat : (st.map fun v => v.category).sum ≤ 8) (hx : ZEx m2 d (.ref b :: as) M Q2)
    (k : ∀ (v : Option Value) (M' : ZMem), Q2 v M' → ZV m (d + 1) Q pc' L (v.toList ++ st) M') : ZV m (d + 1) Q pc L st0 M := by
  subst hp; subst hst
  intro G cI cQ ad A p l e s mi args below meth c H locs ls S hr hlk hK hW hS hL
  obtain ⟨⟨h1, h2, h3, h4, h5⟩, h6, h7⟩ := lk
  have hbl : FrameBlind (va_Pc ((Value.ref b :: as).map (zc ad)) (fun U => ZK G cI cQ ad A U U.heap ∧ ZW G cI cQ ad A M U.heap)) := fun a U g mk q => ⟨q.1, q.2.1.blind, q.2.2⟩
  obtain ⟨r, hr1, hr2⟩ := Option.map_eq_some_iff.mp hci
  have hrecv := va_recv (s := s) hK.1 hW.1 hr1 (zwl_at (cI := cI) (cQ := cQ) (ad := ad) (M := M) hb)
  rw [hr2] at hrecv
  have hpre : PreV s H m2.1.cls (ad b) (va_Pc ((Value.ref b :: as).map (zc ad)) (fun U => ZK G cI cQ ad A U U.heap ∧ ZW G cI cQ ad A M U.heap)) (as.map (zc ad)) := ⟨hbl, hrecv, fun U hU hWm => ⟨rfl, hK.go hS hU hWm, by rw [hU]; exact hW⟩⟩
  have hroom : (zrm d).frames + 1 ≤ (zrm (d + 1)).frames ∧ 8 + (m2.2.2.1 + 11) + (zrm d).locals ≤ (zrm (d + 1)).locals := ⟨Nat.le_refl _, by show 8 + (m2.2.2.1 + 11) + 40 * d ≤ 40 * (d + 1); omega⟩
  have hcats : ((st.map (zc ad)).map fun v => v.category).sum ≤ 8 := by rw [zc_cats]; exact hcat
  have hstk : (as.reverse ++ Value.ref b :: st).map (zc ad) = (as.map (zc ad)).reverse ++ Value.ref (ad b) :: st.map (zc ad) := by simp [zc]
  rw [hstk]
  have fin : ∀ (v : Option Value) (M' : ZMem) (H1 : Heap) (locs1 : List Loc), Q2 v M' → ZW G cI cQ ad A M' H1 → va_S A s.heap H1 locs1 → W p l e (zrm (d + 1)) s mi args below meth c H1 locs1 0 0 (MQ below (ZQ G cI cQ ad A Q) args s 0 0 A) (F0 mi (pc + 3) ls ((v.map (zc ad)).toList ++ st.map (zc ad))) := by
    intro v M' H1 locs1 hq hw1 hS1
    rw [zc_toList]
    exact k v M' hq G cI cQ ad A p l e s mi args below meth c H1 locs1 ls S hr hlk hK hw1 hS1 hL
  rcases h1 with h1 | ⟨host, h1⟩
  · exact z_call (va_runV (As := as.map (zc ad)) (rest := st.map (zc ad)) (n := n) S (hx l G cI cQ ad A) ⟨callB_of n S.2.2.2.2 (zgoodin h3) rfl rfl rfl (S.2.2.2.2 _ h2) (S.2.2.2.2 _ h1) h4 hroom, S.2.2.2.2 _ h6, S.2.2.2.2 _ h7⟩ hpre rfl (by rw [List.length_map]; exact hn) hL.1 rfl (lv_room hcats) hd ⟨Nat.le_refl _, Nat.le_refl _⟩) hS fin
  · exact z_call (va_runVN (As := as.map (zc ad)) (rest := st.map (zc ad)) (n := n) S (hx l G cI cQ ad A) ⟨va_cnB n S.2.2.2.2 (zgoodin h3) rfl rfl rfl (hK.2.1 _ h1) (S.2.2.2.2 _ h2) h4 hroom, S.2.2.2.2 _ h6, S.2.2.2.2 _ h7⟩ hpre rfl (by rw [List.length_map]; exact hn) hL.1 rfl (lv_room hcats) hd ⟨Nat.le_refl _, Nat.le_refl _⟩) hS fin
theorem zv_callS {m : ZMD} {d : Nat} {Q : Option Value → ZMem → Prop} {pc pc' : Nat} {L : ZLc} {st : List Value} {M : ZMem} {idx n : Nat} {m2 : ZMD} {as st0 : List Value} {Q2 : Option Value → ZMem → Prop} (hd : decode m.2.1 pc = .ok (.invokestatic idx, 3)) (hp : pc + 3 = pc') (lk : zlkS m.1.cls idx m2 n) (hn : as.length = n) (hst : as.reverse ++ st = st0) (hcat : (st.map fun v => v.category).sum ≤ 8) (hx : ZEx m2 d as M Q2)
    (k : ∀ (v : Option Value) (M' : ZMem), Q2 v M' → ZV m (d + 1) Q pc' L (v.toList ++ st) M') : ZV m (d + 1) Q pc L st0 M := by
  subst hp; subst hst
  intro G cI cQ ad A p l e s mi args below meth c H locs ls S hr hlk hK hW hS hL
  obtain ⟨⟨h1, h2, h3, h4, h5⟩, h6⟩ := lk
  have hbl : FrameBlind (va_Pc (as.map (zc ad)) (fun U => ZK G cI cQ ad A U U.heap ∧ ZW G cI cQ ad A M U.heap)) := fun a U g mk q => ⟨q.1, q.2.1.blind, q.2.2⟩
  have hpre : PreS s H (va_Pc (as.map (zc ad)) (fun U => ZK G cI cQ ad A U U.heap ∧ ZW G cI cQ ad A M U.heap)) (as.map (zc ad)) := ⟨hbl, fun U hU hWm => ⟨rfl, hK.go hS hU hWm, by rw [hU]; exact hW⟩⟩
  have hroom : (zrm d).frames + 1 ≤ (zrm (d + 1)).frames ∧ 8 + (m2.2.2.1 + 11) + (zrm d).locals ≤ (zrm (d + 1)).locals := ⟨Nat.le_refl _, by show 8 + (m2.2.2.1 + 11) + 40 * d ≤ 40 * (d + 1); omega⟩
  have hcats : ((st.map (zc ad)).map fun v => v.category).sum ≤ 8 := by rw [zc_cats]; exact hcat
  have hstk : (as.reverse ++ st).map (zc ad) = (as.map (zc ad)).reverse ++ st.map (zc ad) := by simp
  rw [hstk]
  have fin : ∀ (v : Option Value) (M' : ZMem) (H1 : Heap) (locs1 : List Loc), Q2 v M' → ZW G cI cQ ad A M' H1 → va_S A s.heap H1 locs1 → W p l e (zrm (d + 1)) s mi args below meth c H1 locs1 0 0 (MQ below (ZQ G cI cQ ad A Q) args s 0 0 A) (F0 mi (pc + 3) ls ((v.map (zc ad)).toList ++ st.map (zc ad))) := by
    intro v M' H1 locs1 hq hw1 hS1
    rw [zc_toList]
    exact k v M' hq G cI cQ ad A p l e s mi args below meth c H1 locs1 ls S hr hlk hK hw1 hS1 hL
  rcases h1 with h1 | ⟨host, h1⟩
  · exact z_call (va_runS (As := as.map (zc ad)) (rest := st.map (zc ad)) (n := n) S (hx l G cI cQ ad A) ⟨callB_of n S.2.2.2.2 (zgoodin h3) rfl rfl rfl (S.2.2.2.2 _ h2) (S.2.2.2.2 _ h1) h4 hroom, S.2.2.2.2 _ h6⟩ hpre rfl (by rw [List.length_map]; exact hn) hL.1 rfl (lv_room hcats) hd ⟨Nat.le_refl _, Nat.le_refl _⟩) hS fin
  · exact z_call (va_runSN (As := as.map (zc ad)) (rest := st.map (zc ad)) (n := n) S (hx l G cI cQ ad A) ⟨va_cnB n S.2.2.2.2 (zgoodin h3) rfl rfl rfl (hK.2.1 _ h1) (S.2.2.2.2 _ h2) h4 hroom, S.2.2.2.2 _ h6, trivial⟩ hpre rfl (by rw [List.length_map]; exact hn) hL.1 rfl (lv_room hcats) hd ⟨Nat.le_refl _, Nat.le_refl _⟩) hS fin
theorem zv_callV0 {m : ZMD} {d : Nat} {Q : Option Value → ZMem → Prop} {pc pc' : Nat} {L : ZLc} {st : List Value} {M : ZMem} {idx b ci : Nat} {m2 : ZMD} {fs : List (Option Nat)} {Q2 : Option Value → ZMem → Prop} (hd : decode m.2.1 pc = .ok (.invokevirtual idx, 3)) (hp : pc + 3 = pc') (lk : zlkV m.1.cls idx m2 0) (hb : zshL[b]? = some (.inr (.inl (ci, fs)))) (hci : (zcls[ci]?).map (fun q => q.1) = some m2.1.cls) (hcat : (st.map fun v => v.category).sum ≤ 8) (hx : ZEx m2 d (.ref b :: []) M Q2)
    (k : ∀ (v : Option Value) (M' : ZMem), Q2 v M' → ZV m (d + 1) Q pc' L (v.toList ++ st) M') : ZV m (d + 1) Q pc L (.ref b :: st) M := zv_callV hd hp lk hb hci rfl rfl hcat hx k
theorem zv_callS0 {m : ZMD} {d : Nat} {Q : Option Value → ZMem → Prop} {pc pc' : Nat} {L : ZLc} {st : List Value} {M : ZMem} {idx : Nat} {m2 : ZMD} {Q2 : Option Value → ZMem → Prop} (hd : decode m.2.1 pc = .ok (.invokestatic idx, 3)) (hp : pc + 3 = pc') (lk : zlkS m.1.cls idx m2 0) (hcat : (st.map fun v => v.category).sum ≤ 8) (hx : ZEx m2 d [] M Q2)
    (k : ∀ (v : Option Value) (M' : ZMem), Q2 v M' → ZV m (d + 1) Q pc' L (v.toList ++ st) M') : ZV m (d + 1) Q pc L (st) M := zv_callS hd hp lk rfl rfl hcat hx k
theorem zv_callV1 {m : ZMD} {d : Nat} {Q : Option Value → ZMem → Prop} {pc pc' : Nat} {L : ZLc} {st : List Value} {M : ZMem} {idx b ci : Nat} {m2 : ZMD} {x0 : Value} {fs : List (Option Nat)} {Q2 : Option Value → ZMem → Prop} (hd : decode m.2.1 pc = .ok (.invokevirtual idx, 3)) (hp : pc + 3 = pc') (lk : zlkV m.1.cls idx m2 1) (hb : zshL[b]? = some (.inr (.inl (ci, fs)))) (hci : (zcls[ci]?).map (fun q => q.1) = some m2.1.cls) (hcat : (st.map fun v => v.category).sum ≤ 8) (hx : ZEx m2 d (.ref b :: [x0]) M Q2)
    (k : ∀ (v : Option Value) (M' : ZMem), Q2 v M' → ZV m (d + 1) Q pc' L (v.toList ++ st) M') : ZV m (d + 1) Q pc L (x0 :: .ref b :: st) M := zv_callV hd hp lk hb hci rfl rfl hcat hx k
theorem zv_callS1 {m : ZMD} {d : Nat} {Q : Option Value → ZMem → Prop} {pc pc' : Nat} {L : ZLc} {st : List Value} {M : ZMem} {idx : Nat} {m2 : ZMD} {x0 : Value} {Q2 : Option Value → ZMem → Prop} (hd : decode m.2.1 pc = .ok (.invokestatic idx, 3)) (hp : pc + 3 = pc') (lk : zlkS m.1.cls idx m2 1) (hcat : (st.map fun v => v.category).sum ≤ 8) (hx : ZEx m2 d [x0] M Q2)
    (k : ∀ (v : Option Value) (M' : ZMem), Q2 v M' → ZV m (d + 1) Q pc' L (v.toList ++ st) M') : ZV m (d + 1) Q pc L (x0 :: st) M := zv_callS hd hp lk rfl rfl hcat hx k
theorem zv_callV2 {m : ZMD} {d : Nat} {Q : Option Value → ZMem → Prop} {pc pc' : Nat} {L : ZLc} {st : List Value} {M : ZMem} {idx b ci : Nat} {m2 : ZMD} {x0 x1 : Value} {fs : List (Option Nat)} {Q2 : Option Value → ZMem → Prop} (hd : decode m.2.1 pc = .ok (.invokevirtual idx, 3)) (hp : pc + 3 = pc') (lk : zlkV m.1.cls idx m2 2) (hb : zshL[b]? = some (.inr (.inl (ci, fs)))) (hci : (zcls[ci]?).map (fun q => q.1) = some m2.1.cls) (hcat : (st.map fun v => v.category).sum ≤ 8) (hx : ZEx m2 d (.ref b :: [x0, x1]) M Q2)
    (k : ∀ (v : Option Value) (M' : ZMem), Q2 v M' → ZV m (d + 1) Q pc' L (v.toList ++ st) M') : ZV m (d + 1) Q pc L (x1 :: x0 :: .ref b :: st) M := zv_callV hd hp lk hb hci rfl rfl hcat hx k
theorem zv_callS2 {m : ZMD} {d : Nat} {Q : Option Value → ZMem → Prop} {pc pc' : Nat} {L : ZLc} {st : List Value} {M : ZMem} {idx : Nat} {m2 : ZMD} {x0 x1 : Value} {Q2 : Option Value → ZMem → Prop} (hd : decode m.2.1 pc = .ok (.invokestatic idx, 3)) (hp : pc + 3 = pc') (lk : zlkS m.1.cls idx m2 2) (hcat : (st.map fun v => v.category).sum ≤ 8) (hx : ZEx m2 d [x0, x1] M Q2)
    (k : ∀ (v : Option Value) (M' : ZMem), Q2 v M' → ZV m (d + 1) Q pc' L (v.toList ++ st) M') : ZV m (d + 1) Q pc L (x1 :: x0 :: st) M := zv_callS hd hp lk rfl rfl hcat hx k
theorem zv_callV3 {m : ZMD} {d : Nat} {Q : Option Value → ZMem → Prop} {pc pc' : Nat} {L : ZLc} {st : List Value} {M : ZMem} {idx b ci : Nat} {m2 : ZMD} {x0 x1 x2 : Value} {fs : List (Option Nat)} {Q2 : Option Value → ZMem → Prop} (hd : decode m.2.1 pc = .ok (.invokevirtual idx, 3)) (hp : pc + 3 = pc') (lk : zlkV m.1.cls idx m2 3) (hb : zshL[b]? = some (.inr (.inl (ci, fs)))) (hci : (zcls[ci]?).map (fun q => q.1) = some m2.1.cls) (hcat : (st.map fun v => v.category).sum ≤ 8) (hx : ZEx m2 d (.ref b :: [x0, x1, x2]) M Q2)
    (k : ∀ (v : Option Value) (M' : ZMem), Q2 v M' → ZV m (d + 1) Q pc' L (v.toList ++ st) M') : ZV m (d + 1) Q pc L (x2 :: x1 :: x0 :: .ref b :: st) M := zv_callV hd hp lk hb hci rfl rfl hcat hx k
theorem zv_callS3 {m : ZMD} {d : Nat} {Q : Option Value → ZMem → Prop} {pc pc' : Nat} {L : ZLc} {st : List Value} {M : ZMem} {idx : Nat} {m2 : ZMD} {x0 x1 x2 : Value} {Q2 : Option Value → ZMem → Prop} (hd : decode m.2.1 pc = .ok (.invokestatic idx, 3)) (hp : pc + 3 = pc') (lk : zlkS m.1.cls idx m2 3) (hcat : (st.map fun v => v.category).sum ≤ 8) (hx : ZEx m2 d [x0, x1, x2] M Q2)
    (k : ∀ (v : Option Value) (M' : ZMem), Q2 v M' → ZV m (d + 1) Q pc' L (v.toList ++ st) M') : ZV m (d + 1) Q pc L (x2 :: x1 :: x0 :: st) M := zv_callS hd hp lk rfl rfl hcat hx k
theorem zv_callV4 {m : ZMD} {d : Nat} {Q : Option Value → ZMem → Prop} {pc pc' : Nat} {L : ZLc} {st : List Value} {M : ZMem} {idx b ci : Nat} {m2 : ZMD} {x0 x1 x2 x3 : Value} {fs : List (Option Nat)} {Q2 : Option Value → ZMem → Prop} (hd : decode m.2.1 pc = .ok (.invokevirtual idx, 3)) (hp : pc + 3 = pc') (lk : zlkV m.1.cls idx m2 4) (hb : zshL[b]? = some (.inr (.inl (ci, fs)))) (hci : (zcls[ci]?).map (fun q => q.1) = some m2.1.cls) (hcat : (st.map fun v => v.category).sum ≤ 8) (hx : ZEx m2 d (.ref b :: [x0, x1, x2, x3]) M Q2)
    (k : ∀ (v : Option Value) (M' : ZMem), Q2 v M' → ZV m (d + 1) Q pc' L (v.toList ++ st) M') : ZV m (d + 1) Q pc L (x3 :: x2 :: x1 :: x0 :: .ref b :: st) M := zv_callV hd hp lk hb hci rfl rfl hcat hx k
theorem zv_callS4 {m : ZMD} {d : Nat} {Q : Option Value → ZMem → Prop} {pc pc' : Nat} {L : ZLc} {st : List Value} {M : ZMem} {idx : Nat} {m2 : ZMD} {x0 x1 x2 x3 : Value} {Q2 : Option Value → ZMem → Prop} (hd : decode m.2.1 pc = .ok (.invokestatic idx, 3)) (hp : pc + 3 = pc') (lk : zlkS m.1.cls idx m2 4) (hcat : (st.map fun v => v.category).sum ≤ 8) (hx : ZEx m2 d [x0, x1, x2, x3] M Q2)
    (k : ∀ (v : Option Value) (M' : ZMem), Q2 v M' → ZV m (d + 1) Q pc' L (v.toList ++ st) M') : ZV m (d + 1) Q pc L (x3 :: x2 :: x1 :: x0 :: st) M := zv_callS hd hp lk rfl rfl hcat hx k
theorem zv_callV5 {m : ZMD} {d : Nat} {Q : Option Value → ZMem → Prop} {pc pc' : Nat} {L : ZLc} {st : List Value} {M : ZMem} {idx b ci : Nat} {m2 : ZMD} {x0 x1 x2 x3 x4 : Value} {fs : List (Option Nat)} {Q2 : Option Value → ZMem → Prop} (hd : decode m.2.1 pc = .ok (.invokevirtual idx, 3)) (hp : pc + 3 = pc') (lk : zlkV m.1.cls idx m2 5) (hb : zshL[b]? = some (.inr (.inl (ci, fs)))) (hci : (zcls[ci]?).map (fun q => q.1) = some m2.1.cls) (hcat : (st.map fun v => v.category).sum ≤ 8) (hx : ZEx m2 d (.ref b :: [x0, x1, x2, x3, x4]) M Q2)
    (k : ∀ (v : Option Value) (M' : ZMem), Q2 v M' → ZV m (d + 1) Q pc' L (v.toList ++ st) M') : ZV m (d + 1) Q pc L (x4 :: x3 :: x2 :: x1 :: x0 :: .ref b :: st) M := zv_callV hd hp lk hb hci rfl rfl hcat hx k
theorem zv_callS5 {m : ZMD} {d : Nat} {Q : Option Value → ZMem → Prop} {pc pc' : Nat} {L : ZLc} {st : List Value} {M : ZMem} {idx : Nat} {m2 : ZMD} {x0 x1 x2 x3 x4 : Value} {Q2 : Option Value → ZMem → Prop} (hd : decode m.2.1 pc = .ok (.invokestatic idx, 3)) (hp : pc + 3 = pc') (lk : zlkS m.1.cls idx m2 5) (hcat : (st.map fun v => v.category).sum ≤ 8) (hx : ZEx m2 d [x0, x1, x2, x3, x4] M Q2)
    (k : ∀ (v : Option Value) (M' : ZMem), Q2 v M' → ZV m (d + 1) Q pc' L (v.toList ++ st) M') : ZV m (d + 1) Q pc L (x4 :: x3 :: x2 :: x1 :: x0 :: st) M := zv_callS hd hp lk rfl rfl hcat hx k
theorem zv_callV6 {m : ZMD} {d : Nat} {Q : Option Value → ZMem → Prop} {pc pc' : Nat} {L : ZLc} {st : List Value} {M : ZMem} {idx b ci : Nat} {m2 : ZMD} {x0 x1 x2 x3 x4 x5 : Value} {fs : List (Option Nat)} {Q2 : Option Value → ZMem → Prop} (hd : decode m.2.1 pc = .ok (.invokevirtual idx, 3)) (hp : pc + 3 = pc') (lk : zlkV m.1.cls idx m2 6) (hb : zshL[b]? = some (.inr (.inl (ci, fs)))) (hci : (zcls[ci]?).map (fun q => q.1) = some m2.1.cls) (hcat : (st.map fun v => v.category).sum ≤ 8) (hx : ZEx m2 d (.ref b :: [x0, x1, x2, x3, x4, x5]) M Q2)
    (k : ∀ (v : Option Value) (M' : ZMem), Q2 v M' → ZV m (d + 1) Q pc' L (v.toList ++ st) M') : ZV m (d + 1) Q pc L (x5 :: x4 :: x3 :: x2 :: x1 :: x0 :: .ref b :: st) M := zv_callV hd hp lk hb hci rfl rfl hcat hx k
theorem zv_callS6 {m : ZMD} {d : Nat} {Q : Option Value → ZMem → Prop} {pc pc' : Nat} {L : ZLc} {st : List Value} {M : ZMem} {idx : Nat} {m2 : ZMD} {x0 x1 x2 x3 x4 x5 : Value} {Q2 : Option Value → ZMem → Prop} (hd : decode m.2.1 pc = .ok (.invokestatic idx, 3)) (hp : pc + 3 = pc') (lk : zlkS m.1.cls idx m2 6) (hcat : (st.map fun v => v.category).sum ≤ 8) (hx : ZEx m2 d [x0, x1, x2, x3, x4, x5] M Q2)
    (k : ∀ (v : Option Value) (M' : ZMem), Q2 v M' → ZV m (d + 1) Q pc' L (v.toList ++ st) M') : ZV m (d + 1) Q pc L (x5 :: x4 :: x3 :: x2 :: x1 :: x0 :: st) M := zv_callS hd hp lk rfl rfl hcat hx k
theorem zv_mmax {m : ZMD} {d : Nat} {Q : Option Value → ZMem → Prop} {pc pc' : Nat} {L : ZLc} {st : List Value} {M : ZMem} {idx : Nat} {x y : Int32} (hd : decode m.2.1 pc = .ok (.invokestatic idx, 3)) (hp : pc + 3 = pc') (lk : Cond.methodLink m.1.cls idx Lib.Math.max.name ∈ zgt ∧ Cond.static Lib.Math.max.name ∈ zgt ∧ Cond.initialized "java/lang/Math" ∈ zgt ∧ Cond.code Lib.Math.max.name Lib.Math.max.code 2 (some .int) ∈ zgt) (hcat : (st.map fun v => v.category).sum ≤ 8) (k : ZV m (d + 1) Q pc' L (.int (if x < y then y else x) :: st) M) : ZV m (d + 1) Q pc L (.int y :: .int x :: st) M := by
  subst hp
  intro G cI cQ ad A p l e s mi args below meth c H locs ls S hr hlk hK hW hS hL
  have hcats : ((st.map (zc ad)).map fun v => v.category).sum ≤ 8 := by rw [zc_cats]; exact hcat
  exact va_mmax S.1 S.2.1 (S.2.2.1.trans hL.1.symm) S.2.2.2.1 (S.2.2.2.2 _ lk.1) (S.2.2.2.2 _ lk.2.1) (S.2.2.2.2 _ lk.2.2.1) (S.2.2.2.2 _ lk.2.2.2) (by show 1 ≤ d + 1; omega) (by show _ ≤ 40 * (d + 1); omega) (Nat.le_refl _) (Nat.le_refl _) hd (k G cI cQ ad A p l e s mi args below meth c H locs ls S hr hlk hK hW hS hL)
theorem zv_mmin {m : ZMD} {d : Nat} {Q : Option Value → ZMem → Prop} {pc pc' : Nat} {L : ZLc} {st : List Value} {M : ZMem} {idx : Nat} {x y : Int32} (hd : decode m.2.1 pc = .ok (.invokestatic idx, 3)) (hp : pc + 3 = pc') (lk : Cond.methodLink m.1.cls idx Lib.Math.min.name ∈ zgt ∧ Cond.static Lib.Math.min.name ∈ zgt ∧ Cond.initialized "java/lang/Math" ∈ zgt ∧ Cond.code Lib.Math.min.name Lib.Math.min.code 2 (some .int) ∈ zgt) (hcat : (st.map fun v => v.category).sum ≤ 8) (k : ZV m (d + 1) Q pc' L (.int (if y < x then y else x) :: st) M) : ZV m (d + 1) Q pc L (.int y :: .int x :: st) M := by
  subst hp
  intro G cI cQ ad A p l e s mi args below meth c H locs ls S hr hlk hK hW hS hL
  have hcats : ((st.map (zc ad)).map fun v => v.category).sum ≤ 8 := by rw [zc_cats]; exact hcat
  exact va_mmin S.1 S.2.1 (S.2.2.1.trans hL.1.symm) S.2.2.2.1 (S.2.2.2.2 _ lk.1) (S.2.2.2.2 _ lk.2.1) (S.2.2.2.2 _ lk.2.2.1) (S.2.2.2.2 _ lk.2.2.2) (by show 1 ≤ d + 1; omega) (by show _ ≤ 40 * (d + 1); omega) (Nat.le_refl _) (Nat.le_refl _) hd (k G cI cQ ad A p l e s mi args below meth c H locs ls S hr hlk hK hW hS hL)
theorem zv_mabs {m : ZMD} {d : Nat} {Q : Option Value → ZMem → Prop} {pc pc' : Nat} {L : ZLc} {st : List Value} {M : ZMem} {idx : Nat} {x : Int32} (hd : decode m.2.1 pc = .ok (.invokestatic idx, 3)) (hp : pc + 3 = pc') (lk : Cond.methodLink m.1.cls idx Lib.Math.abs.name ∈ zgt ∧ Cond.static Lib.Math.abs.name ∈ zgt ∧ Cond.initialized "java/lang/Math" ∈ zgt ∧ Cond.code Lib.Math.abs.name Lib.Math.abs.code 1 (some .int) ∈ zgt) (hcat : (st.map fun v => v.category).sum ≤ 8) (k : ZV m (d + 1) Q pc' L (.int (if 0 ≤ x then x else 0 - x) :: st) M) : ZV m (d + 1) Q pc L (.int x :: st) M := by
  subst hp
  intro G cI cQ ad A p l e s mi args below meth c H locs ls S hr hlk hK hW hS hL
  have hcats : ((st.map (zc ad)).map fun v => v.category).sum ≤ 8 := by rw [zc_cats]; exact hcat
  exact va_mabs S.1 S.2.1 (S.2.2.1.trans hL.1.symm) S.2.2.2.1 (S.2.2.2.2 _ lk.1) (S.2.2.2.2 _ lk.2.1) (S.2.2.2.2 _ lk.2.2.1) (S.2.2.2.2 _ lk.2.2.2) (by show 1 ≤ d + 1; omega) (by show _ ≤ 40 * (d + 1); omega) (Nat.le_refl _) (Nat.le_refl _) hd (k G cI cQ ad A p l e s mi args below meth c H locs ls S hr hlk hK hW hS hL)
theorem zv_copy {m : ZMD} {d : Nat} {Q : Option Value → ZMem → Prop} {pc pc' : Nat} {L : ZLc} {st : List Value} {M : ZMem} {idx a b n0 n1 : Nat} {sp dp n : Int32} (hd : decode m.2.1 pc = .ok (.invokestatic idx, 3)) (hp : pc + 3 = pc') (lk : Cond.methodLink m.1.cls idx arraycopyName ∈ zgt ∧ Cond.native arraycopyName ∈ zgt ∧ Cond.static arraycopyName ∈ zgt ∧ Cond.initialized "java/lang/System" ∈ zgt) (ha : zshL[a]? = some (.inl n0)) (hb : zshL[b]? = some (.inl n1)) (hcat : (st.map fun v => v.category).sum ≤ 8) (h1 : ¬ sp < 0) (h2 : ¬ dp < 0) (h3 : ¬ n < 0) (h4 : sp.toNatClampNeg + n.toNatClampNeg ≤ n0) (h5 : dp.toNatClampNeg + n.toNatClampNeg ≤ n1) (hnf : nativeFrameWords "java/lang/System" "arraycopy" 5 + 11 ≤ 30)
    (k : ZV m (d + 1) Q pc' L st (zupf M b (va_cpy (M a) (M b) sp.toNatClampNeg dp.toNatClampNeg n.toNatClampNeg))) : ZV m (d + 1) Q pc L (.int n :: .int dp :: .ref b :: .int sp :: .ref a :: st) M := by
  subst hp
  intro G cI cQ ad A p l e s mi args below meth c H locs ls S hr hlk hK hW hS hL
  have hcats : ((st.map (zc ad)).map fun v => v.category).sum ≤ 8 := by rw [zc_cats]; exact hcat
  refine va_copyi (D := G) (ty := .int) S.1 S.2.1 (S.2.2.1.trans hL.1.symm) S.2.2.2.1 (S.2.2.2.2 _ lk.1) (S.2.2.2.2 _ lk.2.1) (S.2.2.2.2 _ lk.2.2.1) (S.2.2.2.2 _ lk.2.2.2) hK.1 hW.1 hW.2 hS a b 0 0 (zwl_at ha) (zwl_at hb) rfl rfl rfl h1 h2 h3 h4 h5 (fun i hi => rfl) (by show 1 ≤ d + 1; omega) (by show _ ≤ 40 * (d + 1); omega) hd (fun H1 locs1 hP1 hD1 hS1 => ?_)
  have ee : (zwl ad cI cQ M).set b (ad b, .inl (cI, n1, .inl (va_cpy (M a) (M b) sp.toNatClampNeg dp.toNatClampNeg n.toNatClampNeg))) = zwl ad cI cQ (zupf M b (va_cpy (M a) (M b) sp.toNatClampNeg dp.toNatClampNeg n.toNatClampNeg)) := zwl_set hb
  rw [ee] at hP1 hD1
  exact k G cI cQ ad A p l e s mi args below meth c H1 locs1 ls S hr hlk hK ⟨hP1, hD1⟩ hS1 hL

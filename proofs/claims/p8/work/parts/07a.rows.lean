section bR1
variable {p : Program} {l : Launch} {e : Env} {R : Room} {s : State} {m : MethodId} {args : Array Value} {below : List Frame} {meth : Method} {c : Code} {dd : bD} {A : Nat → Prop} {nL mc ms : Nat} {post : Option Value → (Nat → Nat) → (Nat → va_E) → Nat → Prop} {thr : String → (Nat → Nat) → (Nat → va_E) → Nat → Prop} {pc : Nat} {lo : Nat → Option Value} {rest : List Value} {ad : Nat → Nat} {w : Nat → va_E} {N cells slots : Nat} {cc : ByteArray} {own : String} {ret : Option FieldType} {hh : List (Nat × Nat × Nat × Nat)}
theorem bv_iconst {n : Int} {v : Int32} (pc' : Nat) (hpc : pc + 1 = pc') (C : bCx p R s m args meth c cc own nL ret hh dd A) (hdg : decode cc pc = .ok (.iconst n, 1)) (hv : Int32.ofInt n = v)
    (k : bV p l e R s m args below meth c dd A nL mc ms post thr pc' lo (.int v :: rest) ad w N cells slots) : bV p l e R s m args below meth c dd A nL mc ms post thr pc lo (rest) ad w N cells slots := by
  subst hpc
  exact fun H locs ls hL hP hD hS => lv_iconst C.1 C.2.1 hdg hv (k H locs ls hL hP hD hS)
theorem bv_bipush {n : Int} {v : Int32} (pc' : Nat) (hpc : pc + 2 = pc') (C : bCx p R s m args meth c cc own nL ret hh dd A) (hdg : decode cc pc = .ok (.bipush n, 2)) (hv : (Int8.ofInt n).toInt32 = v)
    (k : bV p l e R s m args below meth c dd A nL mc ms post thr pc' lo (.int v :: rest) ad w N cells slots) : bV p l e R s m args below meth c dd A nL mc ms post thr pc lo (rest) ad w N cells slots := by
  subst hpc
  exact fun H locs ls hL hP hD hS => lv_bipush C.1 C.2.1 hdg hv (k H locs ls hL hP hD hS)
theorem bv_sipush {n : Int} {v : Int32} (pc' : Nat) (hpc : pc + 3 = pc') (C : bCx p R s m args meth c cc own nL ret hh dd A) (hdg : decode cc pc = .ok (.sipush n, 3)) (hv : (Int16.ofInt n).toInt32 = v)
    (k : bV p l e R s m args below meth c dd A nL mc ms post thr pc' lo (.int v :: rest) ad w N cells slots) : bV p l e R s m args below meth c dd A nL mc ms post thr pc lo (rest) ad w N cells slots := by
  subst hpc
  exact fun H locs ls hL hP hD hS => lv_sipush C.1 C.2.1 hdg hv (k H locs ls hL hP hD hS)
theorem bv_lconst {n : Fin 2} {v : Int64} (pc' : Nat) (hpc : pc + 1 = pc') (C : bCx p R s m args meth c cc own nL ret hh dd A) (hdg : decode cc pc = .ok (.lconst n, 1)) (hv : Int64.ofNat (n : Nat) = v)
    (k : bV p l e R s m args below meth c dd A nL mc ms post thr pc' lo (.long v :: rest) ad w N cells slots) : bV p l e R s m args below meth c dd A nL mc ms post thr pc lo (rest) ad w N cells slots := by
  subst hpc
  exact fun H locs ls hL hP hD hS => lv_lconst C.1 C.2.1 hdg hv (k H locs ls hL hP hD hS)
theorem bv_iload_n {k : Fin 4} {x : Int32} (pc' : Nat) (hpc : pc + 1 = pc') (C : bCx p R s m args meth c cc own nL ret hh dd A) (hdg : decode cc pc = .ok (.iload_n k, 1)) (hl : lo k = some (.int x))
    (k : bV p l e R s m args below meth c dd A nL mc ms post thr pc' lo (.int x :: rest) ad w N cells slots) : bV p l e R s m args below meth c dd A nL mc ms post thr pc lo (rest) ad w N cells slots := by
  subst hpc
  exact fun H locs ls hL hP hD hS => lv_iload_n C.1 C.2.1 hdg rfl (hL.2.2 _ _ hl) (k H locs ls hL hP hD hS)
theorem bv_iload {i : Nat} {x : Int32} (pc' : Nat) (hpc : pc + 2 = pc') (C : bCx p R s m args meth c cc own nL ret hh dd A) (hdg : decode cc pc = .ok (.iload i, 2)) (hl : lo i = some (.int x))
    (k : bV p l e R s m args below meth c dd A nL mc ms post thr pc' lo (.int x :: rest) ad w N cells slots) : bV p l e R s m args below meth c dd A nL mc ms post thr pc lo (rest) ad w N cells slots := by
  subst hpc
  exact fun H locs ls hL hP hD hS => lv_iload C.1 C.2.1 hdg (hL.2.2 _ _ hl) (k H locs ls hL hP hD hS)
theorem bv_lload_n {k : Fin 4} {x : Int64} (pc' : Nat) (hpc : pc + 1 = pc') (C : bCx p R s m args meth c cc own nL ret hh dd A) (hdg : decode cc pc = .ok (.lload_n k, 1)) (hl : lo k = some (.long x))
    (k : bV p l e R s m args below meth c dd A nL mc ms post thr pc' lo (.long x :: rest) ad w N cells slots) : bV p l e R s m args below meth c dd A nL mc ms post thr pc lo (rest) ad w N cells slots := by
  subst hpc
  exact fun H locs ls hL hP hD hS => lv_lload_n C.1 C.2.1 hdg rfl (hL.2.2 _ _ hl) (k H locs ls hL hP hD hS)
theorem bv_lload {i : Nat} {x : Int64} (pc' : Nat) (hpc : pc + 2 = pc') (C : bCx p R s m args meth c cc own nL ret hh dd A) (hdg : decode cc pc = .ok (.lload i, 2)) (hl : lo i = some (.long x))
    (k : bV p l e R s m args below meth c dd A nL mc ms post thr pc' lo (.long x :: rest) ad w N cells slots) : bV p l e R s m args below meth c dd A nL mc ms post thr pc lo (rest) ad w N cells slots := by
  subst hpc
  exact fun H locs ls hL hP hD hS => lv_lload C.1 C.2.1 hdg (hL.2.2 _ _ hl) (k H locs ls hL hP hD hS)
theorem bv_aload_n {k : Fin 4} {x : Nat} (pc' : Nat) (hpc : pc + 1 = pc') (C : bCx p R s m args meth c cc own nL ret hh dd A) (hdg : decode cc pc = .ok (.aload_n k, 1)) (hl : lo k = some (.ref x))
    (k : bV p l e R s m args below meth c dd A nL mc ms post thr pc' lo (.ref x :: rest) ad w N cells slots) : bV p l e R s m args below meth c dd A nL mc ms post thr pc lo (rest) ad w N cells slots := by
  subst hpc
  exact fun H locs ls hL hP hD hS => lv_aload_n C.1 C.2.1 hdg rfl (hL.2.2 _ _ hl) (k H locs ls hL hP hD hS)
theorem bv_aload {i : Nat} {x : Nat} (pc' : Nat) (hpc : pc + 2 = pc') (C : bCx p R s m args meth c cc own nL ret hh dd A) (hdg : decode cc pc = .ok (.aload i, 2)) (hl : lo i = some (.ref x))
    (k : bV p l e R s m args below meth c dd A nL mc ms post thr pc' lo (.ref x :: rest) ad w N cells slots) : bV p l e R s m args below meth c dd A nL mc ms post thr pc lo (rest) ad w N cells slots := by
  subst hpc
  exact fun H locs ls hL hP hD hS => lv_aload C.1 C.2.1 hdg (hL.2.2 _ _ hl) (k H locs ls hL hP hD hS)
theorem bv_aload_nN {k : Fin 4} (pc' : Nat) (hpc : pc + 1 = pc') (C : bCx p R s m args meth c cc own nL ret hh dd A) (hdg : decode cc pc = .ok (.aload_n k, 1)) (hl : lo k = some .null)
    (k : bV p l e R s m args below meth c dd A nL mc ms post thr pc' lo (.null :: rest) ad w N cells slots) : bV p l e R s m args below meth c dd A nL mc ms post thr pc lo (rest) ad w N cells slots := by
  subst hpc
  exact fun H locs ls hL hP hD hS => lv_aload_nN C.1 C.2.1 hdg rfl (hL.2.2 _ _ hl) (k H locs ls hL hP hD hS)
theorem bv_aloadN {i : Nat} (pc' : Nat) (hpc : pc + 2 = pc') (C : bCx p R s m args meth c cc own nL ret hh dd A) (hdg : decode cc pc = .ok (.aload i, 2)) (hl : lo i = some .null)
    (k : bV p l e R s m args below meth c dd A nL mc ms post thr pc' lo (.null :: rest) ad w N cells slots) : bV p l e R s m args below meth c dd A nL mc ms post thr pc lo (rest) ad w N cells slots := by
  subst hpc
  exact fun H locs ls hL hP hD hS => lv_aloadN C.1 C.2.1 hdg (hL.2.2 _ _ hl) (k H locs ls hL hP hD hS)
theorem bv_null  (pc' : Nat) (hpc : pc + 1 = pc') (C : bCx p R s m args meth c cc own nL ret hh dd A) (hdg : decode cc pc = .ok (.aconst_null, 1))
    (k : bV p l e R s m args below meth c dd A nL mc ms post thr pc' lo (.null :: rest) ad w N cells slots) : bV p l e R s m args below meth c dd A nL mc ms post thr pc lo (rest) ad w N cells slots := by
  subst hpc
  exact fun H locs ls hL hP hD hS => lv_null C.1 C.2.1 hdg (k H locs ls hL hP hD hS)
theorem bv_iadd {x y : Int32} (pc' : Nat) (hpc : pc + 1 = pc') (C : bCx p R s m args meth c cc own nL ret hh dd A) (hdg : decode cc pc = .ok (.iadd, 1))
    (k : bV p l e R s m args below meth c dd A nL mc ms post thr pc' lo (.int (x + y) :: rest) ad w N cells slots) : bV p l e R s m args below meth c dd A nL mc ms post thr pc lo (.int y :: .int x :: rest) ad w N cells slots := by
  subst hpc
  exact fun H locs ls hL hP hD hS => lv_iadd C.1 C.2.1 hdg (k H locs ls hL hP hD hS)
theorem bv_isub {x y : Int32} (pc' : Nat) (hpc : pc + 1 = pc') (C : bCx p R s m args meth c cc own nL ret hh dd A) (hdg : decode cc pc = .ok (.isub, 1))
    (k : bV p l e R s m args below meth c dd A nL mc ms post thr pc' lo (.int (x - y) :: rest) ad w N cells slots) : bV p l e R s m args below meth c dd A nL mc ms post thr pc lo (.int y :: .int x :: rest) ad w N cells slots := by
  subst hpc
  exact fun H locs ls hL hP hD hS => lv_isub C.1 C.2.1 hdg (k H locs ls hL hP hD hS)
theorem bv_imul {x y : Int32} (pc' : Nat) (hpc : pc + 1 = pc') (C : bCx p R s m args meth c cc own nL ret hh dd A) (hdg : decode cc pc = .ok (.imul, 1))
    (k : bV p l e R s m args below meth c dd A nL mc ms post thr pc' lo (.int (x * y) :: rest) ad w N cells slots) : bV p l e R s m args below meth c dd A nL mc ms post thr pc lo (.int y :: .int x :: rest) ad w N cells slots := by
  subst hpc
  exact fun H locs ls hL hP hD hS => lv_imul C.1 C.2.1 hdg (k H locs ls hL hP hD hS)
theorem bv_iand {x y : Int32} (pc' : Nat) (hpc : pc + 1 = pc') (C : bCx p R s m args meth c cc own nL ret hh dd A) (hdg : decode cc pc = .ok (.iand, 1))
    (k : bV p l e R s m args below meth c dd A nL mc ms post thr pc' lo (.int (x &&& y) :: rest) ad w N cells slots) : bV p l e R s m args below meth c dd A nL mc ms post thr pc lo (.int y :: .int x :: rest) ad w N cells slots := by
  subst hpc
  exact fun H locs ls hL hP hD hS => lv_iand C.1 C.2.1 hdg (k H locs ls hL hP hD hS)
theorem bv_ior {x y : Int32} (pc' : Nat) (hpc : pc + 1 = pc') (C : bCx p R s m args meth c cc own nL ret hh dd A) (hdg : decode cc pc = .ok (.ior, 1))
    (k : bV p l e R s m args below meth c dd A nL mc ms post thr pc' lo (.int (x ||| y) :: rest) ad w N cells slots) : bV p l e R s m args below meth c dd A nL mc ms post thr pc lo (.int y :: .int x :: rest) ad w N cells slots := by
  subst hpc
  exact fun H locs ls hL hP hD hS => lv_ior C.1 C.2.1 hdg (k H locs ls hL hP hD hS)
theorem bv_ixor {x y : Int32} (pc' : Nat) (hpc : pc + 1 = pc') (C : bCx p R s m args meth c cc own nL ret hh dd A) (hdg : decode cc pc = .ok (.ixor, 1))
    (k : bV p l e R s m args below meth c dd A nL mc ms post thr pc' lo (.int (x ^^^ y) :: rest) ad w N cells slots) : bV p l e R s m args below meth c dd A nL mc ms post thr pc lo (.int y :: .int x :: rest) ad w N cells slots := by
  subst hpc
  exact fun H locs ls hL hP hD hS => lv_ixor C.1 C.2.1 hdg (k H locs ls hL hP hD hS)
theorem bv_ishl {x y : Int32} (pc' : Nat) (hpc : pc + 1 = pc') (C : bCx p R s m args meth c cc own nL ret hh dd A) (hdg : decode cc pc = .ok (.ishl, 1))
    (k : bV p l e R s m args below meth c dd A nL mc ms post thr pc' lo (.int (x <<< (y &&& 31)) :: rest) ad w N cells slots) : bV p l e R s m args below meth c dd A nL mc ms post thr pc lo (.int y :: .int x :: rest) ad w N cells slots := by
  subst hpc
  exact fun H locs ls hL hP hD hS => lv_ishl C.1 C.2.1 hdg (k H locs ls hL hP hD hS)
theorem bv_ishr {x y : Int32} (pc' : Nat) (hpc : pc + 1 = pc') (C : bCx p R s m args meth c cc own nL ret hh dd A) (hdg : decode cc pc = .ok (.ishr, 1))
    (k : bV p l e R s m args below meth c dd A nL mc ms post thr pc' lo (.int (x >>> (y &&& 31)) :: rest) ad w N cells slots) : bV p l e R s m args below meth c dd A nL mc ms post thr pc lo (.int y :: .int x :: rest) ad w N cells slots := by
  subst hpc
  exact fun H locs ls hL hP hD hS => lv_ishr C.1 C.2.1 hdg (k H locs ls hL hP hD hS)
theorem bv_idiv {x y : Int32} (pc' : Nat) (hpc : pc + 1 = pc') (C : bCx p R s m args meth c cc own nL ret hh dd A) (hdg : decode cc pc = .ok (.idiv, 1)) (hne : ¬ y = 0)
    (k : bV p l e R s m args below meth c dd A nL mc ms post thr pc' lo (.int (x / y) :: rest) ad w N cells slots) : bV p l e R s m args below meth c dd A nL mc ms post thr pc lo (.int y :: .int x :: rest) ad w N cells slots := by
  subst hpc
  exact fun H locs ls hL hP hD hS => lv_idiv C.1 C.2.1 hdg hne (k H locs ls hL hP hD hS)
theorem bv_irem {x y : Int32} (pc' : Nat) (hpc : pc + 1 = pc') (C : bCx p R s m args meth c cc own nL ret hh dd A) (hdg : decode cc pc = .ok (.irem, 1)) (hne : ¬ y = 0)
    (k : bV p l e R s m args below meth c dd A nL mc ms post thr pc' lo (.int (x - x / y * y) :: rest) ad w N cells slots) : bV p l e R s m args below meth c dd A nL mc ms post thr pc lo (.int y :: .int x :: rest) ad w N cells slots := by
  subst hpc
  exact fun H locs ls hL hP hD hS => lv_irem C.1 C.2.1 hdg hne (k H locs ls hL hP hD hS)
theorem bv_ladd {x y : Int64} (pc' : Nat) (hpc : pc + 1 = pc') (C : bCx p R s m args meth c cc own nL ret hh dd A) (hdg : decode cc pc = .ok (.ladd, 1))
    (k : bV p l e R s m args below meth c dd A nL mc ms post thr pc' lo (.long (x + y) :: rest) ad w N cells slots) : bV p l e R s m args below meth c dd A nL mc ms post thr pc lo (.long y :: .long x :: rest) ad w N cells slots := by
  subst hpc
  exact fun H locs ls hL hP hD hS => lv_ladd C.1 C.2.1 hdg (k H locs ls hL hP hD hS)
theorem bv_lsub {x y : Int64} (pc' : Nat) (hpc : pc + 1 = pc') (C : bCx p R s m args meth c cc own nL ret hh dd A) (hdg : decode cc pc = .ok (.lsub, 1))
    (k : bV p l e R s m args below meth c dd A nL mc ms post thr pc' lo (.long (x - y) :: rest) ad w N cells slots) : bV p l e R s m args below meth c dd A nL mc ms post thr pc lo (.long y :: .long x :: rest) ad w N cells slots := by
  subst hpc
  exact fun H locs ls hL hP hD hS => lv_lsub C.1 C.2.1 hdg (k H locs ls hL hP hD hS)
theorem bv_lmul {x y : Int64} (pc' : Nat) (hpc : pc + 1 = pc') (C : bCx p R s m args meth c cc own nL ret hh dd A) (hdg : decode cc pc = .ok (.lmul, 1))
    (k : bV p l e R s m args below meth c dd A nL mc ms post thr pc' lo (.long (x * y) :: rest) ad w N cells slots) : bV p l e R s m args below meth c dd A nL mc ms post thr pc lo (.long y :: .long x :: rest) ad w N cells slots := by
  subst hpc
  exact fun H locs ls hL hP hD hS => lv_lmul C.1 C.2.1 hdg (k H locs ls hL hP hD hS)
theorem bv_land {x y : Int64} (pc' : Nat) (hpc : pc + 1 = pc') (C : bCx p R s m args meth c cc own nL ret hh dd A) (hdg : decode cc pc = .ok (.land, 1))
    (k : bV p l e R s m args below meth c dd A nL mc ms post thr pc' lo (.long (x &&& y) :: rest) ad w N cells slots) : bV p l e R s m args below meth c dd A nL mc ms post thr pc lo (.long y :: .long x :: rest) ad w N cells slots := by
  subst hpc
  exact fun H locs ls hL hP hD hS => lv_land C.1 C.2.1 hdg (k H locs ls hL hP hD hS)
theorem bv_lor {x y : Int64} (pc' : Nat) (hpc : pc + 1 = pc') (C : bCx p R s m args meth c cc own nL ret hh dd A) (hdg : decode cc pc = .ok (.lor, 1))
    (k : bV p l e R s m args below meth c dd A nL mc ms post thr pc' lo (.long (x ||| y) :: rest) ad w N cells slots) : bV p l e R s m args below meth c dd A nL mc ms post thr pc lo (.long y :: .long x :: rest) ad w N cells slots := by
  subst hpc
  exact fun H locs ls hL hP hD hS => lv_lor C.1 C.2.1 hdg (k H locs ls hL hP hD hS)
theorem bv_lxor {x y : Int64} (pc' : Nat) (hpc : pc + 1 = pc') (C : bCx p R s m args meth c cc own nL ret hh dd A) (hdg : decode cc pc = .ok (.lxor, 1))
    (k : bV p l e R s m args below meth c dd A nL mc ms post thr pc' lo (.long (x ^^^ y) :: rest) ad w N cells slots) : bV p l e R s m args below meth c dd A nL mc ms post thr pc lo (.long y :: .long x :: rest) ad w N cells slots := by
  subst hpc
  exact fun H locs ls hL hP hD hS => lv_lxor C.1 C.2.1 hdg (k H locs ls hL hP hD hS)
theorem bv_iushr {x y v : Int32} (pc' : Nat) (hpc : pc + 1 = pc') (C : bCx p R s m args meth c cc own nL ret hh dd A) (hdg : decode cc pc = .ok (.iushr, 1)) (hv : (x.toUInt32 >>> (y.toUInt32 &&& Int32.toUInt32 31)).toInt32 = v)
    (k : bV p l e R s m args below meth c dd A nL mc ms post thr pc' lo (.int v :: rest) ad w N cells slots) : bV p l e R s m args below meth c dd A nL mc ms post thr pc lo (.int y :: .int x :: rest) ad w N cells slots := by
  subst hpc
  exact fun H locs ls hL hP hD hS => lv_iushr C.1 C.2.1 hdg hv (k H locs ls hL hP hD hS)
theorem bv_lushr {x v : Int64} {y : Int32} (pc' : Nat) (hpc : pc + 1 = pc') (C : bCx p R s m args meth c cc own nL ret hh dd A) (hdg : decode cc pc = .ok (.lushr, 1)) (hv : (x.toUInt64 >>> (y.toInt64.toUInt64 &&& Int64.toUInt64 63)).toInt64 = v)
    (k : bV p l e R s m args below meth c dd A nL mc ms post thr pc' lo (.long v :: rest) ad w N cells slots) : bV p l e R s m args below meth c dd A nL mc ms post thr pc lo (.int y :: .long x :: rest) ad w N cells slots := by
  subst hpc
  exact fun H locs ls hL hP hD hS => lv_lushr C.1 C.2.1 hdg hv (k H locs ls hL hP hD hS)
theorem bv_lshl {x v : Int64} {y : Int32} (pc' : Nat) (hpc : pc + 1 = pc') (C : bCx p R s m args meth c cc own nL ret hh dd A) (hdg : decode cc pc = .ok (.lshl, 1)) (hv : x <<< (y.toInt64 &&& 63) = v)
    (k : bV p l e R s m args below meth c dd A nL mc ms post thr pc' lo (.long v :: rest) ad w N cells slots) : bV p l e R s m args below meth c dd A nL mc ms post thr pc lo (.int y :: .long x :: rest) ad w N cells slots := by
  subst hpc
  exact fun H locs ls hL hP hD hS => lv_lshl C.1 C.2.1 hdg hv (k H locs ls hL hP hD hS)
theorem bv_lshr {x v : Int64} {y : Int32} (pc' : Nat) (hpc : pc + 1 = pc') (C : bCx p R s m args meth c cc own nL ret hh dd A) (hdg : decode cc pc = .ok (.lshr, 1)) (hv : x >>> (y.toInt64 &&& 63) = v)
    (k : bV p l e R s m args below meth c dd A nL mc ms post thr pc' lo (.long v :: rest) ad w N cells slots) : bV p l e R s m args below meth c dd A nL mc ms post thr pc lo (.int y :: .long x :: rest) ad w N cells slots := by
  subst hpc
  exact fun H locs ls hL hP hD hS => lv_lshr C.1 C.2.1 hdg hv (k H locs ls hL hP hD hS)
theorem bv_i2l {x : Int32} {v : Int64} (pc' : Nat) (hpc : pc + 1 = pc') (C : bCx p R s m args meth c cc own nL ret hh dd A) (hdg : decode cc pc = .ok (.i2l, 1)) (hv : x.toInt64 = v)
    (k : bV p l e R s m args below meth c dd A nL mc ms post thr pc' lo (.long v :: rest) ad w N cells slots) : bV p l e R s m args below meth c dd A nL mc ms post thr pc lo (.int x :: rest) ad w N cells slots := by
  subst hpc
  exact fun H locs ls hL hP hD hS => lv_i2l C.1 C.2.1 hdg hv (k H locs ls hL hP hD hS)
theorem bv_l2i {x : Int64} {v : Int32} (pc' : Nat) (hpc : pc + 1 = pc') (C : bCx p R s m args meth c cc own nL ret hh dd A) (hdg : decode cc pc = .ok (.l2i, 1)) (hv : x.toInt32 = v)
    (k : bV p l e R s m args below meth c dd A nL mc ms post thr pc' lo (.int v :: rest) ad w N cells slots) : bV p l e R s m args below meth c dd A nL mc ms post thr pc lo (.long x :: rest) ad w N cells slots := by
  subst hpc
  exact fun H locs ls hL hP hD hS => lv_l2i C.1 C.2.1 hdg hv (k H locs ls hL hP hD hS)
theorem bv_i2b {x : Int32} {v : Int32} (pc' : Nat) (hpc : pc + 1 = pc') (C : bCx p R s m args meth c cc own nL ret hh dd A) (hdg : decode cc pc = .ok (.i2b, 1)) (hv : x.toInt8.toInt32 = v)
    (k : bV p l e R s m args below meth c dd A nL mc ms post thr pc' lo (.int v :: rest) ad w N cells slots) : bV p l e R s m args below meth c dd A nL mc ms post thr pc lo (.int x :: rest) ad w N cells slots := by
  subst hpc
  exact fun H locs ls hL hP hD hS => lv_i2b C.1 C.2.1 hdg hv (k H locs ls hL hP hD hS)
theorem bv_ineg {x : Int32} (pc' : Nat) (hpc : pc + 1 = pc') (C : bCx p R s m args meth c cc own nL ret hh dd A) (hdg : decode cc pc = .ok (.ineg, 1))
    (k : bV p l e R s m args below meth c dd A nL mc ms post thr pc' lo (.int (-x) :: rest) ad w N cells slots) : bV p l e R s m args below meth c dd A nL mc ms post thr pc lo (.int x :: rest) ad w N cells slots := by
  subst hpc
  exact fun H locs ls hL hP hD hS => lv_ineg C.1 C.2.1 hdg (k H locs ls hL hP hD hS)
theorem bv_lcmp {x y : Int64} (pc' : Nat) (hpc : pc + 1 = pc') (C : bCx p R s m args meth c cc own nL ret hh dd A) (hdg : decode cc pc = .ok (.lcmp, 1))
    (k : bV p l e R s m args below meth c dd A nL mc ms post thr pc' lo (.int (lg_cmp x y) :: rest) ad w N cells slots) : bV p l e R s m args below meth c dd A nL mc ms post thr pc lo (.long y :: .long x :: rest) ad w N cells slots := by
  subst hpc
  exact fun H locs ls hL hP hD hS => W.lcmp C.1 C.2.1 hdg (k H locs ls hL hP hD hS)
theorem bv_dup {va : Value} (pc' : Nat) (hpc : pc + 1 = pc') (C : bCx p R s m args meth c cc own nL ret hh dd A) (hdg : decode cc pc = .ok (.dup, 1)) (hva : va.category = 1)
    (k : bV p l e R s m args below meth c dd A nL mc ms post thr pc' lo (va :: va :: rest) ad w N cells slots) : bV p l e R s m args below meth c dd A nL mc ms post thr pc lo (va :: rest) ad w N cells slots := by
  subst hpc
  exact fun H locs ls hL hP hD hS => lv_dup C.1 C.2.1 hdg hva (k H locs ls hL hP hD hS)
theorem bv_pop {va : Value} (pc' : Nat) (hpc : pc + 1 = pc') (C : bCx p R s m args meth c cc own nL ret hh dd A) (hdg : decode cc pc = .ok (.pop, 1)) (hva : va.category = 1)
    (k : bV p l e R s m args below meth c dd A nL mc ms post thr pc' lo (rest) ad w N cells slots) : bV p l e R s m args below meth c dd A nL mc ms post thr pc lo (va :: rest) ad w N cells slots := by
  subst hpc
  exact fun H locs ls hL hP hD hS => lv_pop C.1 C.2.1 hdg hva (k H locs ls hL hP hD hS)
theorem bv_dup_x1 {va vb : Value} (pc' : Nat) (hpc : pc + 1 = pc') (C : bCx p R s m args meth c cc own nL ret hh dd A) (hdg : decode cc pc = .ok (.dup_x1, 1)) (hva : va.category = 1) (hvb : vb.category = 1)
    (k : bV p l e R s m args below meth c dd A nL mc ms post thr pc' lo (va :: vb :: va :: rest) ad w N cells slots) : bV p l e R s m args below meth c dd A nL mc ms post thr pc lo (va :: vb :: rest) ad w N cells slots := by
  subst hpc
  exact fun H locs ls hL hP hD hS => lv_dup_x1 C.1 C.2.1 hdg hva hvb (k H locs ls hL hP hD hS)
theorem bv_dup_x2 {va vb vd : Value} (pc' : Nat) (hpc : pc + 1 = pc') (C : bCx p R s m args meth c cc own nL ret hh dd A) (hdg : decode cc pc = .ok (.dup_x2, 1)) (hva : va.category = 1) (hvb : vb.category = 1) (hvd : vd.category = 1)
    (k : bV p l e R s m args below meth c dd A nL mc ms post thr pc' lo (va :: vb :: vd :: va :: rest) ad w N cells slots) : bV p l e R s m args below meth c dd A nL mc ms post thr pc lo (va :: vb :: vd :: rest) ad w N cells slots := by
  subst hpc
  exact fun H locs ls hL hP hD hS => lv_dup_x2 C.1 C.2.1 hdg hva hvb hvd (k H locs ls hL hP hD hS)
theorem bv_dup2_11 {va vb : Value} (pc' : Nat) (hpc : pc + 1 = pc') (C : bCx p R s m args meth c cc own nL ret hh dd A) (hdg : decode cc pc = .ok (.dup2, 1)) (hva : va.category = 1) (hvb : vb.category = 1)
    (k : bV p l e R s m args below meth c dd A nL mc ms post thr pc' lo (va :: vb :: va :: vb :: rest) ad w N cells slots) : bV p l e R s m args below meth c dd A nL mc ms post thr pc lo (va :: vb :: rest) ad w N cells slots := by
  subst hpc
  exact fun H locs ls hL hP hD hS => lv_dup2_11 C.1 C.2.1 hdg hva hvb (k H locs ls hL hP hD hS)
theorem bv_if_eq {x : Int32} {off : Int} (tgt pc' : Nat) (hpc : pc + 3 = pc') (C : bCx p R s m args meth c cc own nL ret hh dd A) (hdg : decode cc pc = .ok (.ifCond .eq off, 3)) (ht : (pc : Int) + off = (tgt : Int))
    (kt : x = 0 → bV p l e R s m args below meth c dd A nL mc ms post thr tgt lo rest ad w N cells slots) (kf : ¬ x = 0 → bV p l e R s m args below meth c dd A nL mc ms post thr pc' lo rest ad w N cells slots) : bV p l e R s m args below meth c dd A nL mc ms post thr pc lo (.int x :: rest) ad w N cells slots := by
  subst hpc
  exact fun H locs ls hL hP hD hS => lv_if_eq C.1 C.2.1 hdg ht (fun h => kt h H locs ls hL hP hD hS) (fun h => kf h H locs ls hL hP hD hS)
theorem bv_if_ne {x : Int32} {off : Int} (tgt pc' : Nat) (hpc : pc + 3 = pc') (C : bCx p R s m args meth c cc own nL ret hh dd A) (hdg : decode cc pc = .ok (.ifCond .ne off, 3)) (ht : (pc : Int) + off = (tgt : Int))
    (kt : ¬ x = 0 → bV p l e R s m args below meth c dd A nL mc ms post thr tgt lo rest ad w N cells slots) (kf : x = 0 → bV p l e R s m args below meth c dd A nL mc ms post thr pc' lo rest ad w N cells slots) : bV p l e R s m args below meth c dd A nL mc ms post thr pc lo (.int x :: rest) ad w N cells slots := by
  subst hpc
  exact fun H locs ls hL hP hD hS => lv_if_ne C.1 C.2.1 hdg ht (fun h => kt h H locs ls hL hP hD hS) (fun h => kf h H locs ls hL hP hD hS)
theorem bv_if_lt {x : Int32} {off : Int} (tgt pc' : Nat) (hpc : pc + 3 = pc') (C : bCx p R s m args meth c cc own nL ret hh dd A) (hdg : decode cc pc = .ok (.ifCond .lt off, 3)) (ht : (pc : Int) + off = (tgt : Int))
    (kt : x < 0 → bV p l e R s m args below meth c dd A nL mc ms post thr tgt lo rest ad w N cells slots) (kf : ¬ x < 0 → bV p l e R s m args below meth c dd A nL mc ms post thr pc' lo rest ad w N cells slots) : bV p l e R s m args below meth c dd A nL mc ms post thr pc lo (.int x :: rest) ad w N cells slots := by
  subst hpc
  exact fun H locs ls hL hP hD hS => lv_if_lt C.1 C.2.1 hdg ht (fun h => kt h H locs ls hL hP hD hS) (fun h => kf h H locs ls hL hP hD hS)
theorem bv_if_ge {x : Int32} {off : Int} (tgt pc' : Nat) (hpc : pc + 3 = pc') (C : bCx p R s m args meth c cc own nL ret hh dd A) (hdg : decode cc pc = .ok (.ifCond .ge off, 3)) (ht : (pc : Int) + off = (tgt : Int))
    (kt : 0 ≤ x → bV p l e R s m args below meth c dd A nL mc ms post thr tgt lo rest ad w N cells slots) (kf : ¬ 0 ≤ x → bV p l e R s m args below meth c dd A nL mc ms post thr pc' lo rest ad w N cells slots) : bV p l e R s m args below meth c dd A nL mc ms post thr pc lo (.int x :: rest) ad w N cells slots := by
  subst hpc
  exact fun H locs ls hL hP hD hS => lv_if_ge C.1 C.2.1 hdg ht (fun h => kt h H locs ls hL hP hD hS) (fun h => kf h H locs ls hL hP hD hS)
theorem bv_if_gt {x : Int32} {off : Int} (tgt pc' : Nat) (hpc : pc + 3 = pc') (C : bCx p R s m args meth c cc own nL ret hh dd A) (hdg : decode cc pc = .ok (.ifCond .gt off, 3)) (ht : (pc : Int) + off = (tgt : Int))
    (kt : 0 < x → bV p l e R s m args below meth c dd A nL mc ms post thr tgt lo rest ad w N cells slots) (kf : ¬ 0 < x → bV p l e R s m args below meth c dd A nL mc ms post thr pc' lo rest ad w N cells slots) : bV p l e R s m args below meth c dd A nL mc ms post thr pc lo (.int x :: rest) ad w N cells slots := by
  subst hpc
  exact fun H locs ls hL hP hD hS => lv_if_gt C.1 C.2.1 hdg ht (fun h => kt h H locs ls hL hP hD hS) (fun h => kf h H locs ls hL hP hD hS)
theorem bv_if_le {x : Int32} {off : Int} (tgt pc' : Nat) (hpc : pc + 3 = pc') (C : bCx p R s m args meth c cc own nL ret hh dd A) (hdg : decode cc pc = .ok (.ifCond .le off, 3)) (ht : (pc : Int) + off = (tgt : Int))
    (kt : x ≤ 0 → bV p l e R s m args below meth c dd A nL mc ms post thr tgt lo rest ad w N cells slots) (kf : ¬ x ≤ 0 → bV p l e R s m args below meth c dd A nL mc ms post thr pc' lo rest ad w N cells slots) : bV p l e R s m args below meth c dd A nL mc ms post thr pc lo (.int x :: rest) ad w N cells slots := by
  subst hpc
  exact fun H locs ls hL hP hD hS => lv_if_le C.1 C.2.1 hdg ht (fun h => kt h H locs ls hL hP hD hS) (fun h => kf h H locs ls hL hP hD hS)
theorem bv_icmp_eq {x y : Int32} {off : Int} (tgt pc' : Nat) (hpc : pc + 3 = pc') (C : bCx p R s m args meth c cc own nL ret hh dd A) (hdg : decode cc pc = .ok (.if_icmp .eq off, 3)) (ht : (pc : Int) + off = (tgt : Int))
    (kt : x = y → bV p l e R s m args below meth c dd A nL mc ms post thr tgt lo rest ad w N cells slots) (kf : ¬ x = y → bV p l e R s m args below meth c dd A nL mc ms post thr pc' lo rest ad w N cells slots) : bV p l e R s m args below meth c dd A nL mc ms post thr pc lo (.int y :: .int x :: rest) ad w N cells slots := by
  subst hpc
  exact fun H locs ls hL hP hD hS => lv_icmp_eq C.1 C.2.1 hdg ht (fun h => kt h H locs ls hL hP hD hS) (fun h => kf h H locs ls hL hP hD hS)
theorem bv_icmp_ne {x y : Int32} {off : Int} (tgt pc' : Nat) (hpc : pc + 3 = pc') (C : bCx p R s m args meth c cc own nL ret hh dd A) (hdg : decode cc pc = .ok (.if_icmp .ne off, 3)) (ht : (pc : Int) + off = (tgt : Int))
    (kt : ¬ x = y → bV p l e R s m args below meth c dd A nL mc ms post thr tgt lo rest ad w N cells slots) (kf : x = y → bV p l e R s m args below meth c dd A nL mc ms post thr pc' lo rest ad w N cells slots) : bV p l e R s m args below meth c dd A nL mc ms post thr pc lo (.int y :: .int x :: rest) ad w N cells slots := by
  subst hpc
  exact fun H locs ls hL hP hD hS => lv_icmp_ne C.1 C.2.1 hdg ht (fun h => kt h H locs ls hL hP hD hS) (fun h => kf h H locs ls hL hP hD hS)
theorem bv_icmp_lt {x y : Int32} {off : Int} (tgt pc' : Nat) (hpc : pc + 3 = pc') (C : bCx p R s m args meth c cc own nL ret hh dd A) (hdg : decode cc pc = .ok (.if_icmp .lt off, 3)) (ht : (pc : Int) + off = (tgt : Int))
    (kt : x < y → bV p l e R s m args below meth c dd A nL mc ms post thr tgt lo rest ad w N cells slots) (kf : ¬ x < y → bV p l e R s m args below meth c dd A nL mc ms post thr pc' lo rest ad w N cells slots) : bV p l e R s m args below meth c dd A nL mc ms post thr pc lo (.int y :: .int x :: rest) ad w N cells slots := by
  subst hpc
  exact fun H locs ls hL hP hD hS => lv_icmp_lt C.1 C.2.1 hdg ht (fun h => kt h H locs ls hL hP hD hS) (fun h => kf h H locs ls hL hP hD hS)
theorem bv_icmp_ge {x y : Int32} {off : Int} (tgt pc' : Nat) (hpc : pc + 3 = pc') (C : bCx p R s m args meth c cc own nL ret hh dd A) (hdg : decode cc pc = .ok (.if_icmp .ge off, 3)) (ht : (pc : Int) + off = (tgt : Int))
    (kt : y ≤ x → bV p l e R s m args below meth c dd A nL mc ms post thr tgt lo rest ad w N cells slots) (kf : ¬ y ≤ x → bV p l e R s m args below meth c dd A nL mc ms post thr pc' lo rest ad w N cells slots) : bV p l e R s m args below meth c dd A nL mc ms post thr pc lo (.int y :: .int x :: rest) ad w N cells slots := by
  subst hpc
  exact fun H locs ls hL hP hD hS => lv_icmp_ge C.1 C.2.1 hdg ht (fun h => kt h H locs ls hL hP hD hS) (fun h => kf h H locs ls hL hP hD hS)
theorem bv_icmp_gt {x y : Int32} {off : Int} (tgt pc' : Nat) (hpc : pc + 3 = pc') (C : bCx p R s m args meth c cc own nL ret hh dd A) (hdg : decode cc pc = .ok (.if_icmp .gt off, 3)) (ht : (pc : Int) + off = (tgt : Int))
    (kt : y < x → bV p l e R s m args below meth c dd A nL mc ms post thr tgt lo rest ad w N cells slots) (kf : ¬ y < x → bV p l e R s m args below meth c dd A nL mc ms post thr pc' lo rest ad w N cells slots) : bV p l e R s m args below meth c dd A nL mc ms post thr pc lo (.int y :: .int x :: rest) ad w N cells slots := by
  subst hpc
  exact fun H locs ls hL hP hD hS => lv_icmp_gt C.1 C.2.1 hdg ht (fun h => kt h H locs ls hL hP hD hS) (fun h => kf h H locs ls hL hP hD hS)
theorem bv_icmp_le {x y : Int32} {off : Int} (tgt pc' : Nat) (hpc : pc + 3 = pc') (C : bCx p R s m args meth c cc own nL ret hh dd A) (hdg : decode cc pc = .ok (.if_icmp .le off, 3)) (ht : (pc : Int) + off = (tgt : Int))
    (kt : x ≤ y → bV p l e R s m args below meth c dd A nL mc ms post thr tgt lo rest ad w N cells slots) (kf : ¬ x ≤ y → bV p l e R s m args below meth c dd A nL mc ms post thr pc' lo rest ad w N cells slots) : bV p l e R s m args below meth c dd A nL mc ms post thr pc lo (.int y :: .int x :: rest) ad w N cells slots := by
  subst hpc
  exact fun H locs ls hL hP hD hS => lv_icmp_le C.1 C.2.1 hdg ht (fun h => kt h H locs ls hL hP hD hS) (fun h => kf h H locs ls hL hP hD hS)
theorem bv_goto {off : Int} (tgt : Nat) (C : bCx p R s m args meth c cc own nL ret hh dd A) (hdg : decode cc pc = .ok (.goto off, 3)) (ht : (pc : Int) + off = (tgt : Int)) (k : bV p l e R s m args below meth c dd A nL mc ms post thr tgt lo rest ad w N cells slots) : bV p l e R s m args below meth c dd A nL mc ms post thr pc lo rest ad w N cells slots :=
  fun H locs ls hL hP hD hS => lv_goto C.1 C.2.1 hdg ht (k H locs ls hL hP hD hS)
theorem bv_istore_n {k : Fin 4} {x : Int32} (pc' : Nat) (hpc : pc + 1 = pc') (C : bCx p R s m args meth c cc own nL ret hh dd A) (hdg : decode cc pc = .ok (.istore_n k, 1)) (hn : (k : Nat) < nL)
    (kk : bV p l e R s m args below meth c dd A nL mc ms post thr pc' (bU lo k (.int x)) rest ad w N cells slots) : bV p l e R s m args below meth c dd A nL mc ms post thr pc lo (.int x :: rest) ad w N cells slots := by
  subst hpc
  exact fun H locs ls hL hP hD hS => lv_istore_n C.1 C.2.1 hdg rfl (bH.all hL) hn rfl (fun ls' h' => kk H locs ls' (bH.st1 hL h' (by rfl)) hP hD hS)
theorem bv_istore {i : Nat} {x : Int32} (pc' : Nat) (hpc : pc + 2 = pc') (C : bCx p R s m args meth c cc own nL ret hh dd A) (hdg : decode cc pc = .ok (.istore i, 2)) (hn : i < nL)
    (kk : bV p l e R s m args below meth c dd A nL mc ms post thr pc' (bU lo i (.int x)) rest ad w N cells slots) : bV p l e R s m args below meth c dd A nL mc ms post thr pc lo (.int x :: rest) ad w N cells slots := by
  subst hpc
  exact fun H locs ls hL hP hD hS => lv_istore C.1 C.2.1 hdg (bH.all hL) hn rfl (fun ls' h' => kk H locs ls' (bH.st1 hL h' (by rfl)) hP hD hS)
theorem bv_lstore_n {k : Fin 4} {x : Int64} (pc' : Nat) (hpc : pc + 1 = pc') (C : bCx p R s m args meth c cc own nL ret hh dd A) (hdg : decode cc pc = .ok (.lstore_n k, 1)) (hn : (k : Nat) + 1 < nL)
    (kk : bV p l e R s m args below meth c dd A nL mc ms post thr pc' (bS lo k (.long x)) rest ad w N cells slots) : bV p l e R s m args below meth c dd A nL mc ms post thr pc lo (.long x :: rest) ad w N cells slots := by
  subst hpc
  exact fun H locs ls hL hP hD hS => lv_lstore_n C.1 C.2.1 hdg rfl (bH.all hL) hn rfl (fun ls' h' => kk H locs ls' (bH.st2 hL h' (by rfl)) hP hD hS)
theorem bv_lstore {i : Nat} {x : Int64} (pc' : Nat) (hpc : pc + 2 = pc') (C : bCx p R s m args meth c cc own nL ret hh dd A) (hdg : decode cc pc = .ok (.lstore i, 2)) (hn : i + 1 < nL)
    (kk : bV p l e R s m args below meth c dd A nL mc ms post thr pc' (bS lo i (.long x)) rest ad w N cells slots) : bV p l e R s m args below meth c dd A nL mc ms post thr pc lo (.long x :: rest) ad w N cells slots := by
  subst hpc
  exact fun H locs ls hL hP hD hS => lv_lstore C.1 C.2.1 hdg (bH.all hL) hn rfl (fun ls' h' => kk H locs ls' (bH.st2 hL h' (by rfl)) hP hD hS)
theorem bv_astore_n {k : Fin 4} {x : Nat} (pc' : Nat) (hpc : pc + 1 = pc') (C : bCx p R s m args meth c cc own nL ret hh dd A) (hdg : decode cc pc = .ok (.astore_n k, 1)) (hn : (k : Nat) < nL)
    (kk : bV p l e R s m args below meth c dd A nL mc ms post thr pc' (bU lo k (.ref x)) rest ad w N cells slots) : bV p l e R s m args below meth c dd A nL mc ms post thr pc lo (.ref x :: rest) ad w N cells slots := by
  subst hpc
  exact fun H locs ls hL hP hD hS => lv_astore_n C.1 C.2.1 hdg rfl (bH.all hL) hn rfl (fun ls' h' => kk H locs ls' (bH.st1 hL h' (by rfl)) hP hD hS)
theorem bv_astore {i : Nat} {x : Nat} (pc' : Nat) (hpc : pc + 2 = pc') (C : bCx p R s m args meth c cc own nL ret hh dd A) (hdg : decode cc pc = .ok (.astore i, 2)) (hn : i < nL)
    (kk : bV p l e R s m args below meth c dd A nL mc ms post thr pc' (bU lo i (.ref x)) rest ad w N cells slots) : bV p l e R s m args below meth c dd A nL mc ms post thr pc lo (.ref x :: rest) ad w N cells slots := by
  subst hpc
  exact fun H locs ls hL hP hD hS => lv_astore C.1 C.2.1 hdg (bH.all hL) hn rfl (fun ls' h' => kk H locs ls' (bH.st1 hL h' (by rfl)) hP hD hS)
theorem bv_iinc {i : Nat} {n : Int} {x v : Int32} (pc' : Nat) (hpc : pc + 3 = pc') (C : bCx p R s m args meth c cc own nL ret hh dd A) (hdg : decode cc pc = .ok (.iinc i n, 3)) (hl : lo i = some (.int x)) (hv : x + Int32.ofInt n = v) (hn : i < nL)
    (kk : bV p l e R s m args below meth c dd A nL mc ms post thr pc' (bU lo i (.int v)) rest ad w N cells slots) : bV p l e R s m args below meth c dd A nL mc ms post thr pc lo rest ad w N cells slots := by
  subst hpc
  intro H locs ls hL hP hD hS
  obtain ⟨k, hk⟩ := bH.find hL hl
  exact lv_iinc C.1 C.2.1 hdg (bH.all hL) hk hv hn rfl (fun ls' h' => kk H locs ls' (bH.st1 hL h' (by rfl)) hP hD hS)
end bR1

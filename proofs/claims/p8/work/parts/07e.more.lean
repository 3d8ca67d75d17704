theorem b_inc (i : Nat) : nI i + Int32.ofInt 1 = nI (i + 1) := (nI_succ i).symm
theorem b_if {c : Prop} [Decidable c] {a b : Int32} (h : c) : (if c then a else b) = a := if_pos h
section bR5
variable {p : Program} {l : Launch} {e : Env} {R : Room} {s : State} {m : MethodId} {args : Array Value} {below : List Frame} {meth : Method} {c : Code} {dd : bD} {A : Nat → Prop} {nL mc ms : Nat} {post : Option Value → (Nat → Nat) → (Nat → va_E) → Nat → Prop} {thr : String → (Nat → Nat) → (Nat → va_E) → Nat → Prop} {pc : Nat} {lo : Nat → Option Value} {rest : List Value} {ad : Nat → Nat} {w : Nat → va_E} {N cells slots : Nat} {cc : ByteArray} {own : String} {ret : Option FieldType} {hh : List (Nat × Nat × Nat × Nat)}
theorem bv_objInit {idx a : Nat} (pc' : Nat) (hpc : pc + 3 = pc') (C : bCx p R s m args meth c cc own nL ret hh dd A) (hlink : Cond.methodLink own idx Lib.objectInit ∈ Tb) (hinst : Cond.instanceMethod Lib.objectInit ∈ Tb) (hcode : Cond.code Lib.objectInit ⟨#[0xb1]⟩ 1 none ∈ Tb) (hf : 1 ≤ R.frames) (hl : (rest.map fun v => v.category).sum + 12 ≤ R.locals) (hdg : decode cc pc = .ok (.invokespecial idx, 3))
    (k : bV p l e R s m args below meth c dd A nL mc ms post thr pc' lo rest ad w N cells slots) : bV p l e R s m args below meth c dd A nL mc ms post thr pc lo (.ref a :: rest) ad w N cells slots := by
  subst hpc
  intro H locs ls hL hP hD hS
  refine W.objInit C.1 C.2.1 C.2.2.2.1 (C.2.2.2.2.1 _ hlink) (C.2.2.2.2.1 _ hinst) (C.2.2.2.2.1 _ hcode) rfl (hL.1.trans C.2.2.1.symm) rfl hdg hf (by show 2 * 0 + (rest.map fun v => v.category).sum + 12 ≤ R.locals; omega) ?_
  exact k H locs ls hL hP hD hS
theorem bv_ldc {index : Nat} {v : Int32} (pc' : Nat) (hpc : pc + 2 = pc') (C : bCx p R s m args meth c cc own nL ret hh dd A) (hw : Cond.constant own index v ∈ Tb) (hdg : decode cc pc = .ok (.ldc index, 2)) (k : bV p l e R s m args below meth c dd A nL mc ms post thr pc' lo (.int v :: rest) ad w N cells slots) : bV p l e R s m args below meth c dd A nL mc ms post thr pc lo rest ad w N cells slots := by
  subst hpc
  exact fun H locs ls hL hP hD hS => lv_ldc C.1 C.2.1 C.2.2.2.1 (C.2.2.2.2.1 _ hw) hdg (k H locs ls hL hP hD hS)
theorem bv_ldc2 {index : Nat} {v : Int64} (pc' : Nat) (hpc : pc + 3 = pc') (C : bCx p R s m args meth c cc own nL ret hh dd A) (hw : Cond.constantLong own index v ∈ Tb) (hdg : decode cc pc = .ok (.ldc2_w index, 3)) (k : bV p l e R s m args below meth c dd A nL mc ms post thr pc' lo (.long v :: rest) ad w N cells slots) : bV p l e R s m args below meth c dd A nL mc ms post thr pc lo rest ad w N cells slots := by
  subst hpc
  exact fun H locs ls hL hP hD hS => lv_ldc2 C.1 C.2.1 C.2.2.2.1 (C.2.2.2.2.1 _ hw) hdg (k H locs ls hL hP hD hS)
end bR5

section bR3
variable {p : Program} {l : Launch} {e : Env} {R : Room} {s : State} {m : MethodId} {args : Array Value} {below : List Frame} {meth : Method} {c : Code} {dd : bD} {A : Nat → Prop} {nL mc ms : Nat} {post : Option Value → (Nat → Nat) → (Nat → va_E) → Nat → Prop} {thr : String → (Nat → Nat) → (Nat → va_E) → Nat → Prop} {pc : Nat} {lo : Nat → Option Value} {rest : List Value} {ad : Nat → Nat} {w : Nat → va_E} {N cells slots : Nat} {cc : ByteArray} {own : String} {ret : Option FieldType} {hh : List (Nat × Nat × Nat × Nat)}
theorem bs_S (C : bCx p R s m args meth c cc own nL ret hh dd A) {index maxL : Nat} {y : MethodName} {av st rest : List Value} (his : bIs y maxL) (hlink : Cond.methodLink own index y ∈ Tb) (hstat : Cond.static y ∈ Tb) (hini : Cond.initialized y.cls ∈ Tb) (hy : y.cls ≠ "java/lang/invoke/MethodHandle" ∧ y.cls ≠ "java/lang/invoke/VarHandle") (hn : (parseMethodDescriptor y.desc).map (fun d => d.parameters.length) = some av.length) (hst : st = av.reverse ++ rest) (hdg : decode cc pc = .ok (.invokestatic index, 3))
    (H : Heap) (locs : List Loc) (ls : Array Slot) : bSite p l e R s m args below meth c H locs cells slots (F0 m pc ls st) rest y av.toArray := by
  intro T hT X
  obtain ⟨mk, methM, cM, hnamed, hmethM, -, -, hsig⟩ := his.spec C.2.2.2.2.1
  have hstatic : methM.isStatic = true := Cond.static_spec hnamed hmethM (C.2.2.2.2.1 _ hstat)
  obtain ⟨kP, hkP, -⟩ := className_of_methodNamed hnamed
  have hinitP : kP.init = .initialized := Cond.initialized_spec (findClass_of_methodNamed hnamed) hkP (C.2.2.2.2.1 _ hini)
  rw [hsig] at hn
  obtain ⟨vm₁, X₁, hstep₁⟩ := X.invokestatic C.1 C.2.2.2.1 (C.2.2.2.2.1 _ hlink) hnamed hmethM hstatic hkP hinitP hy (g := F0 m pc ls st) rfl (argsL := av) (rest := rest) (Option.some.inj hn).symm hst (by rw [C.2.1]; exact hdg)
  exact ⟨mk, vm₁, X₁, hnamed, hstep₁⟩
theorem bs_SN (C : bCx p R s m args meth c cc own nL ret hh dd A) {index maxL : Nat} {y : MethodName} {host : String} {av st rest : List Value} (his : bIs y maxL) (hlink : Cond.methodLinkNest own index y host ∈ bNst) (hstat : Cond.static y ∈ Tb) (hini : Cond.initialized y.cls ∈ Tb) (hy : y.cls ≠ "java/lang/invoke/MethodHandle" ∧ y.cls ≠ "java/lang/invoke/VarHandle") (hn : (parseMethodDescriptor y.desc).map (fun d => d.parameters.length) = some av.length) (hst : st = av.reverse ++ rest) (hdg : decode cc pc = .ok (.invokestatic index, 3))
    (H : Heap) (locs : List Loc) (ls : Array Slot) : bSite p l e R s m args below meth c H locs cells slots (F0 m pc ls st) rest y av.toArray := by
  intro T hT X
  obtain ⟨mk, methM, cM, hnamed, hmethM, -, -, hsig⟩ := his.spec C.2.2.2.2.1
  have hstatic : methM.isStatic = true := Cond.static_spec hnamed hmethM (C.2.2.2.2.1 _ hstat)
  obtain ⟨kP, hkP, -⟩ := className_of_methodNamed hnamed
  have hinitP : kP.init = .initialized := Cond.initialized_spec (findClass_of_methodNamed hnamed) hkP (C.2.2.2.2.1 _ hini)
  rw [hsig] at hn
  obtain ⟨vm₁, X₁, hstep₁⟩ := X.invokestaticNest C.1 C.2.2.2.1 (va_Nw.use rfl (C.2.2.2.2.2.2.2.2.1.2.1 _ hlink)) hnamed hmethM hstatic hkP hinitP hy (g := F0 m pc ls st) rfl (argsL := av) (rest := rest) (Option.some.inj hn).symm hst (by rw [C.2.1]; exact hdg)
  exact ⟨mk, vm₁, X₁, hnamed, hstep₁⟩
theorem bs_V (k : Nat) (C : bCx p R s m args meth c cc own nL ret hh dd A) {index maxL a ci : Nat} {y : MethodName} {fs : List Value} {q : vw_C} {av st rest : List Value} (his : bIs y maxL) (hlink : Cond.methodLink own index y ∈ Tb) (hinst : Cond.instanceMethod y ∈ Tb) (hsel : Cond.selects q.1 y y ∈ Tb) (hk : k < N) (ha : ad k = a) (he : w k = .inr (ci, fs)) (hc : bCl[ci]? = some q) (hy : y.cls ≠ "java/lang/invoke/MethodHandle" ∧ y.cls ≠ "java/lang/invoke/VarHandle") (hn : (parseMethodDescriptor y.desc).map (fun d => d.parameters.length) = some av.length) (hst : st = av.reverse ++ .ref a :: rest) (hdg : decode cc pc = .ok (.invokevirtual index, 3))
    (H : Heap) (locs : List Loc) (ls : Array Slot) (hP : va_P dd.1 bCl (bw ad w N) H) : bSite p l e R s m args below meth c H locs cells slots (F0 m pc ls st) rest y (.ref a :: av).toArray := by
  intro T hT X
  subst ha
  obtain ⟨cellB, hcell, hobj, hcls⟩ := va_recv C.2.2.2.2.2.2.2.2.1.1 hP hc (show (bw ad w N)[k]? = some (ad k, .inr (ci, fs)) by rw [bw_at hk, he])
  obtain ⟨mk, methM, hnamed, hmethM, hstM, habM⟩ := Cond.instanceMethod_spec (C.2.2.2.2.1 _ hinst)
  obtain ⟨mk', methM', cM, hnamed', hmethM', -, -, hsig⟩ := his.spec C.2.2.2.2.1
  cases hnamed.symm.trans hnamed'
  cases hmethM.symm.trans hmethM'
  obtain ⟨c2, r2, m2, q1, q2, q3, q4, kP, hkP, hkPi⟩ := Cond.selects_spec (C.2.2.2.2.1 _ hsel)
  cases hcls.symm.trans q1
  cases (State.methodFound?_of_named hnamed hy).symm.trans q2
  cases hnamed.symm.trans q3
  have hselP : selectMethod e.platform s.vm cellB.cls mk = .method mk := by rw [Launch.admits_selectMethod X.admits]; exact q4
  rw [hsig] at hn
  obtain ⟨vm₁, X₁, hstep₁⟩ := X.invokevirtual C.1 C.2.2.2.1 (C.2.2.2.2.1 _ hlink) hnamed hmethM hstM hkP hkPi hy (a := ad k) (cell := cellB) (by rw [hT]; exact hcell)
    (fun z h => by rw [h] at hobj; cases hobj) hselP hmethM habM hkP hkPi (g := F0 m pc ls st) rfl (argsL := av) (rest := rest) (Option.some.inj hn).symm hst (by rw [C.2.1]; exact hdg)
  exact ⟨mk, vm₁, X₁, hnamed, hstep₁⟩
theorem bs_VN (k : Nat) (C : bCx p R s m args meth c cc own nL ret hh dd A) {index maxL a ci : Nat} {y : MethodName} {host : String} {fs : List Value} {q : vw_C} {av st rest : List Value} (his : bIs y maxL) (hlink : Cond.methodLinkNest own index y host ∈ bNst) (hinst : Cond.instanceMethod y ∈ Tb) (hsel : Cond.selects q.1 y y ∈ Tb) (hk : k < N) (ha : ad k = a) (he : w k = .inr (ci, fs)) (hc : bCl[ci]? = some q) (hy : y.cls ≠ "java/lang/invoke/MethodHandle" ∧ y.cls ≠ "java/lang/invoke/VarHandle") (hn : (parseMethodDescriptor y.desc).map (fun d => d.parameters.length) = some av.length) (hst : st = av.reverse ++ .ref a :: rest) (hdg : decode cc pc = .ok (.invokevirtual index, 3))
    (H : Heap) (locs : List Loc) (ls : Array Slot) (hP : va_P dd.1 bCl (bw ad w N) H) : bSite p l e R s m args below meth c H locs cells slots (F0 m pc ls st) rest y (.ref a :: av).toArray := by
  intro T hT X
  subst ha
  obtain ⟨cellB, hcell, hobj, hcls⟩ := va_recv C.2.2.2.2.2.2.2.2.1.1 hP hc (show (bw ad w N)[k]? = some (ad k, .inr (ci, fs)) by rw [bw_at hk, he])
  obtain ⟨mk, methM, hnamed, hmethM, hstM, habM⟩ := Cond.instanceMethod_spec (C.2.2.2.2.1 _ hinst)
  obtain ⟨mk', methM', cM, hnamed', hmethM', -, -, hsig⟩ := his.spec C.2.2.2.2.1
  cases hnamed.symm.trans hnamed'
  cases hmethM.symm.trans hmethM'
  obtain ⟨c2, r2, m2, q1, q2, q3, q4, kP, hkP, hkPi⟩ := Cond.selects_spec (C.2.2.2.2.1 _ hsel)
  cases hcls.symm.trans q1
  cases (State.methodFound?_of_named hnamed hy).symm.trans q2
  cases hnamed.symm.trans q3
  have hselP : selectMethod e.platform s.vm cellB.cls mk = .method mk := by rw [Launch.admits_selectMethod X.admits]; exact q4
  rw [hsig] at hn
  obtain ⟨vm₁, X₁, hstep₁⟩ := X.invokevirtualNest C.1 C.2.2.2.1 (va_Nw.use rfl (C.2.2.2.2.2.2.2.2.1.2.1 _ hlink)) hnamed hmethM hstM hkP hkPi hy (a := ad k) (cell := cellB) (by rw [hT]; exact hcell)
    (fun z h => by rw [h] at hobj; cases hobj) hselP hmethM habM hkP hkPi (g := F0 m pc ls st) rfl (argsL := av) (rest := rest) (Option.some.inj hn).symm hst (by rw [C.2.1]; exact hdg)
  exact ⟨mk, vm₁, X₁, hnamed, hstep₁⟩
theorem bs_I (C : bCx p R s m args meth c cc own nL ret hh dd A) {index maxL a : Nat} {bytes : ByteArray} {y : MethodName} {av st rest : List Value} (hcd : Cond.code y bytes maxL none ∈ Tb) (hlink : Cond.methodLink own index y ∈ Tb) (hinst : Cond.instanceMethod y ∈ Tb) (hy1 : y.name = "<init>") (hy : y.cls ≠ "java/lang/invoke/MethodHandle" ∧ y.cls ≠ "java/lang/invoke/VarHandle") (hn : (parseMethodDescriptor y.desc).map (fun d => d.parameters.length) = some av.length) (hst : st = av.reverse ++ .ref a :: rest) (hdg : decode cc pc = .ok (.invokespecial index, 3))
    (H : Heap) (locs : List Loc) (ls : Array Slot) : bSite p l e R s m args below meth c H locs cells slots (F0 m pc ls st) rest y (.ref a :: av).toArray := by
  intro T hT X
  have hpl : e.platform.magicAccessors = ({} : Platform).magicAccessors := by rw [X.admits.platform]
  obtain ⟨mk, methM, cM, kP, vm₁, hnamed, -, -, -, -, -, -, -, hW₁, hstep₁⟩ := Steps.initColdArgs (e := e) X.here C.1 X.warmed hpl C.2.2.2.1 hy1 hy (C.2.2.2.2.1 _ hlink) (C.2.2.2.2.1 _ hinst) (C.2.2.2.2.1 _ hcd) (f := F0 m pc ls st) rfl (argsL := av) (rest := rest) (fun sig h => by rw [h] at hn; exact (Option.some.inj hn).symm) hst (by rw [C.2.1]; exact hdg)
  exact ⟨mk, vm₁, X.noted hW₁, hnamed, hstep₁⟩
theorem bs_IN (C : bCx p R s m args meth c cc own nL ret hh dd A) {index maxL a : Nat} {bytes : ByteArray} {y : MethodName} {host : String} {av st rest : List Value} (hcd : Cond.code y bytes maxL none ∈ Tb) (hlink : Cond.methodLinkNest own index y host ∈ bNst) (hinst : Cond.instanceMethod y ∈ Tb) (hy1 : y.name = "<init>") (hy : y.cls ≠ "java/lang/invoke/MethodHandle" ∧ y.cls ≠ "java/lang/invoke/VarHandle") (hn : (parseMethodDescriptor y.desc).map (fun d => d.parameters.length) = some av.length) (hst : st = av.reverse ++ .ref a :: rest) (hdg : decode cc pc = .ok (.invokespecial index, 3))
    (H : Heap) (locs : List Loc) (ls : Array Slot) : bSite p l e R s m args below meth c H locs cells slots (F0 m pc ls st) rest y (.ref a :: av).toArray := by
  intro T hT X
  have hpl : e.platform.magicAccessors = ({} : Platform).magicAccessors := by rw [X.admits.platform]
  obtain ⟨mk, methM, cM, kP, vm₁, hnamed, -, -, -, -, -, -, -, hW₁, hstep₁⟩ := Steps.initColdArgsNest (e := e) X.here C.1 X.warmed hpl C.2.2.2.1 hy1 hy (va_Nw.use rfl (C.2.2.2.2.2.2.2.2.1.2.1 _ hlink)) (C.2.2.2.2.1 _ hinst) (C.2.2.2.2.1 _ hcd) (f := F0 m pc ls st) rfl (argsL := av) (rest := rest) (fun sig h => by rw [h] at hn; exact (Option.some.inj hn).symm) hst (by rw [C.2.1]; exact hdg)
  exact ⟨mk, vm₁, X.noted hW₁, hnamed, hstep₁⟩
/-- a call by contract -/
theorem bv_call {y : MethodName} {maxL fr lc mc' ms' : Nat} {av st rest : List Value} {ig : Instr} {post' : Option Value → (Nat → Nat) → (Nat → va_E) → Nat → Prop} {thr' : String → (Nat → Nat) → (Nat → va_E) → Nat → Prop} (pc' : Nat) (hpc : pc + 3 = pc') (C : bCx p R s m args meth c cc own nL ret hh dd A) (hdg : decode cc pc = .ok (ig, 3)) (hK : bK l dd y fr lc mc' ms' av ad w N post' thr') (his : bIs y maxL) (hini : Cond.initialized y.cls ∈ Tb)
    (site : ∀ (H : Heap) (locs : List Loc) (ls : Array Slot), va_P dd.1 bCl (bw ad w N) H → bSite p l e R s m args below meth c H locs cells slots (F0 m pc ls st) rest y av.toArray)
    (hR : fr + 1 ≤ R.frames ∧ 8 + (maxL + 11) + lc ≤ R.locals) (hce : cells + mc' ≤ R.cells) (hsl : slots + ms' ≤ R.slots) (hcat : (rest.map fun v => v.category).sum ≤ 8)
    (kr : ∀ (v : Option Value) (ad' : Nat → Nat) (w' : Nat → va_E) (N' : Nat), post' v ad' w' N' → bV p l e R s m args below meth c dd A nL mc ms post thr pc' lo (v.toList ++ rest) ad' w' N' (cells + mc') (slots + ms'))
    (kt : ∀ (x : Nat) (Cn : String) (ad' : Nat → Nat) (w' : Nat → va_E) (N' : Nat), thr' Cn ad' w' N' → bT p l e R s m args below meth c dd A nL mc ms post thr pc lo rest x Cn ad' w' N' (cells + mc') (slots + ms')) : bV p l e R s m args below meth c dd A nL mc ms post thr pc lo st ad w N cells slots := by
  subst hpc
  intro H locs ls hL hP hD hS T hT X
  obtain ⟨mk, vm₁, X₁, hnamed, hstep⟩ := site H locs ls hP T hT X
  obtain ⟨mk', methY, cY, hn', hmY, hcY, hlY, -⟩ := his.spec C.2.2.2.2.1
  cases hnamed.symm.trans hn'
  obtain ⟨kY, hkY, -⟩ := className_of_methodNamed hnamed
  have hiY : kY.init = .initialized := Cond.initialized_spec (findClass_of_methodNamed hnamed) hkY (C.2.2.2.2.1 _ hini)
  have hW₁ := X₁.warmed
  have hal := hW₁.alike
  obtain ⟨kY', hkY', hkeq, -⟩ := hW₁.2.2 _ _ hkY
  have hiY' : kY'.init = .initialized := by rw [hkeq]; exact hiY
  have hfree : ∀ q, va_A (bw ad w N) H.size q → A q := by
    rintro q (⟨k, x, hk⟩ | hq)
    · exact hD.2 k _ hk
    · exact C.2.2.2.2.2.2.2.1 q (Nat.le_trans hS.1 hq)
  obtain ⟨o, t, T', L, X', hL', e1, e2, ⟨hF, ad', w', N', hP', hD', hend⟩, hret, hthr⟩ := bCore X₁ (hK H.size) (g := { F0 m pc ls st with stack := rest }) rfl (hL.1.trans C.2.2.1.symm) (ig := ig) (len := 3) (by rw [C.2.1]; exact hdg) (lv_room (m := m) (pc := pc) (ls := ls) (rest := rest) hcat) (mk := mk) (X₁.named hnamed)
    (by rw [hal.method?]; exact hmY) hcY hlY hkY' hiY' hR.1 hR.2 hce hsl (a := av.toArray) (atoms_intro fun w0 hw0 => bGood.at (bTb_good w0 hw0) hW₁ (C.2.2.2.2.1 _ hw0))
    ⟨rfl, by rw [← hT]; rfl, by rw [← hT] at hP; exact hP, hD.weaken (fun _ _ _ _ => trivial), C.2.2.2.2.2.2.2.2.1.to (U := ((T.setVm vm₁).calling _ mk av.toArray)) hW₁ (fun a ha hna => by rw [← hT] at hS; exact hS.2.1 a ha hna) (by rw [hT] at *; exact hfree)⟩
  have hheap : ((T.setVm vm₁).calling { F0 m pc ls st with stack := rest } mk av.toArray).heap = H := hT
  have hF1 : H.size ≤ t.heap.size := by have := hF.1; rw [hheap] at this; exact this
  have hF2 : ∀ q : Nat, q < H.size → ¬ va_A (bw ad w N) H.size q → t.heap[q]? = H[q]? := by have := hF.2; rw [hheap] at this; exact this
  have hS' : va_S A s.heap t.heap (locs ++ L) := by
    refine ⟨Nat.le_trans hS.1 hF1, fun q h1 h2 => ?_, fun q hq => ?_⟩
    · rw [hF2 q (Nat.lt_of_lt_of_le h1 hS.1) (fun h3 => h2 (hfree q h3))]
      exact hS.2.1 q h1 h2
    · rcases List.mem_append.mp hq with h1 | h1
      · exact hS.2.2 q h1
      · exact hfree _ (hL' q h1)
  have hD'' : va_D A (bw ad' w' N') := hD'.weaken (fun _ _ _ h => hfree _ h)
  rcases hend with ⟨v, rfl, hpost⟩ | ⟨x, Cn, cell, rfl, hx, hvm, hfc, hxs, hth⟩
  · obtain ⟨t2, st2, hQ⟩ := kr v ad' w' N' hpost t.heap (locs ++ L) ls hL hP' hD'' hS' T' e1 X'
    exact ⟨t2, hstep _ (fun acts => by rw [doInvoke_state]; exact (hret v rfl).trans st2), hQ⟩
  · have hfc' : s.vm.findClass Cn = some cell.cls := by
      rw [← e2] at hfc
      rw [X'.warmed.alike.findClass] at hfc
      exact hfc
    have hxs' : s.heap.size ≤ x := by
      rw [hheap] at hxs
      exact Nat.le_trans hS.1 hxs
    obtain ⟨t2, st2, hQ⟩ := kt x Cn ad' w' N' hth t.heap (locs ++ L) ls cell hL hP' hD'' hS' hx hvm hfc' hxs' T' e1 X'
    exact ⟨t2, hstep _ (fun acts => by rw [doInvoke_state]; exact (hthr x rfl).trans st2), hQ⟩
/-- the exception leaves the method -/
theorem bt_out {x : Nat} {Cn : String} (C : bCx p R s m args meth c cc own nL ret hh dd A) (hout : (tableOf hh).all (fun y => !covers y pc) = true) (hc : cells ≤ mc) (hs : slots ≤ ms) (h : thr Cn ad w N) : bT p l e R s m args below meth c dd A nL mc ms post thr pc lo rest x Cn ad w N cells slots := by
  intro H locs ls cell hL hP hD hS hx hvm hfc hxs T hT X
  have X2 := stand_widen X hc hs
  obtain ⟨h1, h2, h3, h4, h5⟩ := X2.leaveThrown x (g := F0 m pc ls rest) rfl rfl rfl (outside_of_table C.2.2.2.2.2.2.2.2.2 hout) C.2.2.2.2.2.2.1
  have hh2 : (T.setFrames (.throwing x :: below)).heap = H := hT
  refine ⟨_, h1, .threw x, h2, h3, ⟨hS.F hh2, ad, w, N, by rw [hh2]; exact hP, hD, Or.inr ⟨x, Cn, cell, rfl, by rw [hh2]; exact hx, hvm, ?_, hxs, h⟩⟩, locs, ⟨h4, h5⟩, hS.2.2⟩
  show T.vm.findClass Cn = some cell.cls
  rw [X.warmed.alike.findClass]
  exact hfc
theorem bK.start {y : MethodName} {fr lc mc ms maxL : Nat} {av : List Value} {ad : Nat → Nat} {w : Nat → va_E} {N : Nat} {post : Option Value → (Nat → Nat) → (Nat → va_E) → Nat → Prop} {thr : String → (Nat → Nat) → (Nat → va_E) → Nat → Prop} {cc : ByteArray} {ret : Option FieldType} (lo0 : List (Nat × Value)) (hy : plainName y.cls = true) (hw : Cond.code y cc maxL ret ∈ Tb) (hlen : (lg_sl av).length ≤ maxL) (hlo : lv_args 0 av = lo0)
    (body : ∀ (p : Program) (e : Env) (s : State) (m : MethodId) (args : Array Value) (below : List Frame) (meth : Method) (c : Code) (A : Nat → Prop), meth.name = y.name → bCx p { frames := fr, cells := mc, slots := ms, locals := lc } s m args meth c cc y.cls maxL ret [] dd A →
      bV p l e { frames := fr, cells := mc, slots := ms, locals := lc } s m args below meth c dd A maxL mc ms post thr 0 (bO lo0) [] ad w N 0 0) : bK l dd y fr lc mc ms av ad w N post thr := by
  intro sz
  refine bMet.ofW hy hw (fun p e s m args below meth c s₁ B hml htab hPc => ?_)
  obtain ⟨rfl, hsz, hP, hD0, hG⟩ := hPc
  subst hsz
  rw [lg_entry_eq]
  have hE := bH.entry av hlen
  rw [hlo] at hE
  exact body p e s m _ below meth c (va_A (bw ad w N) s.heap.size) (name_of_methodNamed B.named B.method).1 ⟨B.exec, B.bytes, hml, findClass_of_methodNamed B.named, atoms_spec (ws := Tb) B.pre, B.returns, B.notSynchronized, fun q h => Or.inr h, hG, htab⟩ s.heap [] _ hE hP hD0.self va_S.rf
theorem bK.startH {y : MethodName} {fr lc mc ms maxL : Nat} {av : List Value} {ad : Nat → Nat} {w : Nat → va_E} {N : Nat} {post : Option Value → (Nat → Nat) → (Nat → va_E) → Nat → Prop} {thr : String → (Nat → Nat) → (Nat → va_E) → Nat → Prop} {cc : ByteArray} {ret : Option FieldType} {hh : List (Nat × Nat × Nat × Nat)} (lo0 : List (Nat × Value)) (hy : plainName y.cls = true) (hw : Cond.codeWith y cc maxL ret hh ∈ Tb) (hlen : (lg_sl av).length ≤ maxL) (hlo : lv_args 0 av = lo0)
    (body : ∀ (p : Program) (e : Env) (s : State) (m : MethodId) (args : Array Value) (below : List Frame) (meth : Method) (c : Code) (A : Nat → Prop), meth.name = y.name → bCx p { frames := fr, cells := mc, slots := ms, locals := lc } s m args meth c cc y.cls maxL ret hh dd A →
      bV p l e { frames := fr, cells := mc, slots := ms, locals := lc } s m args below meth c dd A maxL mc ms post thr 0 (bO lo0) [] ad w N 0 0) : bK l dd y fr lc mc ms av ad w N post thr := by
  intro sz
  refine bMet.ofWH hy hw (fun p e s m args below meth c s₁ B hml htab hPc => ?_)
  obtain ⟨rfl, hsz, hP, hD0, hG⟩ := hPc
  subst hsz
  rw [lg_entry_eq]
  have hE := bH.entry av hlen
  rw [hlo] at hE
  exact body p e s m _ below meth c (va_A (bw ad w N) s.heap.size) (name_of_methodNamed B.named B.method).1 ⟨B.exec, B.bytes, hml, findClass_of_methodNamed B.named, atoms_spec (ws := Tb) B.pre, B.returns, B.notSynchronized, fun q h => Or.inr h, hG, htab⟩ s.heap [] _ hE hP hD0.self va_S.rf
end bR3

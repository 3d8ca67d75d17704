def bOff (l : Launch) : Prop := ∀ e, l.admits e → e.platform.stackTraces = false
theorem bSame0 {s t : State} {k n : Nat} (h : s.sameButNew t [] k n) {q : Nat} (hq : q < s.heap.size) : t.heap[q]? = s.heap[q]? := by
  obtain ⟨c', h1, h2, h3, h4⟩ := h.2.2.2.2.2 q s.heap[q] (Array.getElem?_eq_getElem hq)
  have e1 : c'.slots = s.heap[q].slots := Array.ext_getElem? (fun i => h4 i (by simp))
  rw [h1, Array.getElem?_eq_getElem hq]
  rw [h2, e1]
section bR4
variable {p : Program} {l : Launch} {e : Env} {R : Room} {s : State} {m : MethodId} {args : Array Value} {below : List Frame} {meth : Method} {c : Code} {dd : bD} {A : Nat → Prop} {nL mc ms : Nat} {post : Option Value → (Nat → Nat) → (Nat → va_E) → Nat → Prop} {thr : String → (Nat → Nat) → (Nat → va_E) → Nat → Prop} {pc : Nat} {lo : Nat → Option Value} {rest : List Value} {ad : Nat → Nat} {w : Nat → va_E} {N cells slots : Nat} {cc : ByteArray} {own : String} {ret : Option FieldType} {hh : List (Nat × Nat × Nat × Nat)}
/-- new X("text") is made and thrown; no row of the table covers the athrow -/
theorem bv_throw {i1 i2 i3 : Nat} {cls tx : String} {names : List String} (hlt : bOff l) (C : bCx p R s m args meth c cc own nL ret hh dd A) (hd0 : decode cc pc = .ok (.new i1, 3)) (hd1 : decode cc (pc + 3) = .ok (.dup, 1)) (hd2 : decode cc (pc + 4) = .ok (.ldc i2, 2)) (hd3 : decode cc (pc + 6) = .ok (.invokespecial i3, 3)) (hd4 : decode cc (pc + 9) = .ok (.athrow, 1))
    (hcl : Cond.classLink own i1 cls ∈ Tb) (hins : Cond.instantiable cls 6 ∈ Tb) (hini : Cond.initialized cls ∈ Tb) (hstr : (own, i2, tx) ∈ bStr) (hfit : Bundle.fit cls = true) (hnames : ∀ n ∈ names, Bundle.fit n = true)
    (hat : ∀ a ∈ Bundle.ownAtoms own i3 cls names, a ∈ Tb ∨ a ∈ bNst ∨ ∃ q ∈ bZq, a = .isRef (.static q.1 q.2.1 q.2.2) ∨ a = .laysStatic q.1 q.2.1 q.2.2) (hout : (tableOf hh).all (fun y => !covers y (pc + 9)) = true)
    (hRf : names.length + 3 < R.frames) (hRl : (rest.map fun v => v.category).sum + (13 * (names.length + 1) + 43) ≤ R.locals) (hc : cells + 1 ≤ mc) (hs : slots + 6 ≤ ms) (hcR : cells + 1 ≤ R.cells) (hsR : slots + 6 ≤ R.slots) (h : thr cls ad w N) : bV p l e R s m args below meth c dd A nL mc ms post thr pc lo rest ad w N cells slots := by
  intro H locs ls hL hP hD hS T hT X
  have X' := bRebase X (R' := { frames := R.frames, cells := 1, slots := 6, locals := R.locals }) (Nat.le_refl _) (Nat.le_refl _) hcR hsR
  have hW0 : s.WarmedH (T.setFrames (.invoking m args :: below)).vm := X.warmed
  have hts : ∀ w0 ∈ Tb, w0.before args (T.setFrames (.invoking m args :: below)) = true := fun w0 hw0 => bGood.at (bTb_good w0 hw0) hW0 (C.2.2.2.2.1 _ hw0)
  have hown : (T.setFrames (.invoking m args :: below)).vm.findClass own = some m.cls := by
    have := C.2.2.2.1
    rw [← X.warmed.alike.findClass own] at this
    exact this
  have hG : bG dd A (T.setFrames (.invoking m args :: below)) T.heap := C.2.2.2.2.2.2.2.2.1.to hW0 (fun a ha hna => by rw [hT]; exact hS.2.1 a ha hna) (fun _ h => h)
  have hwords : ∀ a ∈ Bundle.ownAtoms own i3 cls names, a.before args (T.setFrames (.invoking m args :: below)) = true := by
    intro a ha
    rcases hat a ha with h1 | h1 | ⟨q, hq, rfl | rfl⟩
    · exact hts a h1
    · exact bNst_use (bNst_only a h1) (hG.2.1 a h1)
    · exact (hG.2.2.2.2.1 q hq).isRef
    · exact (hG.2.2.2.2.1 q hq).lays
  obtain ⟨msg, hmsg⟩ := hG.2.2.2.1 _ hstr
  have key : W p l e { frames := R.frames, cells := 1, slots := 6, locals := R.locals } (T.setFrames (.invoking m args :: below)) m args below meth c T.heap [] 0 0
      (fun U => U.status = .running ∧ Ended U below (.threw T.heap.size) ∧ (T.setFrames (.invoking m args :: below)).WarmedH U.vm ∧ (T.setFrames (.invoking m args :: below)).sameButNew ({ U with vm := (T.setFrames (.invoking m args :: below)).vm } : State) [] 1 6 ∧
        ∃ ce, U.heap[T.heap.size]? = some ce ∧ Bundle.OwnCell args (T.setFrames (.invoking m args :: below)) cls T.heap.size (.ref msg) ce) (F0 m pc ls rest) := by
    refine W.newc (g := F0 m pc ls rest) C.1 C.2.1 hown (hts _ hcl) (hts _ hins) (hts _ hini) rfl hd0 (Nat.le_refl _) (Nat.le_refl _) (fun cC kC hfc hkC hord hsz => ?_)
    refine lv_dup (m := m) (ls := ls) (pc := pc + 3) (rest := rest) (va := .ref T.heap.size) C.1 C.2.1 hd1 rfl ?_
    refine va_ldcS C.1 C.2.1 hown hmsg hd2 ?_
    intro T2 hT2 X2
    have hcell : T2.heap[T.heap.size]? = some (freshCell cC kC) := by rw [hT2]; simp
    obtain ⟨U, u1, u2, u3, u4, u5, ce, u6, u7⟩ := X2.ctorThrowS C.1 (hlt e X.admits) hown hfit hnames hwords (fun x hx => by cases hx) hfc hkC hcell (Nat.le_refl _) (msg := .ref msg) rfl (g := F0 m (pc + 6) ls (.ref msg :: .ref T.heap.size :: .ref T.heap.size :: rest)) rfl (hL.1.trans C.2.2.1.symm) rfl rfl (rest := rest) rfl
      (by rw [C.2.1]; exact hd3) (by rw [C.2.1]; exact hd4) (outside_of_table C.2.2.2.2.2.2.2.2.2 hout) hRf (by rw [List.map_cons, List.sum_cons]; show 2 * 0 + (1 + (rest.map fun v => v.category).sum) + (13 * (names.length + 1) + 42) ≤ R.locals; omega) C.2.2.2.2.2.2.1
    exact ⟨U, u1, u2, u3, u4, u5, ce, u6, u7⟩
  obtain ⟨U, u1, u2, u3, u4, u5, ce, u6, u7⟩ := key T rfl X'
  have hFE := bRebase.back X u4 u5
  have hheap : ∀ q : Nat, q < H.size → U.heap[q]? = H[q]? := by
    intro q hq
    rw [← hT] at hq ⊢
    exact bSame0 u5 hq
  refine ⟨U, u1, .threw T.heap.size, u2, u3, ⟨⟨?_, ?_⟩, ad, w, N, ?_, hD, Or.inr ⟨T.heap.size, cls, ce, rfl, u6, u7.vm, ?_, ?_, h⟩⟩, locs, ⟨hFE.1, hFE.2.mono hc hs⟩, hS.2.2⟩
  · have h1 : T.heap.size ≤ U.heap.size := u5.2.1
    rw [hT] at h1
    exact Nat.le_trans hS.1 h1
  · intro q h1 h2
    rw [hheap q (Nat.lt_of_lt_of_le h1 hS.1)]
    exact hS.2.1 q h1 h2
  · refine hP.kept (fun k q hk => hheap _ ?_)
    exact (hP k q hk).lt
  · have h1 := u7.cls
    rw [← u4.alike.findClass cls] at h1
    exact h1
  · rw [hT]; exact hS.1
/-! catching -/
def bFinds (e : Env) (s : State) (f : JFrame) (a : Addr) (hd : Handler) (vm' : Vm) : Prop :=
  ∀ (Q : Handler → Pre) (E : CtlPost) (d : Bool) (acts : List Action), wp (findHandler f a) Q E e d acts s ↔ Q hd d acts (s.setVm vm')
theorem bgo_link {Q : Handler → Pre} {E : CtlPost} {e : Env} {d : Bool} {acts : List Action} {s : State} {f : JFrame} {a : Addr} {x : ExceptionTableEntry} {t : List ExceptionTableEntry} {c : ClassId} {cell : Cell} (hx : covers x f.pc = true) (h0 : x.catchType ≠ 0)
    (hl : s.vm.ClassLinks e.platform f.method.cls x.catchType c) (hcell : s.heap[a]? = some cell) (hobj : ∀ k, cell.vm ≠ .statics k) (hk : ∃ k, s.vm.classes[cell.cls]? = some k) (hc : ∃ k, s.vm.classes[c]? = some k) :
    wp (findHandler.go f a (x :: t)) Q E e d acts s ↔ if s.vm.assignable cell.cls c = true then Q (.found x.handlerPc) d acts (s.setVm (s.vm.noted f.method.cls x.catchType (.cls c))) else wp (findHandler.go f a t) Q E e d acts (s.setVm (s.vm.noted f.method.cls x.catchType (.cls c))) := by
  simp only [covers] at hx
  obtain ⟨ha, ht⟩ := (resolveClass_links e.toSetting hl).op (op := VmOp.resolveClass f.method.cls x.catchType) rfl
  have hal : s.vm.Alike (s.vm.noted f.method.cls x.catchType (.cls c)) := (Vm.Alike.refl s.vm).noted _ _ _
  obtain ⟨k1, hk1⟩ := hk
  obtain ⟨k2, hk2⟩ := hc
  obtain ⟨k1', hk1', -⟩ := hal.2.2 _ _ hk1
  obtain ⟨k2', hk2', -⟩ := hal.2.2 _ _ hk2
  have hfit := hal.assignable cell.cls c
  cases hf : s.vm.assignable cell.cls c <;> rw [hf] at hfit <;> simp [findHandler.go, hx, h0, ha, ht, hcell, hobj, hk1', hk2', hfit, VmOp.dirties, VmOp.acts]
def bCatch (e : Env) (s0 : State) (f : JFrame) (cls : ClassId) : List ExceptionTableEntry → Nat → Prop
  | [], _ => False
  | x :: t, h => (covers x f.pc = false ∧ bCatch e s0 f cls t h) ∨ (covers x f.pc = true ∧ x.catchType ≠ 0 ∧ ∃ c, s0.vm.ClassLinks e.platform f.method.cls x.catchType c ∧ ((s0.vm.assignable cls c = true ∧ x.handlerPc = h) ∨ (s0.vm.assignable cls c = false ∧ bCatch e s0 f cls t h)))
theorem bGo {e : Env} {s0 : State} {f : JFrame} {a : Addr} {cell : Cell} (hobj : ∀ k, cell.vm ≠ .statics k) (hk0 : ∃ k, s0.vm.classes[cell.cls]? = some k) : ∀ (tab : List ExceptionTableEntry) (S : State) (h : Nat), s0.WarmedH S.vm → S.heap[a]? = some cell → bCatch e s0 f cell.cls tab h →
    ∃ vm', s0.WarmedH vm' ∧ ∀ (Q : Handler → Pre) (E : CtlPost) (d : Bool) (acts : List Action), wp (findHandler.go f a tab) Q E e d acts S ↔ Q (.found h) d acts (S.setVm vm')
  | [], _, _, _, _, hC => hC.elim
  | x :: t, S, h, hW, hcell, hC => by
    rcases hC with ⟨hx, hC⟩ | ⟨hx, h0, c, hl, hC⟩
    · obtain ⟨vm', hW', hq⟩ := bGo hobj hk0 t S h hW hcell hC
      exact ⟨vm', hW', fun Q E d acts => by rw [W.findHandler_go_skip hx]; exact hq Q E d acts⟩
    · obtain ⟨k0, hk0'⟩ := hk0
      obtain ⟨k1, hk1, -⟩ := hW.alike.2.2 _ _ hk0'
      obtain ⟨dk, _, _, kt, hd, _, _, _, _, hkt, _, hop⟩ := hl.here
      obtain ⟨kt', hkt', -⟩ := hW.alike.2.2 _ _ hkt
      have hW2 : s0.WarmedH (S.vm.noted f.method.cls x.catchType (.cls c)) := hW.noted hd hop (State.rightAt_cls hl)
      have hasg := hW.alike.assignable cell.cls c
      rcases hC with ⟨hfit, rfl⟩ | ⟨hfit, hC⟩
      · refine ⟨_, hW2, fun Q E d acts => ?_⟩
        rw [bgo_link hx h0 (hW.classLinks hl) hcell hobj ⟨k1, hk1⟩ ⟨kt', hkt'⟩, hasg, hfit]
        simp
      · obtain ⟨vm', hW', hq⟩ := bGo hobj ⟨k0, hk0'⟩ t (S.setVm (S.vm.noted f.method.cls x.catchType (.cls c))) h hW2 hcell hC
        refine ⟨vm', hW', fun Q E d acts => ?_⟩
        rw [bgo_link hx h0 (hW.classLinks hl) hcell hobj ⟨k1, hk1⟩ ⟨kt', hkt'⟩, hasg, hfit]
        rw [if_neg (by simp)]
        exact hq Q E d acts
theorem bStepCatch {e : Env} {s : State} {a : Addr} {f : JFrame} {r : List Frame} {pc : Nat} {vm' : Vm} (hfind : bFinds e s f a (.found pc) vm') :
    (stepThrowing e s a (.java f :: r)).1 = (s.setVm vm').setFrames (.java { f with pc := pc, stack := [.ref a] } :: r) := by
  simp only [stepThrowing, searchFrame, vmDo]
  generalize hr : Sem.go _ e false [] s = res
  obtain ⟨as, rfl, ha⟩ := Sem.eq_ok_of hr (a := Handler.found pc) (s' := s.setVm vm') (acts' := []) (by simp [hfind _ _ _ _])
  rfl
theorem bCaught {tb : Tables} {e : Env} {s target : State} {g : JFrame} {c : Code} {below : List Frame} {a : Addr} (h : At s g.method c below) {pc : Nat} {vm' : Vm}
    (hfind : bFinds e ((s.setTop g).pushFrame (.throwing a)) g a (.found pc) vm') (hrest : Steps tb e below ((s.setVm vm').setTop { g with pc := pc, stack := [.ref a] }) target) :
    Steps tb e below ((s.setTop g).pushFrame (.throwing a)) target := by
  obtain ⟨hgo, hw⟩ := h.throwing a
  refine Steps.head hgo hw ?_
  rw [stepThread_throwing (frames_entered h.top _), bStepCatch (s := (s.setTop g).pushFrame (.throwing a)) hfind]
  obtain ⟨g₀, hg⟩ := Option.isSome_iff_exists.mp h.top
  obtain ⟨r, hr⟩ := State.topJava?_eq_some.mp hg
  have hr' : (s.setVm vm').frames = .java g₀ :: r := hr
  have e1 : ∀ (u : State) (F G : List Frame), ((u.setFrames F).setVm vm').setFrames G = (u.setVm vm').setFrames G := fun u F G => by
    have h1 : (u.setFrames F).setVm vm' = (u.setVm vm').setFrames F := rfl
    rw [h1, State.setFrames_setFrames]
  rw [State.setTop_of_frames _ hr'] at hrest
  rw [hr, List.tail_cons, State.pushFrame, e1, State.setTop_of_frames _ hr, e1]
  exact hrest
/-- the class of the exception is the one that the row names, or the row passes it -/
def bRows (own Cn : String) (pc : Nat) : List ((Nat × Nat × Nat × Nat) × String) → Nat → Prop
  | [], _ => False
  | q :: t, h => covers ⟨q.1.1, q.1.2.1, q.1.2.2.1, q.1.2.2.2⟩ pc = true ∧ q.1.2.2.2 ≠ 0 ∧ Cond.classLink own q.1.2.2.2 q.2 ∈ Tb ∧ ((q.2 = Cn ∧ q.1.2.2.1 = h) ∨ ((Cn, q.2) ∈ bNcp ∧ bRows own Cn pc t h))
/-- the exception is caught in the method -/
theorem bt_catch {x : Nat} {Cn : String} (C : bCx p R s m args meth c cc own nL ret hh dd A) (names : List String) (pcH : Nat) (hz : (hh.zip names).map Prod.fst = hh) (hr : bRows own Cn pc (hh.zip names) pcH) (k : bV p l e R s m args below meth c dd A nL mc ms post thr pcH lo [.ref x] ad w N cells slots) : bT p l e R s m args below meth c dd A nL mc ms post thr pc lo rest x Cn ad w N cells slots := by
  intro H locs ls cell hL hP hD hS hx hvm hfc hxs T hT X
  have hobj : ∀ k, cell.vm ≠ .statics k := fun k h => by rw [hvm] at h; cases h
  have hk0 : ∃ k, s.vm.classes[cell.cls]? = some k := Vm.classAt_of_findClass hfc
  have hpl : e.platform.magicAccessors = ({} : Platform).magicAccessors := by rw [X.admits.platform]
  have hasg : s.vm.assignable cell.cls cell.cls = true := by
    show s.vm.assignableAux (255 + 1) cell.cls cell.cls = true
    rw [Vm.assignableAux]
    simp
  have key : ∀ L : List ((Nat × Nat × Nat × Nat) × String), bRows own Cn pc L pcH → bCatch e s (F0 m pc ls rest) cell.cls (tableOf (L.map Prod.fst)) pcH := by
    intro L
    induction L with
    | nil => intro h; exact h.elim
    | cons q t ih =>
      intro h
      obtain ⟨h1, h2, h3, h4⟩ := h
      obtain ⟨c', hc', hcl⟩ := Cond.classLink_spec C.2.2.2.1 (C.2.2.2.2.1 _ h3) e.platform hpl
      refine Or.inr ⟨h1, h2, c', hcl, ?_⟩
      rcases h4 with ⟨e1, e2⟩ | ⟨e1, e2⟩
      · left
        rw [e1] at hc'
        cases hfc.symm.trans hc'
        exact ⟨hasg, e2⟩
      · right
        obtain ⟨a1, a2, b1, b2, b3⟩ := C.2.2.2.2.2.2.2.2.1.2.2.2.2.2.1 _ e1
        cases hfc.symm.trans b1
        cases hc'.symm.trans b2
        exact ⟨b3, ih e2⟩
  have hC := key _ hr
  rw [hz] at hC
  obtain ⟨vm', hW', hq⟩ := bGo (e := e) (s0 := s) (f := F0 m pc ls rest) (a := x) hobj hk0 (tableOf hh) ((T.setTop (F0 m pc ls rest)).pushFrame (.throwing x)) pcH (by rw [Stand.throwing_vm]; exact X.warmed) (by rw [Stand.throwing_heap, hT]; exact hx) hC
  have hf : bFinds e ((T.setTop (F0 m pc ls rest)).pushFrame (.throwing x)) (F0 m pc ls rest) x (.found pcH) vm' := by
    intro Q E d acts
    rw [W.findHandler_eq (meth := meth) (code := c) (by rw [Stand.throwing_vm]; exact X.method') X.code, C.2.2.2.2.2.2.2.2.2]
    exact hq Q E d acts
  obtain ⟨t, st, hQ⟩ := k H locs ls hL hP hD hS (T.setVm vm') hT (X.noted hW')
  exact ⟨t, bCaught X.here hf st, hQ⟩
end bR4

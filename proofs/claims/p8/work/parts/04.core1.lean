/-! worlds by keys: cell number k of the world lies at ad k and holds w k -/
def bw (ad : Nat → Nat) (w : Nat → va_E) (N : Nat) : va_W := (List.range N).map (fun k => (ad k, w k))
theorem bw_at {ad : Nat → Nat} {w : Nat → va_E} {N k : Nat} (h : k < N) : (bw ad w N)[k]? = some (ad k, w k) := by
  simp [bw, h]
theorem bw_set {ad : Nat → Nat} {w : Nat → va_E} {N k : Nat} {e : va_E} (h : k < N) : (bw ad w N).set k (ad k, e) = bw ad (va_up w k e) N := by
  apply List.ext_getElem?
  intro j
  rw [List.getElem?_set]
  by_cases hj : k = j
  · subst hj
    simp [bw, h, va_up]
  · by_cases hN : j < N
    · simp [bw, hj, hN, va_up, Ne.symm hj]
    · simp [bw, hj, hN]
theorem bw_push {ad : Nat → Nat} {w : Nat → va_E} {N q : Nat} {e : va_E} : bw ad w N ++ [(q, e)] = bw (va_up ad N q) (va_up w N e) (N + 1) := by
  have h : bw (va_up ad N q) (va_up w N e) N = bw ad w N := by
    apply List.map_congr_left
    intro k hk
    have h2 : k ≠ N := Nat.ne_of_lt (List.mem_range.mp hk)
    rw [va_up_ne _ _ h2, va_up_ne _ _ h2]
  rw [← h]
  simp [bw, List.range_succ, va_up]
theorem bw_len {ad : Nat → Nat} {w : Nat → va_E} {N : Nat} : (bw ad w N).length = N := by simp [bw]
theorem bw_lt {ad : Nat → Nat} {w : Nat → va_E} {N k : Nat} {q : Nat × va_E} (h : (bw ad w N)[k]? = some q) : k < N ∧ q = (ad k, w k) := by
  have h1 : k < (bw ad w N).length := (List.getElem?_eq_some_iff.mp h).1
  rw [bw_len] at h1
  rw [bw_at h1] at h
  exact ⟨h1, (Option.some.inj h).symm⟩
theorem bw_ne {A : Nat → Prop} {ad : Nat → Nat} {w : Nat → va_E} {N i j : Nat} (hD : va_D A (bw ad w N)) (hi : i < N) (hj : j < N) (h : i ≠ j) : ad i ≠ ad j :=
  fun q => h (hD.1 i j _ _ (bw_at hi) (bw_at hj) q)
/-! locals: what is known of them, by a function -/
def bH (ls : Array Slot) (nL : Nat) (lo : Nat → Option Value) : Prop := ls.size = nL ∧ lv_wf ls ∧ ∀ i v, lo i = some v → ls[i]? = some (.val v)
def bO : List (Nat × Value) → Nat → Option Value
  | [], _ => none
  | q :: r, i => bif Nat.beq q.1 i then some q.2 else bO r i
def bcut (o : Option Value) : Option Value := match o with
  | some (.int x) => some (.int x)
  | some (.ref x) => some (.ref x)
  | some .null => some .null
  | _ => none
def bU (lo : Nat → Option Value) (i : Nat) (v : Value) : Nat → Option Value := fun j => bif Nat.beq j i then some v else bif Nat.beq (j + 1) i then bcut (lo j) else lo j
def bS (lo : Nat → Option Value) (i : Nat) (v : Value) : Nat → Option Value := fun j => bif Nat.beq j i then some v else bif Nat.beq j (i + 1) then none else bif Nat.beq (j + 1) i then bcut (lo j) else lo j
def bAll : List (Nat × Value) → (Nat → Option Value) → Prop
  | [], _ => True
  | q :: r, lo => lo q.1 = some q.2 ∧ bAll r lo
theorem bO_sub {lo : Nat → Option Value} : ∀ (l : List (Nat × Value)), bAll l lo → ∀ i v, bO l i = some v → lo i = some v
  | [], _, i, v, h => by cases h
  | q :: r, hA, i, v, h => by
    unfold bO at h
    by_cases hq : Nat.beq q.1 i = true
    · rw [hq] at h
      have h1 : q.1 = i := Nat.eq_of_beq_eq_true hq
      have h2 : q.2 = v := Option.some.inj h
      rw [← h1, ← h2]
      exact hA.1
    · rw [Bool.not_eq_true] at hq
      rw [hq] at h
      exact bO_sub r hA.2 i v h
theorem bcut_cat {o : Option Value} {v : Value} (h : bcut o = some v) : o = some v ∧ v.category = 1 := by
  unfold bcut at h
  split at h
  · cases h; exact ⟨rfl, rfl⟩
  · cases h; exact ⟨rfl, rfl⟩
  · cases h; exact ⟨rfl, rfl⟩
  · cases h
/-- all that stands in the locals, as a list -/
def bL (ls : Array Slot) (nL : Nat) : List (Nat × Value) := (List.range nL).filterMap (fun (i : Nat) => match (ls[i]? : Option Slot) with
  | some (Slot.val v) => some (i, v)
  | _ => none)
theorem bL_mem {ls : Array Slot} {nL i : Nat} {v : Value} : (i, v) ∈ bL ls nL ↔ i < nL ∧ ls[i]? = some (.val v) := by
  unfold bL
  rw [List.mem_filterMap]
  constructor
  · rintro ⟨j, hj, h⟩
    have hj' := List.mem_range.mp hj
    revert h
    split
    · rename_i x hx
      intro h
      have h1 := Option.some.inj h
      cases h1
      exact ⟨hj', hx⟩
    · intro h; cases h
  · rintro ⟨h1, h2⟩
    exact ⟨i, List.mem_range.mpr h1, by rw [h2]⟩
theorem bH.lt {ls : Array Slot} {nL : Nat} {lo : Nat → Option Value} (h : bH ls nL lo) {i : Nat} {v : Value} (hl : lo i = some v) : i < nL := by
  have h1 := (Array.getElem?_eq_some_iff.mp (h.2.2 i v hl)).1
  rw [h.1] at h1
  exact h1
theorem bH.all {ls : Array Slot} {nL : Nat} {lo : Nat → Option Value} (h : bH ls nL lo) : lv_has ls nL (bL ls nL) := ⟨h.1, h.2.1, fun q hq => (bL_mem (v := q.2).mp hq).2⟩
theorem bH.find {ls : Array Slot} {nL : Nat} {lo : Nat → Option Value} (h : bH ls nL lo) {i : Nat} {v : Value} (hl : lo i = some v) : ∃ k : Nat, (bL ls nL)[k]? = some (i, v) := by
  have h1 : (i, v) ∈ bL ls nL := bL_mem.mpr ⟨h.lt hl, h.2.2 i v hl⟩
  obtain ⟨k, hk, e⟩ := List.mem_iff_getElem.mp h1
  exact ⟨k, by rw [List.getElem?_eq_getElem hk, e]⟩
theorem bH.st1 {ls ls' : Array Slot} {nL i : Nat} {x : Value} {lo : Nat → Option Value} (h : bH ls nL lo) (h' : lv_has ls' nL ((i, x) :: (bL ls nL).filter (fun q => !(q.1 == i) && !(q.1 + 1 == i && q.2.category == 2)))) (hc : x.category = 1) : bH ls' nL (bU lo i x) := by
  refine ⟨h'.1, h'.2.1, fun j v hj => ?_⟩
  unfold bU at hj
  by_cases h1 : Nat.beq j i = true
  · rw [h1] at hj
    have e1 : j = i := Nat.eq_of_beq_eq_true h1
    have e2 : x = v := Option.some.inj hj
    subst e1; subst e2
    exact h'.2.2 _ List.mem_cons_self
  · rw [Bool.not_eq_true] at h1
    rw [h1] at hj
    have n1 : j ≠ i := Nat.ne_of_beq_eq_false h1
    have key : ∀ z, lo j = some z → (j + 1 = i → z.category = 1) → ls'[j]? = some (.val z) := by
      intro z hz hz2
      refine h'.2.2 (j, z) (List.mem_cons_of_mem _ (List.mem_filter.mpr ⟨bL_mem.mpr ⟨h.lt hz, h.2.2 j z hz⟩, ?_⟩))
      by_cases n2 : j + 1 = i
      · simp [n1, n2, hz2 n2]
      · simp [n1, n2]
    by_cases h2 : Nat.beq (j + 1) i = true
    · rw [h2] at hj
      obtain ⟨q1, q2⟩ := bcut_cat hj
      exact key v q1 (fun _ => q2)
    · rw [Bool.not_eq_true] at h2
      rw [h2] at hj
      exact key v hj (fun q => absurd q (Nat.ne_of_beq_eq_false h2))
theorem bH.st2 {ls ls' : Array Slot} {nL i : Nat} {x : Value} {lo : Nat → Option Value} (h : bH ls nL lo) (h' : lv_has ls' nL ((i, x) :: (bL ls nL).filter (fun q => !(q.1 == i) && (!(q.1 == i + 1) && !(q.1 + 1 == i && q.2.category == 2))))) (hc : x.category = 2) : bH ls' nL (bS lo i x) := by
  refine ⟨h'.1, h'.2.1, fun j v hj => ?_⟩
  unfold bS at hj
  by_cases h1 : Nat.beq j i = true
  · rw [h1] at hj
    have e1 : j = i := Nat.eq_of_beq_eq_true h1
    have e2 : x = v := Option.some.inj hj
    subst e1; subst e2
    exact h'.2.2 _ List.mem_cons_self
  · rw [Bool.not_eq_true] at h1
    rw [h1] at hj
    have n1 : j ≠ i := Nat.ne_of_beq_eq_false h1
    by_cases h3 : Nat.beq j (i + 1) = true
    · rw [h3] at hj; cases hj
    · rw [Bool.not_eq_true] at h3
      rw [h3] at hj
      have n3 : j ≠ i + 1 := Nat.ne_of_beq_eq_false h3
      have key : ∀ z, lo j = some z → (j + 1 = i → z.category = 1) → ls'[j]? = some (.val z) := by
        intro z hz hz2
        refine h'.2.2 (j, z) (List.mem_cons_of_mem _ (List.mem_filter.mpr ⟨bL_mem.mpr ⟨h.lt hz, h.2.2 j z hz⟩, ?_⟩))
        by_cases n2 : j + 1 = i
        · simp [n1, n2, n3, hz2 n2]
        · simp [n1, n2, n3]
      by_cases h2 : Nat.beq (j + 1) i = true
      · rw [h2] at hj
        obtain ⟨q1, q2⟩ := bcut_cat hj
        exact key v q1 (fun _ => q2)
      · rw [Bool.not_eq_true] at h2
        rw [h2] at hj
        exact key v hj (fun q => absurd q (Nat.ne_of_beq_eq_false h2))
theorem bH.entry (vs : List Value) {n : Nat} (h : (lg_sl vs).length ≤ n) : bH ((lg_sl vs ++ List.replicate (n - (lg_sl vs).length) Slot.unset).toArray) n (bO (lv_args 0 vs)) := by
  have h1 := lv_entry vs h
  refine ⟨h1.1, h1.2.1, fun i v hi => ?_⟩
  have h2 : ∀ (l : List (Nat × Value)), bO l i = some v → (i, v) ∈ l := by
    intro l
    induction l with
    | nil => intro q; cases q
    | cons q r ih =>
      intro hq
      unfold bO at hq
      by_cases hb : Nat.beq q.1 i = true
      · rw [hb] at hq
        have e1 : q.1 = i := Nat.eq_of_beq_eq_true hb
        have e2 : q.2 = v := Option.some.inj hq
        rw [← e1, ← e2]
        exact List.mem_cons_self
      · rw [Bool.not_eq_true] at hb
        rw [hb] at hq
        exact List.mem_cons_of_mem _ (ih hq)
  exact h1.2.2 (i, v) (h2 _ hi)
/-! contracts: the end may be a return or a throw -/
def bFE (first t : State) (L : List Loc) (k n : Nat) : Prop := first.WarmedH t.vm ∧ first.sameButNew ({ t with vm := first.vm } : State) L k n
def bMet (l : Launch) (y : MethodName) (ws : List Cond) (rm : Room) (Pc : Array Value → State → Prop) (Qc : Array Value → State → Outcome → State → Prop) (mc ms : Nat) (free : Addr → Prop) : Prop :=
  MetFree l y (headSpec ws rm) Pc (fun _ _ _ _ _ => True) (fun a st o t => Qc a st o t ∧ ∃ L, bFE st t L mc ms ∧ ∀ q ∈ L, free q.base)
def bMQ (below : List Frame) (Qc : Array Value → State → Outcome → State → Prop) (a : Array Value) (s : State) (mc ms : Nat) (free : Addr → Prop) : State → Prop := fun t =>
  ∃ o, t.status = .running ∧ Ended t below o ∧ Qc a s o t ∧ ∃ L, bFE s t L mc ms ∧ ∀ q ∈ L, free q.base
theorem bMQ.of {below : List Frame} {Qc : Array Value → State → Outcome → State → Prop} {a : Array Value} {s : State} {mc ms : Nat} {free : Addr → Prop} {t : State} (h : MQ below Qc a s mc ms free t) : bMQ below Qc a s mc ms free t := by
  obtain ⟨o, h1, h2, h3, L, ⟨-, h4, h5⟩, h6⟩ := h
  exact ⟨o, h1, h2, h3, L, ⟨h4, h5⟩, h6⟩
section bC1
variable {p : Program} {l : Launch} {e : Env} {R : Room} {s : State} {m : MethodId} {args : Array Value} {below : List Frame} {meth : Method} {c : Code} {H : Heap} {locs : List Loc} {cells slots : Nat}
theorem bWmono {Q Q' : State → Prop} {g : JFrame} (h : ∀ t, Q t → Q' t) (k : W p l e R s m args below meth c H locs cells slots Q g) : W p l e R s m args below meth c H locs cells slots Q' g := by
  intro T hT X
  obtain ⟨t, a, b⟩ := k T hT X
  exact ⟨t, a, h t b⟩
theorem bMet.ofW {y : MethodName} {ws : List Cond} {rm : Room} {Pc : Array Value → State → Prop} {Qc : Array Value → State → Outcome → State → Prop} {mc ms : Nat} {free : Addr → Prop} {cc : ByteArray} {maxL : Nat} {ret : Option FieldType}
    (hy : plainName y.cls = true) (hw : Cond.code y cc maxL ret ∈ ws)
    (body : ∀ p e s m args below meth c s₁, BodyLoose p l y (headSpec ws rm) cc maxL ret e s m args below meth c s₁ → c.maxLocals = maxL → c.exceptionTable.toList = tableOf [] → Pc args s →
      W p l e (headSpec ws rm).room s m args below meth c s.heap [] 0 0 (bMQ below Qc args s mc ms free) (entryFrame m args maxL)) : bMet l y ws rm Pc Qc mc ms free := by
  refine MetFree.of_bodyS (code := cc) (maxLocals := maxL) (ret := ret) hy ?_ ?_
  · intro args s m h hn
    obtain ⟨meth, c, h1, h2, h3, h4, h5, h6, -, -⟩ := Cond.code_spec hn (atoms_spec (ws := ws) h _ hw)
    exact ⟨meth, c, h1, h2, h3, h4, h5, h6⟩
  · intro p e s m args below meth c s₁ B hml hP _
    have hh0 : s₁.heap = s.heap := by rw [B.state]; rfl
    have he := B.noHandlers (atoms_spec (ws := ws) B.pre _ hw)
    have he2 : c.exceptionTable.toList = tableOf [] := by
      have h0 : c.exceptionTable.size = 0 := by simpa [Array.isEmpty] using he
      exact List.eq_nil_of_length_eq_zero (by simpa using h0)
    obtain ⟨t, a1, o, b1, b2, b3⟩ := body p e s m args below meth c s₁ B hml he2 hP s₁ hh0 (Stand.of_body B)
    exact ⟨t, o, a1, b1, b2, ⟨b3.1, b3.2⟩⟩
theorem bMet.ofWH {y : MethodName} {ws : List Cond} {rm : Room} {Pc : Array Value → State → Prop} {Qc : Array Value → State → Outcome → State → Prop} {mc ms : Nat} {free : Addr → Prop} {cc : ByteArray} {maxL : Nat} {ret : Option FieldType} {hh : List (Nat × Nat × Nat × Nat)}
    (hy : plainName y.cls = true) (hw : Cond.codeWith y cc maxL ret hh ∈ ws)
    (body : ∀ p e s m args below meth c s₁, BodyLoose p l y (headSpec ws rm) cc maxL ret e s m args below meth c s₁ → c.maxLocals = maxL → c.exceptionTable.toList = tableOf hh → Pc args s →
      W p l e (headSpec ws rm).room s m args below meth c s.heap [] 0 0 (bMQ below Qc args s mc ms free) (entryFrame m args maxL)) : bMet l y ws rm Pc Qc mc ms free := by
  refine MetFree.of_bodyS (code := cc) (maxLocals := maxL) (ret := ret) hy ?_ ?_
  · intro args s m h hn
    obtain ⟨m', meth, c, hn', h1, h2, h3, h4, -, h5, h6, -⟩ := Cond.codeWith_spec (atoms_spec (ws := ws) h _ hw)
    cases hn.symm.trans hn'
    exact ⟨meth, c, h1, h2, h3, h4, h5, h6⟩
  · intro p e s m args below meth c s₁ B hml hP _
    have hh0 : s₁.heap = s.heap := by rw [B.state]; rfl
    have he2 : c.exceptionTable.toList = tableOf hh := by
      obtain ⟨m', meth', c', hn', h1, h2, -, -, ht, -, -, -⟩ := Cond.codeWith_spec (atoms_spec (ws := ws) B.pre _ hw)
      cases B.named.symm.trans hn'
      cases B.method.symm.trans h1
      cases (Stand.of_body B).code.symm.trans h2
      rw [← ht, table_eq]
    obtain ⟨t, a1, o, b1, b2, b3⟩ := body p e s m args below meth c s₁ B hml he2 hP s₁ hh0 (Stand.of_body B)
    exact ⟨t, o, a1, b1, b2, ⟨b3.1, b3.2⟩⟩
/-- a call by contract, from the point where the invoke has found its method -/
theorem bCore {T : State} (X : Stand p l e R s m args below meth c T locs cells slots) {y : MethodName} {ws : List Cond} {rm : Room} {Pc : Array Value → State → Prop} {Qc : Array Value → State → Outcome → State → Prop} {mc ms : Nat} {free : Addr → Prop}
    (hM : bMet l y ws rm Pc Qc mc ms free) {g : JFrame} (hg : g.method = m) (hsize : g.locals.size = c.maxLocals) {ig : Instr} {len : Nat} (hdg : decode c.code g.pc = .ok (ig, len)) (hW : 2 * g.monitorRoom + (g.stack.map fun v => v.category).sum ≤ 8)
    {mk : MethodId} {methY : Method} {cY : Code} {kY : Class} {maxL : Nat} (hn : T.methodNamed? y = some mk) (hmY : T.vm.method? mk = some methY) (hcY : methY.code = some cY) (hlY : cY.maxLocals = maxL) (hkY : T.vm.classes[mk.cls]? = some kY) (hiY : kY.init = .initialized)
    (hfr : rm.frames + 1 ≤ R.frames) (hlo : 8 + (maxL + 11) + rm.locals ≤ R.locals) (hce : cells + rm.cells ≤ R.cells) (hsl : slots + rm.slots ≤ R.slots) {a : Array Value} (hpre : (allAtoms ws).before a T = true) (hP : Pc a (T.calling g mk a)) :
    ∃ (o : Outcome) (t T' : State) (L : List Loc), Stand p l e R s m args below meth c T' (locs ++ L) (cells + mc) (slots + ms) ∧ (∀ q ∈ L, free q.base) ∧ T'.heap = t.heap ∧ T'.vm = t.vm ∧ Qc a (T.calling g mk a) o t ∧
      (∀ v, o = .returned v → Steps p.tables e below (doInvoke e (T.setTop g) [] mk a).1 (T'.setTop { g with pc := g.pc + len, stack := v.toList ++ g.stack })) ∧
      (∀ x, o = .threw x → Steps p.tables e below (doInvoke e (T.setTop g) [] mk a).1 ((T'.setTop g).pushFrame (.throwing x))) := by
  have h : At T g.method c below := by rw [hg]; exact X.here
  have happ : (headSpec ws rm).appliesLoose y e.platform (T.calling g mk a) = true :=
    Spec.appliesLoose_calling (g := g) h hdg hn hkY hiY (X.room_calling (g := g) (R' := rm) hsize hmY hcY hfr (by rw [hlY]; omega) hce hsl) hpre
  obtain ⟨mid, hmid⟩ := h.above
  have hfr2 : (T.setTop g).frames = (.java g :: mid) ++ below := by rw [State.frames_setTop' g h.top, hmid]; rfl
  obtain ⟨o, s₂, hsteps, -, hend, hq, L, hFE, hL⟩ := Steps.callFree hM p X.admits X.cas X.clock (acts := []) hfr2 happ hP trivial
  rw [State.frames_setTop' g h.top, X.tail] at hend
  cases o with
  | returned v =>
    obtain ⟨T', X', hW', hB, ht⟩ := X.outOf hg hdg hend hFE.1 hFE.2
    refine ⟨.returned v, s₂, T', L, X', hL, by rw [ht]; rfl, by rw [ht]; rfl, hq, fun v' hv => ?_, fun x hx => by cases hx⟩
    cases hv
    rw [← ht]
    exact hsteps
  | threw x =>
    obtain ⟨T', X', hW', hB, ht⟩ := X.outOfThrown hg hend hFE.1 hFE.2
    refine ⟨.threw x, s₂, T', L, X', hL, by rw [ht, Stand.throwing_heap], by rw [ht, Stand.throwing_vm], hq, fun v' hv => (by cases hv), fun x' hx => ?_⟩
    cases hx
    rw [← ht]
    exact hsteps
end bC1

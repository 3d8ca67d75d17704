def bTys (ta : Nat → ClassId) : List (ClassId × FieldType) := [(ta 0, .int), (ta 1, .long), (ta 2, .boolean), (ta 3, .object R_K), (ta 4, .object R_R), (ta 5, .object R_S), (ta 6, .object R_V)]
/-- numbers of the kinds and their slots; array kinds; static arrays: where, and what -/
abbrev bD : Type := va_G × (Nat → ClassId) × (Nat → Nat) × (Nat → Nat → Int32)
abbrev aI (dd : bD) (n : Nat) (f : Nat → Int32) : va_E := .inl (dd.2.1 0, n, .inl f)
abbrev aL (dd : bD) (n : Nat) (f : Nat → Int64) : va_E := .inl (dd.2.1 1, n, .inr (.inl f))
abbrev aZ (dd : bD) (n : Nat) (f : Nat → Int32) : va_E := .inl (dd.2.1 2, n, .inl f)
abbrev aR (dd : bD) (t n : Nat) (f : Nat → Option Nat) : va_E := .inl (dd.2.1 t, n, .inr (.inr (.inr (.inr f))))
abbrev bSta : List (String × String × Nat × Nat) := [("BlobStore$Sha256", "FIRST_HASH", 0, 8), ("BlobStore$Sha256", "ROUND_WORDS", 1, 64)]
abbrev bStr : List (String × Nat × String) := [("BlobStore", 77, "all sessions are open"), ("BlobStore", 84, "no such bucket or key"), ("BlobStore", 98, "no such part number or count of bytes"), ("BlobStore", 119, "all versions have been given"), ("BlobStore", 146, "no such count of writes"), ("BlobStore", 178, "no such chunk or word"), ("BlobStore", 207, "no such session is open"), ("BlobStore", 227, "too few free slots"), ("BlobStore$Power", 22, "the store is down"), ("BlobStore$Power", 29, "the power is gone")]
abbrev bZq : List (String × String × String) := [("java/lang/Throwable", "UNASSIGNED_STACK", "[Ljava/lang/StackTraceElement;"), ("java/lang/Throwable", "SUPPRESSED_SENTINEL", "Ljava/util/List;")]
abbrev bAov : List String := [R_K, R_R, R_S, R_V]
abbrev bNcp : List (String × String) := [("java/lang/IllegalArgumentException", "java/lang/IllegalStateException"), ("java/lang/IllegalArgumentException", "java/lang/IndexOutOfBoundsException"), ("java/lang/IllegalArgumentException", "java/lang/UnsupportedOperationException"), ("java/lang/IllegalArgumentException", "java/util/NoSuchElementException"), ("java/lang/IllegalStateException", "java/lang/IllegalArgumentException"), ("java/lang/IllegalStateException", "java/lang/IndexOutOfBoundsException"), ("java/lang/IllegalStateException", "java/lang/UnsupportedOperationException"), ("java/lang/IllegalStateException", "java/util/NoSuchElementException"), ("java/lang/IndexOutOfBoundsException", "java/lang/IllegalArgumentException"), ("java/lang/IndexOutOfBoundsException", "java/lang/IllegalStateException"), ("java/lang/IndexOutOfBoundsException", "java/lang/UnsupportedOperationException"), ("java/lang/IndexOutOfBoundsException", "java/util/NoSuchElementException"), ("java/lang/UnsupportedOperationException", "java/lang/IllegalArgumentException"), ("java/lang/UnsupportedOperationException", "java/lang/IllegalStateException"), ("java/lang/UnsupportedOperationException", "java/lang/IndexOutOfBoundsException"), ("java/lang/UnsupportedOperationException", "java/util/NoSuchElementException"), ("java/util/NoSuchElementException", "java/lang/IllegalArgumentException"), ("java/util/NoSuchElementException", "java/lang/IllegalStateException"), ("java/util/NoSuchElementException", "java/lang/IndexOutOfBoundsException"), ("java/util/NoSuchElementException", "java/lang/UnsupportedOperationException")]
/-- a static that the tables lay, and that holds a reference or null -/
def bLs (O n d : String) (A : Nat → Prop) (U : State) (H : Heap) : Prop := ∃ (c : ClassId) (k : Class) (i : Nat) (f : Field) (a : Nat) (cell : Cell) (v : RefV), U.vm.findClass O = some c ∧ U.fieldFound? O n d = some (c, k, i, f) ∧ f.isStatic = true ∧ k.statics = some a ∧ k.staticTypes[f.slot]? = some f.type ∧ H[a]? = some cell ∧ cell.vm.isStatics = true ∧ cell.cls = c ∧ f.slot < cell.slots.size ∧ cell.slots[f.slot]? = some v.v ∧ ¬ A a
theorem bLs.moved {O n d : String} {A : Nat → Prop} {u U : State} {H : Heap} (hvm : u.vm.Alike U.vm) (h : bLs O n d A u H) : bLs O n d A U H := by
  obtain ⟨c, k, i, f, a, cell, v, h0, h1, h2, h3, h4, h5⟩ := h
  obtain ⟨k', hi', he⟩ := State.fieldFound?_setVm hvm h1
  exact ⟨c, k', i, f, a, cell, v, by rw [hvm.findClass]; exact h0, hi', h2, by rw [he]; exact h3, by rw [he]; exact h4, h5⟩
theorem bLs.kept {O n d : String} {A : Nat → Prop} {U : State} {H H1 : Heap} (h : bLs O n d A U H) (hq : ∀ a : Nat, a < H.size → ¬ A a → H1[a]? = H[a]?) : bLs O n d A U H1 := by
  obtain ⟨c, k, i, f, a, cell, v, h0, h1, h2, h3, h4, h5, h6, h7, h8, h9, h10⟩ := h
  exact ⟨c, k, i, f, a, cell, v, h0, h1, h2, h3, h4, by rw [hq a (Array.getElem?_eq_some_iff.mp h5).1 h10]; exact h5, h6, h7, h8, h9, h10⟩
theorem bLs.narrow {O n d : String} {A B : Nat → Prop} {U : State} {H : Heap} (h : bLs O n d A U H) (hAB : ∀ q, B q → A q) : bLs O n d B U H := by
  obtain ⟨c, k, i, f, a, cell, v, h0, h1, h2, h3, h4, h5, h6, h7, h8, h9, h10⟩ := h
  exact ⟨c, k, i, f, a, cell, v, h0, h1, h2, h3, h4, h5, h6, h7, h8, h9, fun z => h10 (hAB a z)⟩
theorem bLs.lays {O n d : String} {A : Nat → Prop} {U : State} {args : Array Value} (h : bLs O n d A U U.heap) : (Cond.laysStatic O n d).before args U = true := by
  obtain ⟨c, k, i, f, a, cell, v, h0, h1, h2, h3, h4, h5, h6, h7, h8, h9, h10⟩ := h
  exact Cond.laysStatic_of h0 h1 h2 h3 h5 h6 h7 h8 h4
theorem bLs.isRef {O n d : String} {A : Nat → Prop} {U : State} {args : Array Value} (h : bLs O n d A U U.heap) : (Cond.isRef (.static O n d)).before args U = true := by
  obtain ⟨c, k, i, f, a, cell, ⟨v, hv⟩, h0, h1, h2, h3, h4, h5, h6, h7, h8, h9, h10⟩ := h
  have h9' : cell.slots[f.slot]? = some v := h9
  cases v <;> simp [Value.isRef] at hv <;> simp [Cond.before, Cond.holds, Cond.value, Term.eval, State.fieldNamed?, h1, h2, h3, h5, h6, h9']
/-- what the walks rest on beside their cells, at a state and a heap -/
def bG (dd : bD) (A : Nat → Prop) (U : State) (H : Heap) : Prop :=
  va_K dd.1 bCl (bTys dd.2.1) U ∧ (∀ w ∈ bNst, va_Nw w U) ∧
  (∀ q ∈ bSta, va_Z q.1 q.2.1 "[I" (.ref (dd.2.2.1 q.2.2.1)) A U H ∧ va_T .int (dd.2.2.1 q.2.2.1) q.2.2.2 (fun j => .int (dd.2.2.2 q.2.2.1 j)) A U H) ∧
  (∀ q ∈ bStr, ∃ a, vk_R q.1 q.2.1 q.2.2 a U) ∧ (∀ q ∈ bZq, bLs q.1 q.2.1 q.2.2 A U H) ∧ (∀ q ∈ bNcp, va_Nc q.1 q.2 U) ∧ (∀ q ∈ bAov, va_AO q U)
theorem bNest_warm {w : Cond} (h : bNestOnly w = true) {s U : State} (hW : s.WarmedH U.vm) (hZ : va_Nw w s) : va_Nw w U := by
  unfold bNestOnly at h
  split at h
  · exact va_Nw.warmF hW hZ
  · exact va_Nw.warmM hW hZ
  · exact va_Nw.warmD hW hZ
  · exact va_Nw.warmC hW hZ
  · cases h
theorem bG.to {dd : bD} {A A' : Nat → Prop} {s U : State} {H0 H : Heap} (h : bG dd A s H0) (hW : s.WarmedH U.vm) (hq : ∀ a : Nat, a < H0.size → ¬ A a → H[a]? = H0[a]?) (hAB : ∀ q, A' q → A q) : bG dd A' U H := by
  obtain ⟨h1, h2, h3, h4, h5, h6, h7⟩ := h
  exact ⟨va_K.moved hW.alike h1, fun w hw => bNest_warm (bNst_only w hw) hW (h2 w hw),
    fun q hq' => ⟨(((h3 q hq').1.kept hq).moved hW.alike).narrow hAB, (((h3 q hq').2.kept hq).moved hW.alike).narrow hAB⟩,
    fun q hq' => (h4 q hq').imp (fun a ha => ha.warm hW), fun q hq' => (((h5 q hq').kept hq).moved hW.alike).narrow hAB, fun q hq' => (h6 q hq').moved hW.alike, fun q hq' => (h7 q hq').moved hW.alike⟩
theorem bNst_use {w : Cond} (h : bNestOnly w = true) {args : Array Value} {U : State} (hZ : va_Nw w U) : w.before args U = true := by
  unfold bNestOnly at h
  split at h
  · exact va_Nw.use rfl hZ
  · exact va_Nw.use rfl hZ
  · exact va_Nw.use rfl hZ
  · exact va_Nw.use rfl hZ
  · cases h
def bPre (dd : bD) (av : List Value) (ad : Nat → Nat) (w : Nat → va_E) (N sz : Nat) : Array Value → State → Prop :=
  va_Pc av (fun U => U.heap.size = sz ∧ va_P dd.1 bCl (bw ad w N) U.heap ∧ va_D (fun _ => True) (bw ad w N) ∧ bG dd (va_A (bw ad w N) sz) U U.heap)
def bQc (dd : bD) (A : Nat → Prop) (post : Option Value → (Nat → Nat) → (Nat → va_E) → Nat → Prop) (thr : String → (Nat → Nat) → (Nat → va_E) → Nat → Prop) : Array Value → State → Outcome → State → Prop := fun _ st oc t =>
  va_F A st t ∧ ∃ (ad' : Nat → Nat) (w' : Nat → va_E) (N' : Nat), va_P dd.1 bCl (bw ad' w' N') t.heap ∧ va_D A (bw ad' w' N') ∧
    ((∃ v, oc = .returned v ∧ post v ad' w' N') ∨ ∃ (x : Nat) (Cn : String) (cell : Cell), oc = .threw x ∧ t.heap[x]? = some cell ∧ cell.vm = .none ∧ t.vm.findClass Cn = some cell.cls ∧ st.heap.size ≤ x ∧ thr Cn ad' w' N')
/-- a method's contract: frames fr and words lc of the stack, mc cells of ms slots at most -/
def bK (l : Launch) (dd : bD) (y : MethodName) (fr lc mc ms : Nat) (av : List Value) (ad : Nat → Nat) (w : Nat → va_E) (N : Nat) (post : Option Value → (Nat → Nat) → (Nat → va_E) → Nat → Prop) (thr : String → (Nat → Nat) → (Nat → va_E) → Nat → Prop) : Prop :=
  ∀ sz, bMet l y Tb { frames := fr, cells := mc, slots := ms, locals := lc } (bPre dd av ad w N sz) (bQc dd (va_A (bw ad w N) sz) post thr) mc ms (va_A (bw ad w N) sz)
def bCx (p : Program) (R : Room) (s : State) (m : MethodId) (args : Array Value) (meth : Method) (c : Code) (cc : ByteArray) (own : String) (nL : Nat) (ret : Option FieldType) (hh : List (Nat × Nat × Nat × Nat)) (dd : bD) (A : Nat → Prop) : Prop :=
  p.tables.exec = Jvm.exec ∧ c.code = cc ∧ c.maxLocals = nL ∧ s.vm.findClass own = some m.cls ∧ (∀ w ∈ Tb, w.before args s = true) ∧ meth.sig.returnType = ret ∧ meth.locks = false ∧ (∀ q, s.heap.size ≤ q → A q) ∧ bG dd A s s.heap ∧ c.exceptionTable.toList = tableOf hh
def bV (p : Program) (l : Launch) (e : Env) (R : Room) (s : State) (m : MethodId) (args : Array Value) (below : List Frame) (meth : Method) (c : Code) (dd : bD) (A : Nat → Prop) (nL mc ms : Nat) (post : Option Value → (Nat → Nat) → (Nat → va_E) → Nat → Prop) (thr : String → (Nat → Nat) → (Nat → va_E) → Nat → Prop)
    (pc : Nat) (lo : Nat → Option Value) (st : List Value) (ad : Nat → Nat) (w : Nat → va_E) (N cells slots : Nat) : Prop :=
  ∀ (H : Heap) (locs : List Loc) (ls : Array Slot), bH ls nL lo → va_P dd.1 bCl (bw ad w N) H → va_D A (bw ad w N) → va_S A s.heap H locs →
    W p l e R s m args below meth c H locs cells slots (bMQ below (bQc dd A post thr) args s mc ms A) (F0 m pc ls st)
/-- the exception at x, of the class called Cn, is on its way out of the instruction at pc -/
def bT (p : Program) (l : Launch) (e : Env) (R : Room) (s : State) (m : MethodId) (args : Array Value) (below : List Frame) (meth : Method) (c : Code) (dd : bD) (A : Nat → Prop) (nL mc ms : Nat) (post : Option Value → (Nat → Nat) → (Nat → va_E) → Nat → Prop) (thr : String → (Nat → Nat) → (Nat → va_E) → Nat → Prop)
    (pc : Nat) (lo : Nat → Option Value) (st : List Value) (x : Nat) (Cn : String) (ad : Nat → Nat) (w : Nat → va_E) (N cells slots : Nat) : Prop :=
  ∀ (H : Heap) (locs : List Loc) (ls : Array Slot) (cell : Cell), bH ls nL lo → va_P dd.1 bCl (bw ad w N) H → va_D A (bw ad w N) → va_S A s.heap H locs → H[x]? = some cell → cell.vm = .none → s.vm.findClass Cn = some cell.cls → s.heap.size ≤ x →
    ∀ T : State, T.heap = H → Stand p l e R s m args below meth c T locs cells slots → ∃ t, Steps p.tables e below ((T.setTop (F0 m pc ls st)).pushFrame (.throwing x)) t ∧ bMQ below (bQc dd A post thr) args s mc ms A t
/-- a call site: the invoke has found its method -/
def bSite (p : Program) (l : Launch) (e : Env) (R : Room) (s : State) (m : MethodId) (args : Array Value) (below : List Frame) (meth : Method) (c : Code) (H : Heap) (locs : List Loc) (cells slots : Nat) (g : JFrame) (rest : List Value) (y : MethodName) (a : Array Value) : Prop :=
  ∀ T : State, T.heap = H → Stand p l e R s m args below meth c T locs cells slots → ∃ (mk : MethodId) (vm₁ : Vm), Stand p l e R s m args below meth c (T.setVm vm₁) locs cells slots ∧ s.methodNamed? y = some mk ∧
    ∀ target, (∀ acts, Steps p.tables e below (doInvoke e ((T.setVm vm₁).setTop { g with stack := rest }) acts mk a).1 target) → Steps p.tables e below (T.setTop g) target
def bIs (y : MethodName) (maxL : Nat) : Prop := (∃ (cc : ByteArray) (ret : Option FieldType), Cond.code y cc maxL ret ∈ Tb) ∨ ∃ (cc : ByteArray) (ret : Option FieldType) (hh : List (Nat × Nat × Nat × Nat)), Cond.codeWith y cc maxL ret hh ∈ Tb
theorem bIs.spec {y : MethodName} {maxL : Nat} (h : bIs y maxL) {args : Array Value} {s : State} (hts : ∀ w ∈ Tb, w.before args s = true) : ∃ (mk : MethodId) (meth : Method) (c : Code), s.methodNamed? y = some mk ∧ s.vm.method? mk = some meth ∧ meth.code = some c ∧ c.maxLocals = maxL ∧ parseMethodDescriptor y.desc = some meth.sig := by
  rcases h with ⟨cc, ret, h⟩ | ⟨cc, ret, hh, h⟩
  · obtain ⟨mk, hn⟩ := Cond.code_named (hts _ h)
    obtain ⟨meth, c, h1, h2, -, h4, -, -, -, h5⟩ := Cond.code_spec hn (hts _ h)
    exact ⟨mk, meth, c, hn, h1, h2, h4, h5⟩
  · obtain ⟨mk, meth, c, hn, h1, h2, -, h4, -, -, -, h5⟩ := Cond.codeWith_spec (hts _ h)
    exact ⟨mk, meth, c, hn, h1, h2, h4, h5⟩
theorem bGood.at {w : Cond} (h : bGood w = true) {args a' : Array Value} {s U : State} (hW : s.WarmedH U.vm) (hw : w.before args s = true) : w.before a' U = true := by
  unfold bGood at h
  rw [Bool.or_eq_true] at h
  rcases h with h | h
  · exact word_at hW (Or.inl h) hw
  · refine word_at hW (Or.inr ?_) hw
    split at h
    · exact ⟨_, rfl⟩
    · cases h

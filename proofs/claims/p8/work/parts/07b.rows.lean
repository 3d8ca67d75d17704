section bR2
variable {p : Program} {l : Launch} {e : Env} {R : Room} {s : State} {m : MethodId} {args : Array Value} {below : List Frame} {meth : Method} {c : Code} {dd : bD} {A : Nat → Prop} {nL mc ms : Nat} {post : Option Value → (Nat → Nat) → (Nat → va_E) → Nat → Prop} {thr : String → (Nat → Nat) → (Nat → va_E) → Nat → Prop} {pc : Nat} {lo : Nat → Option Value} {rest : List Value} {ad : Nat → Nat} {w : Nat → va_E} {N cells slots : Nat} {cc : ByteArray} {own : String} {ret : Option FieldType} {hh : List (Nat × Nat × Nat × Nat)}
variable {st : List Value}
theorem bv_wk (l' : List (Nat × Value)) (h : bAll l' lo) (k : bV p l e R s m args below meth c dd A nL mc ms post thr pc (bO l') st ad w N cells slots) : bV p l e R s m args below meth c dd A nL mc ms post thr pc lo st ad w N cells slots :=
  fun H locs ls hL hP hD hS => k H locs ls ⟨hL.1, hL.2.1, fun i v hi => hL.2.2 i v (bO_sub l' h i v hi)⟩ hP hD hS
theorem bv_topi {x : Int32} (k : ∀ y : Int32, y = x → bV p l e R s m args below meth c dd A nL mc ms post thr pc lo (.int y :: rest) ad w N cells slots) : bV p l e R s m args below meth c dd A nL mc ms post thr pc lo (.int x :: rest) ad w N cells slots := k x rfl
theorem bv_topl {x : Int64} (k : ∀ y : Int64, y = x → bV p l e R s m args below meth c dd A nL mc ms post thr pc lo (.long y :: rest) ad w N cells slots) : bV p l e R s m args below meth c dd A nL mc ms post thr pc lo (.long x :: rest) ad w N cells slots := k x rfl
theorem bv_seti {x : Int32} (y : Int32) (h : x = y) (k : bV p l e R s m args below meth c dd A nL mc ms post thr pc lo (.int y :: rest) ad w N cells slots) : bV p l e R s m args below meth c dd A nL mc ms post thr pc lo (.int x :: rest) ad w N cells slots := by rw [h]; exact k
theorem bv_w (w' : Nat → va_E) (h : ∀ k, k < N → w k = w' k) (kk : bV p l e R s m args below meth c dd A nL mc ms post thr pc lo st ad w' N cells slots) : bV p l e R s m args below meth c dd A nL mc ms post thr pc lo st ad w N cells slots := by
  have e1 : bw ad w N = bw ad w' N := List.map_congr_left (fun k hk => by rw [h k (List.mem_range.mp hk)])
  intro H locs ls hL hP hD hS
  rw [e1] at hP hD
  exact kk H locs ls hL hP hD hS
theorem bv_cs (k n : Nat) (h1 : cells ≤ k) (h2 : slots ≤ n) (kk : bV p l e R s m args below meth c dd A nL mc ms post thr pc lo st ad w N k n) : bV p l e R s m args below meth c dd A nL mc ms post thr pc lo st ad w N cells slots :=
  fun H locs ls hL hP hD hS => W.widen h1 h2 (kk H locs ls hL hP hD hS)
theorem bv_ireturn {v : Int32} (C : bCx p R s m args meth c cc own nL ret hh dd A) (hr : ret = some .int) (hdg : decode cc pc = .ok (.ireturn, 1)) (hc : cells ≤ mc) (hs : slots ≤ ms) (h : post (some (.int v)) ad w N) : bV p l e R s m args below meth c dd A nL mc ms post thr pc lo [.int v] ad w N cells slots :=
  fun H locs ls hL hP hD hS => W.widen hc hs (bWmono (fun _ => bMQ.of) (W.iret (v := v) C.1 C.2.1 (C.2.2.2.2.2.1.trans hr) (fun t ht _ => ⟨hS.F ht, ad, w, N, by rw [ht]; exact hP, hD, Or.inl ⟨_, rfl, h⟩⟩) hS.2.2 hdg C.2.2.2.2.2.2.1))
theorem bv_zreturn {v : Int32} (C : bCx p R s m args meth c cc own nL ret hh dd A) (hr : ret = some .boolean) (hv : v = 0 ∨ v = 1) (hdg : decode cc pc = .ok (.ireturn, 1)) (hc : cells ≤ mc) (hs : slots ≤ ms) (h : post (some (.int v)) ad w N) : bV p l e R s m args below meth c dd A nL mc ms post thr pc lo [.int v] ad w N cells slots :=
  fun H locs ls hL hP hD hS => W.widen hc hs (bWmono (fun _ => bMQ.of) (W.zret (v := v) (ty := .boolean) C.1 C.2.1 (C.2.2.2.2.2.1.trans hr) (by rcases hv with rfl | rfl <;> rfl) (fun t ht _ => ⟨hS.F ht, ad, w, N, by rw [ht]; exact hP, hD, Or.inl ⟨_, rfl, h⟩⟩) hS.2.2 hdg C.2.2.2.2.2.2.1))
theorem bv_return (C : bCx p R s m args meth c cc own nL ret hh dd A) (hr : ret = none) (hdg : decode cc pc = .ok (.return_, 1)) (hc : cells ≤ mc) (hs : slots ≤ ms) (h : post none ad w N) : bV p l e R s m args below meth c dd A nL mc ms post thr pc lo [] ad w N cells slots :=
  fun H locs ls hL hP hD hS => W.widen hc hs (bWmono (fun _ => bMQ.of) (W.vret C.1 C.2.1 (C.2.2.2.2.2.1.trans hr) (fun t ht _ => ⟨hS.F ht, ad, w, N, by rw [ht]; exact hP, hD, Or.inl ⟨_, rfl, h⟩⟩) hS.2.2 hdg C.2.2.2.2.2.2.1))
theorem bv_areturn {v : Value} {Cn : String} (C : bCx p R s m args meth c cc own nL ret hh dd A) (hr : ret = some (.object Cn)) (hv : v = .null ∨ ∃ a, v = .ref a) (hdg : decode cc pc = .ok (.areturn, 1)) (hc : cells ≤ mc) (hs : slots ≤ ms) (h : post (some v) ad w N) : bV p l e R s m args below meth c dd A nL mc ms post thr pc lo [v] ad w N cells slots :=
  fun H locs ls hL hP hD hS => W.widen hc hs (bWmono (fun _ => bMQ.of) (W.aret (v := v) C.1 C.2.1 (C.2.2.2.2.2.1.trans hr) (Or.inl ⟨_, rfl⟩) hv (fun t ht _ => ⟨hS.F ht, ad, w, N, by rw [ht]; exact hP, hD, Or.inl ⟨_, rfl, h⟩⟩) hS.2.2 hdg C.2.2.2.2.2.2.1))
theorem bv_get (k j pc' : Nat) (hpc : pc + 3 = pc') (C : bCx p R s m args meth c cc own nL ret hh dd A) {a ci N' : Nat} {fs : List Value} {Cn : String} {T' : u_T} {ty : Nat → FieldType} (hc : bCls ci Cn T' N' ty) (hk : k < N) (ha : ad k = a) (he : w k = .inr (ci, fs)) (hj : j < N') {index : Nat} (hlink : Cond.fieldLink own index (T' j).1 (T' j).2.1 (T' j).2.2.1 ∈ Tb) {v : Value} (hv : fs[j]? = some v) (hdg : decode cc pc = .ok (.getfield index, 3))
    (kk : bV p l e R s m args below meth c dd A nL mc ms post thr pc' lo (v :: rest) ad w N cells slots) : bV p l e R s m args below meth c dd A nL mc ms post thr pc lo (.ref a :: rest) ad w N cells slots := by
  subst hpc; subst ha
  intro H locs ls hL hP hD hS
  exact va_get C.1 C.2.1 C.2.2.2.2.1 hc.2.1 C.2.2.2.1 C.2.2.2.2.2.2.2.2.1.1 hP k (by rw [bw_at hk, he]) hc.1 j hj (C.2.2.2.2.1 _ hlink) (fun _ h => h) hv hdg (kk H locs ls hL hP hD hS)
theorem bv_getN (k j pc' : Nat) (hpc : pc + 3 = pc') (C : bCx p R s m args meth c cc own nL ret hh dd A) {a ci N' : Nat} {fs : List Value} {Cn host : String} {T' : u_T} {ty : Nat → FieldType} (hc : bCls ci Cn T' N' ty) (hk : k < N) (ha : ad k = a) (he : w k = .inr (ci, fs)) (hj : j < N') {index : Nat} (hlink : Cond.fieldLinkNest own index (T' j).1 (T' j).2.1 (T' j).2.2.1 host ∈ bNst) {v : Value} (hv : fs[j]? = some v) (hdg : decode cc pc = .ok (.getfield index, 3))
    (kk : bV p l e R s m args below meth c dd A nL mc ms post thr pc' lo (v :: rest) ad w N cells slots) : bV p l e R s m args below meth c dd A nL mc ms post thr pc lo (.ref a :: rest) ad w N cells slots := by
  subst hpc; subst ha
  intro H locs ls hL hP hD hS
  exact va_getN C.1 C.2.1 C.2.2.2.2.1 hc.2.1 C.2.2.2.1 C.2.2.2.2.2.2.2.2.1.1 hP k (by rw [bw_at hk, he]) hc.1 j hj (va_Nw.use rfl (C.2.2.2.2.2.2.2.2.1.2.1 _ hlink)) (fun _ h => h) hv hdg (kk H locs ls hL hP hD hS)
theorem bv_put (k j pc' : Nat) (hpc : pc + 3 = pc') (C : bCx p R s m args meth c cc own nL ret hh dd A) {a ci N' : Nat} {fs : List Value} {Cn : String} {T' : u_T} {ty : Nat → FieldType} (hc : bCls ci Cn T' N' ty) (hk : k < N) (ha : ad k = a) (he : w k = .inr (ci, fs)) (hj : j < N') {index : Nat} (hlink : Cond.fieldLink own index (T' j).1 (T' j).2.1 (T' j).2.2.1 ∈ Tb) (hfin : (T' j).2.2.2 = false) {v : Value} (hn : narrow (ty j) v = v) (hfit : fits (ty j) v = true) (hl : j < fs.length) (hdg : decode cc pc = .ok (.putfield index, 3))
    (kk : bV p l e R s m args below meth c dd A nL mc ms post thr pc' lo rest ad (va_up w k (.inr (ci, fs.set j v))) N cells slots) : bV p l e R s m args below meth c dd A nL mc ms post thr pc lo (v :: .ref a :: rest) ad w N cells slots := by
  subst hpc; subst ha
  intro H locs ls hL hP hD hS
  refine va_put C.1 C.2.1 C.2.2.2.2.1 hc.2.1 ty hc.2.2.1 hc.2.2.2 C.2.2.2.1 C.2.2.2.2.2.2.2.2.1.1 hP hD hS k (by rw [bw_at hk, he]) hc.1 j hj (C.2.2.2.2.1 _ hlink) (fun _ h => h) hfin (hc.2.2.1 j hj) hn hfit hl hdg (fun H1 locs1 hP1 hD1 hS1 => ?_)
  rw [bw_set hk] at hP1 hD1
  exact kk H1 locs1 ls hL hP1 hD1 hS1
theorem bv_putN (k j pc' : Nat) (hpc : pc + 3 = pc') (C : bCx p R s m args meth c cc own nL ret hh dd A) {a ci N' : Nat} {fs : List Value} {Cn host : String} {T' : u_T} {ty : Nat → FieldType} (hc : bCls ci Cn T' N' ty) (hk : k < N) (ha : ad k = a) (he : w k = .inr (ci, fs)) (hj : j < N') {index : Nat} (hlink : Cond.fieldLinkNest own index (T' j).1 (T' j).2.1 (T' j).2.2.1 host ∈ bNst) (hfin : (T' j).2.2.2 = false) {v : Value} (hn : narrow (ty j) v = v) (hfit : fits (ty j) v = true) (hl : j < fs.length) (hdg : decode cc pc = .ok (.putfield index, 3))
    (kk : bV p l e R s m args below meth c dd A nL mc ms post thr pc' lo rest ad (va_up w k (.inr (ci, fs.set j v))) N cells slots) : bV p l e R s m args below meth c dd A nL mc ms post thr pc lo (v :: .ref a :: rest) ad w N cells slots := by
  subst hpc; subst ha
  intro H locs ls hL hP hD hS
  refine va_putN C.1 C.2.1 C.2.2.2.2.1 hc.2.1 ty hc.2.2.1 hc.2.2.2 C.2.2.2.1 C.2.2.2.2.2.2.2.2.1.1 hP hD hS k (by rw [bw_at hk, he]) hc.1 j hj (va_Nw.use rfl (C.2.2.2.2.2.2.2.2.1.2.1 _ hlink)) (fun _ h => h) hfin (hc.2.2.1 j hj) hn hfit hl hdg (fun H1 locs1 hP1 hD1 hS1 => ?_)
  rw [bw_set hk] at hP1 hD1
  exact kk H1 locs1 ls hL hP1 hD1 hS1
theorem bv_putF (k j pc' : Nat) (hpc : pc + 3 = pc') (C : bCx p R s m args meth c cc own nL ret hh dd A) {a ci N' : Nat} {fs : List Value} {Cn : String} {T' : u_T} {ty : Nat → FieldType} (hc : bCls ci Cn T' N' ty) (hk : k < N) (ha : ad k = a) (he : w k = .inr (ci, fs)) (hj : j < N') {index : Nat} (hlink : Cond.fieldLink own index (T' j).1 (T' j).2.1 (T' j).2.2.1 ∈ Tb) (hfin : (T' j).2.2.2 = true) (hin : meth.name = "<init>") (hdecl : (T' j).1 = own) {v : Value} (hn : narrow (ty j) v = v) (hfit : fits (ty j) v = true) (hl : j < fs.length) (hdg : decode cc pc = .ok (.putfield index, 3))
    (kk : bV p l e R s m args below meth c dd A nL mc ms post thr pc' lo rest ad (va_up w k (.inr (ci, fs.set j v))) N cells slots) : bV p l e R s m args below meth c dd A nL mc ms post thr pc lo (v :: .ref a :: rest) ad w N cells slots := by
  subst hpc; subst ha
  intro H locs ls hL hP hD hS
  refine va_putF C.1 C.2.1 C.2.2.2.2.1 hc.2.1 ty hc.2.2.1 hc.2.2.2 C.2.2.2.1 C.2.2.2.2.2.2.2.2.1.1 hP hD hS k (by rw [bw_at hk, he]) hc.1 j hj (C.2.2.2.2.1 _ hlink) (fun _ h => h) hfin hin hdecl (hc.2.2.1 j hj) hn hfit hl hdg (fun H1 locs1 hP1 hD1 hS1 => ?_)
  rw [bw_set hk] at hP1 hD1
  exact kk H1 locs1 ls hL hP1 hD1 hS1
theorem bv_iald (k j pc' : Nat) (hpc : pc + 1 = pc') (C : bCx p R s m args meth c cc own nL ret hh dd A) {a n : Nat} {f : Nat → Int32} {i : Int32} (hk : k < N) (ha : ad k = a) (he : w k = aI dd n f) (hi : i = nI j) (hj : j < n) (hn : n < 2 ^ 31) (hdg : decode cc pc = .ok (.iaload, 1))
    (kk : bV p l e R s m args below meth c dd A nL mc ms post thr pc' lo (.int (f j) :: rest) ad w N cells slots) : bV p l e R s m args below meth c dd A nL mc ms post thr pc lo (.int i :: .ref a :: rest) ad w N cells slots := by
  subst hpc; subst ha; subst hi
  intro H locs ls hL hP hD hS
  refine va_iald C.1 C.2.1 C.2.2.2.2.2.2.2.2.1.1 hP k 0 (by rw [bw_at hk, he]) rfl (vp_in_nI hj hn) hdg ?_
  rw [nI_clamp (Nat.lt_trans hj hn)]
  exact kk H locs ls hL hP hD hS
theorem bv_iast (k j pc' : Nat) (hpc : pc + 1 = pc') (C : bCx p R s m args meth c cc own nL ret hh dd A) {a n : Nat} {f : Nat → Int32} {i x : Int32} (hk : k < N) (ha : ad k = a) (he : w k = aI dd n f) (hi : i = nI j) (hj : j < n) (hn : n < 2 ^ 31) (hdg : decode cc pc = .ok (.iastore, 1))
    (kk : bV p l e R s m args below meth c dd A nL mc ms post thr pc' lo rest ad (va_up w k (aI dd n (upd f j x))) N cells slots) : bV p l e R s m args below meth c dd A nL mc ms post thr pc lo (.int x :: .int i :: .ref a :: rest) ad w N cells slots := by
  subst hpc; subst ha; subst hi
  intro H locs ls hL hP hD hS
  refine va_iast C.1 C.2.1 C.2.2.2.2.2.2.2.2.1.1 hP hD hS k 0 (by rw [bw_at hk, he]) rfl (vp_in_nI hj hn) hdg (fun H1 locs1 hP1 hD1 hS1 => ?_)
  rw [nI_clamp (Nat.lt_trans hj hn)] at hP1 hD1
  rw [bw_set hk] at hP1 hD1
  exact kk H1 locs1 ls hL hP1 hD1 hS1
theorem bv_zald (k j pc' : Nat) (hpc : pc + 1 = pc') (C : bCx p R s m args meth c cc own nL ret hh dd A) {a n : Nat} {f : Nat → Int32} {i : Int32} (hk : k < N) (ha : ad k = a) (he : w k = aZ dd n f) (hi : i = nI j) (hj : j < n) (hn : n < 2 ^ 31) (hdg : decode cc pc = .ok (.baload, 1))
    (kk : bV p l e R s m args below meth c dd A nL mc ms post thr pc' lo (.int (f j) :: rest) ad w N cells slots) : bV p l e R s m args below meth c dd A nL mc ms post thr pc lo (.int i :: .ref a :: rest) ad w N cells slots := by
  subst hpc; subst ha; subst hi
  intro H locs ls hL hP hD hS
  refine va_zald C.1 C.2.1 C.2.2.2.2.2.2.2.2.1.1 hP k 2 (by rw [bw_at hk, he]) rfl (vp_in_nI hj hn) hdg ?_
  rw [nI_clamp (Nat.lt_trans hj hn)]
  exact kk H locs ls hL hP hD hS
theorem bv_zast (k j pc' : Nat) (hpc : pc + 1 = pc') (C : bCx p R s m args meth c cc own nL ret hh dd A) {a n : Nat} {f : Nat → Int32} {i x : Int32} (hk : k < N) (ha : ad k = a) (he : w k = aZ dd n f) (hi : i = nI j) (hj : j < n) (hn : n < 2 ^ 31) (hdg : decode cc pc = .ok (.bastore, 1))
    (kk : bV p l e R s m args below meth c dd A nL mc ms post thr pc' lo rest ad (va_up w k (aZ dd n (upd f j (vp_nar .boolean x)))) N cells slots) : bV p l e R s m args below meth c dd A nL mc ms post thr pc lo (.int x :: .int i :: .ref a :: rest) ad w N cells slots := by
  subst hpc; subst ha; subst hi
  intro H locs ls hL hP hD hS
  refine va_zast C.1 C.2.1 C.2.2.2.2.2.2.2.2.1.1 hP hD hS k 2 (by rw [bw_at hk, he]) rfl (vp_in_nI hj hn) hdg (fun H1 locs1 hP1 hD1 hS1 => ?_)
  rw [nI_clamp (Nat.lt_trans hj hn)] at hP1 hD1
  rw [bw_set hk] at hP1 hD1
  exact kk H1 locs1 ls hL hP1 hD1 hS1
theorem bv_lald (k j pc' : Nat) (hpc : pc + 1 = pc') (C : bCx p R s m args meth c cc own nL ret hh dd A) {a n : Nat} {f : Nat → Int64} {i : Int32} (hk : k < N) (ha : ad k = a) (he : w k = aL dd n f) (hi : i = nI j) (hj : j < n) (hn : n < 2 ^ 31) (hdg : decode cc pc = .ok (.laload, 1))
    (kk : bV p l e R s m args below meth c dd A nL mc ms post thr pc' lo (.long (f j) :: rest) ad w N cells slots) : bV p l e R s m args below meth c dd A nL mc ms post thr pc lo (.int i :: .ref a :: rest) ad w N cells slots := by
  subst hpc; subst ha; subst hi
  intro H locs ls hL hP hD hS
  refine va_lald C.1 C.2.1 C.2.2.2.2.2.2.2.2.1.1 hP k 1 (by rw [bw_at hk, he]) rfl (vp_in_nI hj hn) hdg ?_
  rw [nI_clamp (Nat.lt_trans hj hn)]
  exact kk H locs ls hL hP hD hS
theorem bv_last (k j pc' : Nat) (hpc : pc + 1 = pc') (C : bCx p R s m args meth c cc own nL ret hh dd A) {a n : Nat} {f : Nat → Int64} {i : Int32} {x : Int64} (hk : k < N) (ha : ad k = a) (he : w k = aL dd n f) (hi : i = nI j) (hj : j < n) (hn : n < 2 ^ 31) (hdg : decode cc pc = .ok (.lastore, 1))
    (kk : bV p l e R s m args below meth c dd A nL mc ms post thr pc' lo rest ad (va_up w k (aL dd n (vp_updL f j x))) N cells slots) : bV p l e R s m args below meth c dd A nL mc ms post thr pc lo (.long x :: .int i :: .ref a :: rest) ad w N cells slots := by
  subst hpc; subst ha; subst hi
  intro H locs ls hL hP hD hS
  refine va_last C.1 C.2.1 C.2.2.2.2.2.2.2.2.1.1 hP hD hS k 1 (by rw [bw_at hk, he]) rfl (vp_in_nI hj hn) hdg (fun H1 locs1 hP1 hD1 hS1 => ?_)
  rw [nI_clamp (Nat.lt_trans hj hn)] at hP1 hD1
  rw [bw_set hk] at hP1 hD1
  exact kk H1 locs1 ls hL hP1 hD1 hS1
theorem bv_aald (t0 k j pc' : Nat) (hpc : pc + 1 = pc') (C : bCx p R s m args meth c cc own nL ret hh dd A) {a n : Nat} {f : Nat → Option Nat} {i : Int32} {Cn : String} (ht : (bTys dd.2.1)[t0]? = some (dd.2.1 t0, .object Cn)) (hk : k < N) (ha : ad k = a) (he : w k = aR dd t0 n f) (hi : i = nI j) (hj : j < n) (hn : n < 2 ^ 31) (hdg : decode cc pc = .ok (.aaload, 1)) {b : Nat} (hf : f j = some b)
    (kk : bV p l e R s m args below meth c dd A nL mc ms post thr pc' lo (.ref b :: rest) ad w N cells slots) : bV p l e R s m args below meth c dd A nL mc ms post thr pc lo (.int i :: .ref a :: rest) ad w N cells slots := by
  subst hpc; subst ha; subst hi
  intro H locs ls hL hP hD hS
  refine va_aldq C.1 C.2.1 C.2.2.2.2.2.2.2.2.1.1 hP k t0 (by rw [bw_at hk, he]) ht (vp_in_nI hj hn) hdg ?_
  rw [nI_clamp (Nat.lt_trans hj hn), hf]
  exact kk H locs ls hL hP hD hS
theorem bv_aast (t0 k j pc' kv : Nat) (hpc : pc + 1 = pc') (C : bCx p R s m args meth c cc own nL ret hh dd A) {a n ci : Nat} {f : Nat → Option Nat} {i : Int32} {q : vw_C} {vs : List Value} {b : Nat} (ht : (bTys dd.2.1)[t0]? = some (dd.2.1 t0, .object q.1)) (hq : bCl[ci]? = some q) (hk : k < N) (ha : ad k = a) (he : w k = aR dd t0 n f) (hkv : kv < N) (hb : ad kv = b) (hev : w kv = .inr (ci, vs)) (hi : i = nI j) (hj : j < n) (hn : n < 2 ^ 31) (hdg : decode cc pc = .ok (.aastore, 1))
    (kk : bV p l e R s m args below meth c dd A nL mc ms post thr pc' lo rest ad (va_up w k (aR dd t0 n (va_up f j (some b)))) N cells slots) : bV p l e R s m args below meth c dd A nL mc ms post thr pc lo (.ref b :: .int i :: .ref a :: rest) ad w N cells slots := by
  subst hpc; subst ha; subst hi; subst hb
  intro H locs ls hL hP hD hS
  refine va_astq C.1 C.2.1 C.2.2.2.2.2.2.2.2.1.1 hP hD hS k t0 kv ci (by rw [bw_at hk, he]) ht (by rw [bw_at hkv, hev]) hq (vp_in_nI hj hn) hdg (fun H1 locs1 hP1 hD1 hS1 => ?_)
  rw [nI_clamp (Nat.lt_trans hj hn)] at hP1 hD1
  rw [bw_set hk] at hP1 hD1
  exact kk H1 locs1 ls hL hP1 hD1 hS1
theorem bv_alen (k t0 pc' : Nat) (hpc : pc + 1 = pc') (C : bCx p R s m args meth c cc own nL ret hh dd A) {a : Nat} {x : vp_A} {ty : FieldType} {v : Int32} (hk : k < N) (ha : ad k = a) (he : w k = .inl (dd.2.1 t0, x)) (ht : (bTys dd.2.1)[t0]? = some (dd.2.1 t0, ty)) (hv : nI x.1 = v) (hdg : decode cc pc = .ok (.arraylength, 1))
    (kk : bV p l e R s m args below meth c dd A nL mc ms post thr pc' lo (.int v :: rest) ad w N cells slots) : bV p l e R s m args below meth c dd A nL mc ms post thr pc lo (.ref a :: rest) ad w N cells slots := by
  subst hpc; subst ha
  intro H locs ls hL hP hD hS
  exact va_alen C.1 C.2.1 C.2.2.2.2.2.2.2.2.1.1 hP k t0 (by rw [bw_at hk, he]) ht hv hdg (kk H locs ls hL hP hD hS)
theorem bv_gets (i0 pc' : Nat) (hpc : pc + 3 = pc') (C : bCx p R s m args meth c cc own nL ret hh dd A) {Cn fn : String} {n index : Nat} (hq : (Cn, fn, i0, n) ∈ bSta) (hlink : Cond.fieldLink own index Cn fn "[I" ∈ Tb) (hdg : decode cc pc = .ok (.getstatic index, 3))
    (kk : bV p l e R s m args below meth c dd A nL mc ms post thr pc' lo (.ref (dd.2.2.1 i0) :: rest) ad w N cells slots) : bV p l e R s m args below meth c dd A nL mc ms post thr pc lo rest ad w N cells slots := by
  subst hpc
  intro H locs ls hL hP hD hS
  exact va_gets C.1 C.2.1 (C.2.2.2.2.2.2.2.2.1.2.2.1 _ hq).1 hS C.2.2.2.1 (C.2.2.2.2.1 _ hlink) (fun _ h => h) hdg (kk H locs ls hL hP hD hS)
theorem bv_ti (i0 j pc' : Nat) (hpc : pc + 1 = pc') (C : bCx p R s m args meth c cc own nL ret hh dd A) {Cn fn : String} {n : Nat} {i : Int32} (hq : (Cn, fn, i0, n) ∈ bSta) (hi : i = nI j) (hj : j < n) (hn : n < 2 ^ 31) (hdg : decode cc pc = .ok (.iaload, 1))
    (kk : bV p l e R s m args below meth c dd A nL mc ms post thr pc' lo (.int (dd.2.2.2 i0 j) :: rest) ad w N cells slots) : bV p l e R s m args below meth c dd A nL mc ms post thr pc lo (.int i :: .ref (dd.2.2.1 i0) :: rest) ad w N cells slots := by
  subst hpc; subst hi
  intro H locs ls hL hP hD hS
  exact va_ti C.1 C.2.1 (C.2.2.2.2.2.2.2.2.1.2.2.1 _ hq).2 hS (vp_in_nI hj hn) (by rw [nI_clamp (Nat.lt_trans hj hn)]) hdg (kk H locs ls hL hP hD hS)
theorem bv_new (pc' : Nat) (hpc : pc + 3 = pc') (C : bCx p R s m args meth c cc own nL ret hh dd A) {ci N' index : Nat} {Cn : String} {T' : u_T} {ty : Nat → FieldType} {fs : List Value} (hc : bCls ci Cn T' N' ty) (hcl : Cond.classLink own index Cn ∈ Tb) (hin : Cond.instantiable Cn N' ∈ Tb) (hini : Cond.initialized Cn ∈ Tb) (hfs : ∀ j, j < N' → defaultValue (ty j) = vp_V fs j) (hce : cells + 1 ≤ R.cells) (hsl : slots + N' ≤ R.slots) (hdg : decode cc pc = .ok (.new index, 3))
    (kk : ∀ ad' : Nat → Nat, (∀ i, i < N → ad' i = ad i) → bV p l e R s m args below meth c dd A nL mc ms post thr pc' lo (.ref (ad' N) :: rest) ad' (va_up w N (.inr (ci, fs))) (N + 1) (cells + 1) (slots + N')) : bV p l e R s m args below meth c dd A nL mc ms post thr pc lo rest ad w N cells slots := by
  subst hpc
  intro H locs ls hL hP hD hS
  refine va_new C.1 C.2.1 C.2.2.2.2.1 hc.2.1 ty hc.2.2.1 C.2.2.2.1 (C.2.2.2.2.1 _ hcl) (C.2.2.2.2.1 _ hin) (C.2.2.2.2.1 _ hini) C.2.2.2.2.2.2.2.2.1.1 hP hD hS C.2.2.2.2.2.2.2.1 hc.1 hfs hce hsl hdg (fun q H1 hP1 hD1 hS1 => ?_)
  rw [bw_push] at hP1 hD1
  have h := kk (va_up ad N q) (fun i hi => va_up_ne _ _ (Nat.ne_of_lt hi)) H1 locs ls hL hP1 hD1 hS1
  rw [va_up_self] at h
  exact h
theorem bv_newa (t0 n pc' : Nat) (hpc : pc + 2 = pc') (C : bCx p R s m args meth c cc own nL ret hh dd A) {atype : ArrayType} {ty : FieldType} {a0 : vp_A} {x : Int32} (hty : newarray.typeOf atype = ty) (ht : (bTys dd.2.1)[t0]? = some (dd.2.1 t0, ty)) (hobj : ∀ Cn, ty ≠ .object Cn) (harr : Cond.arrayClass ty ∈ Tb) (ha : ∀ cA : ClassId, vp_cell cA a0 = arrV cA n (fun _ => defaultValue ty)) (hx : x = nI n) (hn : n < 2 ^ 31) (hb : n * componentBytes ty ≤ 536870912) (hce : cells + 1 ≤ R.cells) (hsl : slots + n ≤ R.slots) (hdg : decode cc pc = .ok (.newarray atype, 2))
    (kk : ∀ ad' : Nat → Nat, (∀ i, i < N → ad' i = ad i) → bV p l e R s m args below meth c dd A nL mc ms post thr pc' lo (.ref (ad' N) :: rest) ad' (va_up w N (.inl (dd.2.1 t0, a0))) (N + 1) (cells + 1) (slots + n)) : bV p l e R s m args below meth c dd A nL mc ms post thr pc lo (.int x :: rest) ad w N cells slots := by
  subst hpc; subst hx
  intro H locs ls hL hP hD hS
  refine va_newa C.1 C.2.1 (by rw [hty]; exact C.2.2.2.2.1 _ harr) hty C.2.2.2.2.2.2.2.2.1.1 hP hD hS C.2.2.2.2.2.2.2.1 ha (nI_pos hn) (nI_clamp hn) hb hce hsl hdg (fun q cA H1 hK1 hP1 hD1 hS1 => ?_)
  have e1 : cA = dd.2.1 t0 := by
    have h1 := (hK1.2 (bTys dd.2.1).length (cA, ty) (by simp)).2
    have h2 := (C.2.2.2.2.2.2.2.2.1.1.2 t0 _ ht).2
    cases ty <;> first | (exfalso; exact hobj _ rfl) | (unfold va_RA at h1 h2; exact Option.some.inj (h1.symm.trans h2))
  rw [bw_push, e1] at hP1 hD1
  have h := kk (va_up ad N q) (fun i hi => va_up_ne _ _ (Nat.ne_of_lt hi)) H1 locs ls hL hP1 hD1 hS1
  rw [va_up_self] at h
  exact h
theorem bv_newq (t0 n pc' : Nat) (hpc : pc + 3 = pc') (C : bCx p R s m args meth c cc own nL ret hh dd A) {index : Nat} {Cn : String} {x : Int32} (ht : (bTys dd.2.1)[t0]? = some (dd.2.1 t0, .object Cn)) (hcl : Cond.classLink own index Cn ∈ Tb) (hov : Cn ∈ bAov) (hx : x = nI n) (hn : n < 2 ^ 31) (hb : n * 4 ≤ 536870912) (hce : cells + 1 ≤ R.cells) (hsl : slots + n ≤ R.slots) (hdg : decode cc pc = .ok (.anewarray index, 3))
    (kk : ∀ ad' : Nat → Nat, (∀ i, i < N → ad' i = ad i) → bV p l e R s m args below meth c dd A nL mc ms post thr pc' lo (.ref (ad' N) :: rest) ad' (va_up w N (aR dd t0 n (fun _ => none))) (N + 1) (cells + 1) (slots + n)) : bV p l e R s m args below meth c dd A nL mc ms post thr pc lo (.int x :: rest) ad w N cells slots := by
  subst hpc; subst hx
  intro H locs ls hL hP hD hS
  refine va_newq C.1 C.2.1 C.2.2.2.1 (C.2.2.2.2.1 _ hcl) (C.2.2.2.2.2.2.2.2.1.2.2.2.2.2.2 _ hov) C.2.2.2.2.2.2.2.2.1.1 hP hD hS C.2.2.2.2.2.2.2.1 (nI_pos hn) (nI_clamp hn) hb hce hsl hdg (fun q cA H1 hK1 hP1 hD1 hS1 => ?_)
  have e1 : cA = dd.2.1 t0 := by
    obtain ⟨_, _, _, _, _, h1⟩ := (hK1.2 (bTys dd.2.1).length (cA, .object Cn) (by simp)).2
    obtain ⟨_, _, _, _, _, h2⟩ := (C.2.2.2.2.2.2.2.2.1.1.2 t0 _ ht).2
    exact Option.some.inj (h1.symm.trans h2)
  rw [bw_push, e1] at hP1 hD1
  have h := kk (va_up ad N q) (fun i hi => va_up_ne _ _ (Nat.ne_of_lt hi)) H1 locs ls hL hP1 hD1 hS1
  rw [va_up_self] at h
  exact h
end bR2

theorem ow_N : ∀ a ∈ bAtN "BlobStore" 180 "java/util/NoSuchElementException" "java/lang/RuntimeException" 13 prog_21_method_4_code ["java/lang/Exception"], a ∈ Tb ∨ a ∈ bNst ∨ ∃ q ∈ bZq, a = .isRef (.static q.1 q.2.1 q.2.2) ∨ a = .laysStatic q.1 q.2.1 q.2.2 := by decide +kernel
section bThN
variable {p : Program} {l : Launch} {e : Env} {R : Room} {s : State} {m : MethodId} {args : Array Value} {below : List Frame} {meth : Method} {c : Code} {dd : bD} {A : Nat → Prop} {nL mc ms : Nat} {post : Option Value → (Nat → Nat) → (Nat → va_E) → Nat → Prop} {thr : String → (Nat → Nat) → (Nat → va_E) → Nat → Prop} {pc : Nat} {lo : Nat → Option Value} {rest : List Value} {ad : Nat → Nat} {w : Nat → va_E} {N cells slots : Nat} {cc : ByteArray} {own : String} {ret : Option FieldType} {hh : List (Nat × Nat × Nat × Nat)}
theorem bv_throwN {i1 i2 i3 i0 : Nat} {cls up tx : String} {b0 : ByteArray} {names : List String} (hlt : bOff l) (C : bCx p R s m args meth c cc own nL ret hh dd A) (hd0 : decode cc pc = .ok (.new i1, 3)) (hd1 : decode cc (pc + 3) = .ok (.dup, 1)) (hd2 : decode cc (pc + 4) = .ok (.ldc i2, 2)) (hd3 : decode cc (pc + 6) = .ok (.invokespecial i3, 3)) (hd4 : decode cc (pc + 9) = .ok (.athrow, 1))
    (hcl : Cond.classLink own i1 cls ∈ Tb) (hins : Cond.instantiable cls 6 ∈ Tb) (hini : Cond.initialized cls ∈ Tb) (hstr : (own, i2, tx) ∈ bStr) (hfit : Bundle.fit cls = true) (hup : Bundle.fit up = true) (hnames : ∀ n ∈ names, Bundle.fit n = true) (q0 : decode b0 0 = .ok (.aload_n 0, 1)) (q1 : decode b0 1 = .ok (.aload_n 1, 1)) (q2 : decode b0 2 = .ok (.invokespecial i0, 3)) (q5 : decode b0 5 = .ok (.return_, 1))
    (hat : ∀ a ∈ bAtN own i3 cls up i0 b0 names, a ∈ Tb ∨ a ∈ bNst ∨ ∃ q ∈ bZq, a = .isRef (.static q.1 q.2.1 q.2.2) ∨ a = .laysStatic q.1 q.2.1 q.2.2) (hout : (tableOf hh).all (fun y => !covers y (pc + 9)) = true)
    (hRf : names.length + 4 < R.frames) (hRl : (rest.map fun v => v.category).sum + (13 * (names.length + 2) + 43) ≤ R.locals) (hc : cells + 1 ≤ mc) (hs : slots + 6 ≤ ms) (hcR : cells + 1 ≤ R.cells) (hsR : slots + 6 ≤ R.slots) (h : thr cls ad w N) : bV p l e R s m args below meth c dd A nL mc ms post thr pc lo rest ad w N cells slots := by
  intro H locs ls hL hP hD hS T hT X
  have X' := bRebase X (R' := { frames := R.frames, cells := 1, slots := 6, locals := R.locals }) (Nat.le_refl _) (Nat.le_refl _) hcR hsR
  have hW0 : s.WarmedH (T.setFrames (.invoking m args :: below)).vm := X.warmed
  have hts : ∀ w0 ∈ Tb, w0.before args (T.setFrames (.invoking m args :: below)) = true := fun w0 hw0 => bGood.at (bTb_good w0 hw0) hW0 (C.2.2.2.2.1 _ hw0)
  have hown : (T.setFrames (.invoking m args :: below)).vm.findClass own = some m.cls := by
    have := C.2.2.2.1
    rw [← X.warmed.alike.findClass own] at this
    exact this
  have hG : bG dd A (T.setFrames (.invoking m args :: below)) T.heap := C.2.2.2.2.2.2.2.2.1.to hW0 (fun a ha hna => by rw [hT]; exact hS.2.1 a ha hna) (fun _ h => h)
  have hwords : ∀ a ∈ bAtN own i3 cls up i0 b0 names, a.before args (T.setFrames (.invoking m args :: below)) = true := by
    intro a ha
    rcases hat a ha with h1 | h1 | ⟨q, hq, rfl | rfl⟩
    · exact hts a h1
    · exact bNst_use (bNst_only a h1) (hG.2.1 a h1)
    · exact (hG.2.2.2.2.1 q hq).isRef
    · exact (hG.2.2.2.2.1 q hq).lays
  obtain ⟨msg, hmsg⟩ := hG.2.2.2.1 _ hstr
  have key : W p l e { frames := R.frames, cells := 1, slots := 6, locals := R.locals } (T.setFrames (.invoking m args :: below)) m args below meth c T.heap [] 0 0
      (fun U => U.status = .running ∧ Ended U below (.threw T.heap.size) ∧ (T.setFrames (.invoking m args :: below)).WarmedH U.vm ∧ (T.setFrames (.invoking m args :: below)).sameButNew ({ U with vm := (T.setFrames (.invoking m args :: below)).vm } : State) [] 1 6 ∧
        ∃ ce, U.heap[T.heap.size]? = some ce ∧ ce.vm = .none ∧ (T.setFrames (.invoking m args :: below)).vm.findClass cls = some ce.cls) (F0 m pc ls rest) := by
    refine W.newc (g := F0 m pc ls rest) C.1 C.2.1 hown (hts _ hcl) (hts _ hins) (hts _ hini) rfl hd0 (Nat.le_refl _) (Nat.le_refl _) (fun cC kC hfc hkC hord hsz => ?_)
    refine lv_dup (m := m) (ls := ls) (pc := pc + 3) (rest := rest) (va := .ref T.heap.size) C.1 C.2.1 hd1 rfl ?_
    refine va_ldcS C.1 C.2.1 hown hmsg hd2 ?_
    intro T2 hT2 X2
    have hcell : T2.heap[T.heap.size]? = some (freshCell cC kC) := by rw [hT2]; simp
    obtain ⟨U, u1, u2, u3, u4, u5, u6⟩ := bCtorN X2 C.1 (hlt e X.admits) hown hfit hup hnames q0 q1 q2 q5 hwords hfc hkC hcell (Nat.le_refl _) (msg := .ref msg) rfl (g := F0 m (pc + 6) ls (.ref msg :: .ref T.heap.size :: .ref T.heap.size :: rest)) rfl (hL.1.trans C.2.2.1.symm) rfl rfl (rest := rest) rfl
      (by rw [C.2.1]; exact hd3) (by rw [C.2.1]; exact hd4) (outside_of_table C.2.2.2.2.2.2.2.2.2 hout) hRf (by rw [List.map_cons, List.sum_cons]; show 2 * 0 + (1 + (rest.map fun v => v.category).sum) + (13 * (names.length + 2) + 42) ≤ R.locals; omega) C.2.2.2.2.2.2.1
    exact ⟨U, u1, u2, u3, u4, u5, u6⟩
  obtain ⟨U, u1, u2, u3, u4, u5, ce, u6, u7, u8⟩ := key T rfl X'
  have hFE := bRebase.back X u4 u5
  have hheap : ∀ q : Nat, q < H.size → U.heap[q]? = H[q]? := by
    intro q hq
    rw [← hT] at hq ⊢
    exact bSame0 u5 hq
  refine ⟨U, u1, .threw T.heap.size, u2, u3, ⟨⟨?_, ?_⟩, ad, w, N, ?_, hD, Or.inr ⟨T.heap.size, cls, ce, rfl, u6, u7, ?_, ?_, h⟩⟩, locs, ⟨hFE.1, hFE.2.mono hc hs⟩, hS.2.2⟩
  · have h1 : T.heap.size ≤ U.heap.size := u5.2.1
    rw [hT] at h1
    exact Nat.le_trans hS.1 h1
  · intro q h1 h2
    rw [hheap q (Nat.lt_of_lt_of_le h1 hS.1)]
    exact hS.2.1 q h1 h2
  · refine hP.kept (fun k q hk => hheap _ ?_)
    exact (hP k q hk).lt
  · rw [← u4.alike.findClass cls] at u8
    exact u8
  · rw [hT]; exact hS.1
end bThN
section bAdr
variable {l : Launch} {dd : bD} {ad : Nat → Nat} {w : Nat → va_E} {N : Nat} {ve : Int32} {cl : Nat → Int32} {cb : Nat → Int64}
/-- address where no slot has a chunk -/
theorem ct_B_address (hlt : bOff l) (hN : 305 ≤ N) (h0 : w 0 = oB ad ve) (hC : bCs dd ad w cl cb) (hcl : ∀ j, j < 48 → cl j = 0) {x y : Int32} : bK l dd y_B_address 6 82 1 6 [.ref (ad 0), .int x, .int y] ad w N (fun _ _ _ _ => False) (bSameT ad w N (fun Cn => Cn = xNSE)) := by
  refine bK.start [(0, .ref (ad 0)), (1, .int x), (2, .int y)] (by decide) t3_72 (Nat.le_of_ble_eq_true rfl) rfl (fun p e s m args below meth c A hnm C => ?_)
  refine bv_aload_n 1 rfl C d_B_address_0 rfl ?_
  refine bv_iload_n 2 rfl C d_B_address_1 rfl ?_
  refine bv_call (rest := []) 5 rfl C d_B_address_2 (ct_B_hasChunk hN h0 hC) i_B_hasChunk t1_1 (fun H locs ls hP => bs_V (av := [.int x]) 0 C i_B_hasChunk t1_209 t1_211 s_3 (by omega) rfl h0 rfl (by decide) rfl rfl d_B_address_2 H locs ls hP) ⟨by first | decide | omega, by first | decide | omega⟩ (by decide) (by decide) (Nat.le_of_ble_eq_true rfl) (fun v ad1 w1 N1 hpo => ?_) (fun x Cn ad' w' N' hth => hth.elim)
  obtain ⟨rfl, rfl, rfl, hv⟩ := hpo
  rcases hv with ⟨-, i, hi, -, ho⟩ | ⟨rfl, -⟩
  · exact absurd (hcl i hi) ho
  · refine bv_if_eq 18 8 rfl C d_B_address_5 (by decide) (fun h => ?_) (fun h => absurd (show nI 0 = 0 by decide) h)
    exact bv_throwN (names := ["java/lang/Exception"]) (up := "java/lang/RuntimeException") (i0 := 13) (b0 := prog_21_method_4_code) hlt C d_B_address_18 d_B_address_21 d_B_address_22 d_B_address_24 d_B_address_27 t3_73 t3_74 t1_19 (show ("BlobStore", 178, "no such chunk or word") ∈ bStr by simp) (by decide) (by decide) (by decide) (by decide +kernel) (by decide +kernel) (by decide +kernel) (by decide +kernel) ow_N rfl (by decide) (by decide) (by decide) (by decide) (by decide) (by decide) ⟨rfl, rfl, rfl, rfl⟩
end bAdr

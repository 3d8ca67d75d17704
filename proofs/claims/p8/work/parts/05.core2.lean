section bC2
variable {p : Program} {l : Launch} {e : Env} {R : Room} {s : State} {m : MethodId} {args : Array Value} {below : List Frame} {meth : Method} {c : Code} {locs : List Loc} {cells slots : Nat}
/-- the walk goes on as if it had begun here -/
theorem bRebase {T : State} (X : Stand p l e R s m args below meth c T locs cells slots) {R' : Room} (hf : R'.frames ≤ R.frames) (hl : R'.locals ≤ R.locals) (hc : cells + R'.cells ≤ R.cells) (hs : slots + R'.slots ≤ R.slots) :
    Stand p l e R' (T.setFrames (.invoking m args :: below)) m args below meth c T [] 0 0 := by
  obtain ⟨g₀, hfr⟩ := X.frames_eq
  have hcur : T.cur < T.threads.size := State.cur_lt_of_frames hfr
  have hF : (T.setFrames (.invoking m args :: below)).frames = .invoking m args :: below := State.frames_setFrames _ hcur
  have hroom : (T.setFrames (.invoking m args :: below)).hasRoom e.platform R' = true := by
    obtain ⟨r1, r2, r3, r4⟩ := State.hasRoom_stack X.room
    have r5 := State.hasRoom_real X.room
    have h := X.room
    simp only [State.hasRoom, Bool.and_eq_true, decide_eq_true_eq] at h
    rw [State.localsInUse_invoking X.frames X.method X.code] at r3 r4 r5
    rw [X.frames, List.length_cons] at r1 r2
    have hU : (T.setFrames (.invoking m args :: below)).localsInUse = _ := State.localsInUse_invoking hF (meth := meth) (c := c) X.method' X.code
    have h1 := X.heapSize
    have h2 := X.used
    simp only [State.hasRoom, Bool.and_eq_true, decide_eq_true_eq, hF, hU, List.length_cons, State.stackLimits_setFrames, State.stackBytes_setFrames, X.limits, X.bytes]
    refine ⟨⟨⟨⟨by omega, by omega, by omega, by omega, by omega, h.1.1.1.2.2.2.2.2⟩, ?_⟩, ?_⟩, X.book⟩
    · have := h.1.1.2
      show T.heap.size + R'.cells ≤ e.platform.maxCells
      omega
    · have := h.1.2
      show T.slotsUsed + R'.slots ≤ e.platform.maxSlots
      omega
  have hhears : (T.setFrames (.invoking m args :: below)).hears m below = true := by
    have h := X.hears
    have hal := X.warmed.alike
    have hm : ∀ k, (T.setFrames (.invoking m args :: below)).vm.method? k = s.vm.method? k := fun k => hal.method? k
    have hcd : ∀ k, (T.setFrames (.invoking m args :: below)).code? k = s.code? k := fun k => by rw [State.code?_eq, State.code?_eq, hm]
    cases below with
    | nil => simp only [State.hears] at h ⊢; rw [hm]; exact h
    | cons f r => cases f <;> simp only [State.hears] at h ⊢ <;> first | exact h | (rw [hm]; exact h) | (rw [hcd]; exact h)
  obtain ⟨t, ht, -⟩ := State.frames_cons hF
  have hsame : (T.setFrames (.invoking m args :: below)).sameButNew (T.setVm (T.setFrames (.invoking m args :: below)).vm) [] 0 0 := by
    have h := (State.sameButNew.refl (T.setFrames (.invoking m args :: below)) ht).setFrames T.frames (State.cur_lt_of_frames hF)
    obtain ⟨t0, ht0, -⟩ := State.frames_cons hfr
    rw [State.setFrames_setFrames, State.setFrames_self ht0] at h
    exact h
  exact ⟨X.admits, X.cas, X.clock, hF, hroom, hhears, X.method', X.code, X.here, X.tail, State.WarmedH.refl _, by rw [State.stackLimits_setFrames], by rw [State.stackBytes_setFrames], hsame⟩
/-- .. and what it ends in is an end of the walk that was -/
theorem bRebase.back {T U : State} (X : Stand p l e R s m args below meth c T locs cells slots) {F : List Frame} {k n : Nat} (hW : (T.setFrames F).WarmedH U.vm) (h : (T.setFrames F).sameButNew ({ U with vm := (T.setFrames F).vm } : State) [] k n) : bFE s U locs (cells + k) (slots + n) := by
  have hW' : T.WarmedH U.vm := hW
  have h2 : T.sameButNew ({ U with vm := T.vm } : State) [] k n := by
    obtain ⟨e2, q2, q3, q4, q5, q6⟩ := h
    refine ⟨?_, q2, q3, q4, q5, q6⟩
    rw [State.setFrames_setFrames] at e2
    exact e2
  refine ⟨State.WarmedH.trans X.warmed hW', ?_⟩
  have h3 := X.same.trans (h2.setVm s.vm)
  rw [List.append_nil] at h3
  exact h3
end bC2

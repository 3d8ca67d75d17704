/-- a contract over the first N0 cells of a world: what lies behind them stays -/
theorem bK.frame {l : Launch} {dd : bD} {y : MethodName} {fr lc mc ms : Nat} {av : List Value} {ad : Nat → Nat} {w : Nat → va_E} {N0 N : Nat} {post : Option Value → (Nat → Nat) → (Nat → va_E) → Nat → Prop} {thr : String → (Nat → Nat) → (Nat → va_E) → Nat → Prop} (hle : N0 ≤ N) (h : bK l dd y fr lc mc ms av ad w N0 post thr)
    (hp : ∀ v ad' w' N', post v ad' w' N' → ad = ad' ∧ N0 = N') (ht : ∀ Cn ad' w' N', thr Cn ad' w' N' → ad = ad' ∧ N0 = N') :
    bK l dd y fr lc mc ms av ad w N (fun v ad' w' N' => ad = ad' ∧ N = N' ∧ (∀ k, N0 ≤ k → w' k = w k) ∧ ∃ w1, post v ad w1 N0 ∧ ∀ k, k < N0 → w' k = w1 k) (fun Cn ad' w' N' => ad = ad' ∧ N = N' ∧ (∀ k, N0 ≤ k → w' k = w k) ∧ ∃ w1, thr Cn ad w1 N0 ∧ ∀ k, k < N0 → w' k = w1 k) := by
  intro sz p e ha hc hk s m args below hf happ hP _
  obtain ⟨hav, hsz, hP1, hD1, hG⟩ := hP
  have hsub : ∀ (k : Nat) (q : Nat × va_E), (bw ad w N0)[k]? = some q → (bw ad w N)[k]? = some q := by
    intro k q h
    obtain ⟨h1, rfl⟩ := bw_lt h
    exact bw_at (by omega)
  have hAsub : ∀ q, va_A (bw ad w N0) sz q → va_A (bw ad w N) sz q := fun q h => h.imp (fun ⟨k, e, h⟩ => ⟨k, e, hsub k _ h⟩) id
  have hP0 : va_P dd.1 bCl (bw ad w N0) s.heap := fun k q h => hP1 k q (hsub k q h)
  have hD0 : va_D (fun _ => True) (bw ad w N0) := ⟨fun i j p q h1 h2 => hD1.1 i j p q (hsub _ _ h1) (hsub _ _ h2), fun _ _ _ => trivial⟩
  obtain ⟨n, o, h1, h2, h3, hQ, L, hFE, hL⟩ := h sz p e ha hc hk s m args below hf happ ⟨hav, hsz, hP0, hD0, hG.to (State.WarmedH.refl _) (fun _ _ _ => rfl) hAsub⟩ trivial
  refine ⟨n, o, h1, h2, h3, ?_, L, hFE, fun q hq => hAsub _ (hL q hq)⟩
  obtain ⟨hF, ad', w', N', hP2, hD2, hQ⟩ := hQ
  have hE : ad = ad' ∧ N0 = N' := by
    rcases hQ with ⟨v, -, hp'⟩ | ⟨x, Cn, cell, -, -, -, -, -, ht'⟩
    · exact hp _ _ _ _ hp'
    · exact ht _ _ _ _ ht'
  obtain ⟨rfl, rfl⟩ := hE
  refine ⟨⟨hF.1, fun q h1 h2 => hF.2 q h1 (fun z => h2 (hAsub q z))⟩, ad, (fun k => if k < N0 then w' k else w k), N, ?_, ?_, ?_⟩
  · intro k q hkq
    obtain ⟨hkN, rfl⟩ := bw_lt hkq
    by_cases hk0 : k < N0
    · have h4 := hP2 k _ (bw_at hk0)
      simp only [if_pos hk0]
      exact h4
    · simp only [if_neg hk0]
      have h4 := hP1 k _ (bw_at hkN)
      refine h4.kept (hF.2 (ad k) h4.lt ?_)
      rintro (⟨j, e', hj⟩ | hz)
      · obtain ⟨hj1, hj2⟩ := bw_lt hj
        have h5 := hD1.1 k j _ _ (bw_at hkN) (hsub _ _ hj) rfl
        omega
      · have h5 : ad k < s.heap.size := h4.lt
        omega
  · refine ⟨fun i j p q hi hj e => ?_, fun k q hk => ?_⟩
    · obtain ⟨hi', rfl⟩ := bw_lt hi
      obtain ⟨hj', rfl⟩ := bw_lt hj
      exact hD1.1 i j _ _ (bw_at hi') (bw_at hj') e
    · obtain ⟨hk', rfl⟩ := bw_lt hk
      exact Or.inl ⟨k, w k, bw_at hk'⟩
  · have e1 : ∀ k, N0 ≤ k → (if k < N0 then w' k else w k) = w k := fun k hk => if_neg (by omega)
    have e2 : ∀ k, k < N0 → (if k < N0 then w' k else w k) = w' k := fun k hk => if_pos hk
    rcases hQ with ⟨v, hv, hp'⟩ | ⟨x, Cn, cell, q1, q2, q3, q4, q5, ht'⟩
    · exact Or.inl ⟨v, hv, rfl, rfl, e1, w', hp', e2⟩
    · exact Or.inr ⟨x, Cn, cell, q1, q2, q3, q4, q5, rfl, rfl, e1, w', ht', e2⟩
theorem bK.mono {l : Launch} {dd : bD} {y : MethodName} {fr lc mc ms : Nat} {av : List Value} {ad : Nat → Nat} {w : Nat → va_E} {N : Nat} {post post' : Option Value → (Nat → Nat) → (Nat → va_E) → Nat → Prop} {thr thr' : String → (Nat → Nat) → (Nat → va_E) → Nat → Prop} (h : bK l dd y fr lc mc ms av ad w N post thr) (hp : ∀ v ad' w' N', post v ad' w' N' → post' v ad' w' N') (ht : ∀ Cn ad' w' N', thr Cn ad' w' N' → thr' Cn ad' w' N') : bK l dd y fr lc mc ms av ad w N post' thr' := by
  intro sz p e ha hc hk s m args below hf happ hP _
  obtain ⟨n, o, h1, h2, h3, hQ, L, hFE, hL⟩ := h sz p e ha hc hk s m args below hf happ hP trivial
  refine ⟨n, o, h1, h2, h3, ?_, L, hFE, hL⟩
  obtain ⟨hF, ad', w', N', hP2, hD2, hQ⟩ := hQ
  refine ⟨hF, ad', w', N', hP2, hD2, ?_⟩
  rcases hQ with ⟨v, hv, hp'⟩ | ⟨x, Cn, cell, q1, q2, q3, q4, q5, ht'⟩
  · exact Or.inl ⟨v, hv, hp _ _ _ _ hp'⟩
  · exact Or.inr ⟨x, Cn, cell, q1, q2, q3, q4, q5, ht _ _ _ _ ht'⟩
theorem bK.frameN {l : Launch} {dd : bD} {y : MethodName} {fr lc mc ms : Nat} {av : List Value} {ad : Nat → Nat} {w : Nat → va_E} {N0 N : Nat} {post : Option Value → (Nat → Nat) → (Nat → va_E) → Nat → Prop} (hle : N0 ≤ N) (h : bK l dd y fr lc mc ms av ad w N0 post bNo) (hp : ∀ v ad' w' N', post v ad' w' N' → ad = ad' ∧ N0 = N') :
    bK l dd y fr lc mc ms av ad w N (fun v ad' w' N' => ad = ad' ∧ N = N' ∧ (∀ k, N0 ≤ k → w' k = w k) ∧ ∃ w1, post v ad w1 N0 ∧ ∀ k, k < N0 → w' k = w1 k) bNo :=
  (bK.frame hle h hp (fun _ _ _ _ h => h.elim)).mono (fun _ _ _ _ h => h) (fun _ _ _ _ h => by obtain ⟨-, -, -, _, h, -⟩ := h; exact h)
theorem FB.to {dd : bD} {ad ad' : Nat → Nat} {w w' : Nat → va_E} (h : FB dd ad w) (ha : ∀ i, i < 305 → ad' i = ad i) (hw : ∀ i, i < 305 → w' i = w i) : FB dd ad' w' := by
  obtain ⟨⟨e0, e1, e2, e3, e8, e9, e10, e11, e12⟩, ⟨⟨f1, c1, c1'⟩, d1⟩, ⟨⟨f2, c2, c2'⟩, d2⟩, ⟨⟨f3, c3, c3'⟩, d3⟩, ⟨⟨f4, c4, c4'⟩, d4⟩⟩ := h
  refine ⟨⟨?_, ?_, ?_, ?_, ?_, ?_, ?_, ?_, ?_⟩, ⟨⟨f1, ?_, fun j hj => ?_⟩, fun j hj => ⟨?_, ?_⟩⟩, ⟨⟨f2, ?_, fun j hj => ?_⟩, fun j hj => ?_⟩, ⟨⟨f3, ?_, fun j hj => ?_⟩, fun j hj => ⟨?_, ?_, ?_⟩⟩, ⟨⟨f4, ?_, fun j hj => ?_⟩, fun j hj => ⟨?_, ?_⟩⟩⟩
  · rw [hw 0 (by decide), e0, ha 1 (by decide), ha 2 (by decide), ha 4 (by decide), ha 5 (by decide), ha 6 (by decide), ha 7 (by decide), ha 8 (by decide), ha 10 (by decide), ha 12 (by decide)]
  · rw [hw 1 (by decide), e1]
  · rw [hw 2 (by decide), e2, ha 3 (by decide)]
  · rw [hw 3 (by decide), e3]
  · rw [hw 8 (by decide), e8, ha 9 (by decide)]
  · rw [hw 9 (by decide), e9]
  · rw [hw 10 (by decide), e10, ha 11 (by decide)]
  · rw [hw 11 (by decide), e11]
  · rw [hw 12 (by decide), e12]
  · rw [hw 4 (by decide), c1]
  · rw [c1' j hj, ha _ (by omega)]
  · rw [hw _ (by omega), (d1 j hj).1, ha _ (by omega)]
  · rw [hw _ (by omega), (d1 j hj).2]
  · rw [hw 5 (by decide), c2]
  · rw [c2' j hj, ha _ (by omega)]
  · exact (d2 j hj).to (fun q _ _ => ha q (by omega)) (fun q _ _ => hw q (by omega))
  · rw [hw 6 (by decide), c3]
  · rw [c3' j hj, ha _ (by omega)]
  · rw [hw _ (by omega), (d3 j hj).1, ha _ (by omega)]
  · rw [hw _ (by omega), (d3 j hj).2.1, ha _ (by omega)]
  · rw [hw _ (by omega), (d3 j hj).2.2]
  · rw [hw 7 (by decide), c4]
  · rw [c4' j hj, ha _ (by omega)]
  · rw [hw _ (by omega), (d4 j hj).1, ha _ (by omega)]
  · rw [hw _ (by omega), (d4 j hj).2]
theorem FM.to {dd : bD} {ad ad' : Nat → Nat} {w w' : Nat → va_E} (h : FM dd ad w) (ha : ∀ i, i < 323 → ad' i = ad i) (hw : ∀ i, 305 ≤ i → i < 323 → w' i = w i) : FM dd ad' w' := by
  obtain ⟨h0, h1, h2, h3, h4, h5, h6, h7, h8, h9, h10, h11, h12, ⟨f, h13⟩, h14, h15, h16, g, h17⟩ := h
  refine ⟨?_, (hw _ (by decide) (by decide)).trans h1, (hw _ (by decide) (by decide)).trans h2, (hw _ (by decide) (by decide)).trans h3, (hw _ (by decide) (by decide)).trans h4, (hw _ (by decide) (by decide)).trans h5, (hw _ (by decide) (by decide)).trans h6, (hw _ (by decide) (by decide)).trans h7, (hw _ (by decide) (by decide)).trans h8, (hw _ (by decide) (by decide)).trans h9, (hw _ (by decide) (by decide)).trans h10, (hw _ (by decide) (by decide)).trans h11, (hw _ (by decide) (by decide)).trans h12, ⟨f, (hw _ (by decide) (by decide)).trans h13⟩, (hw _ (by decide) (by decide)).trans h14, (hw _ (by decide) (by decide)).trans h15, (hw _ (by decide) (by decide)).trans h16, g, (hw _ (by decide) (by decide)).trans h17⟩
  rw [hw 305 (by decide) (by decide), h0]
  simp only [mO, ha 306 (by decide), ha 307 (by decide), ha 308 (by decide), ha 309 (by decide), ha 310 (by decide), ha 311 (by decide), ha 312 (by decide), ha 313 (by decide), ha 314 (by decide), ha 315 (by decide), ha 316 (by decide), ha 317 (by decide), ha 318 (by decide), ha 319 (by decide), ha 320 (by decide), ha 321 (by decide), ha 322 (by decide)]
theorem bIn_iff (x : Int32) {n : Nat} (hn : n < 2 ^ 31) : bIn x (nI 0) (nI n) ↔ ¬ x < 0 ∧ x ≤ nI n := by
  have h0 : (nI 0 : Int32) = 0 := by decide
  unfold bIn
  rw [h0]
  constructor
  · rintro ⟨a, b⟩
    exact ⟨a, by rw [Int32.le_iff_toInt_le]; rw [Int32.lt_iff_toInt_lt] at b; omega⟩
  · rintro ⟨a, b⟩
    exact ⟨a, by rw [Int32.lt_iff_toInt_lt]; rw [Int32.le_iff_toInt_le] at b; omega⟩
theorem okB_iff (b q : Int32) : okB b q ↔ bIn b (nI 0) (nI 3) ∧ bIn q (nI 0) (nI 7) := by
  have h3 : (nI 3).toInt = 3 := by decide
  have h4 : (nI 4).toInt = 4 := by decide
  have h7 : (nI 7).toInt = 7 := by decide
  have h8 : (nI 8).toInt = 8 := by decide
  have h0 : (nI 0).toInt = 0 := by decide
  have h00 : (0 : Int32).toInt = 0 := by decide
  unfold okB bIn
  simp only [Int32.lt_iff_toInt_lt, Int32.le_iff_toInt_le, h3, h4, h7, h8, h0, h00]
  omega
section bLw
variable {p : Program} {l : Launch} {e : Env} {R : Room} {s : State} {m : MethodId} {args : Array Value} {below : List Frame} {meth : Method} {c : Code} {dd : bD} {A : Nat → Prop} {nL mc ms : Nat} {post : Option Value → (Nat → Nat) → (Nat → va_E) → Nat → Prop} {thr : String → (Nat → Nat) → (Nat → va_E) → Nat → Prop} {pc : Nat} {lo : Nat → Option Value} {rest : List Value} {ad : Nat → Nat} {w : Nat → va_E} {N cells slots : Nat} {cc : ByteArray} {own : String} {ret : Option FieldType} {hh : List (Nat × Nat × Nat × Nat)}
/-- the law's script -/
def bX (b L : Nat) (xs : Nat → Int32) (s : State) (A : Nat → Prop) : Prop := va_X b L xs s s.heap ∧ b < s.heap.size ∧ ¬ A b
theorem bv_sld (j pc' : Nat) (hpc : pc + 1 = pc') (C : bCx p R s m args meth c cc own nL ret hh dd A) {b L : Nat} {xs : Nat → Int32} (hX : bX b L xs s A) {i : Int32} (hi : i = nI j) (hj : j < L) (hn : L < 2 ^ 31) (hdg : decode cc pc = .ok (.iaload, 1)) (kk : bV p l e R s m args below meth c dd A nL mc ms post thr pc' lo (.int (xs j) :: rest) ad w N cells slots) : bV p l e R s m args below meth c dd A nL mc ms post thr pc lo (.int i :: .ref b :: rest) ad w N cells slots := by
  subst hpc; subst hi
  intro H locs ls hL hP hD hS
  refine va_sld C.1 C.2.1 hX.1 hX.2.1 hX.2.2 hS (vp_in_nI hj hn) hdg ?_
  rw [nI_clamp (Nat.lt_trans hj hn)]
  exact kk H locs ls hL hP hD hS
theorem bv_slen (pc' : Nat) (hpc : pc + 1 = pc') (C : bCx p R s m args meth c cc own nL ret hh dd A) {b L : Nat} {xs : Nat → Int32} (hX : bX b L xs s A) (hdg : decode cc pc = .ok (.arraylength, 1)) (kk : bV p l e R s m args below meth c dd A nL mc ms post thr pc' lo (.int (nI L) :: rest) ad w N cells slots) : bV p l e R s m args below meth c dd A nL mc ms post thr pc lo (.ref b :: rest) ad w N cells slots := by
  subst hpc
  intro H locs ls hL hP hD hS
  exact va_slen C.1 C.2.1 hX.1 hX.2.1 hX.2.2 hS hdg (kk H locs ls hL hP hD hS)
end bLw

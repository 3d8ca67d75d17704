section bQ1
variable {p : Program} {l : Launch} {e : Env} {R : Room} {s : State} {m : MethodId} {args : Array Value} {below : List Frame} {meth : Method} {c : Code} {dd : bD} {A : Nat → Prop} {nL mc ms : Nat} {post : Option Value → (Nat → Nat) → (Nat → va_E) → Nat → Prop} {thr : String → (Nat → Nat) → (Nat → va_E) → Nat → Prop} {pc : Nat} {lo : Nat → Option Value} {rest st : List Value} {ad : Nat → Nat} {w : Nat → va_E} {N cells slots : Nat} {cc : ByteArray} {own : String} {ret : Option FieldType} {hh : List (Nat × Nat × Nat × Nat)}
/-- what is known of the world, but its invariant, is forgotten -/
theorem bv_any (hI : II dd ad w) (k : ∀ w', II dd ad w' → bV p l e R s m args below meth c dd A nL mc ms post thr pc lo st ad w' N cells slots) : bV p l e R s m args below meth c dd A nL mc ms post thr pc lo st ad w N cells slots := k w hI
theorem bv_idivN {a d : Nat} (pc' : Nat) (hpc : pc + 1 = pc') (C : bCx p R s m args meth c cc own nL ret hh dd A) {x y : Int32} (hx : x = nI a) (hy : y = nI d) (ha : a < 2 ^ 31) (h0 : 0 < d) (hd : d < 2 ^ 31) (hdg : decode cc pc = .ok (.idiv, 1)) (k : bV p l e R s m args below meth c dd A nL mc ms post thr pc' lo (.int (nI (a / d)) :: rest) ad w N cells slots) : bV p l e R s m args below meth c dd A nL mc ms post thr pc lo (.int y :: .int x :: rest) ad w N cells slots := by
  subst hpc; subst hx; subst hy
  intro H locs ls hL hP hD hS
  refine lv_idiv C.1 C.2.1 hdg (nI_ne0 h0 hd) ?_
  rw [pk_div ha h0 hd]
  exact k H locs ls hL hP hD hS
theorem bv_iremN {a d : Nat} (pc' : Nat) (hpc : pc + 1 = pc') (C : bCx p R s m args meth c cc own nL ret hh dd A) {x y : Int32} (hx : x = nI a) (hy : y = nI d) (ha : a < 2 ^ 31) (h0 : 0 < d) (hd : d < 2 ^ 31) (hdg : decode cc pc = .ok (.irem, 1)) (k : bV p l e R s m args below meth c dd A nL mc ms post thr pc' lo (.int (nI (a % d)) :: rest) ad w N cells slots) : bV p l e R s m args below meth c dd A nL mc ms post thr pc lo (.int y :: .int x :: rest) ad w N cells slots := by
  subst hpc; subst hx; subst hy
  intro H locs ls hL hP hD hS
  refine lv_irem C.1 C.2.1 hdg (nI_ne0 h0 hd) ?_
  rw [pk_rem ha h0 hd]
  exact k H locs ls hL hP hD hS
theorem bv_copyi (k0 k1 t0 pc' : Nat) (hpc : pc + 3 = pc') (C : bCx p R s m args meth c cc own nL ret hh dd A) {index a0 a1 n0 n1 : Nat} {f g : Nat → Int32} {sp dp n : Nat} {x y z : Int32} (hlink : Cond.methodLink own index arraycopyName ∈ Tb) (hnat : Cond.native arraycopyName ∈ Tb) (hstat : Cond.static arraycopyName ∈ Tb) (hini : Cond.initialized "java/lang/System" ∈ Tb)
    (hk0 : k0 < N) (ha0 : ad k0 = a0) (he0 : w k0 = aI dd n0 f) (hk1 : k1 < N) (ha1 : ad k1 = a1) (he1 : w k1 = aI dd n1 g) (hx : x = nI sp) (hy : y = nI dp) (hz : z = nI n) (h0 : sp + n ≤ n0) (h1 : dp + n ≤ n1) (hn0 : n0 < 2 ^ 31) (hn1 : n1 < 2 ^ 31)
    (hf : 1 ≤ R.frames) (hl : (rest.map fun v => v.category).sum + (nativeFrameWords "java/lang/System" "arraycopy" 5 + 11) ≤ R.locals) (hdg : decode cc pc = .ok (.invokestatic index, 3))
    (kk : bV p l e R s m args below meth c dd A nL mc ms post thr pc' lo rest ad (va_up w k1 (aI dd n1 (va_cpy f g sp dp n))) N cells slots) : bV p l e R s m args below meth c dd A nL mc ms post thr pc lo (.int z :: .int y :: .ref a1 :: .int x :: .ref a0 :: rest) ad w N cells slots := by
  subst hpc; subst ha0; subst ha1; subst hx; subst hy; subst hz
  intro H locs ls hL hP hD hS
  have e1 : (nI sp).toNatClampNeg = sp := nI_clamp (by omega)
  have e2 : (nI dp).toNatClampNeg = dp := nI_clamp (by omega)
  have e3 : (nI n).toNatClampNeg = n := nI_clamp (by omega)
  refine va_copyi C.1 C.2.1 (C.2.2.1.trans hL.1.symm) C.2.2.2.1 (C.2.2.2.2.1 _ hlink) (C.2.2.2.2.1 _ hnat) (C.2.2.2.2.1 _ hstat) (C.2.2.2.2.1 _ hini) C.2.2.2.2.2.2.2.2.1.1 hP hD hS k0 k1 0 0 (by rw [bw_at hk0, he0]) (by rw [bw_at hk1, he1]) rfl rfl rfl (nI_pos (by omega)) (nI_pos (by omega)) (nI_pos (by omega)) (by rw [e1, e3]; exact h0) (by rw [e2, e3]; exact h1) (fun i hi => rfl) hf hl hdg (fun H1 locs1 hP1 hD1 hS1 => ?_)
  rw [e1, e2, e3] at hP1 hD1
  rw [bw_set hk1] at hP1 hD1
  exact kk H1 locs1 ls hL hP1 hD1 hS1
theorem bv_mmin (pc' : Nat) (hpc : pc + 3 = pc') (C : bCx p R s m args meth c cc own nL ret hh dd A) {index : Nat} {x y : Int32} (hlink : Cond.methodLink own index Lib.Math.min.name ∈ Tb) (hstat : Cond.static Lib.Math.min.name ∈ Tb) (hini : Cond.initialized "java/lang/Math" ∈ Tb) (hcode : Cond.code Lib.Math.min.name Lib.Math.min.code 2 (some .int) ∈ Tb)
    (hf : 1 ≤ R.frames) (hl : (rest.map fun v => v.category).sum + 13 ≤ R.locals) (hc : cells ≤ R.cells) (hs : slots ≤ R.slots) (hdg : decode cc pc = .ok (.invokestatic index, 3))
    (kk : ∀ r : Int32, bV p l e R s m args below meth c dd A nL mc ms post thr pc' lo (.int r :: rest) ad w N cells slots) : bV p l e R s m args below meth c dd A nL mc ms post thr pc lo (.int y :: .int x :: rest) ad w N cells slots := by
  subst hpc
  intro H locs ls hL hP hD hS
  exact va_mmin C.1 C.2.1 (C.2.2.1.trans hL.1.symm) C.2.2.2.1 (C.2.2.2.2.1 _ hlink) (C.2.2.2.2.1 _ hstat) (C.2.2.2.2.1 _ hini) (C.2.2.2.2.1 _ hcode) hf hl hc hs hdg (kk _ H locs ls hL hP hD hS)
end bQ1
section bQ2
variable {l : Launch} {dd : bD} {ad : Nat → Nat} {w : Nat → va_E}
theorem j_R_add {k m0 sl : Nat} (hI : II dd ad w) (hk : bRw k m0) (hs : sl < 48) : bK l dd y_R_add 0 0 0 0 [.ref (ad k), .int (nI sl)] ad w 324 (bJ dd ad (fun v => v = none)) (bNo) := by
  obtain ⟨n, f, hn, h1, h2, hf⟩ := hk.at hI
  have hk0 := hk.1
  have hm := hk.le
  refine bK.start [(0, .ref (ad k)), (1, .int (nI sl))] (by decide) t2_234 (Nat.le_of_ble_eq_true rfl) rfl (fun p e s m args below meth c A hnm C => ?_)
  refine bv_aload_n 1 rfl C d_R_add_0 rfl ?_
  refine bv_get k 1 4 rfl C k_R (by omega) rfl h1 (by decide) t1_71 rfl d_R_add_1 ?_
  refine bv_aload_n 5 rfl C d_R_add_4 rfl ?_
  refine bv_get k 0 8 rfl C k_R (by omega) rfl h1 (by decide) t1_69 rfl d_R_add_5 ?_
  refine bv_alen (k+1) 0 9 rfl C (by omega) rfl h2 rfl rfl d_R_add_8 ?_
  refine bv_icmp_ge 32 12 rfl C d_R_add_9 (by decide) (fun h => ?_) (fun h => ?_)
  · exact bv_return C rfl d_R_add_32 (Nat.le_refl _) (Nat.le_refl _) ⟨rfl, rfl, hI, rfl⟩
  · have hlt : n < m0 := Nat.lt_of_not_le (fun q => h (nI_le q (by omega)))
    have h1' : (va_up w (k + 1) (aI dd m0 (upd f n (nI sl)))) k = .inr (2, [.ref (ad (k + 1)), .int (nI n)]) := (va_up_ne _ _ (by omega)).trans h1
    refine bv_aload_n 13 rfl C d_R_add_12 rfl ?_
    refine bv_get k 0 16 rfl C k_R (by omega) rfl h1 (by decide) t1_69 rfl d_R_add_13 ?_
    refine bv_aload_n 17 rfl C d_R_add_16 rfl ?_
    refine bv_get k 1 20 rfl C k_R (by omega) rfl h1 (by decide) t1_71 rfl d_R_add_17 ?_
    refine bv_iload_n 21 rfl C d_R_add_20 rfl ?_
    refine bv_iast (k+1) n 22 rfl C (by omega) rfl h2 rfl hlt (by omega) d_R_add_21 ?_
    refine bv_aload_n 23 rfl C d_R_add_22 rfl ?_
    refine bv_dup 24 rfl C d_R_add_23 rfl ?_
    refine bv_get k 1 27 rfl C k_R (by omega) rfl h1' (by decide) t1_71 rfl d_R_add_24 ?_
    refine bv_iconst (v := nI 1) 28 rfl C d_R_add_27 (by decide) ?_
    refine bv_iadd 29 rfl C d_R_add_28 ?_
    refine bv_seti (nI (n+1)) (nI_add n 1) ?_
    refine bv_put k 1 32 rfl C k_R (by omega) rfl h1' (by decide) t1_71 rfl rfl rfl (Nat.le_of_ble_eq_true rfl) d_R_add_29 ?_
    exact bv_return C rfl d_R_add_32 (Nat.le_refl _) (Nat.le_refl _) ⟨rfl, rfl, (hI.up (hk.s2 (hf.up hs rfl))).up (hk.s1 hlt), rfl⟩
theorem j_R_addAll {k m0 k2 m2 : Nat} (hI : II dd ad w) (hk : bRw k m0) (hk2 : bRw k2 m2) : bK l dd y_R_addAll 1 21 0 0 [.ref (ad k), .ref (ad k2)] ad w 324 (bJ dd ad (fun v => v = none)) (bNo) := by
  have q1 := hk.1
  have q2 := hk2.1
  have q3 := hk2.le
  refine bK.start [(0, .ref (ad k)), (1, .ref (ad k2))] (by decide) t3_13 (Nat.le_of_ble_eq_true rfl) rfl (fun p e s m args below meth c A hnm C => ?_)
  have loop : ∀ (d i : Nat) (w : Nat → va_E), i + d = m2 → II dd ad w → bV p l e { frames := 1, cells := 0, slots := 0, locals := 21 } s m args below meth c dd A 3 0 0 (bJ dd ad (fun v => v = none)) (bNo) 2 (bO [(0, .ref (ad k)), (1, .ref (ad k2)), (2, .int (nI i))]) [] ad w 324 0 0 := by
    intro d
    induction d with
    | zero =>
      intro i w hi hI
      obtain ⟨n, f, hn, h1, h2, hf⟩ := hk2.at hI
      refine bv_iload_n 3 rfl C d_R_addAll_2 rfl ?_
      refine bv_aload_n 4 rfl C d_R_addAll_3 rfl ?_
      refine bv_get k2 1 7 rfl C k_R (by omega) rfl h1 (by decide) t1_71 rfl d_R_addAll_4 ?_
      refine bv_icmp_ge 26 10 rfl C d_R_addAll_7 (by decide) (fun h => ?_) (fun h => absurd (nI_le (show n ≤ i by omega) (by omega)) h)
      exact bv_return C rfl d_R_addAll_26 (Nat.le_refl _) (Nat.le_refl _) ⟨rfl, rfl, hI, rfl⟩
    | succ d ih =>
      intro i w hi hI
      obtain ⟨n, f, hn, h1, h2, hf⟩ := hk2.at hI
      obtain ⟨n0, f0, hn0, g1, g2, gf⟩ := hk.at hI
      refine bv_iload_n 3 rfl C d_R_addAll_2 rfl ?_
      refine bv_aload_n 4 rfl C d_R_addAll_3 rfl ?_
      refine bv_get k2 1 7 rfl C k_R (by omega) rfl h1 (by decide) t1_71 rfl d_R_addAll_4 ?_
      refine bv_icmp_ge 26 10 rfl C d_R_addAll_7 (by decide) (fun h => ?_) (fun h => ?_)
      · exact bv_return C rfl d_R_addAll_26 (Nat.le_refl _) (Nat.le_refl _) ⟨rfl, rfl, hI, rfl⟩
      · obtain ⟨sl, hsl, hfe⟩ := hf i (by omega)
        refine bv_aload_n 11 rfl C d_R_addAll_10 rfl ?_
        refine bv_aload_n 12 rfl C d_R_addAll_11 rfl ?_
        refine bv_get k2 0 15 rfl C k_R (by omega) rfl h1 (by decide) t1_69 rfl d_R_addAll_12 ?_
        refine bv_iload_n 16 rfl C d_R_addAll_15 rfl ?_
        refine bv_iald (k2+1) i 17 rfl C (by omega) rfl h2 rfl (by omega) (by omega) d_R_addAll_16 ?_
        refine bv_seti (nI sl) hfe ?_
        refine bv_call (rest := []) 20 rfl C d_R_addAll_17 (j_R_add hI hk hsl) i_R_add t1_4 (fun H locs ls hP => bs_V (av := [.int (nI sl)]) k C i_R_add t3_14 t2_233 s_28 (by omega) rfl g1 rfl (by decide) rfl rfl d_R_addAll_17 H locs ls hP) ⟨by first | decide | omega, by first | decide | omega⟩ (by decide) (by decide) (Nat.le_of_ble_eq_true rfl) (fun v ad1 w1 N1 hpo => ?_) (fun x Cn ad' w' N' hth => hth.elim)
        obtain ⟨rfl, rfl, hI1, rfl⟩ := hpo
        refine bv_iinc 23 rfl C d_R_addAll_20 rfl (by first | exact b_inc _ | rfl) (by decide) ?_
        refine bv_goto 2 C d_R_addAll_23 (by decide) ?_
        refine bv_wk [(0, .ref (ad k)), (1, .ref (ad k2)), (2, .int (nI (i + 1)))] ⟨rfl, rfl, rfl, trivial⟩ ?_
        exact ih (i + 1) w1 (by omega) hI1
  refine bv_iconst (v := nI 0) 1 rfl C d_R_addAll_0 (by decide) ?_
  refine bv_istore_n 2 rfl C d_R_addAll_1 (by decide) ?_
  refine bv_wk [(0, .ref (ad k)), (1, .ref (ad k2)), (2, .int (nI 0))] ⟨rfl, rfl, rfl, trivial⟩ ?_
  exact loop m2 0 w (by omega) hI
theorem j_R_copyFrom {k m0 k2 m2 : Nat} (hI : II dd ad w) (hk : bRw k m0) (hk2 : bRw k2 m2) : bK l dd y_R_copyFrom 2 43 0 0 [.ref (ad k), .ref (ad k2)] ad w 324 (bJ dd ad (fun v => v = none)) (bNo) := by
  have q1 := hk.1
  obtain ⟨n, f, hn, h1, h2, hf⟩ := hk.at hI
  refine bK.start [(0, .ref (ad k)), (1, .ref (ad k2))] (by decide) t3_9 (Nat.le_of_ble_eq_true rfl) rfl (fun p e s m args below meth c A hnm C => ?_)
  refine bv_aload_n 1 rfl C d_R_copyFrom_0 rfl ?_
  refine bv_iconst (v := nI 0) 2 rfl C d_R_copyFrom_1 (by decide) ?_
  refine bv_put k 1 5 rfl C k_R (by omega) rfl h1 (by decide) t1_71 rfl rfl rfl (Nat.le_of_ble_eq_true rfl) d_R_copyFrom_2 ?_
  refine bv_any (hI.up (hk.s1 (Nat.zero_le _))) (fun w1 hI1 => ?_)
  obtain ⟨n0, f0, hn0, g1, g2, gf⟩ := hk.at hI1
  refine bv_aload_n 6 rfl C d_R_copyFrom_5 rfl ?_
  refine bv_aload_n 7 rfl C d_R_copyFrom_6 rfl ?_
  refine bv_call (rest := []) 10 rfl C d_R_copyFrom_7 (j_R_addAll hI1 hk hk2) i_R_addAll t1_4 (fun H locs ls hP => bs_V (av := [.ref (ad k2)]) k C i_R_addAll t3_10 t3_12 s_32 (by omega) rfl g1 rfl (by decide) rfl rfl d_R_copyFrom_7 H locs ls hP) ⟨by first | decide | omega, by first | decide | omega⟩ (by decide) (by decide) (Nat.le_of_ble_eq_true rfl) (fun v ad1 w2 N1 hpo => ?_) (fun x Cn ad' w' N' hth => hth.elim)
  obtain ⟨rfl, rfl, hI2, rfl⟩ := hpo
  exact bv_return C rfl d_R_copyFrom_10 (Nat.le_refl _) (Nat.le_refl _) ⟨rfl, rfl, hI2, rfl⟩
theorem j_R_countInto {k m0 : Nat} (hI : II dd ad w) (hk : bRw k m0) : bK l dd y_R_countInto 0 0 0 0 [.ref (ad k), .ref (ad 12)] ad w 324 (bJ dd ad (fun v => v = none)) (bNo) := by
  have q1 := hk.1
  have q3 := hk.le
  refine bK.start [(0, .ref (ad k)), (1, .ref (ad 12))] (by decide) t1_231 (Nat.le_of_ble_eq_true rfl) rfl (fun p e s m args below meth c A hnm C => ?_)
  have loop : ∀ (d i : Nat) (w : Nat → va_E), i + d = m0 → II dd ad w → bV p l e { frames := 0, cells := 0, slots := 0, locals := 0 } s m args below meth c dd A 3 0 0 (bJ dd ad (fun v => v = none)) (bNo) 2 (bO [(0, .ref (ad k)), (1, .ref (ad 12)), (2, .int (nI i))]) [] ad w 324 0 0 := by
    intro d
    induction d with
    | zero =>
      intro i w hi hI
      obtain ⟨n, f, hn, h1, h2, hf⟩ := hk.at hI
      refine bv_iload_n 3 rfl C d_R_countInto_2 rfl ?_
      refine bv_aload_n 4 rfl C d_R_countInto_3 rfl ?_
      refine bv_get k 1 7 rfl C k_R (by omega) rfl h1 (by decide) t1_71 rfl d_R_countInto_4 ?_
      refine bv_icmp_ge 28 10 rfl C d_R_countInto_7 (by decide) (fun h => ?_) (fun h => absurd (nI_le (show n ≤ i by omega) (by omega)) h)
      exact bv_return C rfl d_R_countInto_28 (Nat.le_refl _) (Nat.le_refl _) ⟨rfl, rfl, hI, rfl⟩
    | succ d ih =>
      intro i w hi hI
      obtain ⟨n, f, hn, h1, h2, hf⟩ := hk.at hI
      obtain ⟨g, hg⟩ := hI.k12 (k := 12) (by decide) (by decide)
      refine bv_iload_n 3 rfl C d_R_countInto_2 rfl ?_
      refine bv_aload_n 4 rfl C d_R_countInto_3 rfl ?_
      refine bv_get k 1 7 rfl C k_R (by omega) rfl h1 (by decide) t1_71 rfl d_R_countInto_4 ?_
      refine bv_icmp_ge 28 10 rfl C d_R_countInto_7 (by decide) (fun h => ?_) (fun h => ?_)
      · exact bv_return C rfl d_R_countInto_28 (Nat.le_refl _) (Nat.le_refl _) ⟨rfl, rfl, hI, rfl⟩
      · obtain ⟨sl, hsl, hfe⟩ := hf i (by omega)
        refine bv_aload_n 11 rfl C d_R_countInto_10 rfl ?_
        refine bv_aload_n 12 rfl C d_R_countInto_11 rfl ?_
        refine bv_get k 0 15 rfl C k_R (by omega) rfl h1 (by decide) t1_69 rfl d_R_countInto_12 ?_
        refine bv_iload_n 16 rfl C d_R_countInto_15 rfl ?_
        refine bv_iald (k+1) i 17 rfl C (by omega) rfl h2 rfl (by omega) (by omega) d_R_countInto_16 ?_
        refine bv_seti (nI sl) hfe ?_
        refine bv_dup2_11 18 rfl C d_R_countInto_17 rfl rfl ?_
        refine bv_iald 12 sl 19 rfl C (by omega) rfl hg rfl hsl (by decide) d_R_countInto_18 ?_
        refine bv_iconst (v := nI 1) 20 rfl C d_R_countInto_19 (by decide) ?_
        refine bv_iadd 21 rfl C d_R_countInto_20 ?_
        refine bv_iast 12 sl 22 rfl C (by omega) rfl hg rfl hsl (by decide) d_R_countInto_21 ?_
        refine bv_any (hI.up ((sh_12 (by decide)).mpr ⟨_, rfl⟩)) (fun w1 hI1 => ?_)
        refine bv_iinc 25 rfl C d_R_countInto_22 rfl (by first | exact b_inc _ | rfl) (by decide) ?_
        refine bv_goto 2 C d_R_countInto_25 (by decide) ?_
        refine bv_wk [(0, .ref (ad k)), (1, .ref (ad 12)), (2, .int (nI (i + 1)))] ⟨rfl, rfl, rfl, trivial⟩ ?_
        exact ih (i + 1) w1 (by omega) hI1
  refine bv_iconst (v := nI 0) 1 rfl C d_R_countInto_0 (by decide) ?_
  refine bv_istore_n 2 rfl C d_R_countInto_1 (by decide) ?_
  refine bv_wk [(0, .ref (ad k)), (1, .ref (ad 12)), (2, .int (nI 0))] ⟨rfl, rfl, rfl, trivial⟩ ?_
  exact loop m0 0 w (by omega) hI
end bQ2

def cntp : Nat → Nat
  | 0 => 0
  | q + 1 => cntp q + (if 2 ≤ q ∧ pr 20 2 q = true then 1 else 0)
theorem cntp_lt : ∀ q, q < 312 → cntp q < 64 := by decide +kernel
theorem cntp_end : cntp 312 = 64 := by decide +kernel
/-- the constants' and the limbs' cells -/
abbrev wM (dd : bD) (w : Nat → va_E) (f : Nat → Int32) (g : Nat → Int64) : Nat → va_E := va_up (va_up w 322 (aL dd 8 g)) 318 (aI dd 72 f)
theorem wM_l {dd : bD} {w : Nat → va_E} {f : Nat → Int32} {g g' : Nat → Int64} : va_up (wM dd w f g) 322 (aL dd 8 g') = wM dd w f g' := by
  funext k
  simp only [va_up]
  split <;> split <;> first | rfl | omega
theorem wM_c {dd : bD} {w : Nat → va_E} {f f' : Nat → Int32} {g : Nat → Int64} : va_up (wM dd w f g) 318 (aI dd 72 f') = wM dd w f' g := by
  funext k
  simp only [va_up]
  split <;> rfl
theorem wM_o {dd : bD} {w : Nat → va_E} {f : Nat → Int32} {g : Nat → Int64} {k : Nat} (h1 : k ≠ 318) (h2 : k ≠ 322) : wM dd w f g k = w k := by
  show va_up (va_up w 322 (aL dd 8 g)) 318 (aI dd 72 f) k = w k
  rw [va_up_ne _ _ h1, va_up_ne _ _ h2]
theorem wM_318 {dd : bD} {w : Nat → va_E} {f : Nat → Int32} {g : Nat → Int64} : wM dd w f g 318 = aI dd 72 f := va_up_self _ _ _
theorem wM_322 {dd : bD} {w : Nat → va_E} {f : Nat → Int32} {g : Nat → Int64} : wM dd w f g 322 = aL dd 8 g := by
  show va_up (va_up w 322 (aL dd 8 g)) 318 (aI dd 72 f) 322 = _
  rw [va_up_ne _ _ (by decide), va_up_self]
section bMi
variable {p : Program} {l : Launch} {e : Env} {R : Room} {s : State} {m : MethodId} {args : Array Value} {below : List Frame} {meth : Method} {c : Code} {dd : bD} {A : Nat → Prop} {mc ms : Nat} {post : Option Value → (Nat → Nat) → (Nat → va_E) → Nat → Prop} {thr : String → (Nat → Nat) → (Nat → va_E) → Nat → Prop} {ad : Nat → Nat} {w : Nat → va_E} {cells slots : Nat}
variable {a : Nat} {th ve wr cu dn : Int32}
theorem lp_M_init (C : bCx p R s m args meth c c_M_init R_M 3 none [] dd A) (ha : ad 305 = a) (hm : w 305 = mO ad th ve wr cu dn) (hRf : 2 ≤ R.frames) (hRl : 59 ≤ R.locals) (hc : cells ≤ R.cells) (hs : slots ≤ R.slots)
    (hx : ∀ (f : Nat → Int32) (g : Nat → Int64), bV p l e R s m args below meth c dd A 3 mc ms post thr 206 (bO []) [] ad (wM dd w f g) 323 cells slots) :
    ∀ (d q : Nat) (f : Nat → Int32) (g : Nat → Int64), q + d = 312 → 2 ≤ q → bV p l e R s m args below meth c dd A 3 mc ms post thr 148 (bO [(0, .ref a), (1, .int (nI (cntp q))), (2, .int (nI q))]) [] ad (wM dd w f g) 323 cells slots := by
  intro d
  induction d with
  | zero =>
    intro q f g hq h2
    obtain rfl : q = 312 := by omega
    refine bv_iload_n 149 rfl C d_M_init_148 rfl ?_
    refine bv_bipush (v := nI 64) 151 rfl C d_M_init_149 (by decide) ?_
    refine bv_icmp_ge 206 154 rfl C d_M_init_151 (by decide) (fun h => ?_) (fun h => absurd (by rw [cntp_end]; exact nI_le (Nat.le_refl _) (by decide)) h)
    refine bv_wk [] trivial ?_
    exact hx f g
  | succ d ih =>
    intro q f g hq h2
    have hn := cntp_lt q (by omega)
    have tl : ∀ (f1 : Nat → Int32) (g1 : Nat → Int64) (n : Nat), n = cntp (q + 1) → bV p l e R s m args below meth c dd A 3 mc ms post thr 200 (bO [(0, .ref a), (1, .int (nI n)), (2, .int (nI q))]) [] ad (wM dd w f1 g1) 323 cells slots := by
      intro f1 g1 n hn1
      subst hn1
      refine bv_iinc 203 rfl C d_M_init_200 rfl (by first | exact b_inc _ | rfl) (by decide) ?_
      refine bv_goto 148 C d_M_init_203 (by decide) ?_
      refine bv_wk [(0, .ref a), (1, .int (nI (cntp (q + 1)))), (2, .int (nI (q + 1)))] ⟨rfl, rfl, rfl, trivial⟩ ?_
      exact ih (q + 1) f1 g1 (by omega) (by omega)
    refine bv_iload_n 149 rfl C d_M_init_148 rfl ?_
    refine bv_bipush (v := nI 64) 151 rfl C d_M_init_149 (by decide) ?_
    refine bv_icmp_ge 206 154 rfl C d_M_init_151 (by decide) (fun h => absurd h (nI_ge hn (by decide))) (fun h => ?_)
    refine bv_iload_n 155 rfl C d_M_init_154 rfl ?_
    refine bv_call (rest := []) 158 rfl C d_M_init_155 (ct_M_isPrime (q := q) (by omega)) i_M_isPrime t1_8 (fun H locs ls _ => bs_S (av := [.int (nI q)]) C i_M_isPrime t3_95 t3_96 t1_8 (by decide) rfl rfl d_M_init_155 H locs ls) ⟨by first | decide | omega, by first | decide | omega⟩ (by omega) (by omega) (Nat.le_of_ble_eq_true rfl) (fun v ad1 w1 N1 hpo => ?_) (fun x Cn ad' w' N' hth => hth.elim)
    obtain ⟨rfl, rfl, rfl, rfl⟩ := hpo
    refine bv_cs cells slots (Nat.le_refl _) (Nat.le_refl _) ?_
    show bV p l e R s m args below meth c dd A 3 mc ms post thr 158 _ [.int (nI (cond (pr 20 2 q) 1 0))] _ _ _ cells slots
    cases hpr : pr 20 2 q with
    | false =>
      have hc1 : cntp (q + 1) = cntp q := by simp [cntp, hpr]
      refine bv_if_ne 164 161 rfl C d_M_init_158 (by decide) (fun h => absurd (show nI (cond false 1 0) = 0 by decide) h) (fun h => ?_)
      refine bv_goto 200 C d_M_init_161 (by decide) ?_
      exact tl f g _ hc1.symm
    | true =>
      have hc1 : cntp (q + 1) = cntp q + 1 := by simp [cntp, hpr, h2]
      refine bv_if_ne 164 161 rfl C d_M_init_158 (by decide) (fun h => ?_) (fun h => absurd h (show ¬ nI (cond true 1 0) = 0 by decide))
      refine bv_aload_n 165 rfl C d_M_init_164 rfl ?_
      refine bv_get 305 17 168 rfl C k_M (by omega) ha ((wM_o (by decide) (by decide)).trans hm) (by decide) t3_124 rfl d_M_init_165 ?_
      refine bv_iload_n 169 rfl C d_M_init_168 rfl ?_
      refine bv_aload_n 170 rfl C d_M_init_169 rfl ?_
      refine bv_iload_n 171 rfl C d_M_init_170 rfl ?_
      refine bv_iconst (v := nI 3) 172 rfl C d_M_init_171 (by decide) ?_
      refine bv_call (rest := [.int (nI (cntp q)), .ref (ad 318)]) 175 rfl C d_M_init_172 (ct_M_root (th := th) (ve := ve) (wr := wr) (cu := cu) (dn := dn) (by omega) ha ((wM_o (by decide) (by decide)).trans hm) wM_322 (show 3 ≤ 3 by omega)) i_M_root t1_8 (fun H locs ls hP => bs_V (av := [.int (nI q), .int (nI 3)]) 305 C i_M_root t3_98 t3_100 s_36 (by omega) ha ((wM_o (by decide) (by decide)).trans hm) rfl (by decide) rfl rfl d_M_init_172 H locs ls hP) ⟨by first | decide | omega, by first | decide | omega⟩ (by omega) (by omega) (Nat.le_of_ble_eq_true rfl) (fun v ad1 w1 N1 hpo => ?_) (fun x Cn ad' w' N' hth => hth.elim)
      obtain ⟨rfl, rfl, ⟨g1, rfl⟩, r, rfl⟩ := hpo
      rw [wM_l]
      refine bv_cs cells slots (Nat.le_refl _) (Nat.le_refl _) ?_
      show bV p l e R s m args below meth c dd A 3 mc ms post thr 175 _ [.int r, .int (nI (cntp q)), .ref (ad 318)] _ _ _ cells slots
      refine bv_iast 318 (cntp q) 176 rfl C (by omega) rfl (va_up_self _ _ _) rfl (by omega) (by decide) d_M_init_175 ?_
      rw [wM_c]
      refine bv_iload_n 177 rfl C d_M_init_176 rfl ?_
      refine bv_bipush (v := nI 8) 179 rfl C d_M_init_177 (by decide) ?_
      refine bv_icmp_ge 197 182 rfl C d_M_init_179 (by decide) (fun h => ?_) (fun h => ?_)
      · refine bv_iinc 200 rfl C d_M_init_197 rfl (by first | exact b_inc _ | rfl) (by decide) ?_
        refine bv_wk [(0, .ref a), (1, .int (nI (cntp q + 1))), (2, .int (nI q))] ⟨rfl, rfl, rfl, trivial⟩ ?_
        exact tl _ _ _ hc1.symm
      · have h8 : cntp q < 8 := by
          rw [nI_leI (by decide) (by omega)] at h
          omega
        refine bv_aload_n 183 rfl C d_M_init_182 rfl ?_
        refine bv_get 305 17 186 rfl C k_M (by omega) ha ((wM_o (by decide) (by decide)).trans hm) (by decide) t3_124 rfl d_M_init_183 ?_
        refine bv_bipush (v := nI 64) 188 rfl C d_M_init_186 (by decide) ?_
        refine bv_iload_n 189 rfl C d_M_init_188 rfl ?_
        refine bv_iadd 190 rfl C d_M_init_189 ?_
        refine bv_seti (nI (64 + cntp q)) (nI_add 64 _) ?_
        refine bv_aload_n 191 rfl C d_M_init_190 rfl ?_
        refine bv_iload_n 192 rfl C d_M_init_191 rfl ?_
        refine bv_iconst (v := nI 2) 193 rfl C d_M_init_192 (by decide) ?_
        refine bv_call (rest := [.int (nI (64 + cntp q)), .ref (ad 318)]) 196 rfl C d_M_init_193 (ct_M_root (th := th) (ve := ve) (wr := wr) (cu := cu) (dn := dn) (by omega) ha ((wM_o (by decide) (by decide)).trans hm) wM_322 (show 2 ≤ 3 by omega)) i_M_root t1_8 (fun H locs ls hP => bs_V (av := [.int (nI q), .int (nI 2)]) 305 C i_M_root t3_98 t3_100 s_36 (by omega) ha ((wM_o (by decide) (by decide)).trans hm) rfl (by decide) rfl rfl d_M_init_193 H locs ls hP) ⟨by first | decide | omega, by first | decide | omega⟩ (by omega) (by omega) (Nat.le_of_ble_eq_true rfl) (fun v ad2 w2 N2 hpo => ?_) (fun x Cn ad' w' N' hth => hth.elim)
        obtain ⟨rfl, rfl, ⟨g2, rfl⟩, r2, rfl⟩ := hpo
        rw [wM_l]
        refine bv_cs cells slots (Nat.le_refl _) (Nat.le_refl _) ?_
        show bV p l e R s m args below meth c dd A 3 mc ms post thr 196 _ [.int r2, .int (nI (64 + cntp q)), .ref (ad 318)] _ _ _ cells slots
        refine bv_iast 318 (64 + cntp q) 197 rfl C (by omega) rfl (va_up_self _ _ _) rfl (by omega) (by decide) d_M_init_196 ?_
        rw [wM_c]
        refine bv_iinc 200 rfl C d_M_init_197 rfl (by first | exact b_inc _ | rfl) (by decide) ?_
        refine bv_wk [(0, .ref a), (1, .int (nI (cntp q + 1))), (2, .int (nI q))] ⟨rfl, rfl, rfl, trivial⟩ ?_
        exact tl _ _ _ hc1.symm
end bMi
/-- the reference behind its constructor: cells 305 to 322 -/
def FM (dd : bD) (ad : Nat → Nat) (w : Nat → va_E) : Prop :=
  w 305 = mO ad 0 0 0 (-1) 0 ∧ w 306 = aI dd 48 (fun _ => 0) ∧ w 307 = aI dd 384 (fun _ => 0) ∧ w 308 = aZ dd 5 (fun _ => 0) ∧ w 309 = aI dd 5 (fun _ => 0) ∧ w 310 = aI dd 5 (fun _ => 0) ∧ w 311 = aI dd 35 (fun _ => 0) ∧ w 312 = aI dd 105 (fun _ => 0) ∧ w 313 = aZ dd 41 (fun _ => 0) ∧ w 314 = aI dd 41 (fun _ => 0) ∧ w 315 = aI dd 41 (fun _ => 0) ∧ w 316 = aI dd 41 (fun _ => 0) ∧ w 317 = aI dd 738 (fun _ => 0) ∧ (∃ f, w 318 = aI dd 72 f) ∧ w 319 = aI dd 64 (fun _ => 0) ∧ w 320 = aI dd 8 (fun _ => 0) ∧ w 321 = aI dd 24 (fun _ => 0) ∧ (∃ g, w 322 = aL dd 8 g)
section bMj
variable {l : Launch} {dd : bD} {ad : Nat → Nat} {w : Nat → va_E}
/-- BlobStoreModel() -/
theorem ct_M_init {a : Nat} (ha : ad 305 = a) (hw : w 305 = .inr (7, [.int 0, .null, .null, .null, .null, .null, .null, .null, .int 0, .null, .null, .null, .null, .null, .int 0, .int 0, .int 0, .null, .null, .null, .null, .null])) : bK l dd y_M_init 2 59 17 1665 [.ref a] ad w 306 (fun v ad' w' N' => v = none ∧ N' = 323 ∧ (∀ i, i < 306 → ad' i = ad i) ∧ (∀ i, i < 305 → w' i = w i) ∧ FM dd ad' w') bNo := by
  refine bK.start [(0, .ref a)] (by decide) t3_93 (Nat.le_of_ble_eq_true rfl) rfl (fun p e s m args below meth c A hnm C => ?_)
  have e305_0 : ad 305 = a := ha
  have g_0 : ∀ i, i < 306 → ad i = ad i := fun _ _ => rfl
  refine bv_aload_n 1 rfl C d_M_init_0 rfl ?_
  refine bv_objInit 4 rfl C t3_94 t1_26 t1_27 (by decide) (by decide) d_M_init_1 ?_
  refine bv_aload_n 5 rfl C d_M_init_4 rfl ?_
  refine bv_bipush (v := nI 48) 7 rfl C d_M_init_5 (by decide) ?_
  refine bv_newa (atype := .int) (ty := .int) (a0 := (48, .inl (fun _ => 0))) 0 48 9 rfl C rfl rfl (by intro Cn h; cases h) t1_56 (fun cA => rfl) rfl (by decide) (by decide) (by decide) (by decide) d_M_init_7 (fun ad1 had1 => ?_)
  have e305_1 : ad1 305 = a := (had1 305 (by decide)).trans e305_0
  have g_1 : ∀ i, i < 306 → ad1 i = ad i := fun i hi => (had1 i (by omega)).trans (g_0 i hi)
  obtain ⟨q306, e306_1⟩ : ∃ q, ad1 306 = q := ⟨_, rfl⟩
  rw [e306_1]
  refine bv_putF 305 1 12 rfl C k_M (by decide) e305_1 (by simp [va_up, hw]; rfl) (by decide) t3_108 rfl hnm rfl rfl rfl (Nat.le_of_ble_eq_true rfl) d_M_init_9 ?_
  refine bv_aload_n 13 rfl C d_M_init_12 rfl ?_
  refine bv_sipush (v := nI 384) 16 rfl C d_M_init_13 (by decide) ?_
  refine bv_newa (atype := .int) (ty := .int) (a0 := (384, .inl (fun _ => 0))) 0 384 18 rfl C rfl rfl (by intro Cn h; cases h) t1_56 (fun cA => rfl) rfl (by decide) (by decide) (by decide) (by decide) d_M_init_16 (fun ad2 had2 => ?_)
  have e305_2 : ad2 305 = a := (had2 305 (by decide)).trans e305_1
  have e306_2 : ad2 306 = q306 := (had2 306 (by decide)).trans e306_1
  have g_2 : ∀ i, i < 306 → ad2 i = ad i := fun i hi => (had2 i (by omega)).trans (g_1 i hi)
  obtain ⟨q307, e307_2⟩ : ∃ q, ad2 307 = q := ⟨_, rfl⟩
  rw [e307_2]
  refine bv_putF 305 2 21 rfl C k_M (by decide) e305_2 (by simp [va_up]; rfl) (by decide) t3_109 rfl hnm rfl rfl rfl (Nat.le_of_ble_eq_true rfl) d_M_init_18 ?_
  refine bv_aload_n 22 rfl C d_M_init_21 rfl ?_
  refine bv_iconst (v := nI 5) 23 rfl C d_M_init_22 (by decide) ?_
  refine bv_newa (atype := .boolean) (ty := .boolean) (a0 := (5, .inl (fun _ => 0))) 2 5 25 rfl C rfl rfl (by intro Cn h; cases h) t3_174 (fun cA => rfl) rfl (by decide) (by decide) (by decide) (by decide) d_M_init_23 (fun ad3 had3 => ?_)
  have e305_3 : ad3 305 = a := (had3 305 (by decide)).trans e305_2
  have e306_3 : ad3 306 = q306 := (had3 306 (by decide)).trans e306_2
  have e307_3 : ad3 307 = q307 := (had3 307 (by decide)).trans e307_2
  have g_3 : ∀ i, i < 306 → ad3 i = ad i := fun i hi => (had3 i (by omega)).trans (g_2 i hi)
  obtain ⟨q308, e308_3⟩ : ∃ q, ad3 308 = q := ⟨_, rfl⟩
  rw [e308_3]
  refine bv_putF 305 3 28 rfl C k_M (by decide) e305_3 (by simp [va_up]; rfl) (by decide) t3_110 rfl hnm rfl rfl rfl (Nat.le_of_ble_eq_true rfl) d_M_init_25 ?_
  refine bv_aload_n 29 rfl C d_M_init_28 rfl ?_
  refine bv_iconst (v := nI 5) 30 rfl C d_M_init_29 (by decide) ?_
  refine bv_newa (atype := .int) (ty := .int) (a0 := (5, .inl (fun _ => 0))) 0 5 32 rfl C rfl rfl (by intro Cn h; cases h) t1_56 (fun cA => rfl) rfl (by decide) (by decide) (by decide) (by decide) d_M_init_30 (fun ad4 had4 => ?_)
  have e305_4 : ad4 305 = a := (had4 305 (by decide)).trans e305_3
  have e306_4 : ad4 306 = q306 := (had4 306 (by decide)).trans e306_3
  have e307_4 : ad4 307 = q307 := (had4 307 (by decide)).trans e307_3
  have e308_4 : ad4 308 = q308 := (had4 308 (by decide)).trans e308_3
  have g_4 : ∀ i, i < 306 → ad4 i = ad i := fun i hi => (had4 i (by omega)).trans (g_3 i hi)
  obtain ⟨q309, e309_4⟩ : ∃ q, ad4 309 = q := ⟨_, rfl⟩
  rw [e309_4]
  refine bv_putF 305 4 35 rfl C k_M (by decide) e305_4 (by simp [va_up]; rfl) (by decide) t3_111 rfl hnm rfl rfl rfl (Nat.le_of_ble_eq_true rfl) d_M_init_32 ?_
  refine bv_aload_n 36 rfl C d_M_init_35 rfl ?_
  refine bv_iconst (v := nI 5) 37 rfl C d_M_init_36 (by decide) ?_
  refine bv_newa (atype := .int) (ty := .int) (a0 := (5, .inl (fun _ => 0))) 0 5 39 rfl C rfl rfl (by intro Cn h; cases h) t1_56 (fun cA => rfl) rfl (by decide) (by decide) (by decide) (by decide) d_M_init_37 (fun ad5 had5 => ?_)
  have e305_5 : ad5 305 = a := (had5 305 (by decide)).trans e305_4
  have e306_5 : ad5 306 = q306 := (had5 306 (by decide)).trans e306_4
  have e307_5 : ad5 307 = q307 := (had5 307 (by decide)).trans e307_4
  have e308_5 : ad5 308 = q308 := (had5 308 (by decide)).trans e308_4
  have e309_5 : ad5 309 = q309 := (had5 309 (by decide)).trans e309_4
  have g_5 : ∀ i, i < 306 → ad5 i = ad i := fun i hi => (had5 i (by omega)).trans (g_4 i hi)
  obtain ⟨q310, e310_5⟩ : ∃ q, ad5 310 = q := ⟨_, rfl⟩
  rw [e310_5]
  refine bv_putF 305 5 42 rfl C k_M (by decide) e305_5 (by simp [va_up]; rfl) (by decide) t3_112 rfl hnm rfl rfl rfl (Nat.le_of_ble_eq_true rfl) d_M_init_39 ?_
  refine bv_aload_n 43 rfl C d_M_init_42 rfl ?_
  refine bv_bipush (v := nI 35) 45 rfl C d_M_init_43 (by decide) ?_
  refine bv_newa (atype := .int) (ty := .int) (a0 := (35, .inl (fun _ => 0))) 0 35 47 rfl C rfl rfl (by intro Cn h; cases h) t1_56 (fun cA => rfl) rfl (by decide) (by decide) (by decide) (by decide) d_M_init_45 (fun ad6 had6 => ?_)
  have e305_6 : ad6 305 = a := (had6 305 (by decide)).trans e305_5
  have e306_6 : ad6 306 = q306 := (had6 306 (by decide)).trans e306_5
  have e307_6 : ad6 307 = q307 := (had6 307 (by decide)).trans e307_5
  have e308_6 : ad6 308 = q308 := (had6 308 (by decide)).trans e308_5
  have e309_6 : ad6 309 = q309 := (had6 309 (by decide)).trans e309_5
  have e310_6 : ad6 310 = q310 := (had6 310 (by decide)).trans e310_5
  have g_6 : ∀ i, i < 306 → ad6 i = ad i := fun i hi => (had6 i (by omega)).trans (g_5 i hi)
  obtain ⟨q311, e311_6⟩ : ∃ q, ad6 311 = q := ⟨_, rfl⟩
  rw [e311_6]
  refine bv_putF 305 6 50 rfl C k_M (by decide) e305_6 (by simp [va_up]; rfl) (by decide) t3_113 rfl hnm rfl rfl rfl (Nat.le_of_ble_eq_true rfl) d_M_init_47 ?_
  refine bv_aload_n 51 rfl C d_M_init_50 rfl ?_
  refine bv_bipush (v := nI 105) 53 rfl C d_M_init_51 (by decide) ?_
  refine bv_newa (atype := .int) (ty := .int) (a0 := (105, .inl (fun _ => 0))) 0 105 55 rfl C rfl rfl (by intro Cn h; cases h) t1_56 (fun cA => rfl) rfl (by decide) (by decide) (by decide) (by decide) d_M_init_53 (fun ad7 had7 => ?_)
  have e305_7 : ad7 305 = a := (had7 305 (by decide)).trans e305_6
  have e306_7 : ad7 306 = q306 := (had7 306 (by decide)).trans e306_6
  have e307_7 : ad7 307 = q307 := (had7 307 (by decide)).trans e307_6
  have e308_7 : ad7 308 = q308 := (had7 308 (by decide)).trans e308_6
  have e309_7 : ad7 309 = q309 := (had7 309 (by decide)).trans e309_6
  have e310_7 : ad7 310 = q310 := (had7 310 (by decide)).trans e310_6
  have e311_7 : ad7 311 = q311 := (had7 311 (by decide)).trans e311_6
  have g_7 : ∀ i, i < 306 → ad7 i = ad i := fun i hi => (had7 i (by omega)).trans (g_6 i hi)
  obtain ⟨q312, e312_7⟩ : ∃ q, ad7 312 = q := ⟨_, rfl⟩
  rw [e312_7]
  refine bv_putF 305 7 58 rfl C k_M (by decide) e305_7 (by simp [va_up]; rfl) (by decide) t3_114 rfl hnm rfl rfl rfl (Nat.le_of_ble_eq_true rfl) d_M_init_55 ?_
  refine bv_aload_n 59 rfl C d_M_init_58 rfl ?_
  refine bv_bipush (v := nI 41) 61 rfl C d_M_init_59 (by decide) ?_
  refine bv_newa (atype := .boolean) (ty := .boolean) (a0 := (41, .inl (fun _ => 0))) 2 41 63 rfl C rfl rfl (by intro Cn h; cases h) t3_174 (fun cA => rfl) rfl (by decide) (by decide) (by decide) (by decide) d_M_init_61 (fun ad8 had8 => ?_)
  have e305_8 : ad8 305 = a := (had8 305 (by decide)).trans e305_7
  have e306_8 : ad8 306 = q306 := (had8 306 (by decide)).trans e306_7
  have e307_8 : ad8 307 = q307 := (had8 307 (by decide)).trans e307_7
  have e308_8 : ad8 308 = q308 := (had8 308 (by decide)).trans e308_7
  have e309_8 : ad8 309 = q309 := (had8 309 (by decide)).trans e309_7
  have e310_8 : ad8 310 = q310 := (had8 310 (by decide)).trans e310_7
  have e311_8 : ad8 311 = q311 := (had8 311 (by decide)).trans e311_7
  have e312_8 : ad8 312 = q312 := (had8 312 (by decide)).trans e312_7
  have g_8 : ∀ i, i < 306 → ad8 i = ad i := fun i hi => (had8 i (by omega)).trans (g_7 i hi)
  obtain ⟨q313, e313_8⟩ : ∃ q, ad8 313 = q := ⟨_, rfl⟩
  rw [e313_8]
  refine bv_putF 305 9 66 rfl C k_M (by decide) e305_8 (by simp [va_up]; rfl) (by decide) t3_116 rfl hnm rfl rfl rfl (Nat.le_of_ble_eq_true rfl) d_M_init_63 ?_
  refine bv_aload_n 67 rfl C d_M_init_66 rfl ?_
  refine bv_bipush (v := nI 41) 69 rfl C d_M_init_67 (by decide) ?_
  refine bv_newa (atype := .int) (ty := .int) (a0 := (41, .inl (fun _ => 0))) 0 41 71 rfl C rfl rfl (by intro Cn h; cases h) t1_56 (fun cA => rfl) rfl (by decide) (by decide) (by decide) (by decide) d_M_init_69 (fun ad9 had9 => ?_)
  have e305_9 : ad9 305 = a := (had9 305 (by decide)).trans e305_8
  have e306_9 : ad9 306 = q306 := (had9 306 (by decide)).trans e306_8
  have e307_9 : ad9 307 = q307 := (had9 307 (by decide)).trans e307_8
  have e308_9 : ad9 308 = q308 := (had9 308 (by decide)).trans e308_8
  have e309_9 : ad9 309 = q309 := (had9 309 (by decide)).trans e309_8
  have e310_9 : ad9 310 = q310 := (had9 310 (by decide)).trans e310_8
  have e311_9 : ad9 311 = q311 := (had9 311 (by decide)).trans e311_8
  have e312_9 : ad9 312 = q312 := (had9 312 (by decide)).trans e312_8
  have e313_9 : ad9 313 = q313 := (had9 313 (by decide)).trans e313_8
  have g_9 : ∀ i, i < 306 → ad9 i = ad i := fun i hi => (had9 i (by omega)).trans (g_8 i hi)
  obtain ⟨q314, e314_9⟩ : ∃ q, ad9 314 = q := ⟨_, rfl⟩
  rw [e314_9]
  refine bv_putF 305 10 74 rfl C k_M (by decide) e305_9 (by simp [va_up]; rfl) (by decide) t3_117 rfl hnm rfl rfl rfl (Nat.le_of_ble_eq_true rfl) d_M_init_71 ?_
  refine bv_aload_n 75 rfl C d_M_init_74 rfl ?_
  refine bv_bipush (v := nI 41) 77 rfl C d_M_init_75 (by decide) ?_
  refine bv_newa (atype := .int) (ty := .int) (a0 := (41, .inl (fun _ => 0))) 0 41 79 rfl C rfl rfl (by intro Cn h; cases h) t1_56 (fun cA => rfl) rfl (by decide) (by decide) (by decide) (by decide) d_M_init_77 (fun ad10 had10 => ?_)
  have e305_10 : ad10 305 = a := (had10 305 (by decide)).trans e305_9
  have e306_10 : ad10 306 = q306 := (had10 306 (by decide)).trans e306_9
  have e307_10 : ad10 307 = q307 := (had10 307 (by decide)).trans e307_9
  have e308_10 : ad10 308 = q308 := (had10 308 (by decide)).trans e308_9
  have e309_10 : ad10 309 = q309 := (had10 309 (by decide)).trans e309_9
  have e310_10 : ad10 310 = q310 := (had10 310 (by decide)).trans e310_9
  have e311_10 : ad10 311 = q311 := (had10 311 (by decide)).trans e311_9
  have e312_10 : ad10 312 = q312 := (had10 312 (by decide)).trans e312_9
  have e313_10 : ad10 313 = q313 := (had10 313 (by decide)).trans e313_9
  have e314_10 : ad10 314 = q314 := (had10 314 (by decide)).trans e314_9
  have g_10 : ∀ i, i < 306 → ad10 i = ad i := fun i hi => (had10 i (by omega)).trans (g_9 i hi)
  obtain ⟨q315, e315_10⟩ : ∃ q, ad10 315 = q := ⟨_, rfl⟩
  rw [e315_10]
  refine bv_putF 305 11 82 rfl C k_M (by decide) e305_10 (by simp [va_up]; rfl) (by decide) t3_118 rfl hnm rfl rfl rfl (Nat.le_of_ble_eq_true rfl) d_M_init_79 ?_
  refine bv_aload_n 83 rfl C d_M_init_82 rfl ?_
  refine bv_bipush (v := nI 41) 85 rfl C d_M_init_83 (by decide) ?_
  refine bv_newa (atype := .int) (ty := .int) (a0 := (41, .inl (fun _ => 0))) 0 41 87 rfl C rfl rfl (by intro Cn h; cases h) t1_56 (fun cA => rfl) rfl (by decide) (by decide) (by decide) (by decide) d_M_init_85 (fun ad11 had11 => ?_)
  have e305_11 : ad11 305 = a := (had11 305 (by decide)).trans e305_10
  have e306_11 : ad11 306 = q306 := (had11 306 (by decide)).trans e306_10
  have e307_11 : ad11 307 = q307 := (had11 307 (by decide)).trans e307_10
  have e308_11 : ad11 308 = q308 := (had11 308 (by decide)).trans e308_10
  have e309_11 : ad11 309 = q309 := (had11 309 (by decide)).trans e309_10
  have e310_11 : ad11 310 = q310 := (had11 310 (by decide)).trans e310_10
  have e311_11 : ad11 311 = q311 := (had11 311 (by decide)).trans e311_10
  have e312_11 : ad11 312 = q312 := (had11 312 (by decide)).trans e312_10
  have e313_11 : ad11 313 = q313 := (had11 313 (by decide)).trans e313_10
  have e314_11 : ad11 314 = q314 := (had11 314 (by decide)).trans e314_10
  have e315_11 : ad11 315 = q315 := (had11 315 (by decide)).trans e315_10
  have g_11 : ∀ i, i < 306 → ad11 i = ad i := fun i hi => (had11 i (by omega)).trans (g_10 i hi)
  obtain ⟨q316, e316_11⟩ : ∃ q, ad11 316 = q := ⟨_, rfl⟩
  rw [e316_11]
  refine bv_putF 305 12 90 rfl C k_M (by decide) e305_11 (by simp [va_up]; rfl) (by decide) t3_119 rfl hnm rfl rfl rfl (Nat.le_of_ble_eq_true rfl) d_M_init_87 ?_
  refine bv_aload_n 91 rfl C d_M_init_90 rfl ?_
  refine bv_sipush (v := nI 738) 94 rfl C d_M_init_91 (by decide) ?_
  refine bv_newa (atype := .int) (ty := .int) (a0 := (738, .inl (fun _ => 0))) 0 738 96 rfl C rfl rfl (by intro Cn h; cases h) t1_56 (fun cA => rfl) rfl (by decide) (by decide) (by decide) (by decide) d_M_init_94 (fun ad12 had12 => ?_)
  have e305_12 : ad12 305 = a := (had12 305 (by decide)).trans e305_11
  have e306_12 : ad12 306 = q306 := (had12 306 (by decide)).trans e306_11
  have e307_12 : ad12 307 = q307 := (had12 307 (by decide)).trans e307_11
  have e308_12 : ad12 308 = q308 := (had12 308 (by decide)).trans e308_11
  have e309_12 : ad12 309 = q309 := (had12 309 (by decide)).trans e309_11
  have e310_12 : ad12 310 = q310 := (had12 310 (by decide)).trans e310_11
  have e311_12 : ad12 311 = q311 := (had12 311 (by decide)).trans e311_11
  have e312_12 : ad12 312 = q312 := (had12 312 (by decide)).trans e312_11
  have e313_12 : ad12 313 = q313 := (had12 313 (by decide)).trans e313_11
  have e314_12 : ad12 314 = q314 := (had12 314 (by decide)).trans e314_11
  have e315_12 : ad12 315 = q315 := (had12 315 (by decide)).trans e315_11
  have e316_12 : ad12 316 = q316 := (had12 316 (by decide)).trans e316_11
  have g_12 : ∀ i, i < 306 → ad12 i = ad i := fun i hi => (had12 i (by omega)).trans (g_11 i hi)
  obtain ⟨q317, e317_12⟩ : ∃ q, ad12 317 = q := ⟨_, rfl⟩
  rw [e317_12]
  refine bv_putF 305 13 99 rfl C k_M (by decide) e305_12 (by simp [va_up]; rfl) (by decide) t3_120 rfl hnm rfl rfl rfl (Nat.le_of_ble_eq_true rfl) d_M_init_96 ?_
  refine bv_aload_n 100 rfl C d_M_init_99 rfl ?_
  refine bv_iconst (v := -1) 101 rfl C d_M_init_100 (by decide) ?_
  refine bv_put 305 15 104 rfl C k_M (by decide) e305_12 (by simp [va_up]; rfl) (by decide) t3_122 rfl rfl rfl (Nat.le_of_ble_eq_true rfl) d_M_init_101 ?_
  refine bv_aload_n 105 rfl C d_M_init_104 rfl ?_
  refine bv_bipush (v := nI 72) 107 rfl C d_M_init_105 (by decide) ?_
  refine bv_newa (atype := .int) (ty := .int) (a0 := (72, .inl (fun _ => 0))) 0 72 109 rfl C rfl rfl (by intro Cn h; cases h) t1_56 (fun cA => rfl) rfl (by decide) (by decide) (by decide) (by decide) d_M_init_107 (fun ad13 had13 => ?_)
  have e305_13 : ad13 305 = a := (had13 305 (by decide)).trans e305_12
  have e306_13 : ad13 306 = q306 := (had13 306 (by decide)).trans e306_12
  have e307_13 : ad13 307 = q307 := (had13 307 (by decide)).trans e307_12
  have e308_13 : ad13 308 = q308 := (had13 308 (by decide)).trans e308_12
  have e309_13 : ad13 309 = q309 := (had13 309 (by decide)).trans e309_12
  have e310_13 : ad13 310 = q310 := (had13 310 (by decide)).trans e310_12
  have e311_13 : ad13 311 = q311 := (had13 311 (by decide)).trans e311_12
  have e312_13 : ad13 312 = q312 := (had13 312 (by decide)).trans e312_12
  have e313_13 : ad13 313 = q313 := (had13 313 (by decide)).trans e313_12
  have e314_13 : ad13 314 = q314 := (had13 314 (by decide)).trans e314_12
  have e315_13 : ad13 315 = q315 := (had13 315 (by decide)).trans e315_12
  have e316_13 : ad13 316 = q316 := (had13 316 (by decide)).trans e316_12
  have e317_13 : ad13 317 = q317 := (had13 317 (by decide)).trans e317_12
  have g_13 : ∀ i, i < 306 → ad13 i = ad i := fun i hi => (had13 i (by omega)).trans (g_12 i hi)
  obtain ⟨q318, e318_13⟩ : ∃ q, ad13 318 = q := ⟨_, rfl⟩
  rw [e318_13]
  refine bv_putF 305 17 112 rfl C k_M (by decide) e305_13 (by simp [va_up]; rfl) (by decide) t3_124 rfl hnm rfl rfl rfl (Nat.le_of_ble_eq_true rfl) d_M_init_109 ?_
  refine bv_aload_n 113 rfl C d_M_init_112 rfl ?_
  refine bv_bipush (v := nI 64) 115 rfl C d_M_init_113 (by decide) ?_
  refine bv_newa (atype := .int) (ty := .int) (a0 := (64, .inl (fun _ => 0))) 0 64 117 rfl C rfl rfl (by intro Cn h; cases h) t1_56 (fun cA => rfl) rfl (by decide) (by decide) (by decide) (by decide) d_M_init_115 (fun ad14 had14 => ?_)
  have e305_14 : ad14 305 = a := (had14 305 (by decide)).trans e305_13
  have e306_14 : ad14 306 = q306 := (had14 306 (by decide)).trans e306_13
  have e307_14 : ad14 307 = q307 := (had14 307 (by decide)).trans e307_13
  have e308_14 : ad14 308 = q308 := (had14 308 (by decide)).trans e308_13
  have e309_14 : ad14 309 = q309 := (had14 309 (by decide)).trans e309_13
  have e310_14 : ad14 310 = q310 := (had14 310 (by decide)).trans e310_13
  have e311_14 : ad14 311 = q311 := (had14 311 (by decide)).trans e311_13
  have e312_14 : ad14 312 = q312 := (had14 312 (by decide)).trans e312_13
  have e313_14 : ad14 313 = q313 := (had14 313 (by decide)).trans e313_13
  have e314_14 : ad14 314 = q314 := (had14 314 (by decide)).trans e314_13
  have e315_14 : ad14 315 = q315 := (had14 315 (by decide)).trans e315_13
  have e316_14 : ad14 316 = q316 := (had14 316 (by decide)).trans e316_13
  have e317_14 : ad14 317 = q317 := (had14 317 (by decide)).trans e317_13
  have e318_14 : ad14 318 = q318 := (had14 318 (by decide)).trans e318_13
  have g_14 : ∀ i, i < 306 → ad14 i = ad i := fun i hi => (had14 i (by omega)).trans (g_13 i hi)
  obtain ⟨q319, e319_14⟩ : ∃ q, ad14 319 = q := ⟨_, rfl⟩
  rw [e319_14]
  refine bv_putF 305 18 120 rfl C k_M (by decide) e305_14 (by simp [va_up]; rfl) (by decide) t3_125 rfl hnm rfl rfl rfl (Nat.le_of_ble_eq_true rfl) d_M_init_117 ?_
  refine bv_aload_n 121 rfl C d_M_init_120 rfl ?_
  refine bv_bipush (v := nI 8) 123 rfl C d_M_init_121 (by decide) ?_
  refine bv_newa (atype := .int) (ty := .int) (a0 := (8, .inl (fun _ => 0))) 0 8 125 rfl C rfl rfl (by intro Cn h; cases h) t1_56 (fun cA => rfl) rfl (by decide) (by decide) (by decide) (by decide) d_M_init_123 (fun ad15 had15 => ?_)
  have e305_15 : ad15 305 = a := (had15 305 (by decide)).trans e305_14
  have e306_15 : ad15 306 = q306 := (had15 306 (by decide)).trans e306_14
  have e307_15 : ad15 307 = q307 := (had15 307 (by decide)).trans e307_14
  have e308_15 : ad15 308 = q308 := (had15 308 (by decide)).trans e308_14
  have e309_15 : ad15 309 = q309 := (had15 309 (by decide)).trans e309_14
  have e310_15 : ad15 310 = q310 := (had15 310 (by decide)).trans e310_14
  have e311_15 : ad15 311 = q311 := (had15 311 (by decide)).trans e311_14
  have e312_15 : ad15 312 = q312 := (had15 312 (by decide)).trans e312_14
  have e313_15 : ad15 313 = q313 := (had15 313 (by decide)).trans e313_14
  have e314_15 : ad15 314 = q314 := (had15 314 (by decide)).trans e314_14
  have e315_15 : ad15 315 = q315 := (had15 315 (by decide)).trans e315_14
  have e316_15 : ad15 316 = q316 := (had15 316 (by decide)).trans e316_14
  have e317_15 : ad15 317 = q317 := (had15 317 (by decide)).trans e317_14
  have e318_15 : ad15 318 = q318 := (had15 318 (by decide)).trans e318_14
  have e319_15 : ad15 319 = q319 := (had15 319 (by decide)).trans e319_14
  have g_15 : ∀ i, i < 306 → ad15 i = ad i := fun i hi => (had15 i (by omega)).trans (g_14 i hi)
  obtain ⟨q320, e320_15⟩ : ∃ q, ad15 320 = q := ⟨_, rfl⟩
  rw [e320_15]
  refine bv_putF 305 19 128 rfl C k_M (by decide) e305_15 (by simp [va_up]; rfl) (by decide) t3_126 rfl hnm rfl rfl rfl (Nat.le_of_ble_eq_true rfl) d_M_init_125 ?_
  refine bv_aload_n 129 rfl C d_M_init_128 rfl ?_
  refine bv_bipush (v := nI 24) 131 rfl C d_M_init_129 (by decide) ?_
  refine bv_newa (atype := .int) (ty := .int) (a0 := (24, .inl (fun _ => 0))) 0 24 133 rfl C rfl rfl (by intro Cn h; cases h) t1_56 (fun cA => rfl) rfl (by decide) (by decide) (by decide) (by decide) d_M_init_131 (fun ad16 had16 => ?_)
  have e305_16 : ad16 305 = a := (had16 305 (by decide)).trans e305_15
  have e306_16 : ad16 306 = q306 := (had16 306 (by decide)).trans e306_15
  have e307_16 : ad16 307 = q307 := (had16 307 (by decide)).trans e307_15
  have e308_16 : ad16 308 = q308 := (had16 308 (by decide)).trans e308_15
  have e309_16 : ad16 309 = q309 := (had16 309 (by decide)).trans e309_15
  have e310_16 : ad16 310 = q310 := (had16 310 (by decide)).trans e310_15
  have e311_16 : ad16 311 = q311 := (had16 311 (by decide)).trans e311_15
  have e312_16 : ad16 312 = q312 := (had16 312 (by decide)).trans e312_15
  have e313_16 : ad16 313 = q313 := (had16 313 (by decide)).trans e313_15
  have e314_16 : ad16 314 = q314 := (had16 314 (by decide)).trans e314_15
  have e315_16 : ad16 315 = q315 := (had16 315 (by decide)).trans e315_15
  have e316_16 : ad16 316 = q316 := (had16 316 (by decide)).trans e316_15
  have e317_16 : ad16 317 = q317 := (had16 317 (by decide)).trans e317_15
  have e318_16 : ad16 318 = q318 := (had16 318 (by decide)).trans e318_15
  have e319_16 : ad16 319 = q319 := (had16 319 (by decide)).trans e319_15
  have e320_16 : ad16 320 = q320 := (had16 320 (by decide)).trans e320_15
  have g_16 : ∀ i, i < 306 → ad16 i = ad i := fun i hi => (had16 i (by omega)).trans (g_15 i hi)
  obtain ⟨q321, e321_16⟩ : ∃ q, ad16 321 = q := ⟨_, rfl⟩
  rw [e321_16]
  refine bv_putF 305 20 136 rfl C k_M (by decide) e305_16 (by simp [va_up]; rfl) (by decide) t3_127 rfl hnm rfl rfl rfl (Nat.le_of_ble_eq_true rfl) d_M_init_133 ?_
  refine bv_aload_n 137 rfl C d_M_init_136 rfl ?_
  refine bv_bipush (v := nI 8) 139 rfl C d_M_init_137 (by decide) ?_
  refine bv_newa (atype := .long) (ty := .long) (a0 := (8, .inr (.inl (fun _ => 0)))) 1 8 141 rfl C rfl rfl (by intro Cn h; cases h) t3_175 (fun cA => rfl) rfl (by decide) (by decide) (by decide) (by decide) d_M_init_139 (fun ad17 had17 => ?_)
  have e305_17 : ad17 305 = a := (had17 305 (by decide)).trans e305_16
  have e306_17 : ad17 306 = q306 := (had17 306 (by decide)).trans e306_16
  have e307_17 : ad17 307 = q307 := (had17 307 (by decide)).trans e307_16
  have e308_17 : ad17 308 = q308 := (had17 308 (by decide)).trans e308_16
  have e309_17 : ad17 309 = q309 := (had17 309 (by decide)).trans e309_16
  have e310_17 : ad17 310 = q310 := (had17 310 (by decide)).trans e310_16
  have e311_17 : ad17 311 = q311 := (had17 311 (by decide)).trans e311_16
  have e312_17 : ad17 312 = q312 := (had17 312 (by decide)).trans e312_16
  have e313_17 : ad17 313 = q313 := (had17 313 (by decide)).trans e313_16
  have e314_17 : ad17 314 = q314 := (had17 314 (by decide)).trans e314_16
  have e315_17 : ad17 315 = q315 := (had17 315 (by decide)).trans e315_16
  have e316_17 : ad17 316 = q316 := (had17 316 (by decide)).trans e316_16
  have e317_17 : ad17 317 = q317 := (had17 317 (by decide)).trans e317_16
  have e318_17 : ad17 318 = q318 := (had17 318 (by decide)).trans e318_16
  have e319_17 : ad17 319 = q319 := (had17 319 (by decide)).trans e319_16
  have e320_17 : ad17 320 = q320 := (had17 320 (by decide)).trans e320_16
  have e321_17 : ad17 321 = q321 := (had17 321 (by decide)).trans e321_16
  have g_17 : ∀ i, i < 306 → ad17 i = ad i := fun i hi => (had17 i (by omega)).trans (g_16 i hi)
  obtain ⟨q322, e322_17⟩ : ∃ q, ad17 322 = q := ⟨_, rfl⟩
  rw [e322_17]
  refine bv_putF 305 21 144 rfl C k_M (by decide) e305_17 (by simp [va_up]; rfl) (by decide) t3_128 rfl hnm rfl rfl rfl (Nat.le_of_ble_eq_true rfl) d_M_init_141 ?_
  refine bv_iconst (v := nI 0) 145 rfl C d_M_init_144 (by decide) ?_
  refine bv_istore_n 146 rfl C d_M_init_145 (by decide) ?_
  refine bv_iconst (v := nI 2) 147 rfl C d_M_init_146 (by decide) ?_
  refine bv_istore_n 148 rfl C d_M_init_147 (by decide) ?_
  refine bv_wk [(0, .ref a), (1, .int (nI (cntp 2))), (2, .int (nI 2))] ⟨rfl, rfl, rfl, trivial⟩ ?_
  refine bv_cs 17 1665 (by decide) (by decide) ?_
  obtain ⟨W, hW⟩ : ∃ W : Nat → va_E, W = _ := ⟨_, rfl⟩
  refine bv_w W (fun k _ => by rw [hW]) ?_
  have z305 : W 305 = mO ad17 0 0 0 (-1) 0 := by rw [show mO ad17 0 0 0 (-1) 0 = mO ad17 0 0 0 (-1) 0 from rfl]; simp only [mO]; rw [e306_17, e307_17, e308_17, e309_17, e310_17, e311_17, e312_17, e313_17, e314_17, e315_17, e316_17, e317_17, e318_17, e319_17, e320_17, e321_17, e322_17, hW]; simp [va_up]
  have z306 : W 306 = aI dd 48 (fun _ => 0) := by rw [hW]; simp [va_up]
  have z307 : W 307 = aI dd 384 (fun _ => 0) := by rw [hW]; simp [va_up]
  have z308 : W 308 = aZ dd 5 (fun _ => 0) := by rw [hW]; simp [va_up]
  have z309 : W 309 = aI dd 5 (fun _ => 0) := by rw [hW]; simp [va_up]
  have z310 : W 310 = aI dd 5 (fun _ => 0) := by rw [hW]; simp [va_up]
  have z311 : W 311 = aI dd 35 (fun _ => 0) := by rw [hW]; simp [va_up]
  have z312 : W 312 = aI dd 105 (fun _ => 0) := by rw [hW]; simp [va_up]
  have z313 : W 313 = aZ dd 41 (fun _ => 0) := by rw [hW]; simp [va_up]
  have z314 : W 314 = aI dd 41 (fun _ => 0) := by rw [hW]; simp [va_up]
  have z315 : W 315 = aI dd 41 (fun _ => 0) := by rw [hW]; simp [va_up]
  have z316 : W 316 = aI dd 41 (fun _ => 0) := by rw [hW]; simp [va_up]
  have z317 : W 317 = aI dd 738 (fun _ => 0) := by rw [hW]; simp [va_up]
  have z318 : W 318 = aI dd 72 (fun _ => 0) := by rw [hW]; simp [va_up]
  have z319 : W 319 = aI dd 64 (fun _ => 0) := by rw [hW]; simp [va_up]
  have z320 : W 320 = aI dd 8 (fun _ => 0) := by rw [hW]; simp [va_up]
  have z321 : W 321 = aI dd 24 (fun _ => 0) := by rw [hW]; simp [va_up]
  have z322 : W 322 = aL dd 8 (fun _ => 0) := by rw [hW]; simp [va_up]
  have zz : ∀ i, i < 305 → W i = w i := by
    intro i hi
    rw [hW]
    repeat rw [va_up_ne _ _ (by omega)]
  have hWW : W = wM dd W (fun _ => 0) (fun _ => 0) := by
    funext k
    by_cases h1 : k = 318
    · rw [h1, wM_318, z318]
    · by_cases h2 : k = 322
      · rw [h2, wM_322, z322]
      · rw [wM_o h1 h2]
  refine bv_w (wM dd W (fun _ => 0) (fun _ => 0)) (fun k _ => by rw [← hWW]) ?_
  refine lp_M_init C e305_17 z305 (by decide) (by decide) (by decide) (by decide) (fun f g => ?_) 310 2 _ _ rfl (Nat.le_refl _)
  exact bv_return C rfl d_M_init_206 (Nat.le_refl _) (Nat.le_refl _) ⟨rfl, rfl, g_17, fun i hi => (wM_o (by omega) (by omega)).trans (zz i hi), (wM_o (by decide) (by decide)).trans z305, (wM_o (by decide) (by decide)).trans z306, (wM_o (by decide) (by decide)).trans z307, (wM_o (by decide) (by decide)).trans z308, (wM_o (by decide) (by decide)).trans z309, (wM_o (by decide) (by decide)).trans z310, (wM_o (by decide) (by decide)).trans z311, (wM_o (by decide) (by decide)).trans z312, (wM_o (by decide) (by decide)).trans z313, (wM_o (by decide) (by decide)).trans z314, (wM_o (by decide) (by decide)).trans z315, (wM_o (by decide) (by decide)).trans z316, (wM_o (by decide) (by decide)).trans z317, ⟨f, wM_318⟩, (wM_o (by decide) (by decide)).trans z319, (wM_o (by decide) (by decide)).trans z320, (wM_o (by decide) (by decide)).trans z321, ⟨g, wM_322⟩⟩
end bMj

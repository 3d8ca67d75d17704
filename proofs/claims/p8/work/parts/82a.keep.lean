section bQ3b
variable {p : Program} {l : Launch} {e : Env} {R : Room} {s : State} {m : MethodId} {args : Array Value} {below : List Frame} {meth : Method} {c : Code} {dd : bD} {A : Nat → Prop} {nL mc ms : Nat} {post : Option Value → (Nat → Nat) → (Nat → va_E) → Nat → Prop} {thr : String → (Nat → Nat) → (Nat → va_E) → Nat → Prop} {pc : Nat} {lo : Nat → Option Value} {rest st : List Value} {ad : Nat → Nat} {w : Nat → va_E} {N cells slots : Nat}
theorem bv_any0 {E : va_E} (hI : II dd ad w) (hE : w 0 = E) (k : ∀ w', II dd ad w' → w' 0 = E → bV p l e R s m args below meth c dd A nL mc ms post thr pc lo st ad w' N cells slots) : bV p l e R s m args below meth c dd A nL mc ms post thr pc lo st ad w N cells slots := k w hI hE
end bQ3b
section bQ3a
variable {l : Launch} {dd : bD} {ad : Nat → Nat} {w : Nat → va_E}
theorem bRw.ne0 {k m : Nat} (h : bRw k m) : k ≠ 0 := by
  rintro rfl
  rcases h.2 with ⟨-, a, -⟩ | ⟨-, a, -⟩
  · exact absurd a (by decide)
  · exact absurd a (by decide)
abbrev bJ0 (dd : bD) (ad : Nat → Nat) (E : va_E) : Option Value → (Nat → Nat) → (Nat → va_E) → Nat → Prop := fun v ad' w' N' => ad = ad' ∧ 324 = N' ∧ II dd ad w' ∧ w' 0 = E ∧ v = none
theorem j_R_add0 {k m0 sl : Nat} {E : va_E} (hI : II dd ad w) (hE : w 0 = E) (hk : bRw k m0) (hs : sl < 48) : bK l dd y_R_add 0 0 0 0 [.ref (ad k), .int (nI sl)] ad w 324 (bJ0 dd ad E) (bNo) := by
  obtain ⟨n, f, hn, h1, h2, hf⟩ := hk.at hI
  have hk0 := hk.1
  have hm := hk.le
  refine bK.start [(0, .ref (ad k)), (1, .int (nI sl))] (by decide) t2_234 (Nat.le_of_ble_eq_true rfl) rfl (fun p e s m args below meth c A hnm C => ?_)
  refine bv_aload_n 1 rfl C d_R_add_0 rfl ?_
  refine bv_get k 1 4 rfl C k_R (by omega) rfl h1 (by decide) t1_71 rfl d_R_add_1 ?_
  refine bv_aload_n 5 rfl C d_R_add_4 rfl ?_
  refine bv_get k 0 8 rfl C k_R (by omega) rfl h1 (by decide) t1_69 rfl d_R_add_5 ?_
  refine bv_alen (k+1) 0 9 rfl C (by omega) rfl h2 rfl rfl d_R_add_8 ?_
  refine bv_icmp_ge 32 12 rfl C d_R_add_9 (by decide) (fun h => ?_) (fun h => ?_)
  · exact bv_return C rfl d_R_add_32 (Nat.le_refl _) (Nat.le_refl _) ⟨rfl, rfl, hI, hE, rfl⟩
  · have hlt : n < m0 := Nat.lt_of_not_le (fun q => h (nI_le q (by omega)))
    have h1' : (va_up w (k + 1) (aI dd m0 (upd f n (nI sl)))) k = .inr (2, [.ref (ad (k + 1)), .int (nI n)]) := (va_up_ne _ _ (by omega)).trans h1
    refine bv_aload_n 13 rfl C d_R_add_12 rfl ?_
    refine bv_get k 0 16 rfl C k_R (by omega) rfl h1 (by decide) t1_69 rfl d_R_add_13 ?_
    refine bv_aload_n 17 rfl C d_R_add_16 rfl ?_
    refine bv_get k 1 20 rfl C k_R (by omega) rfl h1 (by decide) t1_71 rfl d_R_add_17 ?_
    refine bv_iload_n 21 rfl C d_R_add_20 rfl ?_
    refine bv_iast (k+1) n 22 rfl C (by omega) rfl h2 rfl hlt (by omega) d_R_add_21 ?_
    refine bv_aload_n 23 rfl C d_R_add_22 rfl ?_
    refine bv_dup 24 rfl C d_R_add_23 rfl ?_
    refine bv_get k 1 27 rfl C k_R (by omega) rfl h1' (by decide) t1_71 rfl d_R_add_24 ?_
    refine bv_iconst (v := nI 1) 28 rfl C d_R_add_27 (by decide) ?_
    refine bv_iadd 29 rfl C d_R_add_28 ?_
    refine bv_seti (nI (n+1)) (nI_add n 1) ?_
    refine bv_put k 1 32 rfl C k_R (by omega) rfl h1' (by decide) t1_71 rfl rfl rfl (Nat.le_of_ble_eq_true rfl) d_R_add_29 ?_
    exact bv_return C rfl d_R_add_32 (Nat.le_refl _) (Nat.le_refl _) ⟨rfl, rfl, (hI.up (hk.s2 (hf.up hs rfl))).up (hk.s1 hlt), (va_up_ne _ _ (Ne.symm hk.ne0)).trans ((va_up_ne _ _ (by omega)).trans hE), rfl⟩
theorem j_R_addAll0 {k m0 k2 m2 : Nat} {E : va_E} (hI : II dd ad w) (hE : w 0 = E) (hk : bRw k m0) (hk2 : bRw k2 m2) : bK l dd y_R_addAll 1 21 0 0 [.ref (ad k), .ref (ad k2)] ad w 324 (bJ0 dd ad E) (bNo) := by
  have q1 := hk.1
  have q2 := hk2.1
  have q3 := hk2.le
  refine bK.start [(0, .ref (ad k)), (1, .ref (ad k2))] (by decide) t3_13 (Nat.le_of_ble_eq_true rfl) rfl (fun p e s m args below meth c A hnm C => ?_)
  have loop : ∀ (d i : Nat) (w : Nat → va_E), i + d = m2 → II dd ad w → w 0 = E → bV p l e { frames := 1, cells := 0, slots := 0, locals := 21 } s m args below meth c dd A 3 0 0 (bJ0 dd ad E) (bNo) 2 (bO [(0, .ref (ad k)), (1, .ref (ad k2)), (2, .int (nI i))]) [] ad w 324 0 0 := by
    intro d
    induction d with
    | zero =>
      intro i w hi hI hE
      obtain ⟨n, f, hn, h1, h2, hf⟩ := hk2.at hI
      refine bv_iload_n 3 rfl C d_R_addAll_2 rfl ?_
      refine bv_aload_n 4 rfl C d_R_addAll_3 rfl ?_
      refine bv_get k2 1 7 rfl C k_R (by omega) rfl h1 (by decide) t1_71 rfl d_R_addAll_4 ?_
      refine bv_icmp_ge 26 10 rfl C d_R_addAll_7 (by decide) (fun h => ?_) (fun h => absurd (nI_le (show n ≤ i by omega) (by omega)) h)
      exact bv_return C rfl d_R_addAll_26 (Nat.le_refl _) (Nat.le_refl _) ⟨rfl, rfl, hI, hE, rfl⟩
    | succ d ih =>
      intro i w hi hI hE
      obtain ⟨n, f, hn, h1, h2, hf⟩ := hk2.at hI
      obtain ⟨n0, f0, hn0, g1, g2, gf⟩ := hk.at hI
      refine bv_iload_n 3 rfl C d_R_addAll_2 rfl ?_
      refine bv_aload_n 4 rfl C d_R_addAll_3 rfl ?_
      refine bv_get k2 1 7 rfl C k_R (by omega) rfl h1 (by decide) t1_71 rfl d_R_addAll_4 ?_
      refine bv_icmp_ge 26 10 rfl C d_R_addAll_7 (by decide) (fun h => ?_) (fun h => ?_)
      · exact bv_return C rfl d_R_addAll_26 (Nat.le_refl _) (Nat.le_refl _) ⟨rfl, rfl, hI, hE, rfl⟩
      · obtain ⟨sl, hsl, hfe⟩ := hf i (by omega)
        refine bv_aload_n 11 rfl C d_R_addAll_10 rfl ?_
        refine bv_aload_n 12 rfl C d_R_addAll_11 rfl ?_
        refine bv_get k2 0 15 rfl C k_R (by omega) rfl h1 (by decide) t1_69 rfl d_R_addAll_12 ?_
        refine bv_iload_n 16 rfl C d_R_addAll_15 rfl ?_
        refine bv_iald (k2+1) i 17 rfl C (by omega) rfl h2 rfl (by omega) (by omega) d_R_addAll_16 ?_
        refine bv_seti (nI sl) hfe ?_
        refine bv_call (rest := []) 20 rfl C d_R_addAll_17 (j_R_add0 hI hE hk hsl) i_R_add t1_4 (fun H locs ls hP => bs_V (av := [.int (nI sl)]) k C i_R_add t3_14 t2_233 s_28 (by omega) rfl g1 rfl (by decide) rfl rfl d_R_addAll_17 H locs ls hP) ⟨by first | decide | omega, by first | decide | omega⟩ (by decide) (by decide) (Nat.le_of_ble_eq_true rfl) (fun v ad1 w1 N1 hpo => ?_) (fun x Cn ad' w' N' hth => hth.elim)
        obtain ⟨rfl, rfl, hI1, hE1, rfl⟩ := hpo
        refine bv_iinc 23 rfl C d_R_addAll_20 rfl (by first | exact b_inc _ | rfl) (by decide) ?_
        refine bv_goto 2 C d_R_addAll_23 (by decide) ?_
        refine bv_wk [(0, .ref (ad k)), (1, .ref (ad k2)), (2, .int (nI (i + 1)))] ⟨rfl, rfl, rfl, trivial⟩ ?_
        exact ih (i + 1) w1 (by omega) hI1 hE1
  refine bv_iconst (v := nI 0) 1 rfl C d_R_addAll_0 (by decide) ?_
  refine bv_istore_n 2 rfl C d_R_addAll_1 (by decide) ?_
  refine bv_wk [(0, .ref (ad k)), (1, .ref (ad k2)), (2, .int (nI 0))] ⟨rfl, rfl, rfl, trivial⟩ ?_
  exact loop m2 0 w (by omega) hI hE
theorem j_V_comeFrom0 {i0 j : Nat} {E : va_E} (hI : II dd ad w) (hE : w 0 = E) (hv : i0 < 40) (hj : j < 5) : bK l dd y_V_comeFrom 2 43 0 0 [.ref (ad (179 + 3 * i0)), .ref (ad (109 + 14 * j))] ad w 324 (bJ0 dd ad E) (bNo) := by
  refine bK.start [(0, .ref (ad (179 + 3 * i0))), (1, .ref (ad (109 + 14 * j)))] (by decide) t3_26 (Nat.le_of_ble_eq_true rfl) rfl (fun p e s m args below meth c A hnm C => ?_)
  have loop : ∀ (d i : Nat) (w : Nat → va_E), i + d = 6 → II dd ad w → w 0 = E → bV p l e { frames := 2, cells := 0, slots := 0, locals := 43 } s m args below meth c dd A 3 0 0 (bJ0 dd ad E) (bNo) 23 (bO [(0, .ref (ad (179 + 3 * i0))), (1, .ref (ad (109 + 14 * j))), (2, .int (nI i))]) [] ad w 324 0 0 := by
    intro d
    induction d with
    | zero =>
      intro i w hi hI hE
      obtain rfl : i = 6 := by omega
      refine bv_iload_n 24 rfl C d_V_comeFrom_23 rfl ?_
      refine bv_bipush (v := nI 6) 26 rfl C d_V_comeFrom_24 (by decide) ?_
      refine bv_icmp_ge 48 29 rfl C d_V_comeFrom_26 (by decide) (fun h => ?_) (fun h => absurd (nI_le (by decide) (by decide)) h)
      exact bv_return C rfl d_V_comeFrom_48 (Nat.le_refl _) (Nat.le_refl _) ⟨rfl, rfl, hI, hE, rfl⟩
    | succ d ih =>
      intro i w hi hI hE
      obtain ⟨o, b, q, h1⟩ := hI.k15 (k := 109 + 14 * j) (by omega) (kd_s hj)
      obtain ⟨f, h2, hf⟩ := hI.k16 (k := 109 + 14 * j + 1) (by omega) (kd_s1 hj)
      obtain ⟨vl, vb, vk, h3⟩ := hI.k19 (k := 179 + 3 * i0) (by omega) (kd_v hv)
      have hk := bRw.v hv
      obtain ⟨n0, f0, hn0, g1, g2, gf⟩ := hk.at hI
      refine bv_iload_n 24 rfl C d_V_comeFrom_23 rfl ?_
      refine bv_bipush (v := nI 6) 26 rfl C d_V_comeFrom_24 (by decide) ?_
      refine bv_icmp_ge 48 29 rfl C d_V_comeFrom_26 (by decide) (fun h => absurd h (nI_ge (by omega) (by decide))) (fun h => ?_)
      refine bv_aload_n 30 rfl C d_V_comeFrom_29 rfl ?_
      refine bv_get (179+3*i0) 3 33 rfl C k_V (by omega) rfl h3 (by decide) t1_135 rfl d_V_comeFrom_30 ?_
      refine bv_aload_n 34 rfl C d_V_comeFrom_33 rfl ?_
      refine bv_getN (109+14*j) 3 37 rfl C k_S (by omega) rfl h1 (by decide) n1_111 rfl d_V_comeFrom_34 ?_
      refine bv_iload_n 38 rfl C d_V_comeFrom_37 rfl ?_
      refine bv_aald 4 (109+14*j+1) i 39 rfl C rfl (by omega) rfl h2 rfl (by omega) (by decide) d_V_comeFrom_38 (hf i (by omega)) ?_
      refine bv_call (rest := []) 42 rfl C d_V_comeFrom_39 (j_R_addAll0 hI hE hk (bRw.p hj (show i < 6 by omega))) i_R_addAll t1_4 (fun H locs ls hP => bs_VN (av := [.ref (ad (109+14*j+2+2*i))]) (179+3*i0+1) C i_R_addAll n3_27 t3_12 s_32 (by omega) rfl g1 rfl (by decide) rfl rfl d_V_comeFrom_39 H locs ls hP) ⟨by first | decide | omega, by first | decide | omega⟩ (by decide) (by decide) (Nat.le_of_ble_eq_true rfl) (fun v ad1 w1 N1 hpo => ?_) (fun x Cn ad' w' N' hth => hth.elim)
      obtain ⟨rfl, rfl, hI1, hE1, rfl⟩ := hpo
      refine bv_iinc 45 rfl C d_V_comeFrom_42 rfl (by first | exact b_inc _ | rfl) (by decide) ?_
      refine bv_goto 23 C d_V_comeFrom_45 (by decide) ?_
      refine bv_wk [(0, .ref (ad (179 + 3 * i0))), (1, .ref (ad (109 + 14 * j))), (2, .int (nI (i + 1)))] ⟨rfl, rfl, rfl, trivial⟩ ?_
      exact ih (i + 1) w1 (by omega) hI1 hE1
  obtain ⟨vl, vb, vk, h3⟩ := hI.k19 (k := 179 + 3 * i0) (by omega) (kd_v hv)
  refine bv_aload_n 1 rfl C d_V_comeFrom_0 rfl ?_
  refine bv_iconst (v := nI 1) 2 rfl C d_V_comeFrom_1 (by decide) ?_
  refine bv_put (179+3*i0) 0 5 rfl C k_V (by omega) rfl h3 (by decide) t1_129 rfl rfl rfl (Nat.le_of_ble_eq_true rfl) d_V_comeFrom_2 ?_
  refine bv_any0 (hI.up ((sh_19 (kd_v hv)).mpr ⟨_, _, _, rfl⟩)) ((va_up_ne _ _ (by omega)).trans hE) (fun w1 hI1 hE1 => ?_)
  obtain ⟨o, b, q, h1⟩ := hI1.k15 (k := 109 + 14 * j) (by omega) (kd_s hj)
  obtain ⟨vl, vb, vk, h3⟩ := hI1.k19 (k := 179 + 3 * i0) (by omega) (kd_v hv)
  refine bv_aload_n 6 rfl C d_V_comeFrom_5 rfl ?_
  refine bv_aload_n 7 rfl C d_V_comeFrom_6 rfl ?_
  refine bv_getN (109+14*j) 1 10 rfl C k_S (by omega) rfl h1 (by decide) n1_107 rfl d_V_comeFrom_7 ?_
  refine bv_put (179+3*i0) 1 13 rfl C k_V (by omega) rfl h3 (by decide) t1_131 rfl rfl rfl (Nat.le_of_ble_eq_true rfl) d_V_comeFrom_10 ?_
  refine bv_any0 (hI1.up ((sh_19 (kd_v hv)).mpr ⟨_, _, _, rfl⟩)) ((va_up_ne _ _ (by omega)).trans hE1) (fun w2 hI2 hE2 => ?_)
  obtain ⟨o, b, q, h1⟩ := hI2.k15 (k := 109 + 14 * j) (by omega) (kd_s hj)
  obtain ⟨vl, vb, vk, h3⟩ := hI2.k19 (k := 179 + 3 * i0) (by omega) (kd_v hv)
  refine bv_aload_n 14 rfl C d_V_comeFrom_13 rfl ?_
  refine bv_aload_n 15 rfl C d_V_comeFrom_14 rfl ?_
  refine bv_getN (109+14*j) 2 18 rfl C k_S (by omega) rfl h1 (by decide) n1_109 rfl d_V_comeFrom_15 ?_
  refine bv_put (179+3*i0) 2 21 rfl C k_V (by omega) rfl h3 (by decide) t1_133 rfl rfl rfl (Nat.le_of_ble_eq_true rfl) d_V_comeFrom_18 ?_
  refine bv_any0 (hI2.up ((sh_19 (kd_v hv)).mpr ⟨_, _, _, rfl⟩)) ((va_up_ne _ _ (by omega)).trans hE2) (fun w3 hI3 hE3 => ?_)
  refine bv_iconst (v := nI 0) 22 rfl C d_V_comeFrom_21 (by decide) ?_
  refine bv_istore_n 23 rfl C d_V_comeFrom_22 (by decide) ?_
  refine bv_wk [(0, .ref (ad (179 + 3 * i0))), (1, .ref (ad (109 + 14 * j))), (2, .int (nI 0))] ⟨rfl, rfl, rfl, trivial⟩ ?_
  exact loop 6 0 w3 (by omega) hI3 hE3
end bQ3a

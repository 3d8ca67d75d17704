section bQ3
variable {l : Launch} {dd : bD} {ad : Nat → Nat} {w : Nat → va_E}
theorem j_P_requireOn (hlt : bOff l) (hI : II dd ad w) : bK l dd y_P_requireOn 6 82 1 6 [.ref (ad 1)] ad w 324 (bJ dd ad (fun v => v = none)) (bJT dd ad (fun Cn => Cn = xISE)) := by
  obtain ⟨x, y, z, h1⟩ := hI.k1 (k := 1) (by decide) (by decide)
  exact (ct_P_requireOn hlt (k := 1) (by decide) h1).mono (fun v ad' w' N' h => by obtain ⟨rfl, rfl, rfl, rfl, -⟩ := h; exact ⟨rfl, rfl, hI, rfl⟩) (fun v ad' w' N' h => by obtain ⟨rfl, rfl, rfl, rfl, -⟩ := h; exact ⟨rfl, rfl, hI, rfl⟩)
theorem j_P_spendWrite (hlt : bOff l) (hI : II dd ad w) : bK l dd y_P_spendWrite 6 82 1 6 [.ref (ad 1)] ad w 324 (bJ dd ad (fun v => v = none)) (bJT dd ad (fun Cn => Cn = xUOE)) := by
  obtain ⟨x, y, z, h1⟩ := hI.k1 (k := 1) (by decide) (by decide)
  exact (ct_P_spendWrite hlt (k := 1) (by decide) h1).mono (fun v ad' w' N' h => by obtain ⟨rfl, rfl, rfl, -, rfl⟩ := h; exact ⟨rfl, rfl, hI.up ((sh_1 (by decide)).mpr ⟨_, _, _, rfl⟩), rfl⟩) (fun v ad' w' N' h => by obtain ⟨rfl, rfl, rfl, -, rfl⟩ := h; exact ⟨rfl, rfl, hI.up ((sh_1 (by decide)).mpr ⟨_, _, _, rfl⟩), rfl⟩)
theorem j_S_start {j : Nat} (hI : II dd ad w) (hj : j < 5) {b q : Int32} : bK l dd y_S_start 0 0 0 0 [.ref (ad (109 + 14 * j)), .int b, .int q] ad w 324 (bJ dd ad (fun v => v = none)) bNo := by
  obtain ⟨so, sb, sk, hS⟩ := hI.ss
  obtain ⟨pl, hP⟩ := hI.ps hj
  refine (ct_S_start (k := 109 + 14 * j) (by omega) (hS.2 j hj) hP).mono (fun v ad' w' N' h => ?_) (fun _ _ _ _ h => h)
  obtain ⟨rfl, rfl, rfl, h1, h2, h3⟩ := h
  refine ⟨rfl, rfl, fun i hi => ?_, rfl⟩
  by_cases e1 : i = 109 + 14 * j
  · subst e1; rw [h1]; exact (sh_15 (kd_s hj)).mpr ⟨_, _, _, rfl⟩
  · by_cases e2 : ∃ t, t < 6 ∧ i = 109 + 14 * j + 2 + 2 * t
    · obtain ⟨t, ht, rfl⟩ := e2
      rw [h2 t ht, show 109 + 14 * j + 3 + 2 * t = 109 + 14 * j + 2 + 2 * t + 1 by omega]
      exact (sh_17 (kd_p hj ht)).mpr ⟨0, by decide, rfl⟩
    · rw [h3 i e1 (fun t ht e => e2 ⟨t, ht, e⟩)]; exact hI i hi
theorem j_K_fill {k : Nat} (hI : II dd ad w) (hk : bKy k) {n : Int32} {x : Int64} : bK l dd y_K_fill 3 80 0 0 [.ref (ad k), .int n, .long x, .ref (ad 2)] ad w 324 (bJ dd ad (fun v => v = none)) bNo := by
  have q1 := hk.1
  have q2 := hk.2.1
  obtain ⟨n0, b0, f0, g1, g2⟩ := hk.at hI
  have h2 := hI.k2 (k := 2) (by decide) (by decide)
  obtain ⟨f3, h3⟩ := hI.k3 (k := 3) (by decide) (by decide)
  refine (ct_K_fill (k := k) (by decide) h2 h3 (by omega) q2 g1 g2).mono (fun v ad' w' N' h => ?_) (fun _ _ _ _ h => h)
  obtain ⟨rfl, rfl, rfl, ⟨y, a1⟩, ⟨g, a2⟩, ⟨f, a3⟩, a4⟩ := h
  refine ⟨rfl, rfl, fun i hi => ?_, rfl⟩
  by_cases e1 : i = k
  · subst e1; rw [a1]; exact (sh_13 hk.2.2.1).mpr ⟨_, _, rfl⟩
  · by_cases e2 : i = k + 1
    · subst e2; rw [a2]; exact (sh_14 hk.2.2.2).mpr ⟨_, rfl⟩
    · by_cases e3 : i = 3
      · subst e3; rw [a3]; exact (sh_3 (by decide)).mpr ⟨_, rfl⟩
      · rw [a4 i e1 e2 e3]; exact hI i hi
theorem j_S_countInto {j : Nat} (hI : II dd ad w) (hj : j < 5) : bK l dd y_S_countInto 1 22 0 0 [.ref (ad (109 + 14 * j)), .ref (ad 12)] ad w 324 (bJ dd ad (fun v => v = none)) (bNo) := by
  refine bK.start [(0, .ref (ad (109 + 14 * j))), (1, .ref (ad 12))] (by decide) t1_227 (Nat.le_of_ble_eq_true rfl) rfl (fun p e s m args below meth c A hnm C => ?_)
  have loop : ∀ (d i : Nat) (w : Nat → va_E), i + d = 6 → II dd ad w → bV p l e { frames := 1, cells := 0, slots := 0, locals := 22 } s m args below meth c dd A 3 0 0 (bJ dd ad (fun v => v = none)) (bNo) 2 (bO [(0, .ref (ad (109 + 14 * j))), (1, .ref (ad 12)), (2, .int (nI i))]) [] ad w 324 0 0 := by
    intro d
    induction d with
    | zero =>
      intro i w hi hI
      obtain rfl : i = 6 := by omega
      refine bv_iload_n 3 rfl C d_S_countInto_2 rfl ?_
      refine bv_bipush (v := nI 6) 5 rfl C d_S_countInto_3 (by decide) ?_
      refine bv_icmp_ge 24 8 rfl C d_S_countInto_5 (by decide) (fun h => ?_) (fun h => absurd (nI_le (by decide) (by decide)) h)
      exact bv_return C rfl d_S_countInto_24 (Nat.le_refl _) (Nat.le_refl _) ⟨rfl, rfl, hI, rfl⟩
    | succ d ih =>
      intro i w hi hI
      obtain ⟨o, b, q, h1⟩ := hI.k15 (k := 109 + 14 * j) (by omega) (kd_s hj)
      obtain ⟨f, h2, hf⟩ := hI.k16 (k := 109 + 14 * j + 1) (by omega) (kd_s1 hj)
      have hk := bRw.p hj (show i < 6 by omega)
      obtain ⟨n0, f0, hn0, g1, g2, gf⟩ := hk.at hI
      refine bv_iload_n 3 rfl C d_S_countInto_2 rfl ?_
      refine bv_bipush (v := nI 6) 5 rfl C d_S_countInto_3 (by decide) ?_
      refine bv_icmp_ge 24 8 rfl C d_S_countInto_5 (by decide) (fun h => absurd h (nI_ge (by omega) (by decide))) (fun h => ?_)
      refine bv_aload_n 9 rfl C d_S_countInto_8 rfl ?_
      refine bv_get (109+14*j) 3 12 rfl C k_S (by omega) rfl h1 (by decide) t1_110 rfl d_S_countInto_9 ?_
      refine bv_iload_n 13 rfl C d_S_countInto_12 rfl ?_
      refine bv_aald 4 (109+14*j+1) i 14 rfl C rfl (by omega) rfl h2 rfl (by omega) (by decide) d_S_countInto_13 (hf i (by omega)) ?_
      refine bv_aload_n 15 rfl C d_S_countInto_14 rfl ?_
      refine bv_call (rest := []) 18 rfl C d_S_countInto_15 (j_R_countInto hI hk) i_R_countInto t1_4 (fun H locs ls hP => bs_VN (av := [.ref (ad 12)]) (109+14*j+2+2*i) C i_R_countInto n1_228 t1_230 s_7 (by omega) rfl g1 rfl (by decide) rfl rfl d_S_countInto_15 H locs ls hP) ⟨by first | decide | omega, by first | decide | omega⟩ (by decide) (by decide) (Nat.le_of_ble_eq_true rfl) (fun v ad1 w1 N1 hpo => ?_) (fun x Cn ad' w' N' hth => hth.elim)
      obtain ⟨rfl, rfl, hI1, rfl⟩ := hpo
      refine bv_iinc 21 rfl C d_S_countInto_18 rfl (by first | exact b_inc _ | rfl) (by decide) ?_
      refine bv_goto 2 C d_S_countInto_21 (by decide) ?_
      refine bv_wk [(0, .ref (ad (109 + 14 * j))), (1, .ref (ad 12)), (2, .int (nI (i + 1)))] ⟨rfl, rfl, rfl, trivial⟩ ?_
      exact ih (i + 1) w1 (by omega) hI1
  refine bv_iconst (v := nI 0) 1 rfl C d_S_countInto_0 (by decide) ?_
  refine bv_istore_n 2 rfl C d_S_countInto_1 (by decide) ?_
  refine bv_wk [(0, .ref (ad (109 + 14 * j))), (1, .ref (ad 12)), (2, .int (nI 0))] ⟨rfl, rfl, rfl, trivial⟩ ?_
  exact loop 6 0 w (by omega) hI
theorem j_V_comeFrom {i0 j : Nat} (hI : II dd ad w) (hv : i0 < 40) (hj : j < 5) : bK l dd y_V_comeFrom 2 43 0 0 [.ref (ad (179 + 3 * i0)), .ref (ad (109 + 14 * j))] ad w 324 (bJ dd ad (fun v => v = none)) (bNo) := by
  refine bK.start [(0, .ref (ad (179 + 3 * i0))), (1, .ref (ad (109 + 14 * j)))] (by decide) t3_26 (Nat.le_of_ble_eq_true rfl) rfl (fun p e s m args below meth c A hnm C => ?_)
  have loop : ∀ (d i : Nat) (w : Nat → va_E), i + d = 6 → II dd ad w → bV p l e { frames := 2, cells := 0, slots := 0, locals := 43 } s m args below meth c dd A 3 0 0 (bJ dd ad (fun v => v = none)) (bNo) 23 (bO [(0, .ref (ad (179 + 3 * i0))), (1, .ref (ad (109 + 14 * j))), (2, .int (nI i))]) [] ad w 324 0 0 := by
    intro d
    induction d with
    | zero =>
      intro i w hi hI
      obtain rfl : i = 6 := by omega
      refine bv_iload_n 24 rfl C d_V_comeFrom_23 rfl ?_
      refine bv_bipush (v := nI 6) 26 rfl C d_V_comeFrom_24 (by decide) ?_
      refine bv_icmp_ge 48 29 rfl C d_V_comeFrom_26 (by decide) (fun h => ?_) (fun h => absurd (nI_le (by decide) (by decide)) h)
      exact bv_return C rfl d_V_comeFrom_48 (Nat.le_refl _) (Nat.le_refl _) ⟨rfl, rfl, hI, rfl⟩
    | succ d ih =>
      intro i w hi hI
      obtain ⟨o, b, q, h1⟩ := hI.k15 (k := 109 + 14 * j) (by omega) (kd_s hj)
      obtain ⟨f, h2, hf⟩ := hI.k16 (k := 109 + 14 * j + 1) (by omega) (kd_s1 hj)
      obtain ⟨vl, vb, vk, h3⟩ := hI.k19 (k := 179 + 3 * i0) (by omega) (kd_v hv)
      have hk := bRw.v hv
      obtain ⟨n0, f0, hn0, g1, g2, gf⟩ := hk.at hI
      refine bv_iload_n 24 rfl C d_V_comeFrom_23 rfl ?_
      refine bv_bipush (v := nI 6) 26 rfl C d_V_comeFrom_24 (by decide) ?_
      refine bv_icmp_ge 48 29 rfl C d_V_comeFrom_26 (by decide) (fun h => absurd h (nI_ge (by omega) (by decide))) (fun h => ?_)
      refine bv_aload_n 30 rfl C d_V_comeFrom_29 rfl ?_
      refine bv_get (179+3*i0) 3 33 rfl C k_V (by omega) rfl h3 (by decide) t1_135 rfl d_V_comeFrom_30 ?_
      refine bv_aload_n 34 rfl C d_V_comeFrom_33 rfl ?_
      refine bv_getN (109+14*j) 3 37 rfl C k_S (by omega) rfl h1 (by decide) n1_111 rfl d_V_comeFrom_34 ?_
      refine bv_iload_n 38 rfl C d_V_comeFrom_37 rfl ?_
      refine bv_aald 4 (109+14*j+1) i 39 rfl C rfl (by omega) rfl h2 rfl (by omega) (by decide) d_V_comeFrom_38 (hf i (by omega)) ?_
      refine bv_call (rest := []) 42 rfl C d_V_comeFrom_39 (j_R_addAll hI hk (bRw.p hj (show i < 6 by omega))) i_R_addAll t1_4 (fun H locs ls hP => bs_VN (av := [.ref (ad (109+14*j+2+2*i))]) (179+3*i0+1) C i_R_addAll n3_27 t3_12 s_32 (by omega) rfl g1 rfl (by decide) rfl rfl d_V_comeFrom_39 H locs ls hP) ⟨by first | decide | omega, by first | decide | omega⟩ (by decide) (by decide) (Nat.le_of_ble_eq_true rfl) (fun v ad1 w1 N1 hpo => ?_) (fun x Cn ad' w' N' hth => hth.elim)
      obtain ⟨rfl, rfl, hI1, rfl⟩ := hpo
      refine bv_iinc 45 rfl C d_V_comeFrom_42 rfl (by first | exact b_inc _ | rfl) (by decide) ?_
      refine bv_goto 23 C d_V_comeFrom_45 (by decide) ?_
      refine bv_wk [(0, .ref (ad (179 + 3 * i0))), (1, .ref (ad (109 + 14 * j))), (2, .int (nI (i + 1)))] ⟨rfl, rfl, rfl, trivial⟩ ?_
      exact ih (i + 1) w1 (by omega) hI1
  obtain ⟨vl, vb, vk, h3⟩ := hI.k19 (k := 179 + 3 * i0) (by omega) (kd_v hv)
  refine bv_aload_n 1 rfl C d_V_comeFrom_0 rfl ?_
  refine bv_iconst (v := nI 1) 2 rfl C d_V_comeFrom_1 (by decide) ?_
  refine bv_put (179+3*i0) 0 5 rfl C k_V (by omega) rfl h3 (by decide) t1_129 rfl rfl rfl (Nat.le_of_ble_eq_true rfl) d_V_comeFrom_2 ?_
  refine bv_any (hI.up ((sh_19 (kd_v hv)).mpr ⟨_, _, _, rfl⟩)) (fun w1 hI1 => ?_)
  obtain ⟨o, b, q, h1⟩ := hI1.k15 (k := 109 + 14 * j) (by omega) (kd_s hj)
  obtain ⟨vl, vb, vk, h3⟩ := hI1.k19 (k := 179 + 3 * i0) (by omega) (kd_v hv)
  refine bv_aload_n 6 rfl C d_V_comeFrom_5 rfl ?_
  refine bv_aload_n 7 rfl C d_V_comeFrom_6 rfl ?_
  refine bv_getN (109+14*j) 1 10 rfl C k_S (by omega) rfl h1 (by decide) n1_107 rfl d_V_comeFrom_7 ?_
  refine bv_put (179+3*i0) 1 13 rfl C k_V (by omega) rfl h3 (by decide) t1_131 rfl rfl rfl (Nat.le_of_ble_eq_true rfl) d_V_comeFrom_10 ?_
  refine bv_any (hI1.up ((sh_19 (kd_v hv)).mpr ⟨_, _, _, rfl⟩)) (fun w2 hI2 => ?_)
  obtain ⟨o, b, q, h1⟩ := hI2.k15 (k := 109 + 14 * j) (by omega) (kd_s hj)
  obtain ⟨vl, vb, vk, h3⟩ := hI2.k19 (k := 179 + 3 * i0) (by omega) (kd_v hv)
  refine bv_aload_n 14 rfl C d_V_comeFrom_13 rfl ?_
  refine bv_aload_n 15 rfl C d_V_comeFrom_14 rfl ?_
  refine bv_getN (109+14*j) 2 18 rfl C k_S (by omega) rfl h1 (by decide) n1_109 rfl d_V_comeFrom_15 ?_
  refine bv_put (179+3*i0) 2 21 rfl C k_V (by omega) rfl h3 (by decide) t1_133 rfl rfl rfl (Nat.le_of_ble_eq_true rfl) d_V_comeFrom_18 ?_
  refine bv_any (hI2.up ((sh_19 (kd_v hv)).mpr ⟨_, _, _, rfl⟩)) (fun w3 hI3 => ?_)
  refine bv_iconst (v := nI 0) 22 rfl C d_V_comeFrom_21 (by decide) ?_
  refine bv_istore_n 23 rfl C d_V_comeFrom_22 (by decide) ?_
  refine bv_wk [(0, .ref (ad (179 + 3 * i0))), (1, .ref (ad (109 + 14 * j))), (2, .int (nI 0))] ⟨rfl, rfl, rfl, trivial⟩ ?_
  exact loop 6 0 w3 (by omega) hI3
theorem j_K_isLike {k1 k2 : Nat} (hI : II dd ad w) (h1 : bKy k1) (h2 : bKy k2) : bK l dd y_K_isLike 0 0 0 0 [.ref (ad k1), .ref (ad k2)] ad w 324 (bSame ad w 324 (fun v => v = some (.int (nI 0)) ∨ v = some (.int (nI 1)))) (bNo) := by
  have q1 := h1.1
  have q2 := h2.1
  obtain ⟨n, b, f, a1, a2⟩ := h1.at hI
  obtain ⟨n', b', f', b1, b2⟩ := h2.at hI
  refine bK.start [(0, .ref (ad k1)), (1, .ref (ad k2))] (by decide) t2_34 (Nat.le_of_ble_eq_true rfl) rfl (fun p e s m args below meth c A hnm C => ?_)
  have loop : ∀ (d i : Nat), i + d = 8 → bV p l e { frames := 0, cells := 0, slots := 0, locals := 0 } s m args below meth c dd A 3 0 0 (bSame ad w 324 (fun v => v = some (.int (nI 0)) ∨ v = some (.int (nI 1)))) (bNo) 2 (bO [(0, .ref (ad k1)), (1, .ref (ad k2)), (2, .int (nI i))]) [] ad w 324 0 0 := by
    intro d
    induction d with
    | zero =>
      intro i hi
      obtain rfl : i = 8 := by omega
      refine bv_iload_n 3 rfl C d_K_isLike_2 rfl ?_
      refine bv_bipush (v := nI 8) 5 rfl C d_K_isLike_3 (by decide) ?_
      refine bv_icmp_ge 31 8 rfl C d_K_isLike_5 (by decide) (fun h => ?_) (fun h => absurd (nI_le (by decide) (by decide)) h)
      refine bv_iconst (v := nI 1) 32 rfl C d_K_isLike_31 (by decide) ?_
      exact bv_zreturn C rfl (Or.inr rfl) d_K_isLike_32 (by decide) (by decide) ⟨rfl, rfl, rfl, Or.inr rfl⟩
    | succ d ih =>
      intro i hi
      refine bv_iload_n 3 rfl C d_K_isLike_2 rfl ?_
      refine bv_bipush (v := nI 8) 5 rfl C d_K_isLike_3 (by decide) ?_
      refine bv_icmp_ge 31 8 rfl C d_K_isLike_5 (by decide) (fun h => absurd h (nI_ge (by omega) (by decide))) (fun h => ?_)
      refine bv_aload_n 9 rfl C d_K_isLike_8 rfl ?_
      refine bv_get k1 2 12 rfl C k_K (by omega) rfl a1 (by decide) t1_87 rfl d_K_isLike_9 ?_
      refine bv_iload_n 13 rfl C d_K_isLike_12 rfl ?_
      refine bv_iald (k1+1) i 14 rfl C (by omega) rfl a2 rfl (by omega) (by decide) d_K_isLike_13 ?_
      refine bv_aload_n 15 rfl C d_K_isLike_14 rfl ?_
      refine bv_get k2 2 18 rfl C k_K (by omega) rfl b1 (by decide) t1_87 rfl d_K_isLike_15 ?_
      refine bv_iload_n 19 rfl C d_K_isLike_18 rfl ?_
      refine bv_iald (k2+1) i 20 rfl C (by omega) rfl b2 rfl (by omega) (by decide) d_K_isLike_19 ?_
      refine bv_icmp_eq 25 23 rfl C d_K_isLike_20 (by decide) (fun h => ?_) (fun h => ?_)
      · refine bv_iinc 28 rfl C d_K_isLike_25 rfl (by first | exact b_inc _ | rfl) (by decide) ?_
        refine bv_goto 2 C d_K_isLike_28 (by decide) ?_
        refine bv_wk [(0, .ref (ad k1)), (1, .ref (ad k2)), (2, .int (nI (i + 1)))] ⟨rfl, rfl, rfl, trivial⟩ ?_
        exact ih (i + 1) (by omega)
      · refine bv_iconst (v := nI 0) 24 rfl C d_K_isLike_23 (by decide) ?_
        exact bv_zreturn C rfl (Or.inl rfl) d_K_isLike_24 (by decide) (by decide) ⟨rfl, rfl, rfl, Or.inl rfl⟩
  refine bv_iconst (v := nI 0) 1 rfl C d_K_isLike_0 (by decide) ?_
  refine bv_istore_n 2 rfl C d_K_isLike_1 (by decide) ?_
  refine bv_wk [(0, .ref (ad k1)), (1, .ref (ad k2)), (2, .int (nI 0))] ⟨rfl, rfl, rfl, trivial⟩ ?_
  exact loop 8 0 (by omega)
theorem j_K_copyFrom {k1 k2 : Nat} (hI : II dd ad w) (h1 : bKy k1) (h2 : bKy k2) : bK l dd y_K_copyFrom 1 60 0 0 [.ref (ad k1), .ref (ad k2)] ad w 324 (bJ dd ad (fun v => v = none)) (bNo) := by
  have q1 := h1.1
  have q2 := h2.1
  obtain ⟨n, b, f, a1, a2⟩ := h1.at hI
  obtain ⟨n', b', f', b1, b2⟩ := h2.at hI
  refine bK.start [(0, .ref (ad k1)), (1, .ref (ad k2))] (by decide) t3_2 (Nat.le_of_ble_eq_true rfl) rfl (fun p e s m args below meth c A hnm C => ?_)
  refine bv_aload_n 1 rfl C d_K_copyFrom_0 rfl ?_
  refine bv_aload_n 2 rfl C d_K_copyFrom_1 rfl ?_
  refine bv_get k2 0 5 rfl C k_K (by omega) rfl b1 (by decide) t1_84 rfl d_K_copyFrom_2 ?_
  refine bv_put k1 0 8 rfl C k_K (by omega) rfl a1 (by decide) t1_84 rfl rfl rfl (Nat.le_of_ble_eq_true rfl) d_K_copyFrom_5 ?_
  refine bv_any (hI.up ((sh_13 h1.2.2.1).mpr ⟨_, _, rfl⟩)) (fun w1 hI1 => ?_)
  obtain ⟨n, b, f, a1, a2⟩ := h1.at hI1
  obtain ⟨n', b', f', b1, b2⟩ := h2.at hI1
  refine bv_aload_n 9 rfl C d_K_copyFrom_8 rfl ?_
  refine bv_aload_n 10 rfl C d_K_copyFrom_9 rfl ?_
  refine bv_get k2 1 13 rfl C k_K (by omega) rfl b1 (by decide) t1_86 rfl d_K_copyFrom_10 ?_
  refine bv_put k1 1 16 rfl C k_K (by omega) rfl a1 (by decide) t1_86 rfl rfl rfl (Nat.le_of_ble_eq_true rfl) d_K_copyFrom_13 ?_
  refine bv_any (hI1.up ((sh_13 h1.2.2.1).mpr ⟨_, _, rfl⟩)) (fun w2 hI2 => ?_)
  obtain ⟨n, b, f, a1, a2⟩ := h1.at hI2
  obtain ⟨n', b', f', b1, b2⟩ := h2.at hI2
  refine bv_aload_n 17 rfl C d_K_copyFrom_16 rfl ?_
  refine bv_get k2 2 20 rfl C k_K (by omega) rfl b1 (by decide) t1_87 rfl d_K_copyFrom_17 ?_
  refine bv_iconst (v := nI 0) 21 rfl C d_K_copyFrom_20 (by decide) ?_
  refine bv_aload_n 22 rfl C d_K_copyFrom_21 rfl ?_
  refine bv_get k1 2 25 rfl C k_K (by omega) rfl a1 (by decide) t1_87 rfl d_K_copyFrom_22 ?_
  refine bv_iconst (v := nI 0) 26 rfl C d_K_copyFrom_25 (by decide) ?_
  refine bv_bipush (v := nI 8) 28 rfl C d_K_copyFrom_26 (by decide) ?_
  refine bv_copyi (k2 + 1) (k1 + 1) 0 31 rfl C (sp := 0) (dp := 0) (n := 8) t3_3 t3_5 t3_4 t1_17 (by omega) rfl b2 (by omega) rfl a2 rfl rfl rfl (by decide) (by decide) (by decide) (by decide) (by decide) (by decide) d_K_copyFrom_28 ?_
  exact bv_return C rfl d_K_copyFrom_31 (Nat.le_refl _) (Nat.le_refl _) ⟨rfl, rfl, hI2.up ((sh_14 h1.2.2.2).mpr ⟨_, rfl⟩), rfl⟩
theorem j_K_byteOf {k1 : Nat} {x : Int32} (hI : II dd ad w) (h1 : bKy k1) : bK l dd y_K_byteOf 0 0 0 0 [.ref (ad k1), .int x] ad w 324 (bSame ad w 324 vI) (bNo) := by
  have q1 := h1.1
  obtain ⟨n, b, f, a1, a2⟩ := h1.at hI
  refine bK.start [(0, .ref (ad k1)), (1, .int x)] (by decide) t1_204 (Nat.le_of_ble_eq_true rfl) rfl (fun p e s m args below meth c A hnm C => ?_)
  refine bv_aload_n 1 rfl C d_K_byteOf_0 rfl ?_
  refine bv_get k1 1 4 rfl C k_K (by omega) rfl a1 (by decide) t1_86 rfl d_K_byteOf_1 ?_
  refine bv_bipush (v := nI 56) 6 rfl C d_K_byteOf_4 (by decide) ?_
  refine bv_bipush (v := nI 8) 8 rfl C d_K_byteOf_6 (by decide) ?_
  refine bv_iload_n 9 rfl C d_K_byteOf_8 rfl ?_
  refine bv_imul 10 rfl C d_K_byteOf_9 ?_
  refine bv_isub 11 rfl C d_K_byteOf_10 ?_
  refine bv_lushr 12 rfl C d_K_byteOf_11 rfl ?_
  refine bv_l2i 13 rfl C d_K_byteOf_12 rfl ?_
  refine bv_sipush (v := nI 255) 16 rfl C d_K_byteOf_13 (by decide) ?_
  refine bv_iand 17 rfl C d_K_byteOf_16 ?_
  exact bv_ireturn C rfl d_K_byteOf_17 (Nat.le_refl _) (Nat.le_refl _) ⟨rfl, rfl, rfl, _, rfl⟩
end bQ3

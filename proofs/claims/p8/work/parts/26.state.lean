section bStt
variable {l : Launch} {dd : bD} {ad : Nat → Nat} {w : Nat → va_E} {N : Nat} {ve : Int32} {so sb sk : Nat → Int32} {cl : Nat → Int32} {cb : Nat → Int64}
theorem ct_B_collect (hlt : bOff l) (hN : 305 ≤ N) (h0 : w 0 = oB ad (nI 0)) (hS : bSs dd ad w so sb sk) (hso : ∀ j, j < 5 → so j = 0) {wr cu : Int32} (h1 : w 1 = .inr (1, [.int wr, .int cu, .int (nI 0)])) {f0 : Nat → Int32} (h12 : w 12 = aI dd 48 f0) (hC : bCs dd ad w cl cb) (hcl : ∀ j, j < 48 → cl j = 0) :
    bK l dd y_B_collect 7 102 1 6 [.ref (ad 0)] ad w N (bFr ad w N (fun v => v = some (.int (nI 0)))) bNo := by
  obtain ⟨⟨f, hf, hf'⟩, hs⟩ := hC
  refine bK.start [(0, .ref (ad 0))] (by decide) t3_48 (Nat.le_of_ble_eq_true rfl) rfl (fun p e s m args below meth c A hnm C => ?_)
  refine bv_aload_n 1 rfl C d_B_collect_0 rfl ?_
  refine bv_get 0 0 4 rfl C k_B (by omega) rfl h0 (by decide) t1_146 rfl d_B_collect_1 ?_
  refine bv_call (rest := []) 7 rfl C d_B_collect_4 (ct_P_requireOn hlt (k := 1) (by omega) h1) i_P_requireOn t1_2 (fun H locs ls hP => bs_VN (av := []) 1 C i_P_requireOn n2_61 t2_63 s_18 (by omega) rfl h1 rfl (by decide) rfl rfl d_B_collect_4 H locs ls hP) ⟨by first | decide | omega, by first | decide | omega⟩ (by decide) (by decide) (Nat.le_of_ble_eq_true rfl) (fun v ad1 w1 N1 hpo => ?_) (fun x Cn ad' w' N' hth => ?_)
  · obtain ⟨rfl, rfl, rfl, rfl, -⟩ := hpo
    refine bv_aload_n 8 rfl C d_B_collect_7 rfl ?_
    refine bv_call (rest := []) 11 rfl C d_B_collect_8 (ct_B_countNeeds hN h0 hS hso h12) i_B_countNeeds t1_1 (fun H locs ls hP => bs_V (av := []) 0 C i_B_countNeeds t1_217 t1_219 s_5 (by omega) rfl h0 rfl (by decide) rfl rfl d_B_collect_8 H locs ls hP) ⟨by first | decide | omega, by first | decide | omega⟩ (by decide) (by decide) (Nat.le_of_ble_eq_true rfl) (fun v ad1 w1 N1 hpo => ?_) (fun x Cn ad' w' N' hth => hth.elim)
    obtain ⟨rfl, rfl, rfl, g, rfl⟩ := hpo
    have h0' : va_up w 12 (aI dd 48 g) 0 = oB ad (nI 0) := by rw [va_up_ne _ _ (by decide)]; exact h0
    have hs' : ∀ j, j < 48 → va_up w 12 (aI dd 48 g) (13 + 2 * j) = .inr (0, [.int (cl j), .long (cb j), .ref (ad (13 + 2 * j + 1))]) := fun j hj => by rw [va_up_ne _ _ (by omega)]; exact hs j hj
    have loop : ∀ (d i : Nat), i + d = 48 → bV p l e { frames := 7, cells := 1, slots := 6, locals := 102 } s m args below meth c dd A 3 1 6 (bFr ad w N (fun v => v = some (.int (nI 0)))) bNo 15 (bO [(0, .ref (ad 0)), (1, .int (nI 0)), (2, .int (nI i))]) [] ad (va_up w 12 (aI dd 48 g)) N 1 6 := by
      intro d
      induction d with
      | zero =>
        intro i hi
        obtain rfl : i = 48 := by omega
        refine bv_iload_n 16 rfl C d_B_collect_15 rfl ?_
        refine bv_bipush (v := nI 48) 18 rfl C d_B_collect_16 (by decide) ?_
        refine bv_icmp_ge 67 21 rfl C d_B_collect_18 (by decide) (fun h => ?_) (fun h => absurd (nI_le (by decide) (by decide)) h)
        refine bv_iload_n 68 rfl C d_B_collect_67 rfl ?_
        exact bv_ireturn C rfl d_B_collect_68 (Nat.le_refl _) (Nat.le_refl _) ⟨rfl, rfl, fun k hk => va_up_ne _ _ (by omega), rfl⟩
      | succ d ih =>
        intro i hi
        refine bv_iload_n 16 rfl C d_B_collect_15 rfl ?_
        refine bv_bipush (v := nI 48) 18 rfl C d_B_collect_16 (by decide) ?_
        refine bv_icmp_ge 67 21 rfl C d_B_collect_18 (by decide) (fun h => absurd h (nI_ge (by omega) (by decide))) (fun h => ?_)
        refine bv_aload_n 22 rfl C d_B_collect_21 rfl ?_
        refine bv_get 0 2 25 rfl C k_B (by omega) rfl h0' (by decide) t1_148 rfl d_B_collect_22 ?_
        refine bv_iload_n 26 rfl C d_B_collect_25 rfl ?_
        refine bv_aald 3 4 i 27 rfl C rfl (by omega) rfl (by rw [va_up_ne _ _ (by decide)]; exact hf) rfl (by omega) (by decide) d_B_collect_26 (hf' i (by omega)) ?_
        refine bv_call (rest := []) 30 rfl C d_B_collect_27 (ct_K_isFree (k := 13 + 2 * i) (by omega) (hs' i (by omega))) i_K_isFree t1_5 (fun H locs ls hP => bs_VN (av := []) (13 + 2 * i) C i_K_isFree n1_213 t1_215 s_4 (by omega) rfl (hs' i (by omega)) rfl (by decide) rfl rfl d_B_collect_27 H locs ls hP) ⟨by first | decide | omega, by first | decide | omega⟩ (by decide) (by decide) (Nat.le_of_ble_eq_true rfl) (fun v ad1 w1 N1 hpo => ?_) (fun x Cn ad' w' N' hth => hth.elim)
        obtain ⟨rfl, rfl, rfl, rfl⟩ := hpo
        rw [if_pos (hcl i (by omega))]
        refine bv_if_ne 61 33 rfl C d_B_collect_30 (by decide) (fun h => ?_) (fun h => absurd h (show ¬ nI 1 = 0 by decide))
        refine bv_iinc 64 rfl C d_B_collect_61 rfl (by first | exact b_inc _ | rfl) (by decide) ?_
        refine bv_goto 15 C d_B_collect_64 (by decide) ?_
        refine bv_wk [(0, .ref (ad 0)), (1, .int (nI 0)), (2, .int (nI (i + 1)))] ⟨rfl, rfl, rfl, trivial⟩ ?_
        exact ih (i + 1) (by omega)
    refine bv_iconst (v := nI 0) 12 rfl C d_B_collect_11 (by decide) ?_
    refine bv_istore_n 13 rfl C d_B_collect_12 (by decide) ?_
    refine bv_iconst (v := nI 0) 14 rfl C d_B_collect_13 (by decide) ?_
    refine bv_istore_n 15 rfl C d_B_collect_14 (by decide) ?_
    refine bv_wk [(0, .ref (ad 0)), (1, .int (nI 0)), (2, .int (nI 0))] ⟨rfl, rfl, rfl, trivial⟩ ?_
    exact loop 48 0 rfl
  · obtain ⟨-, -, -, -, hz⟩ := hth
    exact absurd rfl hz
theorem ct_B_needed (hN : 305 ≤ N) (h0 : w 0 = oB ad ve) (hC : bCs dd ad w cl cb) (hcl : ∀ j, j < 48 → cl j = 0) {x : Int32} : bK l dd y_B_needed 2 41 0 0 [.ref (ad 0), .int x] ad w N (bSame ad w N (fun v => v = some (.int (-1)))) bNo := by
  refine bK.start [(0, .ref (ad 0)), (1, .int x)] (by decide) t1_208 (Nat.le_of_ble_eq_true rfl) rfl (fun p e s m args below meth c A hnm C => ?_)
  refine bv_aload_n 1 rfl C d_B_needed_0 rfl ?_
  refine bv_iload_n 2 rfl C d_B_needed_1 rfl ?_
  refine bv_call (rest := []) 5 rfl C d_B_needed_2 (ct_B_hasChunk hN h0 hC) i_B_hasChunk t1_1 (fun H locs ls hP => bs_V (av := [.int x]) 0 C i_B_hasChunk t1_209 t1_211 s_3 (by omega) rfl h0 rfl (by decide) rfl rfl d_B_needed_2 H locs ls hP) ⟨by first | decide | omega, by first | decide | omega⟩ (by decide) (by decide) (Nat.le_of_ble_eq_true rfl) (fun v ad1 w1 N1 hpo => ?_) (fun x Cn ad' w' N' hth => hth.elim)
  obtain ⟨rfl, rfl, rfl, hv⟩ := hpo
  rcases hv with ⟨-, i, hi, -, ho⟩ | ⟨rfl, -⟩
  · exact absurd (hcl i hi) ho
  · refine bv_if_ne 10 8 rfl C d_B_needed_5 (by decide) (fun h => absurd (show nI 0 = 0 by decide) h) (fun h => ?_)
    refine bv_iconst (v := -1) 9 rfl C d_B_needed_8 (by decide) ?_
    exact bv_ireturn C rfl d_B_needed_9 (Nat.le_refl _) (Nat.le_refl _) ⟨rfl, rfl, rfl, rfl⟩
theorem ct_B_countChunks (hN : 305 ≤ N) (h0 : w 0 = oB ad ve) (hC : bCs dd ad w cl cb) (hcl : ∀ j, j < 48 → cl j = 0) : bK l dd y_B_countChunks 1 20 0 0 [.ref (ad 0)] ad w N (bSame ad w N (fun v => v = some (.int (nI 0)))) bNo := by
  obtain ⟨⟨f, hf, hf'⟩, hs⟩ := hC
  refine bK.start [(0, .ref (ad 0))] (by decide) t2_42 (Nat.le_of_ble_eq_true rfl) rfl (fun p e s m args below meth c A hnm C => ?_)
  have loop : ∀ (d i : Nat), i + d = 48 → bV p l e { frames := 1, cells := 0, slots := 0, locals := 20 } s m args below meth c dd A 3 0 0 (bSame ad w N (fun v => v = some (.int (nI 0)))) bNo 4 (bO [(0, .ref (ad 0)), (1, .int (nI 0)), (2, .int (nI i))]) [] ad w N 0 0 := by
    intro d
    induction d with
    | zero =>
      intro i hi
      obtain rfl : i = 48 := by omega
      refine bv_iload_n 5 rfl C d_B_countChunks_4 rfl ?_
      refine bv_bipush (v := nI 48) 7 rfl C d_B_countChunks_5 (by decide) ?_
      refine bv_icmp_ge 36 10 rfl C d_B_countChunks_7 (by decide) (fun h => ?_) (fun h => absurd (nI_le (by decide) (by decide)) h)
      refine bv_iload_n 37 rfl C d_B_countChunks_36 rfl ?_
      exact bv_ireturn C rfl d_B_countChunks_37 (Nat.le_refl _) (Nat.le_refl _) ⟨rfl, rfl, rfl, rfl⟩
    | succ d ih =>
      intro i hi
      refine bv_iload_n 5 rfl C d_B_countChunks_4 rfl ?_
      refine bv_bipush (v := nI 48) 7 rfl C d_B_countChunks_5 (by decide) ?_
      refine bv_icmp_ge 36 10 rfl C d_B_countChunks_7 (by decide) (fun h => absurd h (nI_ge (by omega) (by decide))) (fun h => ?_)
      refine bv_iload_n 11 rfl C d_B_countChunks_10 rfl ?_
      refine bv_aload_n 12 rfl C d_B_countChunks_11 rfl ?_
      refine bv_get 0 2 15 rfl C k_B (by omega) rfl h0 (by decide) t1_148 rfl d_B_countChunks_12 ?_
      refine bv_iload_n 16 rfl C d_B_countChunks_15 rfl ?_
      refine bv_aald 3 4 i 17 rfl C rfl (by omega) rfl hf rfl (by omega) (by decide) d_B_countChunks_16 (hf' i (by omega)) ?_
      refine bv_call (rest := [.int (nI 0)]) 20 rfl C d_B_countChunks_17 (ct_K_isFree (k := 13 + 2 * i) (by omega) (hs i (by omega))) i_K_isFree t1_5 (fun H locs ls hP => bs_VN (av := []) (13 + 2 * i) C i_K_isFree n1_213 t1_215 s_4 (by omega) rfl (hs i (by omega)) rfl (by decide) rfl rfl d_B_countChunks_17 H locs ls hP) ⟨by first | decide | omega, by first | decide | omega⟩ (by decide) (by decide) (Nat.le_of_ble_eq_true rfl) (fun v ad1 w1 N1 hpo => ?_) (fun x Cn ad' w' N' hth => hth.elim)
      obtain ⟨rfl, rfl, rfl, rfl⟩ := hpo
      rw [if_pos (hcl i (by omega))]
      refine bv_if_eq 27 23 rfl C d_B_countChunks_20 (by decide) (fun h => absurd h (show ¬ nI 1 = 0 by decide)) (fun h => ?_)
      refine bv_iconst (v := nI 0) 24 rfl C d_B_countChunks_23 (by decide) ?_
      refine bv_goto 28 C d_B_countChunks_24 (by decide) ?_
      refine bv_iadd 29 rfl C d_B_countChunks_28 ?_
      refine bv_seti (nI 0) (by decide) ?_
      refine bv_istore_n 30 rfl C d_B_countChunks_29 (by decide) ?_
      refine bv_iinc 33 rfl C d_B_countChunks_30 rfl (by first | exact b_inc _ | rfl) (by decide) ?_
      refine bv_goto 4 C d_B_countChunks_33 (by decide) ?_
      refine bv_wk [(0, .ref (ad 0)), (1, .int (nI 0)), (2, .int (nI (i + 1)))] ⟨rfl, rfl, rfl, trivial⟩ ?_
      exact ih (i + 1) (by omega)
  refine bv_iconst (v := nI 0) 1 rfl C d_B_countChunks_0 (by decide) ?_
  refine bv_istore_n 2 rfl C d_B_countChunks_1 (by decide) ?_
  refine bv_iconst (v := nI 0) 3 rfl C d_B_countChunks_2 (by decide) ?_
  refine bv_istore_n 4 rfl C d_B_countChunks_3 (by decide) ?_
  refine bv_wk [(0, .ref (ad 0)), (1, .int (nI 0)), (2, .int (nI 0))] ⟨rfl, rfl, rfl, trivial⟩ ?_
  exact loop 48 0 rfl
theorem ct_B_countOpenSessions (hN : 305 ≤ N) (h0 : w 0 = oB ad ve) (hS : bSs dd ad w so sb sk) (hso : ∀ j, j < 5 → so j = 0) : bK l dd y_B_countOpenSessions 0 0 0 0 [.ref (ad 0)] ad w N (bSame ad w N (fun v => v = some (.int (nI 0)))) bNo := by
  obtain ⟨⟨f, hf, hf'⟩, hs⟩ := hS
  refine bK.start [(0, .ref (ad 0))] (by decide) t2_46 (Nat.le_of_ble_eq_true rfl) rfl (fun p e s m args below meth c A hnm C => ?_)
  have loop : ∀ (d i : Nat), i + d = 5 → bV p l e { frames := 0, cells := 0, slots := 0, locals := 0 } s m args below meth c dd A 3 0 0 (bSame ad w N (fun v => v = some (.int (nI 0)))) bNo 4 (bO [(0, .ref (ad 0)), (1, .int (nI 0)), (2, .int (nI i))]) [] ad w N 0 0 := by
    intro d
    induction d with
    | zero =>
      intro i hi
      obtain rfl : i = 5 := by omega
      refine bv_iload_n 5 rfl C d_B_countOpenSessions_4 rfl ?_
      refine bv_iconst (v := nI 5) 6 rfl C d_B_countOpenSessions_5 (by decide) ?_
      refine bv_icmp_ge 35 9 rfl C d_B_countOpenSessions_6 (by decide) (fun h => ?_) (fun h => absurd (nI_le (by decide) (by decide)) h)
      refine bv_iload_n 36 rfl C d_B_countOpenSessions_35 rfl ?_
      exact bv_ireturn C rfl d_B_countOpenSessions_36 (Nat.le_refl _) (Nat.le_refl _) ⟨rfl, rfl, rfl, rfl⟩
    | succ d ih =>
      intro i hi
      refine bv_iload_n 5 rfl C d_B_countOpenSessions_4 rfl ?_
      refine bv_iconst (v := nI 5) 6 rfl C d_B_countOpenSessions_5 (by decide) ?_
      refine bv_icmp_ge 35 9 rfl C d_B_countOpenSessions_6 (by decide) (fun h => absurd h (nI_ge (by omega) (by decide))) (fun h => ?_)
      refine bv_iload_n 10 rfl C d_B_countOpenSessions_9 rfl ?_
      refine bv_aload_n 11 rfl C d_B_countOpenSessions_10 rfl ?_
      refine bv_get 0 3 14 rfl C k_B (by omega) rfl h0 (by decide) t1_149 rfl d_B_countOpenSessions_11 ?_
      refine bv_iload_n 15 rfl C d_B_countOpenSessions_14 rfl ?_
      refine bv_aald 5 5 i 16 rfl C rfl (by omega) rfl hf rfl (by omega) (by decide) d_B_countOpenSessions_15 (hf' i (by omega)) ?_
      refine bv_getN (109 + 14 * i) 0 19 rfl C k_S (by omega) rfl (hs i (by omega)) (by decide) n1_105 rfl d_B_countOpenSessions_16 ?_
      refine bv_if_eq 26 22 rfl C d_B_countOpenSessions_19 (by decide) (fun h => ?_) (fun h => absurd (hso i (by omega)) h)
      refine bv_iconst (v := nI 0) 27 rfl C d_B_countOpenSessions_26 (by decide) ?_
      refine bv_iadd 28 rfl C d_B_countOpenSessions_27 ?_
      refine bv_seti (nI 0) (by decide) ?_
      refine bv_istore_n 29 rfl C d_B_countOpenSessions_28 (by decide) ?_
      refine bv_iinc 32 rfl C d_B_countOpenSessions_29 rfl (by first | exact b_inc _ | rfl) (by decide) ?_
      refine bv_goto 4 C d_B_countOpenSessions_32 (by decide) ?_
      refine bv_wk [(0, .ref (ad 0)), (1, .int (nI 0)), (2, .int (nI (i + 1)))] ⟨rfl, rfl, rfl, trivial⟩ ?_
      exact ih (i + 1) (by omega)
  refine bv_iconst (v := nI 0) 1 rfl C d_B_countOpenSessions_0 (by decide) ?_
  refine bv_istore_n 2 rfl C d_B_countOpenSessions_1 (by decide) ?_
  refine bv_iconst (v := nI 0) 3 rfl C d_B_countOpenSessions_2 (by decide) ?_
  refine bv_istore_n 4 rfl C d_B_countOpenSessions_3 (by decide) ?_
  refine bv_wk [(0, .ref (ad 0)), (1, .int (nI 0)), (2, .int (nI 0))] ⟨rfl, rfl, rfl, trivial⟩ ?_
  exact loop 5 0 rfl
theorem ct_B_countLivingVersions (hN : 305 ≤ N) (h0 : w 0 = oB ad (nI 0)) : bK l dd y_B_countLivingVersions 0 0 0 0 [.ref (ad 0)] ad w N (bSame ad w N (fun v => v = some (.int (nI 0)))) bNo := by
  refine bK.start [(0, .ref (ad 0))] (by decide) t2_50 (Nat.le_of_ble_eq_true rfl) rfl (fun p e s m args below meth c A hnm C => ?_)
  refine bv_iconst (v := nI 0) 1 rfl C d_B_countLivingVersions_0 (by decide) ?_
  refine bv_istore_n 2 rfl C d_B_countLivingVersions_1 (by decide) ?_
  refine bv_iconst (v := nI 0) 3 rfl C d_B_countLivingVersions_2 (by decide) ?_
  refine bv_istore_n 4 rfl C d_B_countLivingVersions_3 (by decide) ?_
  refine bv_iload_n 5 rfl C d_B_countLivingVersions_4 rfl ?_
  refine bv_aload_n 6 rfl C d_B_countLivingVersions_5 rfl ?_
  refine bv_get 0 5 9 rfl C k_B (by omega) rfl h0 (by decide) t1_151 rfl d_B_countLivingVersions_6 ?_
  refine bv_icmp_ge 38 12 rfl C d_B_countLivingVersions_9 (by decide) (fun h => ?_) (fun h => absurd (show nI 0 ≤ nI 0 by decide) h)
  refine bv_iload_n 39 rfl C d_B_countLivingVersions_38 rfl ?_
  exact bv_ireturn C rfl d_B_countLivingVersions_39 (Nat.le_refl _) (Nat.le_refl _) ⟨rfl, rfl, rfl, rfl⟩
/-- a number is out of a range, or one of it -/
theorem b_rng (x : Int32) (n : Nat) (hn : n < 2 ^ 31) : (x.toInt < 0 ∨ (n : Int) < x.toInt) ∨ ∃ k : Nat, k ≤ n ∧ x = nI k := by
  by_cases h1 : x.toInt < 0
  · exact Or.inl (Or.inl h1)
  · by_cases h2 : (n : Int) < x.toInt
    · exact Or.inl (Or.inr h2)
    · refine Or.inr ⟨x.toInt.toNat, by omega, ?_⟩
      have h3 : (nI x.toInt.toNat).toInt = x.toInt := by rw [nI_toInt (by omega)]; omega
      exact (Int32.toInt_inj.mp h3).symm
theorem ct_B_state (hN : 305 ≤ N) (h0 : w 0 = oB ad (nI 0)) (hS : bSs dd ad w so sb sk) (hso : ∀ j, j < 5 → so j = 0) {cu : Int32} (h1 : w 1 = .inr (1, [.int (nI 0), .int cu, .int (nI 0)])) (hC : bCs dd ad w cl cb) (hcl : ∀ j, j < 48 → cl j = 0) {x : Int32} : bK l dd y_B_state 2 42 0 0 [.ref (ad 0), .int x] ad w N (bSame ad w N (fun v => v = some (.int (stv x)))) bNo := by
  refine bK.start [(0, .ref (ad 0)), (1, .int x)] (by decide) t2_38 (Nat.le_of_ble_eq_true rfl) rfl (fun p e s m args below meth c A hnm C => ?_)
  refine bv_iload_n 1 rfl C d_B_state_0 rfl ?_
  rcases b_rng x 7 (by decide) with h | ⟨k, hk, rfl⟩
  · refine bv_tabOut 144 C d_B_state_1 h (by decide) ?_
    refine bv_iconst (v := -1) 145 rfl C d_B_state_144 (by decide) ?_
    exact bv_ireturn C rfl d_B_state_145 (by decide) (by decide) ⟨rfl, rfl, rfl, by rw [stv, if_pos (by omega)]⟩
  · rcases (show k = 0 ∨ k = 1 ∨ k = 2 ∨ k = 3 ∨ k = 4 ∨ k = 5 ∨ k = 6 ∨ k = 7 by omega) with rfl | rfl | rfl | rfl | rfl | rfl | rfl | rfl
    · refine bv_tabIn 48 C d_B_state_1 (by decide) (by decide) rfl (by decide) ?_
      refine bv_aload_n 49 rfl C d_B_state_48 rfl ?_
      refine bv_call (rest := []) 52 rfl C d_B_state_49 (ct_B_countChunks hN h0 hC hcl) i_B_countChunks t1_1 (fun H locs ls hP => bs_V (av := []) 0 C i_B_countChunks t2_39 t2_41 s_15 (by omega) rfl h0 rfl (by decide) rfl rfl d_B_state_49 H locs ls hP) ⟨by first | decide | omega, by first | decide | omega⟩ (by decide) (by decide) (Nat.le_of_ble_eq_true rfl) (fun v ad1 w1 N1 hpo => ?_) (fun x Cn ad' w' N' hth => hth.elim)
      obtain ⟨rfl, rfl, rfl, rfl⟩ := hpo
      exact bv_ireturn C rfl d_B_state_52 (by decide) (by decide) ⟨rfl, rfl, rfl, by decide⟩
    · refine bv_tabIn 53 C d_B_state_1 (by decide) (by decide) rfl (by decide) ?_
      refine bv_aload_n 54 rfl C d_B_state_53 rfl ?_
      refine bv_call (rest := []) 57 rfl C d_B_state_54 (ct_B_countOpenSessions hN h0 hS hso) i_B_countOpenSessions t1_1 (fun H locs ls hP => bs_V (av := []) 0 C i_B_countOpenSessions t2_43 t2_45 s_16 (by omega) rfl h0 rfl (by decide) rfl rfl d_B_state_54 H locs ls hP) ⟨by first | decide | omega, by first | decide | omega⟩ (by decide) (by decide) (Nat.le_of_ble_eq_true rfl) (fun v ad1 w1 N1 hpo => ?_) (fun x Cn ad' w' N' hth => hth.elim)
      obtain ⟨rfl, rfl, rfl, rfl⟩ := hpo
      exact bv_ireturn C rfl d_B_state_57 (by decide) (by decide) ⟨rfl, rfl, rfl, by decide⟩
    · refine bv_tabIn 58 C d_B_state_1 (by decide) (by decide) rfl (by decide) ?_
      refine bv_aload_n 59 rfl C d_B_state_58 rfl ?_
      refine bv_call (rest := []) 62 rfl C d_B_state_59 (ct_B_countLivingVersions hN h0) i_B_countLivingVersions t1_1 (fun H locs ls hP => bs_V (av := []) 0 C i_B_countLivingVersions t2_47 t2_49 s_17 (by omega) rfl h0 rfl (by decide) rfl rfl d_B_state_59 H locs ls hP) ⟨by first | decide | omega, by first | decide | omega⟩ (by decide) (by decide) (Nat.le_of_ble_eq_true rfl) (fun v ad1 w1 N1 hpo => ?_) (fun x Cn ad' w' N' hth => hth.elim)
      obtain ⟨rfl, rfl, rfl, rfl⟩ := hpo
      exact bv_ireturn C rfl d_B_state_62 (by decide) (by decide) ⟨rfl, rfl, rfl, by decide⟩
    · refine bv_tabIn 63 C d_B_state_1 (by decide) (by decide) rfl (by decide) ?_
      refine bv_aload_n 64 rfl C d_B_state_63 rfl ?_
      refine bv_get 0 5 67 rfl C k_B (by omega) rfl h0 (by decide) t1_151 rfl d_B_state_64 ?_
      exact bv_ireturn C rfl d_B_state_67 (by decide) (by decide) ⟨rfl, rfl, rfl, by decide⟩
    · refine bv_tabIn 68 C d_B_state_1 (by decide) (by decide) rfl (by decide) ?_
      refine bv_aload_n 69 rfl C d_B_state_68 rfl ?_
      refine bv_get 0 0 72 rfl C k_B (by omega) rfl h0 (by decide) t1_146 rfl d_B_state_69 ?_
      refine bv_getN 1 0 75 rfl C k_P (by omega) rfl h1 (by decide) n1_35 rfl d_B_state_72 ?_
      exact bv_ireturn C rfl d_B_state_75 (by decide) (by decide) ⟨rfl, rfl, rfl, by decide⟩
    · refine bv_tabIn 76 C d_B_state_1 (by decide) (by decide) rfl (by decide) ?_
      refine bv_aload_n 77 rfl C d_B_state_76 rfl ?_
      refine bv_get 0 0 80 rfl C k_B (by omega) rfl h0 (by decide) t1_146 rfl d_B_state_77 ?_
      refine bv_getN 1 2 83 rfl C k_P (by omega) rfl h1 (by decide) n1_38 rfl d_B_state_80 ?_
      refine bv_if_eq 90 86 rfl C d_B_state_83 (by decide) (fun h => ?_) (fun h => absurd (show nI 0 = 0 by decide) h)
      refine bv_iconst (v := nI 0) 91 rfl C d_B_state_90 (by decide) ?_
      exact bv_ireturn C rfl d_B_state_91 (by decide) (by decide) ⟨rfl, rfl, rfl, by decide⟩
    · refine bv_tabIn 92 C d_B_state_1 (by decide) (by decide) rfl (by decide) ?_
      refine bv_aload_n 93 rfl C d_B_state_92 rfl ?_
      refine bv_get 0 5 96 rfl C k_B (by omega) rfl h0 (by decide) t1_151 rfl d_B_state_93 ?_
      refine bv_if_ne 103 99 rfl C d_B_state_96 (by decide) (fun h => absurd (show nI 0 = 0 by decide) h) (fun h => ?_)
      refine bv_iconst (v := -1) 100 rfl C d_B_state_99 (by decide) ?_
      refine bv_goto 117 C d_B_state_100 (by decide) ?_
      exact bv_ireturn C rfl d_B_state_117 (by decide) (by decide) ⟨rfl, rfl, rfl, by decide⟩
    · refine bv_tabIn 118 C d_B_state_1 (by decide) (by decide) rfl (by decide) ?_
      refine bv_aload_n 119 rfl C d_B_state_118 rfl ?_
      refine bv_get 0 5 122 rfl C k_B (by omega) rfl h0 (by decide) t1_151 rfl d_B_state_119 ?_
      refine bv_if_ne 129 125 rfl C d_B_state_122 (by decide) (fun h => absurd (show nI 0 = 0 by decide) h) (fun h => ?_)
      refine bv_iconst (v := -1) 126 rfl C d_B_state_125 (by decide) ?_
      refine bv_goto 143 C d_B_state_126 (by decide) ?_
      exact bv_ireturn C rfl d_B_state_143 (by decide) (by decide) ⟨rfl, rfl, rfl, by decide⟩
end bStt

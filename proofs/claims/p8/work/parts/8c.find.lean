section bQ13
variable {l : Launch} {dd : bD} {ad : Nat → Nat} {w : Nat → va_E}
/-- the slot s has the n bytes that stand in the row at a -/
def Th (fz fb fr : Nat → Int32) (a n s : Nat) : Prop := fz s = nI n ∧ ∀ k, k < n → fb (8 * s + k) = fr (a + k)
/-- the size of the chunk at a of n bytes -/
def cs (n a : Nat) : Nat := if n - a < 8 then n - a else 8
theorem cs_le (n a : Nat) : cs n a ≤ 8 := by unfold cs; split <;> omega
theorem cs_le2 {n a : Nat} : a + cs n a ≤ max n a := by unfold cs; split <;> omega
theorem cs_pos {n a : Nat} (h : a < n) : 1 ≤ cs n a := by unfold cs; split <;> omega
theorem cs_8 {n i j : Nat} (h : j < i) (h2 : 8 * i < n) : cs n (8 * j) = 8 := by unfold cs; rw [if_neg (by omega)]
theorem b_inc8 (i : Nat) : nI (8 * i) + Int32.ofInt 8 = nI (8 * (i + 1)) := by
  have h : Int32.ofInt 8 = nI 8 := by decide
  rw [h, nI_add]
  rfl
theorem j_M_chunkSize {n a : Nat} (hn : n ≤ 24) (ha : a ≤ n) : bK l dd y_M_chunkSize 0 0 0 0 [.int (nI n), .int (nI a)] ad w 324 (bSame ad w 324 (fun v => v = some (.int (nI (cs n a))))) (bNo) := by
  refine bK.start [(0, .int (nI n)), (1, .int (nI a))] (by decide) t3_214 (Nat.le_of_ble_eq_true rfl) rfl (fun p e s m args below meth c A hnm C => ?_)
  refine bv_iload_n 1 rfl C d_M_chunkSize_0 rfl ?_
  refine bv_iload_n 2 rfl C d_M_chunkSize_1 rfl ?_
  refine bv_isub 3 rfl C d_M_chunkSize_2 ?_
  refine bv_seti (nI (n-a)) (pk_sub ha) ?_
  refine bv_bipush (v := nI 8) 5 rfl C d_M_chunkSize_3 (by decide) ?_
  refine bv_icmp_ge 14 8 rfl C d_M_chunkSize_5 (by decide) (fun x1 => ?_) (fun x1 => ?_)
  · have h8 : 8 ≤ n - a := (nI_leI (by decide) (by omega)).mp x1
    refine bv_bipush (v := nI 8) 16 rfl C d_M_chunkSize_14 (by decide) ?_
    exact bv_ireturn C rfl d_M_chunkSize_16 (Nat.le_refl _) (Nat.le_refl _) ⟨rfl, rfl, rfl, by unfold cs; rw [if_neg (by omega)]⟩
  · have h8 : n - a < 8 := Nat.lt_of_not_le (fun q => x1 (nI_le q (by omega)))
    refine bv_iload_n 9 rfl C d_M_chunkSize_8 rfl ?_
    refine bv_iload_n 10 rfl C d_M_chunkSize_9 rfl ?_
    refine bv_isub 11 rfl C d_M_chunkSize_10 ?_
    refine bv_seti (nI (n-a)) (pk_sub ha) ?_
    refine bv_goto 16 C d_M_chunkSize_11 (by decide) ?_
    exact bv_ireturn C rfl d_M_chunkSize_16 (Nat.le_refl _) (Nat.le_refl _) ⟨rfl, rfl, rfl, by unfold cs; rw [if_pos h8]⟩
theorem j_M_isThere {fz fb fr : Nat → Int32} {s0 a n : Nat} (hI : II dd ad w) (hz : w 306 = aI dd 48 fz) (hb : w 307 = aI dd 384 fb) (hr : w 321 = aI dd 24 fr) (hs : s0 < 48) (hn : n ≤ 8) (ha : a + n ≤ 24) : bK l dd y_M_isThere 0 0 0 0 [.ref (ad 305), .int (nI s0), .int (nI a), .int (nI n)] ad w 324 (bSame ad w 324 (fun v => (Th fz fb fr a n s0 ∧ v = some (.int (nI 1))) ∨ (¬ Th fz fb fr a n s0 ∧ v = some (.int (nI 0))))) (bNo) := by
  obtain ⟨th, V, wr, cu, dn, hV, hd, hm⟩ := hI.k305 (k := 305) (by decide) (by decide)
  refine bK.start [(0, .ref (ad 305)), (1, .int (nI s0)), (2, .int (nI a)), (3, .int (nI n))] (by decide) t3_222 (Nat.le_of_ble_eq_true rfl) rfl (fun p e s m args below meth c A hnm C => ?_)
  refine bv_aload_n 1 rfl C d_M_isThere_0 rfl ?_
  refine bv_get 305 1 4 rfl C k_M (by omega) rfl hm (by decide) t3_108 rfl d_M_isThere_1 ?_
  refine bv_iload_n 5 rfl C d_M_isThere_4 rfl ?_
  refine bv_iald 306 s0 6 rfl C (by omega) rfl hz rfl hs (by decide) d_M_isThere_5 ?_
  refine bv_iload_n 7 rfl C d_M_isThere_6 rfl ?_
  refine bv_icmp_eq 12 10 rfl C d_M_isThere_7 (by decide) (fun x1 => ?_) (fun x1 => ?_)
  · have loop : ∀ (d k : Nat), k + d = n → (∀ k', k' < k → fb (8 * s0 + k') = fr (a + k')) → bV p l e { frames := 0, cells := 0, slots := 0, locals := 0 } s m args below meth c dd A 5 0 0 (bSame ad w 324 (fun v => (Th fz fb fr a n s0 ∧ v = some (.int (nI 1))) ∨ (¬ Th fz fb fr a n s0 ∧ v = some (.int (nI 0))))) (bNo) 15 (bO [(0, .ref (ad 305)), (1, .int (nI s0)), (2, .int (nI a)), (3, .int (nI n)), (4, .int (nI k))]) [] ad w 324 0 0 := by
      intro d
      induction d with
      | zero =>
        intro k hk hq
        refine bv_iload 17 rfl C d_M_isThere_15 rfl ?_
        refine bv_iload_n 18 rfl C d_M_isThere_17 rfl ?_
        refine bv_icmp_ge 53 21 rfl C d_M_isThere_18 (by decide) (fun h => ?_) (fun h => absurd (nI_le (show n ≤ k by omega) (by omega)) h)
        refine bv_iconst (v := nI 1) 54 rfl C d_M_isThere_53 (by decide) ?_
        exact bv_zreturn C rfl (Or.inr rfl) d_M_isThere_54 (by decide) (by decide) ⟨rfl, rfl, rfl, Or.inl ⟨⟨x1, fun k' hk' => hq k' (by omega)⟩, rfl⟩⟩
      | succ d ih =>
        intro k hk hq
        refine bv_iload 17 rfl C d_M_isThere_15 rfl ?_
        refine bv_iload_n 18 rfl C d_M_isThere_17 rfl ?_
        refine bv_icmp_ge 53 21 rfl C d_M_isThere_18 (by decide) (fun h => absurd h (nI_ge (show k < n by omega) (by omega))) (fun h => ?_)
        refine bv_aload_n 22 rfl C d_M_isThere_21 rfl ?_
        refine bv_get 305 2 25 rfl C k_M (by omega) rfl hm (by decide) t3_109 rfl d_M_isThere_22 ?_
        refine bv_bipush (v := nI 8) 27 rfl C d_M_isThere_25 (by decide) ?_
        refine bv_iload_n 28 rfl C d_M_isThere_27 rfl ?_
        refine bv_imul 29 rfl C d_M_isThere_28 ?_
        refine bv_iload 31 rfl C d_M_isThere_29 rfl ?_
        refine bv_iadd 32 rfl C d_M_isThere_31 ?_
        refine bv_iald 307 (8*s0+k) 33 rfl C (by omega) rfl hb (by rw [pk_mul, nI_add]) (by omega) (by decide) d_M_isThere_32 ?_
        refine bv_aload_n 34 rfl C d_M_isThere_33 rfl ?_
        refine bv_get 305 20 37 rfl C k_M (by omega) rfl hm (by decide) t3_127 rfl d_M_isThere_34 ?_
        refine bv_iload_n 38 rfl C d_M_isThere_37 rfl ?_
        refine bv_iload 40 rfl C d_M_isThere_38 rfl ?_
        refine bv_iadd 41 rfl C d_M_isThere_40 ?_
        refine bv_iald 321 (a+k) 42 rfl C (by omega) rfl hr (nI_add a k) (by omega) (by decide) d_M_isThere_41 ?_
        refine bv_icmp_eq 47 45 rfl C d_M_isThere_42 (by decide) (fun x2 => ?_) (fun x2 => ?_)
        · refine bv_iinc 50 rfl C d_M_isThere_47 rfl (by first | exact b_inc _ | rfl) (by decide) ?_
          refine bv_goto 15 C d_M_isThere_50 (by decide) ?_
          refine bv_wk [(0, .ref (ad 305)), (1, .int (nI s0)), (2, .int (nI a)), (3, .int (nI n)), (4, .int (nI (k + 1)))] ⟨rfl, rfl, rfl, rfl, rfl, trivial⟩ ?_
          refine ih (k + 1) (by omega) (fun k' hk' => ?_)
          by_cases e : k' = k
          · rw [e]; exact x2
          · exact hq k' (by omega)
        · refine bv_iconst (v := nI 0) 46 rfl C d_M_isThere_45 (by decide) ?_
          exact bv_zreturn C rfl (Or.inl rfl) d_M_isThere_46 (by decide) (by decide) ⟨rfl, rfl, rfl, Or.inr ⟨fun h => x2 (h.2 k (by omega)), rfl⟩⟩
    refine bv_iconst (v := nI 0) 13 rfl C d_M_isThere_12 (by decide) ?_
    refine bv_istore 15 rfl C d_M_isThere_13 (by decide) ?_
    refine bv_wk [(0, .ref (ad 305)), (1, .int (nI s0)), (2, .int (nI a)), (3, .int (nI n)), (4, .int (nI 0))] ⟨rfl, rfl, rfl, rfl, rfl, trivial⟩ ?_
    exact loop n 0 (by omega) (fun k hk => absurd hk (Nat.not_lt_zero k))
  · refine bv_iconst (v := nI 0) 11 rfl C d_M_isThere_10 (by decide) ?_
    exact bv_zreturn C rfl (Or.inl rfl) d_M_isThere_11 (by decide) (by decide) ⟨rfl, rfl, rfl, Or.inr ⟨fun h => x1 h.1, rfl⟩⟩
theorem j_M_find {fz fb fr : Nat → Int32} {a n : Nat} (hI : II dd ad w) (hz : w 306 = aI dd 48 fz) (hb : w 307 = aI dd 384 fb) (hr : w 321 = aI dd 24 fr) (hn : n ≤ 8) (ha : a + n ≤ 24) : bK l dd y_M_find 1 24 0 0 [.ref (ad 305), .int (nI a), .int (nI n)] ad w 324 (bSame ad w 324 (fun v => ((∀ s, s < 48 → ¬ Th fz fb fr a n s) ∧ v = some (.int (-1))) ∨ ∃ s, s < 48 ∧ Th fz fb fr a n s ∧ v = some (.int (nI s)))) (bNo) := by
  obtain ⟨th, V, wr, cu, dn, hV, hd, hm⟩ := hI.k305 (k := 305) (by decide) (by decide)
  refine bK.start [(0, .ref (ad 305)), (1, .int (nI a)), (2, .int (nI n))] (by decide) t3_218 (Nat.le_of_ble_eq_true rfl) rfl (fun p e s m args below meth c A hnm C => ?_)
  have loop : ∀ (d i : Nat), i + d = 48 → (∀ s, s < i → ¬ Th fz fb fr a n s) → bV p l e { frames := 1, cells := 0, slots := 0, locals := 24 } s m args below meth c dd A 4 0 0 (bSame ad w 324 (fun v => ((∀ s, s < 48 → ¬ Th fz fb fr a n s) ∧ v = some (.int (-1))) ∨ ∃ s, s < 48 ∧ Th fz fb fr a n s ∧ v = some (.int (nI s)))) (bNo) 2 (bO [(0, .ref (ad 305)), (1, .int (nI a)), (2, .int (nI n)), (3, .int (nI i))]) [] ad w 324 0 0 := by
    intro d
    induction d with
    | zero =>
      intro i hi hq
      obtain rfl : i = 48 := by omega
      refine bv_iload_n 3 rfl C d_M_find_2 rfl ?_
      refine bv_bipush (v := nI 48) 5 rfl C d_M_find_3 (by decide) ?_
      refine bv_icmp_ge 26 8 rfl C d_M_find_5 (by decide) (fun h => ?_) (fun h => absurd (nI_le (by decide) (by decide)) h)
      refine bv_iconst (v := -1) 27 rfl C d_M_find_26 (by decide) ?_
      exact bv_ireturn C rfl d_M_find_27 (Nat.le_refl _) (Nat.le_refl _) ⟨rfl, rfl, rfl, Or.inl ⟨hq, rfl⟩⟩
    | succ d ih =>
      intro i hi hq
      refine bv_iload_n 3 rfl C d_M_find_2 rfl ?_
      refine bv_bipush (v := nI 48) 5 rfl C d_M_find_3 (by decide) ?_
      refine bv_icmp_ge 26 8 rfl C d_M_find_5 (by decide) (fun h => absurd h (nI_ge (by omega) (by decide))) (fun h => ?_)
      refine bv_aload_n 9 rfl C d_M_find_8 rfl ?_
      refine bv_iload_n 10 rfl C d_M_find_9 rfl ?_
      refine bv_iload_n 11 rfl C d_M_find_10 rfl ?_
      refine bv_iload_n 12 rfl C d_M_find_11 rfl ?_
      refine bv_call (rest := []) 15 rfl C d_M_find_12 (j_M_isThere hI hz hb hr (show i < 48 by omega) hn ha) i_M_isThere t1_8 (fun H locs ls hP => bs_V (av := [.int (nI i), .int (nI a), .int (nI n)]) 305 C i_M_isThere t3_219 t3_221 s_44 (by omega) rfl hm rfl (by decide) rfl rfl d_M_find_12 H locs ls hP) ⟨by first | decide | omega, by first | decide | omega⟩ (by decide) (by decide) (Nat.le_of_ble_eq_true rfl) (fun v ad1 w1 N1 hpo => ?_) (fun x Cn ad' w' N' hth => hth.elim)
      obtain ⟨rfl, rfl, rfl, hv⟩ := hpo
      rcases hv with ⟨ht, rfl⟩ | ⟨ht, rfl⟩
      · refine bv_if_eq 20 18 rfl C d_M_find_15 (by decide) (fun h => absurd h (show ¬ nI 1 = 0 by decide)) (fun h => ?_)
        refine bv_iload_n 19 rfl C d_M_find_18 rfl ?_
        exact bv_ireturn C rfl d_M_find_19 (Nat.le_refl _) (Nat.le_refl _) ⟨rfl, rfl, rfl, Or.inr ⟨i, by omega, ht, rfl⟩⟩
      · refine bv_if_eq 20 18 rfl C d_M_find_15 (by decide) (fun h => ?_) (fun h => absurd (show nI 0 = 0 by decide) h)
        refine bv_iinc 23 rfl C d_M_find_20 rfl (by first | exact b_inc _ | rfl) (by decide) ?_
        refine bv_goto 2 C d_M_find_23 (by decide) ?_
        refine bv_wk [(0, .ref (ad 305)), (1, .int (nI a)), (2, .int (nI n)), (3, .int (nI (i + 1)))] ⟨rfl, rfl, rfl, rfl, trivial⟩ ?_
        refine ih (i + 1) (by omega) (fun s' hs' => ?_)
        by_cases e : s' = i
        · rw [e]; exact ht
        · exact hq s' (by omega)
  refine bv_iconst (v := nI 0) 1 rfl C d_M_find_0 (by decide) ?_
  refine bv_istore_n 2 rfl C d_M_find_1 (by decide) ?_
  refine bv_wk [(0, .ref (ad 305)), (1, .int (nI a)), (2, .int (nI n)), (3, .int (nI 0))] ⟨rfl, rfl, rfl, rfl, trivial⟩ ?_
  exact loop 48 0 (by omega) (fun s hs => absurd hs (Nat.not_lt_zero s))
def Alk (fr : Nat → Int32) (a b : Nat) : Prop := ∀ k, k < 8 → fr (a + k) = fr (b + k)
theorem j_M_isAlike {fr : Nat → Int32} {a b : Nat} (hI : II dd ad w) (hr : w 321 = aI dd 24 fr) (ha : a + 8 ≤ 24) (hb : b + 8 ≤ 24) : bK l dd y_M_isAlike 0 0 0 0 [.ref (ad 305), .int (nI a), .int (nI b), .int (nI 8)] ad w 324 (bSame ad w 324 (fun v => (Alk fr a b ∧ v = some (.int (nI 1))) ∨ (¬ Alk fr a b ∧ v = some (.int (nI 0))))) (bNo) := by
  obtain ⟨th, V, wr, cu, dn, hV, hd, hm⟩ := hI.k305 (k := 305) (by decide) (by decide)
  refine bK.start [(0, .ref (ad 305)), (1, .int (nI a)), (2, .int (nI b)), (3, .int (nI 8))] (by decide) t3_226 (Nat.le_of_ble_eq_true rfl) rfl (fun p e s m args below meth c A hnm C => ?_)
  have loop : ∀ (d k : Nat), k + d = 8 → (∀ k', k' < k → fr (a + k') = fr (b + k')) → bV p l e { frames := 0, cells := 0, slots := 0, locals := 0 } s m args below meth c dd A 5 0 0 (bSame ad w 324 (fun v => (Alk fr a b ∧ v = some (.int (nI 1))) ∨ (¬ Alk fr a b ∧ v = some (.int (nI 0))))) (bNo) 3 (bO [(0, .ref (ad 305)), (1, .int (nI a)), (2, .int (nI b)), (3, .int (nI 8)), (4, .int (nI k))]) [] ad w 324 0 0 := by
    intro d
    induction d with
    | zero =>
      intro k hk hq
      obtain rfl : k = 8 := by omega
      refine bv_iload 5 rfl C d_M_isAlike_3 rfl ?_
      refine bv_iload_n 6 rfl C d_M_isAlike_5 rfl ?_
      refine bv_icmp_ge 38 9 rfl C d_M_isAlike_6 (by decide) (fun h => ?_) (fun h => absurd (nI_le (by decide) (by decide)) h)
      refine bv_iconst (v := nI 1) 39 rfl C d_M_isAlike_38 (by decide) ?_
      exact bv_zreturn C rfl (Or.inr rfl) d_M_isAlike_39 (by decide) (by decide) ⟨rfl, rfl, rfl, Or.inl ⟨hq, rfl⟩⟩
    | succ d ih =>
      intro k hk hq
      refine bv_iload 5 rfl C d_M_isAlike_3 rfl ?_
      refine bv_iload_n 6 rfl C d_M_isAlike_5 rfl ?_
      refine bv_icmp_ge 38 9 rfl C d_M_isAlike_6 (by decide) (fun h => absurd h (nI_ge (by omega) (by decide))) (fun h => ?_)
      refine bv_aload_n 10 rfl C d_M_isAlike_9 rfl ?_
      refine bv_get 305 20 13 rfl C k_M (by omega) rfl hm (by decide) t3_127 rfl d_M_isAlike_10 ?_
      refine bv_iload_n 14 rfl C d_M_isAlike_13 rfl ?_
      refine bv_iload 16 rfl C d_M_isAlike_14 rfl ?_
      refine bv_iadd 17 rfl C d_M_isAlike_16 ?_
      refine bv_iald 321 (a+k) 18 rfl C (by omega) rfl hr (nI_add a k) (by omega) (by decide) d_M_isAlike_17 ?_
      refine bv_aload_n 19 rfl C d_M_isAlike_18 rfl ?_
      refine bv_get 305 20 22 rfl C k_M (by omega) rfl hm (by decide) t3_127 rfl d_M_isAlike_19 ?_
      refine bv_iload_n 23 rfl C d_M_isAlike_22 rfl ?_
      refine bv_iload 25 rfl C d_M_isAlike_23 rfl ?_
      refine bv_iadd 26 rfl C d_M_isAlike_25 ?_
      refine bv_iald 321 (b+k) 27 rfl C (by omega) rfl hr (nI_add b k) (by omega) (by decide) d_M_isAlike_26 ?_
      refine bv_icmp_eq 32 30 rfl C d_M_isAlike_27 (by decide) (fun x2 => ?_) (fun x2 => ?_)
      · refine bv_iinc 35 rfl C d_M_isAlike_32 rfl (by first | exact b_inc _ | rfl) (by decide) ?_
        refine bv_goto 3 C d_M_isAlike_35 (by decide) ?_
        refine bv_wk [(0, .ref (ad 305)), (1, .int (nI a)), (2, .int (nI b)), (3, .int (nI 8)), (4, .int (nI (k + 1)))] ⟨rfl, rfl, rfl, rfl, rfl, trivial⟩ ?_
        refine ih (k + 1) (by omega) (fun k' hk' => ?_)
        by_cases e : k' = k
        · rw [e]; exact x2
        · exact hq k' (by omega)
      · refine bv_iconst (v := nI 0) 31 rfl C d_M_isAlike_30 (by decide) ?_
        exact bv_zreturn C rfl (Or.inl rfl) d_M_isAlike_31 (by decide) (by decide) ⟨rfl, rfl, rfl, Or.inr ⟨fun h => x2 (h k (by omega)), rfl⟩⟩
  refine bv_iconst (v := nI 0) 1 rfl C d_M_isAlike_0 (by decide) ?_
  refine bv_istore 3 rfl C d_M_isAlike_1 (by decide) ?_
  refine bv_wk [(0, .ref (ad 305)), (1, .int (nI a)), (2, .int (nI b)), (3, .int (nI 8)), (4, .int (nI 0))] ⟨rfl, rfl, rfl, rfl, rfl, trivial⟩ ?_
  exact loop 8 0 (by omega) (fun k hk => absurd hk (Nat.not_lt_zero k))
theorem cz_pos {f : Nat → Int32} : ∀ {n : Nat}, 1 ≤ cz f n → ∃ s, s < n ∧ f s = 0
  | 0, h => absurd (show 1 ≤ 0 from h) (by decide)
  | n + 1, h => by
    by_cases e : f n = 0
    · exact ⟨n, by omega, e⟩
    · unfold cz at h
      rw [if_neg e] at h
      obtain ⟨s, hs, he⟩ := cz_pos (f := f) (n := n) h
      exact ⟨s, by omega, he⟩
theorem cz_up {f : Nat → Int32} {s : Nat} {x : Int32} : ∀ (n : Nat), cz f n ≤ cz (upd f s x) n + 1 ∧ (n ≤ s → cz f n = cz (upd f s x) n)
  | 0 => ⟨by unfold cz; omega, fun _ => rfl⟩
  | n + 1 => by
    obtain ⟨h1, h2⟩ := cz_up (f := f) (s := s) (x := x) n
    by_cases e : n = s
    · subst e
      have h3 := h2 (Nat.le_refl _)
      refine ⟨?_, fun h => absurd h (by omega)⟩
      unfold cz
      rw [h3]
      split <;> split <;> omega
    · unfold cz
      rw [pk_un e]
      refine ⟨by omega, fun h => ?_⟩
      rw [h2 (by omega)]
theorem j_M_firstFree {fz : Nat → Int32} (hI : II dd ad w) (hz : w 306 = aI dd 48 fz) (hz' : InLe fz 48 8) (hc : 1 ≤ cz fz 48) : bK l dd y_M_firstFree 0 0 0 0 [.ref (ad 305)] ad w 324 (bSame ad w 324 (fun v => ∃ s, s < 48 ∧ fz s = 0 ∧ v = some (.int (nI s)))) (bNo) := by
  obtain ⟨th, V, wr, cu, dn, hV, hd, hm⟩ := hI.k305 (k := 305) (by decide) (by decide)
  obtain ⟨s0, hs0, he0⟩ := cz_pos hc
  refine bK.start [(0, .ref (ad 305))] (by decide) t3_234 (Nat.le_of_ble_eq_true rfl) rfl (fun p e s m args below meth c A hnm C => ?_)
  have loop : ∀ (d i : Nat), i + d = s0 → bV p l e { frames := 0, cells := 0, slots := 0, locals := 0 } s m args below meth c dd A 2 0 0 (bSame ad w 324 (fun v => ∃ s, s < 48 ∧ fz s = 0 ∧ v = some (.int (nI s)))) (bNo) 2 (bO [(0, .ref (ad 305)), (1, .int (nI i))]) [] ad w 324 0 0 := by
    intro d
    induction d with
    | zero =>
      intro i hi
      have hi0 : fz i = 0 := by rw [show i = s0 by omega]; exact he0
      refine bv_aload_n 3 rfl C d_M_firstFree_2 rfl ?_
      refine bv_get 305 1 6 rfl C k_M (by omega) rfl hm (by decide) t3_108 rfl d_M_firstFree_3 ?_
      refine bv_iload_n 7 rfl C d_M_firstFree_6 rfl ?_
      refine bv_iald 306 i 8 rfl C (by omega) rfl hz rfl (by omega) (by decide) d_M_firstFree_7 ?_
      refine bv_seti 0 hi0 ?_
      refine bv_if_le 17 11 rfl C d_M_firstFree_8 (by decide) (fun h => ?_) (fun h => absurd (show (0 : Int32) ≤ 0 by decide) h)
      refine bv_iload_n 18 rfl C d_M_firstFree_17 rfl ?_
      exact bv_ireturn C rfl d_M_firstFree_18 (Nat.le_refl _) (Nat.le_refl _) ⟨rfl, rfl, rfl, i, by omega, hi0, rfl⟩
    | succ d ih =>
      intro i hi
      obtain ⟨z, hz0, hze⟩ := hz' i (by omega)
      refine bv_aload_n 3 rfl C d_M_firstFree_2 rfl ?_
      refine bv_get 305 1 6 rfl C k_M (by omega) rfl hm (by decide) t3_108 rfl d_M_firstFree_3 ?_
      refine bv_iload_n 7 rfl C d_M_firstFree_6 rfl ?_
      refine bv_iald 306 i 8 rfl C (by omega) rfl hz rfl (by omega) (by decide) d_M_firstFree_7 ?_
      refine bv_if_le 17 11 rfl C d_M_firstFree_8 (by decide) (fun x1 => ?_) (fun x1 => ?_)
      · have hi0 : fz i = 0 := by
          rw [hze] at x1 ⊢
          by_cases e : z = 0
          · rw [e]; decide
          · exact absurd x1 (nI_nle (by omega) (by omega))
        refine bv_iload_n 18 rfl C d_M_firstFree_17 rfl ?_
        exact bv_ireturn C rfl d_M_firstFree_18 (Nat.le_refl _) (Nat.le_refl _) ⟨rfl, rfl, rfl, i, by omega, hi0, rfl⟩
      · refine bv_iinc 14 rfl C d_M_firstFree_11 rfl (by first | exact b_inc _ | rfl) (by decide) ?_
        refine bv_goto 2 C d_M_firstFree_14 (by decide) ?_
        refine bv_wk [(0, .ref (ad 305)), (1, .int (nI (i + 1)))] ⟨rfl, rfl, trivial⟩ ?_
        exact ih (i + 1) (by omega)
  refine bv_iconst (v := nI 0) 1 rfl C d_M_firstFree_0 (by decide) ?_
  refine bv_istore_n 2 rfl C d_M_firstFree_1 (by decide) ?_
  refine bv_wk [(0, .ref (ad 305)), (1, .int (nI 0))] ⟨rfl, rfl, trivial⟩ ?_
  exact loop s0 0 (by omega)
/-- sums -/
def sg (g : Nat → Nat) : Nat → Nat
  | 0 => 0
  | n + 1 => sg g n + g n
theorem sg_congr {f g : Nat → Nat} : ∀ (n : Nat), (∀ k, k < n → f k = g k) → sg f n = sg g n
  | 0, _ => rfl
  | n + 1, h => by
    unfold sg
    rw [sg_congr n (fun k hk => h k (by omega)), h n (by omega)]
theorem sg_le {g : Nat → Nat} (h : ∀ k, g k ≤ 1) : ∀ n, sg g n ≤ n
  | 0 => Nat.le_refl _
  | n + 1 => by
    have := sg_le h n
    have := h n
    unfold sg
    omega
/-- the chunk number i of n bytes is neither in the store nor like an earlier one -/
def Fre (fz fb fr : Nat → Int32) (n i : Nat) : Prop := (∀ s, s < 48 → ¬ Th fz fb fr (8 * i) (cs n (8 * i)) s) ∧ ∀ b, b < i → cs n (8 * i) < 8 ∨ ¬ Alk fr (8 * i) (8 * b)
theorem j_M_missing {fz fb fr : Nat → Int32} {n : Nat} (hI : II dd ad w) (hz : w 306 = aI dd 48 fz) (hb : w 307 = aI dd 384 fb) (hr : w 321 = aI dd 24 fr) (hn : n ≤ 24) : bK l dd y_M_missing 2 47 0 0 [.ref (ad 305), .int (nI n)] ad w 324 (bSame ad w 324 (fun v => ∃ g : Nat → Nat, (∀ i, g i ≤ 1) ∧ (∀ i, i < (n + 7) / 8 → Fre fz fb fr n i → g i = 1) ∧ v = some (.int (nI (sg g ((n + 7) / 8)))))) (bNo) := by
  obtain ⟨th, V, wr, cu, dn, hV, hd, hm⟩ := hI.k305 (k := 305) (by decide) (by decide)
  refine bK.start [(0, .ref (ad 305)), (1, .int (nI n))] (by decide) t3_211 (Nat.le_of_ble_eq_true rfl) rfl (fun p e s m args below meth c A hnm C => ?_)
  have outer : ∀ (d i : Nat) (g : Nat → Nat), i + d = (n + 7) / 8 → (∀ i, g i ≤ 1) → (∀ j, j < i → Fre fz fb fr n j → g j = 1) → bV p l e { frames := 2, cells := 0, slots := 0, locals := 47 } s m args below meth c dd A 7 0 0 (bSame ad w 324 (fun v => ∃ g : Nat → Nat, (∀ i, g i ≤ 1) ∧ (∀ i, i < (n + 7) / 8 → Fre fz fb fr n i → g i = 1) ∧ v = some (.int (nI (sg g ((n + 7) / 8)))))) (bNo) 4 (bO [(0, .ref (ad 305)), (1, .int (nI n)), (2, .int (nI (sg g i))), (3, .int (nI (8 * i)))]) [] ad w 324 0 0 := by
    intro d
    induction d with
    | zero =>
      intro i g hi hg1 hg2
      refine bv_iload_n 5 rfl C d_M_missing_4 rfl ?_
      refine bv_iload_n 6 rfl C d_M_missing_5 rfl ?_
      refine bv_icmp_ge 98 9 rfl C d_M_missing_6 (by decide) (fun h => ?_) (fun h => absurd (nI_le (show n ≤ 8 * i by omega) (by omega)) h)
      refine bv_iload_n 99 rfl C d_M_missing_98 rfl ?_
      exact bv_ireturn C rfl d_M_missing_99 (Nat.le_refl _) (Nat.le_refl _) ⟨rfl, rfl, rfl, g, hg1, fun j hj => hg2 j (by omega), by rw [show i = (n + 7) / 8 by omega]⟩
    | succ d ih =>
      intro i g hi hg1 hg2
      have hin : 8 * i < n := by omega
      have hc8 := cs_le n (8 * i)
      have hc9 : 8 * i + cs n (8 * i) ≤ n := by have := @cs_le2 n (8 * i); rw [Nat.max_eq_left (by omega)] at this; exact this
      have next : ∀ u : Nat, u ≤ 1 → (Fre fz fb fr n i → u = 1) → bV p l e { frames := 2, cells := 0, slots := 0, locals := 47 } s m args below meth c dd A 7 0 0 (bSame ad w 324 (fun v => ∃ g : Nat → Nat, (∀ i, g i ≤ 1) ∧ (∀ i, i < (n + 7) / 8 → Fre fz fb fr n i → g i = 1) ∧ v = some (.int (nI (sg g ((n + 7) / 8)))))) (bNo) 90 (bO [(0, .ref (ad 305)), (1, .int (nI n)), (2, .int (nI (sg g i))), (3, .int (nI (8 * i)))]) [.int (nI u), .int (nI (sg g i))] ad w 324 0 0 := by
        intro u hu1 hu2
        have hs : sg (fun k => if k = i then u else g k) (i + 1) = sg g i + u := by
          show sg (fun k => if k = i then u else g k) i + (if i = i then u else g i) = _
          rw [if_pos rfl, sg_congr (f := fun k => if k = i then u else g k) (g := g) i (fun k hk => if_neg (by omega))]
        refine bv_iadd 91 rfl C d_M_missing_90 ?_
        refine bv_seti (nI (sg (fun k => if k = i then u else g k) (i + 1))) (by rw [nI_add, hs]) ?_
        refine bv_istore_n 92 rfl C d_M_missing_91 (by decide) ?_
        refine bv_iinc (v := (nI (8*(i+1)))) 95 rfl C d_M_missing_92 rfl (b_inc8 i) (by decide) ?_
        refine bv_goto 4 C d_M_missing_95 (by decide) ?_
        refine bv_wk [(0, .ref (ad 305)), (1, .int (nI n)), (2, .int (nI (sg (fun k => if k = i then u else g k) (i + 1)))), (3, .int (nI (8 * (i + 1))))] ⟨rfl, rfl, rfl, rfl, trivial⟩ ?_
        refine ih (i + 1) _ (by omega) (fun k => ?_) (fun j hj hF => ?_)
        · by_cases e : k = i
          · simp only [if_pos e]; exact hu1
          · simp only [if_neg e]; exact hg1 k
        · by_cases e : j = i
          · subst e; simp only [if_pos]; exact hu2 hF
          · simp only [if_neg e]; exact hg2 j (by omega) hF
      have at79 : ∀ u : Nat, u ≤ 1 → (Fre fz fb fr n i → u = 1) → bV p l e { frames := 2, cells := 0, slots := 0, locals := 47 } s m args below meth c dd A 7 0 0 (bSame ad w 324 (fun v => ∃ g : Nat → Nat, (∀ i, g i ≤ 1) ∧ (∀ i, i < (n + 7) / 8 → Fre fz fb fr n i → g i = 1) ∧ v = some (.int (nI (sg g ((n + 7) / 8)))))) (bNo) 79 (bO [(0, .ref (ad 305)), (1, .int (nI n)), (2, .int (nI (sg g i))), (3, .int (nI (8 * i))), (5, .int (nI u))]) [] ad w 324 0 0 := by
        intro u hu1 hu2
        refine bv_iload_n 80 rfl C d_M_missing_79 rfl ?_
        refine bv_iload 82 rfl C d_M_missing_80 rfl ?_
        refine bv_if_eq 89 85 rfl C d_M_missing_82 (by decide) (fun x1 => ?_) (fun x1 => ?_)
        · have hu0 : u = 0 := by
            rcases (show u = 0 ∨ u = 1 by omega) with h | h
            · exact h
            · rw [h] at x1; exact absurd x1 (by decide)
          refine bv_iconst (v := nI 0) 90 rfl C d_M_missing_89 (by decide) ?_
          refine bv_wk [(0, .ref (ad 305)), (1, .int (nI n)), (2, .int (nI (sg g i))), (3, .int (nI (8 * i)))] ⟨rfl, rfl, rfl, rfl, trivial⟩ ?_
          have := next u hu1 hu2
          rw [hu0] at this
          exact this
        · have hu0 : u = 1 := by
            rcases (show u = 0 ∨ u = 1 by omega) with h | h
            · rw [h] at x1; exact absurd (show nI 0 = 0 by decide) x1
            · exact h
          refine bv_iconst (v := nI 1) 86 rfl C d_M_missing_85 (by decide) ?_
          refine bv_goto 90 C d_M_missing_86 (by decide) ?_
          refine bv_wk [(0, .ref (ad 305)), (1, .int (nI n)), (2, .int (nI (sg g i))), (3, .int (nI (8 * i)))] ⟨rfl, rfl, rfl, rfl, trivial⟩ ?_
          have := next u hu1 hu2
          rw [hu0] at this
          exact this
      have inner : ∀ (d2 b u : Nat), b + d2 = i → u ≤ 1 → (Fre fz fb fr n i → u = 1) → bV p l e { frames := 2, cells := 0, slots := 0, locals := 47 } s m args below meth c dd A 7 0 0 (bSame ad w 324 (fun v => ∃ g : Nat → Nat, (∀ i, g i ≤ 1) ∧ (∀ i, i < (n + 7) / 8 → Fre fz fb fr n i → g i = 1) ∧ v = some (.int (nI (sg g ((n + 7) / 8)))))) (bNo) 36 (bO [(0, .ref (ad 305)), (1, .int (nI n)), (2, .int (nI (sg g i))), (3, .int (nI (8 * i))), (4, .int (nI (cs n (8 * i)))), (5, .int (nI u)), (6, .int (nI (8 * b)))]) [] ad w 324 0 0 := by
        intro d2
        induction d2 with
        | zero =>
          intro b u hb hu1 hu2
          refine bv_iload 38 rfl C d_M_missing_36 rfl ?_
          refine bv_iload_n 39 rfl C d_M_missing_38 rfl ?_
          refine bv_icmp_ge 79 42 rfl C d_M_missing_39 (by decide) (fun h => ?_) (fun h => absurd (nI_le (show 8 * i ≤ 8 * b by omega) (by omega)) h)
          exact bv_wk [(0, .ref (ad 305)), (1, .int (nI n)), (2, .int (nI (sg g i))), (3, .int (nI (8 * i))), (5, .int (nI u))] ⟨rfl, rfl, rfl, rfl, rfl, trivial⟩ (at79 u hu1 hu2)
        | succ d2 ih2 =>
          intro b u hb hu1 hu2
          have step : ∀ u' : Nat, u' ≤ 1 → (Fre fz fb fr n i → u' = 1) → bV p l e { frames := 2, cells := 0, slots := 0, locals := 47 } s m args below meth c dd A 7 0 0 (bSame ad w 324 (fun v => ∃ g : Nat → Nat, (∀ i, g i ≤ 1) ∧ (∀ i, i < (n + 7) / 8 → Fre fz fb fr n i → g i = 1) ∧ v = some (.int (nI (sg g ((n + 7) / 8)))))) (bNo) 71 (bO [(0, .ref (ad 305)), (1, .int (nI n)), (2, .int (nI (sg g i))), (3, .int (nI (8 * i))), (4, .int (nI (cs n (8 * i)))), (6, .int (nI (8 * b)))]) [.int (nI u')] ad w 324 0 0 := by
            intro u' h1 h2
            refine bv_istore 73 rfl C d_M_missing_71 (by decide) ?_
            refine bv_iinc (v := (nI (8*(b+1)))) 76 rfl C d_M_missing_73 rfl (b_inc8 b) (by decide) ?_
            refine bv_goto 36 C d_M_missing_76 (by decide) ?_
            refine bv_wk [(0, .ref (ad 305)), (1, .int (nI n)), (2, .int (nI (sg g i))), (3, .int (nI (8 * i))), (4, .int (nI (cs n (8 * i)))), (5, .int (nI u')), (6, .int (nI (8 * (b + 1))))] ⟨rfl, rfl, rfl, rfl, rfl, rfl, rfl, trivial⟩ ?_
            exact ih2 (b + 1) u' (by omega) h1 h2
          refine bv_iload 38 rfl C d_M_missing_36 rfl ?_
          refine bv_iload_n 39 rfl C d_M_missing_38 rfl ?_
          refine bv_icmp_ge 79 42 rfl C d_M_missing_39 (by decide) (fun h => absurd h (nI_ge (show 8 * b < 8 * i by omega) (by omega))) (fun h => ?_)
          refine bv_iload 44 rfl C d_M_missing_42 rfl ?_
          refine bv_if_eq 79 47 rfl C d_M_missing_44 (by decide) (fun x1 => ?_) (fun x1 => ?_)
          · exact bv_wk [(0, .ref (ad 305)), (1, .int (nI n)), (2, .int (nI (sg g i))), (3, .int (nI (8 * i))), (5, .int (nI u))] ⟨rfl, rfl, rfl, rfl, rfl, trivial⟩ (at79 u hu1 hu2)
          · refine bv_iload 49 rfl C d_M_missing_47 rfl ?_
            refine bv_bipush (v := nI 8) 51 rfl C d_M_missing_49 (by decide) ?_
            refine bv_icmp_lt 66 54 rfl C d_M_missing_51 (by decide) (fun x2 => ?_) (fun x2 => ?_)
            · refine bv_iconst (v := nI 1) 67 rfl C d_M_missing_66 (by decide) ?_
              refine bv_goto 71 C d_M_missing_67 (by decide) ?_
              exact bv_wk [(0, .ref (ad 305)), (1, .int (nI n)), (2, .int (nI (sg g i))), (3, .int (nI (8 * i))), (4, .int (nI (cs n (8 * i)))), (6, .int (nI (8 * b)))] ⟨rfl, rfl, rfl, rfl, rfl, rfl, trivial⟩ (step 1 (by decide) (fun _ => rfl))
            · have h8 : cs n (8 * i) = 8 := by
                rcases Nat.lt_or_ge (cs n (8 * i)) 8 with h | h
                · exact absurd (nI_lt h (by decide)) x2
                · omega
              refine bv_aload_n 55 rfl C d_M_missing_54 rfl ?_
              refine bv_iload_n 56 rfl C d_M_missing_55 rfl ?_
              refine bv_iload 58 rfl C d_M_missing_56 rfl ?_
              refine bv_bipush (v := nI 8) 60 rfl C d_M_missing_58 (by decide) ?_
              refine bv_call (rest := []) 63 rfl C d_M_missing_60 (j_M_isAlike hI hr (show 8 * i + 8 ≤ 24 by omega) (show 8 * b + 8 ≤ 24 by omega)) i_M_isAlike t1_8 (fun H locs ls hP => bs_V (av := [.int (nI (8*i)), .int (nI (8*b)), .int (nI 8)]) 305 C i_M_isAlike t3_223 t3_225 s_45 (by omega) rfl hm rfl (by decide) rfl rfl d_M_missing_60 H locs ls hP) ⟨by first | decide | omega, by first | decide | omega⟩ (by decide) (by decide) (Nat.le_of_ble_eq_true rfl) (fun v ad1 w1 N1 hpo => ?_) (fun x Cn ad' w' N' hth => hth.elim)
              obtain ⟨rfl, rfl, rfl, hv⟩ := hpo
              rcases hv with ⟨hA, rfl⟩ | ⟨hA, rfl⟩
              · refine bv_if_ne 70 66 rfl C d_M_missing_63 (by decide) (fun h => ?_) (fun h => absurd h (show ¬ nI 1 = 0 by decide))
                refine bv_iconst (v := nI 0) 71 rfl C d_M_missing_70 (by decide) ?_
                refine bv_wk [(0, .ref (ad 305)), (1, .int (nI n)), (2, .int (nI (sg g i))), (3, .int (nI (8 * i))), (4, .int (nI (cs n (8 * i)))), (6, .int (nI (8 * b)))] ⟨rfl, rfl, rfl, rfl, rfl, rfl, trivial⟩ (step 0 (by decide) (fun hF => ?_))
                rcases hF.2 b (by omega) with h | h
                · omega
                · exact absurd hA h
              · refine bv_if_ne 70 66 rfl C d_M_missing_63 (by decide) (fun h => absurd (show nI 0 = 0 by decide) h) (fun h => ?_)
                refine bv_iconst (v := nI 1) 67 rfl C d_M_missing_66 (by decide) ?_
                refine bv_goto 71 C d_M_missing_67 (by decide) ?_
                exact bv_wk [(0, .ref (ad 305)), (1, .int (nI n)), (2, .int (nI (sg g i))), (3, .int (nI (8 * i))), (4, .int (nI (cs n (8 * i)))), (6, .int (nI (8 * b)))] ⟨rfl, rfl, rfl, rfl, rfl, rfl, trivial⟩ (step 1 (by decide) (fun _ => rfl))
      refine bv_iload_n 5 rfl C d_M_missing_4 rfl ?_
      refine bv_iload_n 6 rfl C d_M_missing_5 rfl ?_
      refine bv_icmp_ge 98 9 rfl C d_M_missing_6 (by decide) (fun h => absurd h (nI_ge (show 8 * i < n by omega) (by omega))) (fun h => ?_)
      refine bv_iload_n 10 rfl C d_M_missing_9 rfl ?_
      refine bv_iload_n 11 rfl C d_M_missing_10 rfl ?_
      refine bv_call (rest := []) 14 rfl C d_M_missing_11 (j_M_chunkSize hn (show 8 * i ≤ n by omega)) i_M_chunkSize t1_8 (fun H locs ls _ => bs_S (av := [.int (nI n), .int (nI (8*i))]) C i_M_chunkSize t3_212 t3_213 t1_8 (by decide) rfl rfl d_M_missing_11 H locs ls) ⟨by first | decide | omega, by first | decide | omega⟩ (by decide) (by decide) (Nat.le_of_ble_eq_true rfl) (fun v ad1 w1 N1 hpo => ?_) (fun x Cn ad' w' N' hth => hth.elim)
      obtain ⟨rfl, rfl, rfl, rfl⟩ := hpo
      refine bv_istore 16 rfl C d_M_missing_14 (by decide) ?_
      refine bv_aload_n 17 rfl C d_M_missing_16 rfl ?_
      refine bv_iload_n 18 rfl C d_M_missing_17 rfl ?_
      refine bv_iload 20 rfl C d_M_missing_18 rfl ?_
      refine bv_call (rest := []) 23 rfl C d_M_missing_20 (j_M_find hI hz hb hr hc8 (show 8 * i + cs n (8 * i) ≤ 24 by omega)) i_M_find t1_8 (fun H locs ls hP => bs_V (av := [.int (nI (8*i)), .int (nI (cs n (8*i)))]) 305 C i_M_find t3_215 t3_217 s_43 (by omega) rfl hm rfl (by decide) rfl rfl d_M_missing_20 H locs ls hP) ⟨by first | decide | omega, by first | decide | omega⟩ (by decide) (by decide) (Nat.le_of_ble_eq_true rfl) (fun v ad1 w1 N1 hpo => ?_) (fun x Cn ad' w' N' hth => hth.elim)
      obtain ⟨rfl, rfl, rfl, hv⟩ := hpo
      rcases hv with ⟨hno, rfl⟩ | ⟨s', hs', ht, rfl⟩
      · refine bv_if_ge 30 26 rfl C d_M_missing_23 (by decide) (fun h => absurd h (show ¬ (0 : Int32) ≤ -1 by decide)) (fun h => ?_)
        refine bv_iconst (v := nI 1) 27 rfl C d_M_missing_26 (by decide) ?_
        refine bv_goto 31 C d_M_missing_27 (by decide) ?_
        refine bv_istore 33 rfl C d_M_missing_31 (by decide) ?_
        refine bv_iconst (v := nI 0) 34 rfl C d_M_missing_33 (by decide) ?_
        refine bv_istore 36 rfl C d_M_missing_34 (by decide) ?_
        refine bv_wk [(0, .ref (ad 305)), (1, .int (nI n)), (2, .int (nI (sg g i))), (3, .int (nI (8 * i))), (4, .int (nI (cs n (8 * i)))), (5, .int (nI 1)), (6, .int (nI (8 * 0)))] ⟨rfl, rfl, rfl, rfl, rfl, rfl, rfl, trivial⟩ ?_
        exact inner i 0 1 (by omega) (by decide) (fun _ => rfl)
      · refine bv_if_ge 30 26 rfl C d_M_missing_23 (by decide) (fun h => ?_) (fun h => absurd (nI_pos' (by omega)) h)
        refine bv_iconst (v := nI 0) 31 rfl C d_M_missing_30 (by decide) ?_
        refine bv_istore 33 rfl C d_M_missing_31 (by decide) ?_
        refine bv_iconst (v := nI 0) 34 rfl C d_M_missing_33 (by decide) ?_
        refine bv_istore 36 rfl C d_M_missing_34 (by decide) ?_
        refine bv_wk [(0, .ref (ad 305)), (1, .int (nI n)), (2, .int (nI (sg g i))), (3, .int (nI (8 * i))), (4, .int (nI (cs n (8 * i)))), (5, .int (nI 0)), (6, .int (nI (8 * 0)))] ⟨rfl, rfl, rfl, rfl, rfl, rfl, rfl, trivial⟩ ?_
        exact inner i 0 0 (by omega) (by decide) (fun hF => absurd ht (hF.1 s' hs'))
  refine bv_iconst (v := nI 0) 1 rfl C d_M_missing_0 (by decide) ?_
  refine bv_istore_n 2 rfl C d_M_missing_1 (by decide) ?_
  refine bv_iconst (v := nI 0) 3 rfl C d_M_missing_2 (by decide) ?_
  refine bv_istore_n 4 rfl C d_M_missing_3 (by decide) ?_
  refine bv_wk [(0, .ref (ad 305)), (1, .int (nI n)), (2, .int (nI (sg (fun _ => 0) 0))), (3, .int (nI (8 * 0)))] ⟨rfl, rfl, rfl, rfl, trivial⟩ ?_
  exact outer ((n + 7) / 8) 0 (fun _ => 0) (by omega) (fun _ => by decide) (fun j hj => absurd hj (Nat.not_lt_zero j))
theorem j_M_slotOf {n : Int32} {x : Int64} (hI : II dd ad w) : bK l dd y_M_slotOf 2 47 0 0 [.ref (ad 305), .int n, .long x] ad w 324 (bJ dd ad vI) (bNo) := by
  obtain ⟨th, V, wr, cu, dn, hV, hd, hm⟩ := hI.k305 (k := 305) (by decide) (by decide)
  refine bK.start [(0, .ref (ad 305)), (1, .int n), (2, .long x)] (by decide) t4_65 (Nat.le_of_ble_eq_true rfl) rfl (fun p e s m args below meth c A hnm C => ?_)
  refine bv_aload_n 1 rfl C d_M_slotOf_0 rfl ?_
  refine bv_iconst (v := nI 0) 2 rfl C d_M_slotOf_1 (by decide) ?_
  refine bv_put 305 0 5 rfl C k_M (by omega) rfl hm (by decide) t3_107 rfl rfl rfl (Nat.le_of_ble_eq_true rfl) d_M_slotOf_2 ?_
  have hI0 : II dd ad (va_up w 305 (mO ad (nI 0) (nI V) wr cu dn)) := hI.m hV hd
  refine bv_any hI0 (fun w hI => ?_)
  obtain ⟨th, V, wr, cu, dn, hV, hd, hm⟩ := hI.k305 (k := 305) (by decide) (by decide)
  obtain ⟨fr, hr⟩ := hI.k321 (k := 321) (by decide) (by decide)
  refine bv_aload_n 6 rfl C d_M_slotOf_5 rfl ?_
  refine bv_lload_n 7 rfl C d_M_slotOf_6 rfl ?_
  refine bv_lconst (v := 0) 8 rfl C d_M_slotOf_7 (by decide) ?_
  refine bv_lconst (v := 0) 9 rfl C d_M_slotOf_8 (by decide) ?_
  refine bv_call (rest := []) 12 rfl C d_M_slotOf_9 (ct_M_lay (by decide) hm hr (a := x) (b := 0) (c0 := 0)) i_M_lay t1_8 (fun H locs ls hP => bs_V (av := [.long x, .long 0, .long 0]) 305 C i_M_lay t3_203 t3_205 s_41 (by omega) rfl hm rfl (by decide) rfl rfl d_M_slotOf_9 H locs ls hP) ⟨by first | decide | omega, by first | decide | omega⟩ (by decide) (by decide) (Nat.le_of_ble_eq_true rfl) (fun v ad1 w1 N1 hpo => ?_) (fun x Cn ad' w' N' hth => hth.elim)
  obtain ⟨rfl, rfl, rfl, f, rfl⟩ := hpo
  refine bv_any (hI.up ((sh_321 (by decide)).mpr ⟨_, rfl⟩)) (fun w1 hI1 => ?_)
  refine bv_iload_n 13 rfl C d_M_slotOf_12 rfl ?_
  refine bv_iconst (v := nI 1) 14 rfl C d_M_slotOf_13 (by decide) ?_
  refine bv_bipush (v := nI 8) 16 rfl C d_M_slotOf_14 (by decide) ?_
  refine bv_call (rest := []) 19 rfl C d_M_slotOf_16 (ct_M_in (x := n) (a := nI 1) (b := nI 8)) i_M_in t1_8 (fun H locs ls _ => bs_S (av := [.int n, .int (nI 1), .int (nI 8)]) C i_M_in t3_184 t3_185 t1_8 (by decide) rfl rfl d_M_slotOf_16 H locs ls) ⟨by first | decide | omega, by first | decide | omega⟩ (by decide) (by decide) (Nat.le_of_ble_eq_true rfl) (fun v ad1 w2 N1 hpo => ?_) (fun x Cn ad' w' N' hth => hth.elim)
  obtain ⟨rfl, rfl, rfl, hv⟩ := hpo
  rcases hv with ⟨hi, rfl⟩ | ⟨-, rfl⟩
  · obtain ⟨i, hi1, hi2, rfl⟩ := b_in (by decide) (by decide) hi
    obtain ⟨th, V, wr, cu, dn, hV, hd, hm⟩ := hI1.k305 (k := 305) (by decide) (by decide)
    obtain ⟨fz, hz, hz'⟩ := hI1.k306 (k := 306) (by decide) (by decide)
    obtain ⟨fb, hb⟩ := hI1.k307 (k := 307) (by decide) (by decide)
    obtain ⟨fr, hr⟩ := hI1.k321 (k := 321) (by decide) (by decide)
    refine bv_if_eq 31 22 rfl C d_M_slotOf_19 (by decide) (fun h => absurd h (show ¬ nI 1 = 0 by decide)) (fun h => ?_)
    refine bv_aload_n 23 rfl C d_M_slotOf_22 rfl ?_
    refine bv_iconst (v := nI 0) 24 rfl C d_M_slotOf_23 (by decide) ?_
    refine bv_iload_n 25 rfl C d_M_slotOf_24 rfl ?_
    refine bv_call (rest := []) 28 rfl C d_M_slotOf_25 (j_M_find hI1 hz hb hr hi2 (show 0 + i ≤ 24 by omega)) i_M_find t1_8 (fun H locs ls hP => bs_V (av := [.int (nI 0), .int (nI i)]) 305 C i_M_find t3_215 t3_217 s_43 (by omega) rfl hm rfl (by decide) rfl rfl d_M_slotOf_25 H locs ls hP) ⟨by first | decide | omega, by first | decide | omega⟩ (by decide) (by decide) (Nat.le_of_ble_eq_true rfl) (fun v ad1 w2 N1 hpo => ?_) (fun x Cn ad' w' N' hth => hth.elim)
    obtain ⟨rfl, rfl, rfl, hv⟩ := hpo
    obtain ⟨r, rfl⟩ : vI v := by rcases hv with ⟨-, rfl⟩ | ⟨_, _, _, rfl⟩ <;> exact ⟨_, rfl⟩
    refine bv_goto 32 C d_M_slotOf_28 (by decide) ?_
    exact bv_ireturn C rfl d_M_slotOf_32 (Nat.le_refl _) (Nat.le_refl _) ⟨rfl, rfl, hI1, _, rfl⟩
  · refine bv_if_eq 31 22 rfl C d_M_slotOf_19 (by decide) (fun h => ?_) (fun h => absurd (show nI 0 = 0 by decide) h)
    refine bv_iconst (v := -1) 32 rfl C d_M_slotOf_31 (by decide) ?_
    exact bv_ireturn C rfl d_M_slotOf_32 (Nat.le_refl _) (Nat.le_refl _) ⟨rfl, rfl, hI1, _, rfl⟩
end bQ13

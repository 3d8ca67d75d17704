section bQ4
variable {l : Launch} {dd : bD} {ad : Nat → Nat} {w : Nat → va_E}
/-- a slot, or -1 -/
abbrev vS (v : Option Value) : Prop := v = some (.int (-1)) ∨ ∃ i, i < 48 ∧ v = some (.int (nI i))
theorem j_B_slotWith {kk : Nat} (hI : II dd ad w) (hk : bKy kk) : bK l dd y_B_slotWith 1 22 0 0 [.ref (ad 0), .ref (ad kk)] ad w 324 (bSame ad w 324 vS) (bNo) := by
  have q1 := hk.1
  obtain ⟨V, hV, h0⟩ := hI.k0 (k := 0) (by decide) (by decide)
  obtain ⟨f, hf, hf'⟩ := hI.k4 (k := 4) (by decide) (by decide)
  refine bK.start [(0, .ref (ad 0)), (1, .ref (ad kk))] (by decide) t2_30 (Nat.le_of_ble_eq_true rfl) rfl (fun p e s m args below meth c A hnm C => ?_)
  have loop : ∀ (d i : Nat), i + d = 48 → bV p l e { frames := 1, cells := 0, slots := 0, locals := 22 } s m args below meth c dd A 3 0 0 (bSame ad w 324 vS) (bNo) 2 (bO [(0, .ref (ad 0)), (1, .ref (ad kk)), (2, .int (nI i))]) [] ad w 324 0 0 := by
    intro d
    induction d with
    | zero =>
      intro i hi
      obtain rfl : i = 48 := by omega
      refine bv_iload_n 3 rfl C d_B_slotWith_2 rfl ?_
      refine bv_bipush (v := nI 48) 5 rfl C d_B_slotWith_3 (by decide) ?_
      refine bv_icmp_ge 41 8 rfl C d_B_slotWith_5 (by decide) (fun h => ?_) (fun h => absurd (nI_le (by decide) (by decide)) h)
      refine bv_iconst (v := -1) 42 rfl C d_B_slotWith_41 (by decide) ?_
      exact bv_ireturn C rfl d_B_slotWith_42 (Nat.le_refl _) (Nat.le_refl _) ⟨rfl, rfl, rfl, Or.inl rfl⟩
    | succ d ih =>
      intro i hi
      have hc := bKy.c (show i < 48 by omega)
      obtain ⟨n, b, g, a1, a2⟩ := hc.at hI
      refine bv_iload_n 3 rfl C d_B_slotWith_2 rfl ?_
      refine bv_bipush (v := nI 48) 5 rfl C d_B_slotWith_3 (by decide) ?_
      refine bv_icmp_ge 41 8 rfl C d_B_slotWith_5 (by decide) (fun h => absurd h (nI_ge (by omega) (by decide))) (fun h => ?_)
      refine bv_aload_n 9 rfl C d_B_slotWith_8 rfl ?_
      refine bv_get 0 2 12 rfl C k_B (by omega) rfl h0 (by decide) t1_148 rfl d_B_slotWith_9 ?_
      refine bv_iload_n 13 rfl C d_B_slotWith_12 rfl ?_
      refine bv_aald 3 4 i 14 rfl C rfl (by omega) rfl hf rfl (by omega) (by decide) d_B_slotWith_13 (hf' i (by omega)) ?_
      refine bv_call (rest := []) 17 rfl C d_B_slotWith_14 (ct_K_isFree (k := 13 + 2 * i) (by omega) a1) i_K_isFree t1_5 (fun H locs ls hP => bs_VN (av := []) (13+2*i) C i_K_isFree n1_213 t1_215 s_4 (by omega) rfl a1 rfl (by decide) rfl rfl d_B_slotWith_14 H locs ls hP) ⟨by first | decide | omega, by first | decide | omega⟩ (by decide) (by decide) (Nat.le_of_ble_eq_true rfl) (fun v ad1 w1 N1 hpo => ?_) (fun x Cn ad' w' N' hth => hth.elim)
      obtain ⟨rfl, rfl, rfl, rfl⟩ := hpo
      refine bv_if_ne 35 20 rfl C d_B_slotWith_17 (by decide) (fun h => ?_) (fun h => ?_)
      · refine bv_iinc 38 rfl C d_B_slotWith_35 rfl (by first | exact b_inc _ | rfl) (by decide) ?_
        refine bv_goto 2 C d_B_slotWith_38 (by decide) ?_
        refine bv_wk [(0, .ref (ad 0)), (1, .ref (ad kk)), (2, .int (nI (i + 1)))] ⟨rfl, rfl, rfl, trivial⟩ ?_
        exact ih (i + 1) (by omega)
      · refine bv_aload_n 21 rfl C d_B_slotWith_20 rfl ?_
        refine bv_get 0 2 24 rfl C k_B (by omega) rfl h0 (by decide) t1_148 rfl d_B_slotWith_21 ?_
        refine bv_iload_n 25 rfl C d_B_slotWith_24 rfl ?_
        refine bv_aald 3 4 i 26 rfl C rfl (by omega) rfl hf rfl (by omega) (by decide) d_B_slotWith_25 (hf' i (by omega)) ?_
        refine bv_aload_n 27 rfl C d_B_slotWith_26 rfl ?_
        refine bv_call (rest := []) 30 rfl C d_B_slotWith_27 (j_K_isLike hI hc hk) i_K_isLike t1_5 (fun H locs ls hP => bs_VN (av := [.ref (ad kk)]) (13+2*i) C i_K_isLike n2_31 t2_33 s_14 (by omega) rfl a1 rfl (by decide) rfl rfl d_B_slotWith_27 H locs ls hP) ⟨by first | decide | omega, by first | decide | omega⟩ (by decide) (by decide) (Nat.le_of_ble_eq_true rfl) (fun v ad1 w1 N1 hpo => ?_) (fun x Cn ad' w' N' hth => hth.elim)
        obtain ⟨rfl, rfl, rfl, hv⟩ := hpo
        obtain ⟨r, rfl⟩ : vI v := by rcases hv with rfl | rfl <;> exact ⟨_, rfl⟩
        refine bv_if_eq 35 33 rfl C d_B_slotWith_30 (by decide) (fun h2 => ?_) (fun h2 => ?_)
        · refine bv_iinc 38 rfl C d_B_slotWith_35 rfl (by first | exact b_inc _ | rfl) (by decide) ?_
          refine bv_goto 2 C d_B_slotWith_38 (by decide) ?_
          refine bv_wk [(0, .ref (ad 0)), (1, .ref (ad kk)), (2, .int (nI (i + 1)))] ⟨rfl, rfl, rfl, trivial⟩ ?_
          exact ih (i + 1) (by omega)
        · refine bv_iload_n 34 rfl C d_B_slotWith_33 rfl ?_
          exact bv_ireturn C rfl d_B_slotWith_34 (Nat.le_refl _) (Nat.le_refl _) ⟨rfl, rfl, rfl, Or.inr ⟨i, by omega, rfl⟩⟩
  refine bv_iconst (v := nI 0) 1 rfl C d_B_slotWith_0 (by decide) ?_
  refine bv_istore_n 2 rfl C d_B_slotWith_1 (by decide) ?_
  refine bv_wk [(0, .ref (ad 0)), (1, .ref (ad kk)), (2, .int (nI 0))] ⟨rfl, rfl, rfl, trivial⟩ ?_
  exact loop 48 0 (by omega)
theorem j_B_leastFreeSlot {a : Nat} (hI : II dd ad w) (ha : a ≤ 48) : bK l dd y_B_leastFreeSlot 1 20 0 0 [.ref (ad 0), .int (nI a)] ad w 324 (bSame ad w 324 vS) (bNo) := by
  obtain ⟨V, hV, h0⟩ := hI.k0 (k := 0) (by decide) (by decide)
  obtain ⟨f, hf, hf'⟩ := hI.k4 (k := 4) (by decide) (by decide)
  refine bK.start [(0, .ref (ad 0)), (1, .int (nI a))] (by decide) t2_214 (Nat.le_of_ble_eq_true rfl) rfl (fun p e s m args below meth c A hnm C => ?_)
  have loop : ∀ (d i : Nat), i + d = 48 → bV p l e { frames := 1, cells := 0, slots := 0, locals := 20 } s m args below meth c dd A 3 0 0 (bSame ad w 324 vS) (bNo) 2 (bO [(0, .ref (ad 0)), (2, .int (nI i))]) [] ad w 324 0 0 := by
    intro d
    induction d with
    | zero =>
      intro i hi
      obtain rfl : i = 48 := by omega
      refine bv_iload_n 3 rfl C d_B_leastFreeSlot_2 rfl ?_
      refine bv_bipush (v := nI 48) 5 rfl C d_B_leastFreeSlot_3 (by decide) ?_
      refine bv_icmp_ge 28 8 rfl C d_B_leastFreeSlot_5 (by decide) (fun h => ?_) (fun h => absurd (nI_le (by decide) (by decide)) h)
      refine bv_iconst (v := -1) 29 rfl C d_B_leastFreeSlot_28 (by decide) ?_
      exact bv_ireturn C rfl d_B_leastFreeSlot_29 (Nat.le_refl _) (Nat.le_refl _) ⟨rfl, rfl, rfl, Or.inl rfl⟩
    | succ d ih =>
      intro i hi
      have hc := bKy.c (show i < 48 by omega)
      obtain ⟨n, b, g, a1, a2⟩ := hc.at hI
      refine bv_iload_n 3 rfl C d_B_leastFreeSlot_2 rfl ?_
      refine bv_bipush (v := nI 48) 5 rfl C d_B_leastFreeSlot_3 (by decide) ?_
      refine bv_icmp_ge 28 8 rfl C d_B_leastFreeSlot_5 (by decide) (fun h => absurd h (nI_ge (by omega) (by decide))) (fun h => ?_)
      refine bv_aload_n 9 rfl C d_B_leastFreeSlot_8 rfl ?_
      refine bv_get 0 2 12 rfl C k_B (by omega) rfl h0 (by decide) t1_148 rfl d_B_leastFreeSlot_9 ?_
      refine bv_iload_n 13 rfl C d_B_leastFreeSlot_12 rfl ?_
      refine bv_aald 3 4 i 14 rfl C rfl (by omega) rfl hf rfl (by omega) (by decide) d_B_leastFreeSlot_13 (hf' i (by omega)) ?_
      refine bv_call (rest := []) 17 rfl C d_B_leastFreeSlot_14 (ct_K_isFree (k := 13 + 2 * i) (by omega) a1) i_K_isFree t1_5 (fun H locs ls hP => bs_VN (av := []) (13+2*i) C i_K_isFree n1_213 t1_215 s_4 (by omega) rfl a1 rfl (by decide) rfl rfl d_B_leastFreeSlot_14 H locs ls hP) ⟨by first | decide | omega, by first | decide | omega⟩ (by decide) (by decide) (Nat.le_of_ble_eq_true rfl) (fun v ad1 w1 N1 hpo => ?_) (fun x Cn ad' w' N' hth => hth.elim)
      obtain ⟨rfl, rfl, rfl, rfl⟩ := hpo
      refine bv_if_eq 22 20 rfl C d_B_leastFreeSlot_17 (by decide) (fun h => ?_) (fun h => ?_)
      · refine bv_iinc 25 rfl C d_B_leastFreeSlot_22 rfl (by first | exact b_inc _ | rfl) (by decide) ?_
        refine bv_goto 2 C d_B_leastFreeSlot_25 (by decide) ?_
        refine bv_wk [(0, .ref (ad 0)), (2, .int (nI (i + 1)))] ⟨rfl, rfl, trivial⟩ ?_
        exact ih (i + 1) (by omega)
      · refine bv_iload_n 21 rfl C d_B_leastFreeSlot_20 rfl ?_
        exact bv_ireturn C rfl d_B_leastFreeSlot_21 (Nat.le_refl _) (Nat.le_refl _) ⟨rfl, rfl, rfl, Or.inr ⟨i, by omega, rfl⟩⟩
  refine bv_iload_n 1 rfl C d_B_leastFreeSlot_0 rfl ?_
  refine bv_istore_n 2 rfl C d_B_leastFreeSlot_1 (by decide) ?_
  refine bv_wk [(0, .ref (ad 0)), (2, .int (nI a))] ⟨rfl, rfl, trivial⟩ ?_
  exact loop (48 - a) a (by omega)
theorem j_B_plannedSlot {a : Nat} (hI : II dd ad w) (ha : a < 3) : bK l dd y_B_plannedSlot 2 44 0 0 [.ref (ad 0), .int (nI a)] ad w 324 (bSame ad w 324 vS) (bNo) := by
  obtain ⟨V, hV, h0⟩ := hI.k0 (k := 0) (by decide) (by decide)
  obtain ⟨f, hf, hf'⟩ := hI.k7 (k := 7) (by decide) (by decide)
  obtain ⟨n, g, hn, r1, r2, hg⟩ := bRw.n.at hI
  refine bK.start [(0, .ref (ad 0)), (1, .int (nI a))] (by decide) t2_210 (Nat.le_of_ble_eq_true rfl) rfl (fun p e s m args below meth c A hnm C => ?_)
  have loop : ∀ (d i : Nat), i + d = a → bV p l e { frames := 2, cells := 0, slots := 0, locals := 44 } s m args below meth c dd A 3 0 0 (bSame ad w 324 vS) (bNo) 2 (bO [(0, .ref (ad 0)), (1, .int (nI a)), (2, .int (nI i))]) [] ad w 324 0 0 := by
    intro d
    induction d with
    | zero =>
      intro i hi
      obtain rfl : i = a := by omega
      obtain ⟨n, b, g, a1, a2⟩ := (bKy.i ha).at hI
      refine bv_iload_n 3 rfl C d_B_plannedSlot_2 rfl ?_
      refine bv_iload_n 4 rfl C d_B_plannedSlot_3 rfl ?_
      refine bv_icmp_ge 41 7 rfl C d_B_plannedSlot_4 (by decide) (fun h => ?_) (fun h => absurd (nI_le (Nat.le_refl _) (by omega)) h)
      refine bv_aload_n 42 rfl C d_B_plannedSlot_41 rfl ?_
      refine bv_aload_n 43 rfl C d_B_plannedSlot_42 rfl ?_
      refine bv_get 0 6 46 rfl C k_B (by omega) rfl h0 (by decide) t1_152 rfl d_B_plannedSlot_43 ?_
      refine bv_iload_n 47 rfl C d_B_plannedSlot_46 rfl ?_
      refine bv_aald 3 7 i 48 rfl C rfl (by omega) rfl hf rfl (by omega) (by decide) d_B_plannedSlot_47 (hf' i (by omega)) ?_
      refine bv_call (rest := []) 51 rfl C d_B_plannedSlot_48 (j_B_slotWith hI (bKy.i ha)) i_B_slotWith t1_1 (fun H locs ls hP => bs_V (av := [.ref (ad (299+2*i))]) 0 C i_B_slotWith t2_27 t2_29 s_13 (by omega) rfl h0 rfl (by decide) rfl rfl d_B_plannedSlot_48 H locs ls hP) ⟨by first | decide | omega, by first | decide | omega⟩ (by decide) (by decide) (Nat.le_of_ble_eq_true rfl) (fun v ad1 w1 N1 hpo => ?_) (fun x Cn ad' w' N' hth => hth.elim)
      obtain ⟨rfl, rfl, rfl, hv⟩ := hpo
      rcases hv with rfl | ⟨j, hj, rfl⟩
      · exact bv_ireturn C rfl d_B_plannedSlot_51 (Nat.le_refl _) (Nat.le_refl _) ⟨rfl, rfl, rfl, Or.inl rfl⟩
      · exact bv_ireturn C rfl d_B_plannedSlot_51 (Nat.le_refl _) (Nat.le_refl _) ⟨rfl, rfl, rfl, Or.inr ⟨j, hj, rfl⟩⟩
    | succ d ih =>
      intro i hi
      have hc := bKy.i (show i < 3 by omega)
      obtain ⟨n, b, g', a1, a2⟩ := hc.at hI
      refine bv_iload_n 3 rfl C d_B_plannedSlot_2 rfl ?_
      refine bv_iload_n 4 rfl C d_B_plannedSlot_3 rfl ?_
      refine bv_icmp_ge 41 7 rfl C d_B_plannedSlot_4 (by decide) (fun h => absurd h (nI_ge (show i < a by omega) (by omega))) (fun h => ?_)
      refine bv_aload_n 8 rfl C d_B_plannedSlot_7 rfl ?_
      refine bv_get 0 6 11 rfl C k_B (by omega) rfl h0 (by decide) t1_152 rfl d_B_plannedSlot_8 ?_
      refine bv_iload_n 12 rfl C d_B_plannedSlot_11 rfl ?_
      refine bv_aald 3 7 i 13 rfl C rfl (by omega) rfl hf rfl (by omega) (by decide) d_B_plannedSlot_12 (hf' i (by omega)) ?_
      refine bv_aload_n 14 rfl C d_B_plannedSlot_13 rfl ?_
      refine bv_get 0 6 17 rfl C k_B (by omega) rfl h0 (by decide) t1_152 rfl d_B_plannedSlot_14 ?_
      refine bv_iload_n 18 rfl C d_B_plannedSlot_17 rfl ?_
      refine bv_aald 3 7 a 19 rfl C rfl (by omega) rfl hf rfl (by omega) (by decide) d_B_plannedSlot_18 (hf' a (by omega)) ?_
      refine bv_call (rest := []) 22 rfl C d_B_plannedSlot_19 (j_K_isLike hI hc (bKy.i ha)) i_K_isLike t1_5 (fun H locs ls hP => bs_VN (av := [.ref (ad (299+2*a))]) (299+2*i) C i_K_isLike n2_31 t2_33 s_14 (by omega) rfl a1 rfl (by decide) rfl rfl d_B_plannedSlot_19 H locs ls hP) ⟨by first | decide | omega, by first | decide | omega⟩ (by decide) (by decide) (Nat.le_of_ble_eq_true rfl) (fun v ad1 w1 N1 hpo => ?_) (fun x Cn ad' w' N' hth => hth.elim)
      obtain ⟨rfl, rfl, rfl, hv⟩ := hpo
      obtain ⟨r, rfl⟩ : vI v := by rcases hv with rfl | rfl <;> exact ⟨_, rfl⟩
      refine bv_if_eq 35 25 rfl C d_B_plannedSlot_22 (by decide) (fun h2 => ?_) (fun h2 => ?_)
      · refine bv_iinc 38 rfl C d_B_plannedSlot_35 rfl (by first | exact b_inc _ | rfl) (by decide) ?_
        refine bv_goto 2 C d_B_plannedSlot_38 (by decide) ?_
        refine bv_wk [(0, .ref (ad 0)), (1, .int (nI a)), (2, .int (nI (i + 1)))] ⟨rfl, rfl, rfl, trivial⟩ ?_
        exact ih (i + 1) (by omega)
      · obtain ⟨sl, hsl, he⟩ := hg i (by omega)
        refine bv_aload_n 26 rfl C d_B_plannedSlot_25 rfl ?_
        refine bv_get 0 7 29 rfl C k_B (by omega) rfl h0 (by decide) t1_153 rfl d_B_plannedSlot_26 ?_
        refine bv_getN 8 0 32 rfl C k_R (by omega) rfl r1 (by decide) n1_70 rfl d_B_plannedSlot_29 ?_
        refine bv_iload_n 33 rfl C d_B_plannedSlot_32 rfl ?_
        refine bv_iald 9 i 34 rfl C (by omega) rfl r2 rfl (by omega) (by decide) d_B_plannedSlot_33 ?_
        refine bv_seti (nI sl) he ?_
        exact bv_ireturn C rfl d_B_plannedSlot_34 (Nat.le_refl _) (Nat.le_refl _) ⟨rfl, rfl, rfl, Or.inr ⟨sl, hsl, rfl⟩⟩
  refine bv_iconst (v := nI 0) 1 rfl C d_B_plannedSlot_0 (by decide) ?_
  refine bv_istore_n 2 rfl C d_B_plannedSlot_1 (by decide) ?_
  refine bv_wk [(0, .ref (ad 0)), (1, .int (nI a)), (2, .int (nI 0))] ⟨rfl, rfl, rfl, trivial⟩ ?_
  exact loop a 0 (by omega)
theorem j_B_planSlots {a : Nat} (hlt : bOff l) (hI : II dd ad w) (ha : a ≤ 3) : bK l dd y_B_planSlots 6 82 1 6 [.ref (ad 0), .int (nI a)] ad w 324 (bJ dd ad (fun v => v = none)) (bJT dd ad (fun Cn => Cn = xIOB)) := by
  refine bK.start [(0, .ref (ad 0)), (1, .int (nI a))] (by decide) t2_206 (Nat.le_of_ble_eq_true rfl) rfl (fun p e s m args below meth c A hnm C => ?_)
  have loop : ∀ (d i fr : Nat) (w : Nat → va_E), i + d = a → fr ≤ 48 → II dd ad w → bV p l e { frames := 6, cells := 1, slots := 6, locals := 82 } s m args below meth c dd A 5 1 6 (bJ dd ad (fun v => v = none)) (bJT dd ad (fun Cn => Cn = xIOB)) 12 (bO [(0, .ref (ad 0)), (1, .int (nI a)), (2, .int (nI fr)), (3, .int (nI i))]) [] ad w 324 0 0 := by
    intro d
    induction d with
    | zero =>
      intro i fr w hi hfr hI
      obtain rfl : i = a := by omega
      refine bv_iload_n 13 rfl C d_B_planSlots_12 rfl ?_
      refine bv_iload_n 14 rfl C d_B_planSlots_13 rfl ?_
      refine bv_icmp_ge 71 17 rfl C d_B_planSlots_14 (by decide) (fun h => ?_) (fun h => absurd (nI_le (Nat.le_refl _) (by omega)) h)
      exact bv_return C rfl d_B_planSlots_71 (by decide) (by decide) ⟨rfl, rfl, hI, rfl⟩
    | succ d ih =>
      intro i fr w hi hfr hI
      obtain ⟨V, hV, h0⟩ := hI.k0 (k := 0) (by decide) (by decide)
      obtain ⟨n, g, hn, r1, r2, hg⟩ := bRw.n.at hI
      have add : ∀ (sl fr : Nat), sl < 48 → fr ≤ 48 → bV p l e { frames := 6, cells := 1, slots := 6, locals := 82 } s m args below meth c dd A 5 1 6 (bJ dd ad (fun v => v = none)) (bJT dd ad (fun Cn => Cn = xIOB)) 56 (bO [(0, .ref (ad 0)), (1, .int (nI a)), (2, .int (nI fr)), (3, .int (nI i)), (4, .int (nI sl))]) [] ad w 324 0 0 := by
        intro sl fr hsl hfr
        refine bv_aload_n 57 rfl C d_B_planSlots_56 rfl ?_
        refine bv_get 0 7 60 rfl C k_B (by omega) rfl h0 (by decide) t1_153 rfl d_B_planSlots_57 ?_
        refine bv_iload 62 rfl C d_B_planSlots_60 rfl ?_
        refine bv_call (rest := []) 65 rfl C d_B_planSlots_62 (j_R_add hI bRw.n hsl) i_R_add t1_4 (fun H locs ls hP => bs_VN (av := [.int (nI sl)]) 8 C i_R_add n2_231 t2_233 s_28 (by omega) rfl r1 rfl (by decide) rfl rfl d_B_planSlots_62 H locs ls hP) ⟨by first | decide | omega, by first | decide | omega⟩ (by decide) (by decide) (Nat.le_of_ble_eq_true rfl) (fun v ad1 w1 N1 hpo => ?_) (fun x Cn ad' w' N' hth => hth.elim)
        obtain ⟨rfl, rfl, hI1, rfl⟩ := hpo
        refine bv_iinc 68 rfl C d_B_planSlots_65 rfl (by first | exact b_inc _ | rfl) (by decide) ?_
        refine bv_goto 12 C d_B_planSlots_68 (by decide) ?_
        refine bv_wk [(0, .ref (ad 0)), (1, .int (nI a)), (2, .int (nI fr)), (3, .int (nI (i + 1)))] ⟨rfl, rfl, rfl, rfl, trivial⟩ ?_
        exact ih (i + 1) fr w1 (by omega) hfr hI1
      refine bv_iload_n 13 rfl C d_B_planSlots_12 rfl ?_
      refine bv_iload_n 14 rfl C d_B_planSlots_13 rfl ?_
      refine bv_icmp_ge 71 17 rfl C d_B_planSlots_14 (by decide) (fun h => absurd h (nI_ge (show i < a by omega) (by omega))) (fun h => ?_)
      refine bv_aload_n 18 rfl C d_B_planSlots_17 rfl ?_
      refine bv_iload_n 19 rfl C d_B_planSlots_18 rfl ?_
      refine bv_call (rest := []) 22 rfl C d_B_planSlots_19 (j_B_plannedSlot hI (show i < 3 by omega)) i_B_plannedSlot t1_1 (fun H locs ls hP => bs_V (av := [.int (nI i)]) 0 C i_B_plannedSlot t2_207 t2_209 s_26 (by omega) rfl h0 rfl (by decide) rfl rfl d_B_planSlots_19 H locs ls hP) ⟨by first | decide | omega, by first | decide | omega⟩ (by decide) (by decide) (Nat.le_of_ble_eq_true rfl) (fun v ad1 w1 N1 hpo => ?_) (fun x Cn ad' w' N' hth => hth.elim)
      obtain ⟨rfl, rfl, rfl, hv⟩ := hpo
      rcases hv with rfl | ⟨sl, hsl, rfl⟩
      · refine bv_istore 24 rfl C d_B_planSlots_22 (by decide) ?_
        refine bv_iload 26 rfl C d_B_planSlots_24 rfl ?_
        refine bv_if_ge 56 29 rfl C d_B_planSlots_26 (by decide) (fun h => absurd h (show ¬ (0 : Int32) ≤ -1 by decide)) (fun h => ?_)
        refine bv_aload_n 30 rfl C d_B_planSlots_29 rfl ?_
        refine bv_iload_n 31 rfl C d_B_planSlots_30 rfl ?_
        refine bv_call (rest := []) 34 rfl C d_B_planSlots_31 (j_B_leastFreeSlot hI hfr) i_B_leastFreeSlot t1_1 (fun H locs ls hP => bs_V (av := [.int (nI fr)]) 0 C i_B_leastFreeSlot t2_211 t2_213 s_27 (by omega) rfl h0 rfl (by decide) rfl rfl d_B_planSlots_31 H locs ls hP) ⟨by first | decide | omega, by first | decide | omega⟩ (by decide) (by decide) (Nat.le_of_ble_eq_true rfl) (fun v ad1 w1 N1 hpo => ?_) (fun x Cn ad' w' N' hth => hth.elim)
        obtain ⟨rfl, rfl, rfl, hv⟩ := hpo
        rcases hv with rfl | ⟨sl, hsl, rfl⟩
        · refine bv_istore 36 rfl C d_B_planSlots_34 (by decide) ?_
          refine bv_iload 38 rfl C d_B_planSlots_36 rfl ?_
          refine bv_if_ge 51 41 rfl C d_B_planSlots_38 (by decide) (fun h => absurd h (show ¬ (0 : Int32) ≤ -1 by decide)) (fun h => ?_)
          exact bv_throw (names := ["java/lang/RuntimeException", "java/lang/Exception"]) hlt C d_B_planSlots_41 d_B_planSlots_44 d_B_planSlots_45 d_B_planSlots_47 d_B_planSlots_50 t2_215 t2_216 t1_16 (show ("BlobStore", 227, "too few free slots") ∈ bStr by simp) (by decide) (by decide) ow_B_229 rfl (by first | decide | omega) (by first | decide | omega) (by first | decide | omega) (by first | decide | omega) (by first | decide | omega) (by first | decide | omega) ⟨rfl, rfl, hI, rfl⟩
        · refine bv_istore 36 rfl C d_B_planSlots_34 (by decide) ?_
          refine bv_iload 38 rfl C d_B_planSlots_36 rfl ?_
          refine bv_if_ge 51 41 rfl C d_B_planSlots_38 (by decide) (fun h => ?_) (fun h => absurd (nI_pos' (by omega)) h)
          refine bv_iload 53 rfl C d_B_planSlots_51 rfl ?_
          refine bv_iconst (v := nI 1) 54 rfl C d_B_planSlots_53 (by decide) ?_
          refine bv_iadd 55 rfl C d_B_planSlots_54 ?_
          refine bv_seti (nI (sl+1)) (nI_add sl 1) ?_
          refine bv_istore_n 56 rfl C d_B_planSlots_55 (by decide) ?_
          refine bv_wk [(0, .ref (ad 0)), (1, .int (nI a)), (2, .int (nI (sl + 1))), (3, .int (nI i)), (4, .int (nI sl))] ⟨rfl, rfl, rfl, rfl, rfl, trivial⟩ ?_
          exact add sl (sl + 1) hsl (by omega)
      · refine bv_istore 24 rfl C d_B_planSlots_22 (by decide) ?_
        refine bv_iload 26 rfl C d_B_planSlots_24 rfl ?_
        refine bv_if_ge 56 29 rfl C d_B_planSlots_26 (by decide) (fun h => ?_) (fun h => absurd (nI_pos' (by omega)) h)
        refine bv_wk [(0, .ref (ad 0)), (1, .int (nI a)), (2, .int (nI fr)), (3, .int (nI i)), (4, .int (nI sl))] ⟨rfl, rfl, rfl, rfl, rfl, trivial⟩ ?_
        exact add sl fr hsl hfr
  obtain ⟨V, hV, h0⟩ := hI.k0 (k := 0) (by decide) (by decide)
  obtain ⟨n, g, hn, r1, r2, hg⟩ := bRw.n.at hI
  refine bv_iconst (v := nI 0) 1 rfl C d_B_planSlots_0 (by decide) ?_
  refine bv_istore_n 2 rfl C d_B_planSlots_1 (by decide) ?_
  refine bv_aload_n 3 rfl C d_B_planSlots_2 rfl ?_
  refine bv_get 0 7 6 rfl C k_B (by omega) rfl h0 (by decide) t1_153 rfl d_B_planSlots_3 ?_
  refine bv_iconst (v := nI 0) 7 rfl C d_B_planSlots_6 (by decide) ?_
  refine bv_putN 8 1 10 rfl C k_R (by omega) rfl r1 (by decide) n1_73 rfl rfl rfl (Nat.le_of_ble_eq_true rfl) d_B_planSlots_7 ?_
  refine bv_any (hI.up (bRw.n.s1 (Nat.zero_le _))) (fun w1 hI1 => ?_)
  refine bv_iconst (v := nI 0) 11 rfl C d_B_planSlots_10 (by decide) ?_
  refine bv_istore_n 12 rfl C d_B_planSlots_11 (by decide) ?_
  refine bv_wk [(0, .ref (ad 0)), (1, .int (nI a)), (2, .int (nI 0)), (3, .int (nI 0))] ⟨rfl, rfl, rfl, rfl, trivial⟩ ?_
  exact loop a 0 0 w1 (by omega) (by decide) hI1
theorem j_B_cutIntoChunks {n : Nat} {x y z : Int64} (hI : II dd ad w) (hn : n ≤ 24) : bK l dd y_B_cutIntoChunks 4 104 0 0 [.ref (ad 0), .int (nI n), .long x, .long y, .long z] ad w 324 (bJ dd ad (fun v => ∃ a, a ≤ 3 ∧ v = some (.int (nI a)))) (bNo) := by
  refine bK.start [(0, .ref (ad 0)), (1, .int (nI n)), (2, .long x), (4, .long y), (6, .long z)] (by decide) t2_199 (Nat.le_of_ble_eq_true rfl) rfl (fun p e s m args below meth c A hnm C => ?_)
  have loop : ∀ (a : Nat), a ≤ 3 → ∀ (d i : Nat) (w : Nat → va_E), i + d = a → II dd ad w → bV p l e { frames := 4, cells := 0, slots := 0, locals := 104 } s m args below meth c dd A 12 0 0 (bJ dd ad (fun v => ∃ a, a ≤ 3 ∧ v = some (.int (nI a)))) (bNo) 14 (bO [(0, .ref (ad 0)), (1, .int (nI n)), (2, .long x), (4, .long y), (6, .long z), (8, .int (nI a)), (9, .int (nI i))]) [] ad w 324 0 0 := by
    intro a ha d
    induction d with
    | zero =>
      intro i w hi hI
      obtain rfl : i = a := by omega
      refine bv_iload 16 rfl C d_B_cutIntoChunks_14 rfl ?_
      refine bv_iload 18 rfl C d_B_cutIntoChunks_16 rfl ?_
      refine bv_icmp_ge 79 21 rfl C d_B_cutIntoChunks_18 (by decide) (fun h => ?_) (fun h => absurd (nI_le (Nat.le_refl _) (by omega)) h)
      refine bv_iload 81 rfl C d_B_cutIntoChunks_79 rfl ?_
      exact bv_ireturn C rfl d_B_cutIntoChunks_81 (Nat.le_refl _) (Nat.le_refl _) ⟨rfl, rfl, hI, i, ha, rfl⟩
    | succ d ih =>
      intro i w hi hI
      obtain ⟨V, hV, h0⟩ := hI.k0 (k := 0) (by decide) (by decide)
      obtain ⟨f, hf, hf'⟩ := hI.k7 (k := 7) (by decide) (by decide)
      have hc := bKy.i (show i < 3 by omega)
      obtain ⟨n0, b0, g0, a1, a2⟩ := hc.at hI
      have fill : ∀ u : Int64, bV p l e { frames := 4, cells := 0, slots := 0, locals := 104 } s m args below meth c dd A 12 0 0 (bJ dd ad (fun v => ∃ a, a ≤ 3 ∧ v = some (.int (nI a)))) (bNo) 43 (bO [(0, .ref (ad 0)), (1, .int (nI n)), (2, .long x), (4, .long y), (6, .long z), (8, .int (nI a)), (9, .int (nI i))]) [.long u] ad w 324 0 0 := by
        intro u
        refine bv_lstore 45 rfl C d_B_cutIntoChunks_43 (by decide) ?_
        refine bv_aload_n 46 rfl C d_B_cutIntoChunks_45 rfl ?_
        refine bv_get 0 6 49 rfl C k_B (by omega) rfl h0 (by decide) t1_152 rfl d_B_cutIntoChunks_46 ?_
        refine bv_iload 51 rfl C d_B_cutIntoChunks_49 rfl ?_
        refine bv_aald 3 7 i 52 rfl C rfl (by omega) rfl hf rfl (by omega) (by decide) d_B_cutIntoChunks_51 (hf' i (by omega)) ?_
        refine bv_bipush (v := nI 8) 54 rfl C d_B_cutIntoChunks_52 (by decide) ?_
        refine bv_iload_n 55 rfl C d_B_cutIntoChunks_54 rfl ?_
        refine bv_iload 57 rfl C d_B_cutIntoChunks_55 rfl ?_
        refine bv_bipush (v := nI 8) 59 rfl C d_B_cutIntoChunks_57 (by decide) ?_
        refine bv_imul 60 rfl C d_B_cutIntoChunks_59 ?_
        refine bv_isub 61 rfl C d_B_cutIntoChunks_60 ?_
        refine bv_mmin 64 rfl C t2_200 t2_201 t1_15 (hcode := t2_202) (by decide) (Nat.le_of_ble_eq_true rfl) (by decide) (by decide) d_B_cutIntoChunks_61 (fun r => ?_)
        refine bv_lload 66 rfl C d_B_cutIntoChunks_64 rfl ?_
        refine bv_aload_n 67 rfl C d_B_cutIntoChunks_66 rfl ?_
        refine bv_get 0 1 70 rfl C k_B (by omega) rfl h0 (by decide) t1_147 rfl d_B_cutIntoChunks_67 ?_
        refine bv_call (rest := []) 73 rfl C d_B_cutIntoChunks_70 (j_K_fill hI hc (n := r) (x := u)) i_K_fill t1_5 (fun H locs ls hP => bs_VN (av := [.int r, .long u, .ref (ad 2)]) (299+2*i) C i_K_fill n1_237 t1_239 s_8 (by omega) rfl a1 rfl (by decide) rfl rfl d_B_cutIntoChunks_70 H locs ls hP) ⟨by first | decide | omega, by first | decide | omega⟩ (by decide) (by decide) (Nat.le_of_ble_eq_true rfl) (fun v ad1 w1 N1 hpo => ?_) (fun x Cn ad' w' N' hth => hth.elim)
        obtain ⟨rfl, rfl, hI1, rfl⟩ := hpo
        refine bv_iinc 76 rfl C d_B_cutIntoChunks_73 rfl (by first | exact b_inc _ | rfl) (by decide) ?_
        refine bv_goto 14 C d_B_cutIntoChunks_76 (by decide) ?_
        refine bv_wk [(0, .ref (ad 0)), (1, .int (nI n)), (2, .long x), (4, .long y), (6, .long z), (8, .int (nI a)), (9, .int (nI (i + 1)))] ⟨rfl, rfl, rfl, rfl, rfl, rfl, rfl, trivial⟩ ?_
        exact ih (i + 1) w1 (by omega) hI1
      refine bv_iload 16 rfl C d_B_cutIntoChunks_14 rfl ?_
      refine bv_iload 18 rfl C d_B_cutIntoChunks_16 rfl ?_
      refine bv_icmp_ge 79 21 rfl C d_B_cutIntoChunks_18 (by decide) (fun h => absurd h (nI_ge (show i < a by omega) (by omega))) (fun h => ?_)
      refine bv_iload 23 rfl C d_B_cutIntoChunks_21 rfl ?_
      refine bv_if_ne 30 26 rfl C d_B_cutIntoChunks_23 (by decide) (fun h => ?_) (fun h => ?_)
      · refine bv_iload 32 rfl C d_B_cutIntoChunks_30 rfl ?_
        refine bv_iconst (v := nI 1) 33 rfl C d_B_cutIntoChunks_32 (by decide) ?_
        refine bv_icmp_ne 41 36 rfl C d_B_cutIntoChunks_33 (by decide) (fun h2 => ?_) (fun h2 => ?_)
        · refine bv_lload 43 rfl C d_B_cutIntoChunks_41 rfl ?_
          exact fill z
        · refine bv_lload 38 rfl C d_B_cutIntoChunks_36 rfl ?_
          refine bv_goto 43 C d_B_cutIntoChunks_38 (by decide) ?_
          exact fill y
      · refine bv_lload_n 27 rfl C d_B_cutIntoChunks_26 rfl ?_
        refine bv_goto 43 C d_B_cutIntoChunks_27 (by decide) ?_
        exact fill x
  refine bv_iload_n 1 rfl C d_B_cutIntoChunks_0 rfl ?_
  refine bv_bipush (v := nI 8) 3 rfl C d_B_cutIntoChunks_1 (by decide) ?_
  refine bv_iadd 4 rfl C d_B_cutIntoChunks_3 ?_
  refine bv_seti (nI (n + 8)) (nI_add n 8) ?_
  refine bv_iconst (v := nI 1) 5 rfl C d_B_cutIntoChunks_4 (by decide) ?_
  refine bv_isub 6 rfl C d_B_cutIntoChunks_5 ?_
  refine bv_seti (nI (n + 7)) (by rw [pk_sub (by omega)]; rfl) ?_
  refine bv_bipush (v := nI 8) 8 rfl C d_B_cutIntoChunks_6 (by decide) ?_
  refine bv_idivN (a := n + 7) (d := 8) 9 rfl C rfl rfl (by omega) (by decide) (by decide) d_B_cutIntoChunks_8 ?_
  refine bv_istore 11 rfl C d_B_cutIntoChunks_9 (by decide) ?_
  refine bv_iconst (v := nI 0) 12 rfl C d_B_cutIntoChunks_11 (by decide) ?_
  refine bv_istore 14 rfl C d_B_cutIntoChunks_12 (by decide) ?_
  refine bv_wk [(0, .ref (ad 0)), (1, .int (nI n)), (2, .long x), (4, .long y), (6, .long z), (8, .int (nI ((n + 7) / 8))), (9, .int (nI 0))] ⟨rfl, rfl, rfl, rfl, rfl, rfl, rfl, trivial⟩ ?_
  exact loop ((n + 7) / 8) (by omega) ((n + 7) / 8) 0 w (by omega) hI
theorem j_B_writeChunks {a : Nat} (hlt : bOff l) (hI : II dd ad w) (ha : a ≤ 3) : bK l dd y_B_writeChunks 7 102 3 18 [.ref (ad 0), .int (nI a)] ad w 324 (bJ dd ad vI) (bJT dd ad (fun Cn => Cn = xUOE)) := by
  refine bK.start [(0, .ref (ad 0)), (1, .int (nI a))] (by decide) t2_238 (Nat.le_of_ble_eq_true rfl) rfl (fun p e s m args below meth c A hnm C => ?_)
  have loop : ∀ (d i : Nat) (r : Int32) (w : Nat → va_E), i + d = a → II dd ad w → bV p l e { frames := 7, cells := 3, slots := 18, locals := 102 } s m args below meth c dd A 5 3 18 (bJ dd ad vI) (bJT dd ad (fun Cn => Cn = xUOE)) 4 (bO [(0, .ref (ad 0)), (1, .int (nI a)), (2, .int r), (3, .int (nI i))]) [] ad w 324 i (6 * i) := by
    intro d
    induction d with
    | zero =>
      intro i r w hi hI
      obtain rfl : i = a := by omega
      refine bv_iload_n 5 rfl C d_B_writeChunks_4 rfl ?_
      refine bv_iload_n 6 rfl C d_B_writeChunks_5 rfl ?_
      refine bv_icmp_ge 60 9 rfl C d_B_writeChunks_6 (by decide) (fun h => ?_) (fun h => absurd (nI_le (Nat.le_refl _) (by omega)) h)
      refine bv_iload_n 61 rfl C d_B_writeChunks_60 rfl ?_
      exact bv_ireturn C rfl d_B_writeChunks_61 (by omega) (by omega) ⟨rfl, rfl, hI, _, rfl⟩
    | succ d ih =>
      intro i r w hi hI
      obtain ⟨V, hV, h0⟩ := hI.k0 (k := 0) (by decide) (by decide)
      obtain ⟨n, g, hn, r1, r2, hg⟩ := bRw.n.at hI
      obtain ⟨f, hf, hf'⟩ := hI.k4 (k := 4) (by decide) (by decide)
      obtain ⟨sl, hsl, he⟩ := hg i (by omega)
      have hc := bKy.c hsl
      obtain ⟨n0, b0, g0, a1, a2⟩ := hc.at hI
      refine bv_iload_n 5 rfl C d_B_writeChunks_4 rfl ?_
      refine bv_iload_n 6 rfl C d_B_writeChunks_5 rfl ?_
      refine bv_icmp_ge 60 9 rfl C d_B_writeChunks_6 (by decide) (fun h => absurd h (nI_ge (show i < a by omega) (by omega))) (fun h => ?_)
      refine bv_aload_n 10 rfl C d_B_writeChunks_9 rfl ?_
      refine bv_get 0 2 13 rfl C k_B (by omega) rfl h0 (by decide) t1_148 rfl d_B_writeChunks_10 ?_
      refine bv_aload_n 14 rfl C d_B_writeChunks_13 rfl ?_
      refine bv_get 0 7 17 rfl C k_B (by omega) rfl h0 (by decide) t1_153 rfl d_B_writeChunks_14 ?_
      refine bv_getN 8 0 20 rfl C k_R (by omega) rfl r1 (by decide) n1_70 rfl d_B_writeChunks_17 ?_
      refine bv_iload_n 21 rfl C d_B_writeChunks_20 rfl ?_
      refine bv_iald 9 i 22 rfl C (by omega) rfl r2 rfl (by omega) (by decide) d_B_writeChunks_21 ?_
      refine bv_seti (nI sl) he ?_
      refine bv_aald 3 4 sl 23 rfl C rfl (by omega) rfl hf rfl (by omega) (by decide) d_B_writeChunks_22 (hf' sl (by omega)) ?_
      refine bv_astore 25 rfl C d_B_writeChunks_23 (by decide) ?_
      refine bv_aload 27 rfl C d_B_writeChunks_25 rfl ?_
      refine bv_call (rest := []) 30 rfl C d_B_writeChunks_27 (ct_K_isFree (k := 13 + 2 * sl) (by omega) a1) i_K_isFree t1_5 (fun H locs ls hP => bs_VN (av := []) (13+2*sl) C i_K_isFree n1_213 t1_215 s_4 (by omega) rfl a1 rfl (by decide) rfl rfl d_B_writeChunks_27 H locs ls hP) ⟨by first | decide | omega, by first | decide | omega⟩ (by show _ ≤ 3; omega) (by show _ ≤ 18; omega) (Nat.le_of_ble_eq_true rfl) (fun v ad1 w1 N1 hpo => ?_) (fun x Cn ad' w' N' hth => hth.elim)
      obtain ⟨rfl, rfl, rfl, rfl⟩ := hpo
      refine bv_if_eq 54 33 rfl C d_B_writeChunks_30 (by decide) (fun h => ?_) (fun h => ?_)
      · refine bv_iinc 57 rfl C d_B_writeChunks_54 rfl (by first | exact b_inc _ | rfl) (by decide) ?_
        refine bv_goto 4 C d_B_writeChunks_57 (by decide) ?_
        refine bv_wk [(0, .ref (ad 0)), (1, .int (nI a)), (2, .int r), (3, .int (nI (i + 1)))] ⟨rfl, rfl, rfl, rfl, trivial⟩ ?_
        refine bv_cs (i + 1) (6 * (i + 1)) (by omega) (by omega) ?_
        exact ih (i + 1) r w (by omega) hI
      · obtain ⟨px, py, pz, p1⟩ := hI.k1 (k := 1) (by decide) (by decide)
        refine bv_aload_n 34 rfl C d_B_writeChunks_33 rfl ?_
        refine bv_get 0 0 37 rfl C k_B (by omega) rfl h0 (by decide) t1_146 rfl d_B_writeChunks_34 ?_
        refine bv_call (rest := []) 40 rfl C d_B_writeChunks_37 (j_P_spendWrite hlt hI) i_P_spendWrite t1_2 (fun H locs ls hP => bs_VN (av := []) 1 C i_P_spendWrite n2_158 t2_160 s_21 (by omega) rfl p1 rfl (by decide) rfl rfl d_B_writeChunks_37 H locs ls hP) ⟨by first | decide | omega, by first | decide | omega⟩ (by show _ ≤ 3; omega) (by show _ ≤ 18; omega) (Nat.le_of_ble_eq_true rfl) (fun v ad1 w1 N1 hpo => ?_) (fun x Cn ad' w' N' hth => ?_)
        · obtain ⟨rfl, rfl, hI1, rfl⟩ := hpo
          obtain ⟨V, hV, h0⟩ := hI1.k0 (k := 0) (by decide) (by decide)
          obtain ⟨f, hf, hf'⟩ := hI1.k7 (k := 7) (by decide) (by decide)
          obtain ⟨n0, b0, g0, a1, a2⟩ := hc.at hI1
          refine bv_aload 42 rfl C d_B_writeChunks_40 rfl ?_
          refine bv_aload_n 43 rfl C d_B_writeChunks_42 rfl ?_
          refine bv_get 0 6 46 rfl C k_B (by omega) rfl h0 (by decide) t1_152 rfl d_B_writeChunks_43 ?_
          refine bv_iload_n 47 rfl C d_B_writeChunks_46 rfl ?_
          refine bv_aald 3 7 i 48 rfl C rfl (by omega) rfl hf rfl (by omega) (by decide) d_B_writeChunks_47 (hf' i (by omega)) ?_
          refine bv_call (rest := []) 51 rfl C d_B_writeChunks_48 (j_K_copyFrom hI1 hc (bKy.i (show i < 3 by omega))) i_K_copyFrom t1_5 (fun H locs ls hP => bs_VN (av := [.ref (ad (299+2*i))]) (13+2*sl) C i_K_copyFrom n2_239 t3_1 s_30 (by omega) rfl a1 rfl (by decide) rfl rfl d_B_writeChunks_48 H locs ls hP) ⟨by first | decide | omega, by first | decide | omega⟩ (by show _ ≤ 3; omega) (by show _ ≤ 18; omega) (Nat.le_of_ble_eq_true rfl) (fun v ad1 w2 N1 hpo => ?_) (fun x Cn ad' w' N' hth => hth.elim)
          obtain ⟨rfl, rfl, hI2, rfl⟩ := hpo
          refine bv_iinc 54 rfl C d_B_writeChunks_51 rfl (by first | exact b_inc _ | rfl) (by decide) ?_
          refine bv_iinc 57 rfl C d_B_writeChunks_54 rfl (by first | exact b_inc _ | rfl) (by decide) ?_
          refine bv_goto 4 C d_B_writeChunks_57 (by decide) ?_
          refine bv_wk [(0, .ref (ad 0)), (1, .int (nI a)), (2, .int (r + Int32.ofInt 1)), (3, .int (nI (i + 1)))] ⟨rfl, rfl, rfl, rfl, trivial⟩ ?_
          refine bv_cs (i + 1) (6 * (i + 1)) (by omega) (by omega) ?_
          exact ih (i + 1) _ w2 (by omega) hI2
        · obtain ⟨rfl, rfl, hI1, rfl⟩ := hth
          exact bt_out C rfl (by omega) (by omega) ⟨rfl, rfl, hI1, rfl⟩
  refine bv_iconst (v := nI 0) 1 rfl C d_B_writeChunks_0 (by decide) ?_
  refine bv_istore_n 2 rfl C d_B_writeChunks_1 (by decide) ?_
  refine bv_iconst (v := nI 0) 3 rfl C d_B_writeChunks_2 (by decide) ?_
  refine bv_istore_n 4 rfl C d_B_writeChunks_3 (by decide) ?_
  refine bv_wk [(0, .ref (ad 0)), (1, .int (nI a)), (2, .int (nI 0)), (3, .int (nI 0))] ⟨rfl, rfl, rfl, rfl, trivial⟩ ?_
  exact loop a 0 _ w (by omega) hI
end bQ4

section bQ8
variable {l : Launch} {dd : bD} {ad : Nat → Nat} {w : Nat → va_E}
theorem b_nn {x : Int32} (h : ¬ x < 0) : ∃ r : Nat, r < 2 ^ 31 ∧ x = nI r := by
  have e1 : (0 : Int32).toInt = 0 := by decide
  rw [Int32.lt_iff_toInt_lt] at h
  have h2 := x.toInt_lt
  refine ⟨x.toInt.toNat, by omega, ?_⟩
  have h3 : (nI x.toInt.toNat).toInt = x.toInt := by rw [nI_toInt (by omega)]; omega
  exact (Int32.toInt_inj.mp h3).symm
theorem b_in {x : Int32} {a b : Nat} (ha : a < 2 ^ 30) (hb : b < 2 ^ 30) (h : bIn x (nI a) (nI b)) : ∃ j, a ≤ j ∧ j ≤ b ∧ x = nI j := by
  obtain ⟨h1, h2⟩ := h
  have e1 : (nI a).toInt = (a : Int) := nI_toInt (by omega)
  have e2 : (nI b).toInt = (b : Int) := nI_toInt (by omega)
  rw [Int32.lt_iff_toInt_lt] at h1 h2
  rcases b_rng x b (by omega) with h | ⟨k, hk, rfl⟩
  · omega
  · have e3 : (nI k).toInt = (k : Int) := nI_toInt (by omega)
    exact ⟨k, by omega, hk, rfl⟩
/-- the reference's own object in another state of the store -/
theorem II.m {th : Int32} {V : Nat} {wr cu dn : Int32} (hI : II dd ad w) (hV : V ≤ 40) (hd : dn = 0 ∨ dn = 1) : II dd ad (va_up w 305 (mO ad th (nI V) wr cu dn)) := hI.up ((sh_305 (by decide)).mpr ⟨th, V, wr, cu, dn, hV, hd, rfl⟩)
theorem j_M_writes {th ve wr cu dn x : Int32} (hm : w 305 = mO ad th ve wr cu dn) (hd : dn = 0 ∨ dn = 1) : bK l dd y_M_writes 0 0 0 0 [.ref (ad 305), .int x] ad w 324 (fun v ad' w' N' => ad = ad' ∧ 324 = N' ∧ (∃ th' wr' cu' dn' : Int32, (dn' = 0 ∨ dn' = 1) ∧ w' = va_up w 305 (mO ad th' ve wr' cu' dn')) ∧ (v = some (.int (nI 0)) ∨ v = some (.int (nI 1)))) (bNo) := by
  refine bK.start [(0, .ref (ad 305)), (1, .int x)] (by decide) t3_194 (Nat.le_of_ble_eq_true rfl) rfl (fun p e s m args below meth c A hnm C => ?_)
  refine bv_aload_n 1 rfl C d_M_writes_0 rfl ?_
  refine bv_get 305 15 4 rfl C k_M (by omega) rfl hm (by decide) t3_122 rfl d_M_writes_1 ?_
  refine bv_if_ne 24 7 rfl C d_M_writes_4 (by decide) (fun x1 => ?_) (fun x1 => ?_)
  · have go : ∀ u : Int32, bV p l e { frames := 0, cells := 0, slots := 0, locals := 0 } s m args below meth c dd A 2 0 0 (fun v ad' w' N' => ad = ad' ∧ 324 = N' ∧ (∃ th' wr' cu' dn' : Int32, (dn' = 0 ∨ dn' = 1) ∧ w' = va_up w 305 (mO ad th' ve wr' cu' dn')) ∧ (v = some (.int (nI 0)) ∨ v = some (.int (nI 1)))) (bNo) 41 (bO [(0, .ref (ad 305))]) [.int u, .int cu, .ref (ad 305)] ad w 324 0 0 := by
      intro u
      refine bv_isub 42 rfl C d_M_writes_41 ?_
      refine bv_put 305 15 45 rfl C k_M (by omega) rfl hm (by decide) t3_122 rfl rfl rfl (Nat.le_of_ble_eq_true rfl) d_M_writes_42 ?_
      refine bv_aload_n 46 rfl C d_M_writes_45 rfl ?_
      refine bv_dup 47 rfl C d_M_writes_46 rfl ?_
      refine bv_get 305 14 50 rfl C k_M (by omega) rfl (va_up_self _ _ _) (by decide) t3_121 rfl d_M_writes_47 ?_
      refine bv_iconst (v := nI 1) 51 rfl C d_M_writes_50 (by decide) ?_
      refine bv_iadd 52 rfl C d_M_writes_51 ?_
      refine bv_put 305 14 55 rfl C k_M (by omega) rfl (va_up_self _ _ _) (by decide) t3_121 rfl rfl rfl (Nat.le_of_ble_eq_true rfl) d_M_writes_52 ?_
      rw [bu_same]
      refine bv_iconst (v := nI 1) 56 rfl C d_M_writes_55 (by decide) ?_
      exact bv_zreturn C rfl (Or.inr rfl) d_M_writes_56 (by decide) (by decide) ⟨rfl, rfl, ⟨_, _, _, _, hd, rfl⟩, Or.inr rfl⟩
    refine bv_aload_n 25 rfl C d_M_writes_24 rfl ?_
    refine bv_dup 26 rfl C d_M_writes_25 rfl ?_
    refine bv_get 305 15 29 rfl C k_M (by omega) rfl hm (by decide) t3_122 rfl d_M_writes_26 ?_
    refine bv_aload_n 30 rfl C d_M_writes_29 rfl ?_
    refine bv_get 305 15 33 rfl C k_M (by omega) rfl hm (by decide) t3_122 rfl d_M_writes_30 ?_
    refine bv_if_le 40 36 rfl C d_M_writes_33 (by decide) (fun x2 => ?_) (fun x2 => ?_)
    · refine bv_iconst (v := nI 0) 41 rfl C d_M_writes_40 (by decide) ?_
      exact bv_wk [(0, .ref (ad 305))] ⟨rfl, trivial⟩ (go _)
    · refine bv_iconst (v := nI 1) 37 rfl C d_M_writes_36 (by decide) ?_
      refine bv_goto 41 C d_M_writes_37 (by decide) ?_
      exact bv_wk [(0, .ref (ad 305))] ⟨rfl, trivial⟩ (go _)
  · refine bv_aload_n 8 rfl C d_M_writes_7 rfl ?_
    refine bv_iconst (v := -1) 9 rfl C d_M_writes_8 (by decide) ?_
    refine bv_put 305 15 12 rfl C k_M (by omega) rfl hm (by decide) t3_122 rfl rfl rfl (Nat.le_of_ble_eq_true rfl) d_M_writes_9 ?_
    refine bv_aload_n 13 rfl C d_M_writes_12 rfl ?_
    refine bv_iconst (v := nI 1) 14 rfl C d_M_writes_13 (by decide) ?_
    refine bv_put 305 16 17 rfl C k_M (by omega) rfl (va_up_self _ _ _) (by decide) t3_123 rfl rfl rfl (Nat.le_of_ble_eq_true rfl) d_M_writes_14 ?_
    rw [bu_same]
    refine bv_aload_n 18 rfl C d_M_writes_17 rfl ?_
    refine bv_iload_n 19 rfl C d_M_writes_18 rfl ?_
    refine bv_put 305 0 22 rfl C k_M (by omega) rfl (va_up_self _ _ _) (by decide) t3_107 rfl rfl rfl (Nat.le_of_ble_eq_true rfl) d_M_writes_19 ?_
    rw [bu_same]
    refine bv_iconst (v := nI 0) 23 rfl C d_M_writes_22 (by decide) ?_
    exact bv_zreturn C rfl (Or.inl rfl) d_M_writes_23 (by decide) (by decide) ⟨rfl, rfl, ⟨_, _, _, _, Or.inr (by decide), rfl⟩, Or.inl rfl⟩
theorem j_M_isOpen {x : Int32} (hI : II dd ad w) : bK l dd y_M_isOpen 1 22 0 0 [.ref (ad 305), .int x] ad w 324 (bSame ad w 324 (fun v => v = some (.int (nI 0)) ∨ ∃ i, i < 5 ∧ x = nI i ∧ v = some (.int (nI 1)))) (bNo) := by
  obtain ⟨th, V, wr, cu, dn, hV, hd, hm⟩ := hI.k305 (k := 305) (by decide) (by decide)
  obtain ⟨f, hf⟩ := hI.k308 (k := 308) (by decide) (by decide)
  refine bK.start [(0, .ref (ad 305)), (1, .int x)] (by decide) t3_202 (Nat.le_of_ble_eq_true rfl) rfl (fun p e s m args below meth c A hnm C => ?_)
  refine bv_iload_n 1 rfl C d_M_isOpen_0 rfl ?_
  refine bv_iconst (v := nI 0) 2 rfl C d_M_isOpen_1 (by decide) ?_
  refine bv_iconst (v := nI 4) 3 rfl C d_M_isOpen_2 (by decide) ?_
  refine bv_call (rest := []) 6 rfl C d_M_isOpen_3 (ct_M_in (x := x) (a := nI 0) (b := nI 4)) i_M_in t1_8 (fun H locs ls _ => bs_S (av := [.int x, .int (nI 0), .int (nI 4)]) C i_M_in t3_184 t3_185 t1_8 (by decide) rfl rfl d_M_isOpen_3 H locs ls) ⟨by first | decide | omega, by first | decide | omega⟩ (by decide) (by decide) (Nat.le_of_ble_eq_true rfl) (fun v ad1 w1 N1 hpo => ?_) (fun x Cn ad' w' N' hth => hth.elim)
  obtain ⟨rfl, rfl, rfl, hv⟩ := hpo
  rcases hv with ⟨hi, rfl⟩ | ⟨-, rfl⟩
  · obtain ⟨i, -, hi2, rfl⟩ := b_in (by decide) (by decide) hi
    refine bv_if_eq 22 9 rfl C d_M_isOpen_6 (by decide) (fun h => absurd h (show ¬ nI 1 = 0 by decide)) (fun h => ?_)
    refine bv_aload_n 10 rfl C d_M_isOpen_9 rfl ?_
    refine bv_get 305 3 13 rfl C k_M (by omega) rfl hm (by decide) t3_110 rfl d_M_isOpen_10 ?_
    refine bv_iload_n 14 rfl C d_M_isOpen_13 rfl ?_
    refine bv_zald 308 i 15 rfl C (by omega) rfl hf rfl (by omega) (by decide) d_M_isOpen_14 ?_
    refine bv_if_eq 22 18 rfl C d_M_isOpen_15 (by decide) (fun x1 => ?_) (fun x1 => ?_)
    · refine bv_iconst (v := nI 0) 23 rfl C d_M_isOpen_22 (by decide) ?_
      exact bv_zreturn C rfl (Or.inl rfl) d_M_isOpen_23 (by decide) (by decide) ⟨rfl, rfl, rfl, Or.inl rfl⟩
    · refine bv_iconst (v := nI 1) 19 rfl C d_M_isOpen_18 (by decide) ?_
      refine bv_goto 23 C d_M_isOpen_19 (by decide) ?_
      exact bv_zreturn C rfl (Or.inr rfl) d_M_isOpen_23 (by decide) (by decide) ⟨rfl, rfl, rfl, Or.inr ⟨i, by omega, rfl, rfl⟩⟩
  · refine bv_if_eq 22 9 rfl C d_M_isOpen_6 (by decide) (fun h => ?_) (fun h => absurd (show nI 0 = 0 by decide) h)
    refine bv_iconst (v := nI 0) 23 rfl C d_M_isOpen_22 (by decide) ?_
    exact bv_zreturn C rfl (Or.inl rfl) d_M_isOpen_23 (by decide) (by decide) ⟨rfl, rfl, rfl, Or.inl rfl⟩
theorem j_M_isLiving {x : Int32} (hI : II dd ad w) : bK l dd y_M_isLiving 1 22 0 0 [.ref (ad 305), .int x] ad w 324 (bSame ad w 324 (fun v => v = some (.int (nI 0)) ∨ ∃ i, 1 ≤ i ∧ i ≤ 40 ∧ x = nI i ∧ v = some (.int (nI 1)))) (bNo) := by
  obtain ⟨th, V, wr, cu, dn, hV, hd, hm⟩ := hI.k305 (k := 305) (by decide) (by decide)
  obtain ⟨f, hf⟩ := hI.k313 (k := 313) (by decide) (by decide)
  refine bK.start [(0, .ref (ad 305)), (1, .int x)] (by decide) t4_10 (Nat.le_of_ble_eq_true rfl) rfl (fun p e s m args below meth c A hnm C => ?_)
  refine bv_iload_n 1 rfl C d_M_isLiving_0 rfl ?_
  refine bv_iconst (v := nI 1) 2 rfl C d_M_isLiving_1 (by decide) ?_
  refine bv_aload_n 3 rfl C d_M_isLiving_2 rfl ?_
  refine bv_get 305 8 6 rfl C k_M (by omega) rfl hm (by decide) t3_115 rfl d_M_isLiving_3 ?_
  refine bv_call (rest := []) 9 rfl C d_M_isLiving_6 (ct_M_in (x := x) (a := nI 1) (b := nI V)) i_M_in t1_8 (fun H locs ls _ => bs_S (av := [.int x, .int (nI 1), .int (nI V)]) C i_M_in t3_184 t3_185 t1_8 (by decide) rfl rfl d_M_isLiving_6 H locs ls) ⟨by first | decide | omega, by first | decide | omega⟩ (by decide) (by decide) (Nat.le_of_ble_eq_true rfl) (fun v ad1 w1 N1 hpo => ?_) (fun x Cn ad' w' N' hth => hth.elim)
  obtain ⟨rfl, rfl, rfl, hv⟩ := hpo
  rcases hv with ⟨hi, rfl⟩ | ⟨-, rfl⟩
  · obtain ⟨i, hi1, hi2, rfl⟩ := b_in (by decide) (by omega) hi
    refine bv_if_eq 25 12 rfl C d_M_isLiving_9 (by decide) (fun h => absurd h (show ¬ nI 1 = 0 by decide)) (fun h => ?_)
    refine bv_aload_n 13 rfl C d_M_isLiving_12 rfl ?_
    refine bv_get 305 9 16 rfl C k_M (by omega) rfl hm (by decide) t3_116 rfl d_M_isLiving_13 ?_
    refine bv_iload_n 17 rfl C d_M_isLiving_16 rfl ?_
    refine bv_zald 313 i 18 rfl C (by omega) rfl hf rfl (by omega) (by decide) d_M_isLiving_17 ?_
    refine bv_if_eq 25 21 rfl C d_M_isLiving_18 (by decide) (fun x1 => ?_) (fun x1 => ?_)
    · refine bv_iconst (v := nI 0) 26 rfl C d_M_isLiving_25 (by decide) ?_
      exact bv_zreturn C rfl (Or.inl rfl) d_M_isLiving_26 (by decide) (by decide) ⟨rfl, rfl, rfl, Or.inl rfl⟩
    · refine bv_iconst (v := nI 1) 22 rfl C d_M_isLiving_21 (by decide) ?_
      refine bv_goto 26 C d_M_isLiving_22 (by decide) ?_
      exact bv_zreturn C rfl (Or.inr rfl) d_M_isLiving_26 (by decide) (by decide) ⟨rfl, rfl, rfl, Or.inr ⟨i, hi1, by omega, rfl, rfl⟩⟩
  · refine bv_if_eq 25 12 rfl C d_M_isLiving_9 (by decide) (fun h => ?_) (fun h => absurd (show nI 0 = 0 by decide) h)
    refine bv_iconst (v := nI 0) 26 rfl C d_M_isLiving_25 (by decide) ?_
    exact bv_zreturn C rfl (Or.inl rfl) d_M_isLiving_26 (by decide) (by decide) ⟨rfl, rfl, rfl, Or.inl rfl⟩
theorem j_M_slotAt {i k : Nat} (hI : II dd ad w) (h1 : 1 ≤ i) (h2 : i ≤ 40) (hk : k ≤ 20) : bK l dd y_M_slotAt 0 0 0 0 [.ref (ad 305), .int (nI i), .int (nI k)] ad w 324 (bSame ad w 324 (fun v => ∃ s, s < 48 ∧ v = some (.int (nI s)))) (bNo) := by
  obtain ⟨th, V, wr, cu, dn, hV, hd, hm⟩ := hI.k305 (k := 305) (by decide) (by decide)
  obtain ⟨f, hf, hf'⟩ := hI.k317 (k := 317) (by decide) (by decide)
  obtain ⟨sl, hs, he⟩ := hf' (18 * (i - 1) + k) (by omega)
  refine bK.start [(0, .ref (ad 305)), (1, .int (nI i)), (2, .int (nI k))] (by decide) t4_22 (Nat.le_of_ble_eq_true rfl) rfl (fun p e s m args below meth c A hnm C => ?_)
  refine bv_aload_n 1 rfl C d_M_slotAt_0 rfl ?_
  refine bv_get 305 13 4 rfl C k_M (by omega) rfl hm (by decide) t3_120 rfl d_M_slotAt_1 ?_
  refine bv_bipush (v := nI 18) 6 rfl C d_M_slotAt_4 (by decide) ?_
  refine bv_iload_n 7 rfl C d_M_slotAt_6 rfl ?_
  refine bv_iconst (v := nI 1) 8 rfl C d_M_slotAt_7 (by decide) ?_
  refine bv_isub 9 rfl C d_M_slotAt_8 ?_
  refine bv_imul 10 rfl C d_M_slotAt_9 ?_
  refine bv_iload_n 11 rfl C d_M_slotAt_10 rfl ?_
  refine bv_iadd 12 rfl C d_M_slotAt_11 ?_
  refine bv_iald 317 (18*(i-1)+k) 13 rfl C (by omega) rfl hf (by rw [pk_sub h1, pk_mul, nI_add]) (by omega) (by decide) d_M_slotAt_12 ?_
  refine bv_seti (nI sl) he ?_
  exact bv_ireturn C rfl d_M_slotAt_13 (Nat.le_refl _) (Nat.le_refl _) ⟨rfl, rfl, rfl, sl, hs, rfl⟩
theorem j_M_need {x : Int32} (hI : II dd ad w) : bK l dd y_M_need 1 22 0 0 [.ref (ad 305), .int x] ad w 324 (bSame ad w 324 vI) (bNo) := by
  obtain ⟨th, V, wr, cu, dn, hV, hd, hm⟩ := hI.k305 (k := 305) (by decide) (by decide)
  obtain ⟨fo, hfo⟩ := hI.k308 (k := 308) (by decide) (by decide)
  obtain ⟨fp, hfp, hfp'⟩ := hI.k311 (k := 311) (by decide) (by decide)
  obtain ⟨fs, hfs, hfs'⟩ := hI.k312 (k := 312) (by decide) (by decide)
  obtain ⟨fl, hfl⟩ := hI.k313 (k := 313) (by decide) (by decide)
  obtain ⟨fz, hfz, hfz'⟩ := hI.k316 (k := 316) (by decide) (by decide)
  refine bK.start [(0, .ref (ad 305)), (1, .int x)] (by decide) t4_18 (Nat.le_of_ble_eq_true rfl) rfl (fun p e s m args below meth c A hnm C => ?_)
  have loopV : ∀ (d i : Nat) (r : Int32), i + d = 41 → 1 ≤ i → bV p l e { frames := 1, cells := 0, slots := 0, locals := 22 } s m args below meth c dd A 5 0 0 (bSame ad w 324 vI) (bNo) 73 (bO [(0, .ref (ad 305)), (1, .int x), (2, .int r), (3, .int (nI i))]) [] ad w 324 0 0 := by
    intro d
    induction d with
    | zero =>
      intro i r hi h1
      refine bv_iload_n 74 rfl C d_M_need_73 rfl ?_
      refine bv_aload_n 75 rfl C d_M_need_74 rfl ?_
      refine bv_get 305 8 78 rfl C k_M (by omega) rfl hm (by decide) t3_115 rfl d_M_need_75 ?_
      refine bv_icmp_gt 135 81 rfl C d_M_need_78 (by decide) (fun h => ?_) (fun h => absurd (nI_lt (show V < i by omega) (by omega)) h)
      refine bv_iload_n 136 rfl C d_M_need_135 rfl ?_
      exact bv_ireturn C rfl d_M_need_136 (Nat.le_refl _) (Nat.le_refl _) ⟨rfl, rfl, rfl, _, rfl⟩
    | succ d ih =>
      intro i r hi h1
      obtain ⟨z, hz, hze⟩ := hfz' i (by omega)
      have next : ∀ r : Int32, bV p l e { frames := 1, cells := 0, slots := 0, locals := 22 } s m args below meth c dd A 5 0 0 (bSame ad w 324 vI) (bNo) 129 (bO [(0, .ref (ad 305)), (1, .int x), (2, .int r), (3, .int (nI i))]) [] ad w 324 0 0 := by
        intro r
        refine bv_iinc 132 rfl C d_M_need_129 rfl (by first | exact b_inc _ | rfl) (by decide) ?_
        refine bv_goto 73 C d_M_need_132 (by decide) ?_
        refine bv_wk [(0, .ref (ad 305)), (1, .int x), (2, .int r), (3, .int (nI (i + 1)))] ⟨rfl, rfl, rfl, rfl, trivial⟩ ?_
        exact ih (i + 1) r (by omega) (by omega)
      have inner : ∀ (d2 k : Nat) (r : Int32), k + d2 = 21 → bV p l e { frames := 1, cells := 0, slots := 0, locals := 22 } s m args below meth c dd A 5 0 0 (bSame ad w 324 vI) (bNo) 84 (bO [(0, .ref (ad 305)), (1, .int x), (2, .int r), (3, .int (nI i)), (4, .int (nI k))]) [] ad w 324 0 0 := by
        intro d2
        induction d2 with
        | zero =>
          intro k r hk
          refine bv_aload_n 85 rfl C d_M_need_84 rfl ?_
          refine bv_get 305 9 88 rfl C k_M (by omega) rfl hm (by decide) t3_116 rfl d_M_need_85 ?_
          refine bv_iload_n 89 rfl C d_M_need_88 rfl ?_
          refine bv_zald 313 i 90 rfl C (by omega) rfl hfl rfl (by omega) (by decide) d_M_need_89 ?_
          refine bv_if_eq 129 93 rfl C d_M_need_90 (by decide) (fun x1 => ?_) (fun x1 => ?_)
          · exact bv_wk [(0, .ref (ad 305)), (1, .int x), (2, .int r), (3, .int (nI i))] ⟨rfl, rfl, rfl, rfl, trivial⟩ (next r)
          · refine bv_iload 95 rfl C d_M_need_93 rfl ?_
            refine bv_aload_n 96 rfl C d_M_need_95 rfl ?_
            refine bv_get 305 12 99 rfl C k_M (by omega) rfl hm (by decide) t3_119 rfl d_M_need_96 ?_
            refine bv_iload_n 100 rfl C d_M_need_99 rfl ?_
            refine bv_iald 316 i 101 rfl C (by omega) rfl hfz rfl (by omega) (by decide) d_M_need_100 ?_
            refine bv_seti (nI z) hze ?_
            refine bv_icmp_ge 129 104 rfl C d_M_need_101 (by decide) (fun h => ?_) (fun h => absurd (nI_le (show z ≤ k by omega) (by omega)) h)
            exact bv_wk [(0, .ref (ad 305)), (1, .int x), (2, .int r), (3, .int (nI i))] ⟨rfl, rfl, rfl, rfl, trivial⟩ (next r)
        | succ d2 ih2 =>
          intro k r hk
          refine bv_aload_n 85 rfl C d_M_need_84 rfl ?_
          refine bv_get 305 9 88 rfl C k_M (by omega) rfl hm (by decide) t3_116 rfl d_M_need_85 ?_
          refine bv_iload_n 89 rfl C d_M_need_88 rfl ?_
          refine bv_zald 313 i 90 rfl C (by omega) rfl hfl rfl (by omega) (by decide) d_M_need_89 ?_
          refine bv_if_eq 129 93 rfl C d_M_need_90 (by decide) (fun x1 => ?_) (fun x1 => ?_)
          · exact bv_wk [(0, .ref (ad 305)), (1, .int x), (2, .int r), (3, .int (nI i))] ⟨rfl, rfl, rfl, rfl, trivial⟩ (next r)
          · refine bv_iload 95 rfl C d_M_need_93 rfl ?_
            refine bv_aload_n 96 rfl C d_M_need_95 rfl ?_
            refine bv_get 305 12 99 rfl C k_M (by omega) rfl hm (by decide) t3_119 rfl d_M_need_96 ?_
            refine bv_iload_n 100 rfl C d_M_need_99 rfl ?_
            refine bv_iald 316 i 101 rfl C (by omega) rfl hfz rfl (by omega) (by decide) d_M_need_100 ?_
            refine bv_seti (nI z) hze ?_
            refine bv_icmp_ge 129 104 rfl C d_M_need_101 (by decide) (fun x2 => ?_) (fun x2 => ?_)
            · exact bv_wk [(0, .ref (ad 305)), (1, .int x), (2, .int r), (3, .int (nI i))] ⟨rfl, rfl, rfl, rfl, trivial⟩ (next r)
            · have go : ∀ u : Int32, bV p l e { frames := 1, cells := 0, slots := 0, locals := 22 } s m args below meth c dd A 5 0 0 (bSame ad w 324 vI) (bNo) 121 (bO [(0, .ref (ad 305)), (1, .int x), (2, .int r), (3, .int (nI i)), (4, .int (nI k))]) [.int u, .int r] ad w 324 0 0 := by
                intro u
                refine bv_iadd 122 rfl C d_M_need_121 ?_
                refine bv_istore_n 123 rfl C d_M_need_122 (by decide) ?_
                refine bv_iinc 126 rfl C d_M_need_123 rfl (by first | exact b_inc _ | rfl) (by decide) ?_
                refine bv_goto 84 C d_M_need_126 (by decide) ?_
                refine bv_wk [(0, .ref (ad 305)), (1, .int x), (2, .int (r + u)), (3, .int (nI i)), (4, .int (nI (k + 1)))] ⟨rfl, rfl, rfl, rfl, rfl, trivial⟩ ?_
                exact ih2 (k + 1) _ (by omega)
              refine bv_iload_n 105 rfl C d_M_need_104 rfl ?_
              refine bv_aload_n 106 rfl C d_M_need_105 rfl ?_
              refine bv_iload_n 107 rfl C d_M_need_106 rfl ?_
              refine bv_iload 109 rfl C d_M_need_107 rfl ?_
              refine bv_call (rest := [.int r]) 112 rfl C d_M_need_109 (j_M_slotAt hI h1 (show i ≤ 40 by omega) (show k ≤ 20 by omega)) i_M_slotAt t1_8 (fun H locs ls hP => bs_V (av := [.int (nI i), .int (nI k)]) 305 C i_M_slotAt t4_19 t4_21 s_50 (by omega) rfl hm rfl (by decide) rfl rfl d_M_need_109 H locs ls hP) ⟨by first | decide | omega, by first | decide | omega⟩ (by decide) (by decide) (Nat.le_of_ble_eq_true rfl) (fun v ad1 w1 N1 hpo => ?_) (fun x Cn ad' w' N' hth => hth.elim)
              obtain ⟨rfl, rfl, rfl, s', hs', rfl⟩ := hpo
              refine bv_iload_n 113 rfl C d_M_need_112 rfl ?_
              refine bv_icmp_ne 120 116 rfl C d_M_need_113 (by decide) (fun x3 => ?_) (fun x3 => ?_)
              · refine bv_iconst (v := nI 0) 121 rfl C d_M_need_120 (by decide) ?_
                exact go _
              · refine bv_iconst (v := nI 1) 117 rfl C d_M_need_116 (by decide) ?_
                refine bv_goto 121 C d_M_need_117 (by decide) ?_
                exact go _
      refine bv_iload_n 74 rfl C d_M_need_73 rfl ?_
      refine bv_aload_n 75 rfl C d_M_need_74 rfl ?_
      refine bv_get 305 8 78 rfl C k_M (by omega) rfl hm (by decide) t3_115 rfl d_M_need_75 ?_
      refine bv_icmp_gt 135 81 rfl C d_M_need_78 (by decide) (fun x1 => ?_) (fun x1 => ?_)
      · refine bv_iload_n 136 rfl C d_M_need_135 rfl ?_
        exact bv_ireturn C rfl d_M_need_136 (Nat.le_refl _) (Nat.le_refl _) ⟨rfl, rfl, rfl, _, rfl⟩
      · refine bv_iconst (v := nI 0) 82 rfl C d_M_need_81 (by decide) ?_
        refine bv_istore 84 rfl C d_M_need_82 (by decide) ?_
        refine bv_wk [(0, .ref (ad 305)), (1, .int x), (2, .int r), (3, .int (nI i)), (4, .int (nI 0))] ⟨rfl, rfl, rfl, rfl, rfl, trivial⟩ ?_
        exact inner 21 0 r (by omega)
  have loopP : ∀ (d i : Nat) (r : Int32), i + d = 35 → bV p l e { frames := 1, cells := 0, slots := 0, locals := 22 } s m args below meth c dd A 5 0 0 (bSame ad w 324 vI) (bNo) 4 (bO [(0, .ref (ad 305)), (1, .int x), (2, .int r), (3, .int (nI i))]) [] ad w 324 0 0 := by
    intro d
    induction d with
    | zero =>
      intro i r hi
      obtain rfl : i = 35 := by omega
      refine bv_iload_n 5 rfl C d_M_need_4 rfl ?_
      refine bv_bipush (v := nI 35) 7 rfl C d_M_need_5 (by decide) ?_
      refine bv_icmp_ge 71 10 rfl C d_M_need_7 (by decide) (fun h => ?_) (fun h => absurd (nI_le (by decide) (by decide)) h)
      refine bv_iconst (v := nI 1) 72 rfl C d_M_need_71 (by decide) ?_
      refine bv_istore_n 73 rfl C d_M_need_72 (by decide) ?_
      refine bv_wk [(0, .ref (ad 305)), (1, .int x), (2, .int r), (3, .int (nI 1))] ⟨rfl, rfl, rfl, rfl, trivial⟩ ?_
      exact loopV 40 1 r (by omega) (by omega)
    | succ d ih =>
      intro i r hi
      have next : ∀ r : Int32, bV p l e { frames := 1, cells := 0, slots := 0, locals := 22 } s m args below meth c dd A 5 0 0 (bSame ad w 324 vI) (bNo) 65 (bO [(0, .ref (ad 305)), (1, .int x), (2, .int r), (3, .int (nI i))]) [] ad w 324 0 0 := by
        intro r
        refine bv_iinc 68 rfl C d_M_need_65 rfl (by first | exact b_inc _ | rfl) (by decide) ?_
        refine bv_goto 4 C d_M_need_68 (by decide) ?_
        refine bv_wk [(0, .ref (ad 305)), (1, .int x), (2, .int r), (3, .int (nI (i + 1)))] ⟨rfl, rfl, rfl, rfl, trivial⟩ ?_
        exact ih (i + 1) r (by omega)
      have inner : ∀ (d2 k : Nat) (r : Int32), k + d2 = 3 → bV p l e { frames := 1, cells := 0, slots := 0, locals := 22 } s m args below meth c dd A 5 0 0 (bSame ad w 324 vI) (bNo) 13 (bO [(0, .ref (ad 305)), (1, .int x), (2, .int r), (3, .int (nI i)), (4, .int (nI k))]) [] ad w 324 0 0 := by
        intro d2
        induction d2 with
        | zero =>
          intro k r hk
          refine bv_aload_n 14 rfl C d_M_need_13 rfl ?_
          refine bv_get 305 3 17 rfl C k_M (by omega) rfl hm (by decide) t3_110 rfl d_M_need_14 ?_
          refine bv_iload_n 18 rfl C d_M_need_17 rfl ?_
          refine bv_bipush (v := nI 7) 20 rfl C d_M_need_18 (by decide) ?_
          refine bv_idivN (a := i) (d := 7) 21 rfl C rfl rfl (by omega) (by decide) (by decide) d_M_need_20 ?_
          refine bv_zald 308 (i/7) 22 rfl C (by omega) rfl hfo rfl (by omega) (by decide) d_M_need_21 ?_
          refine bv_if_eq 65 25 rfl C d_M_need_22 (by decide) (fun x1 => ?_) (fun x1 => ?_)
          · exact bv_wk [(0, .ref (ad 305)), (1, .int x), (2, .int r), (3, .int (nI i))] ⟨rfl, rfl, rfl, rfl, trivial⟩ (next r)
          · refine bv_iload 27 rfl C d_M_need_25 rfl ?_
            refine bv_aload_n 28 rfl C d_M_need_27 rfl ?_
            refine bv_get 305 6 31 rfl C k_M (by omega) rfl hm (by decide) t3_113 rfl d_M_need_28 ?_
            refine bv_iload_n 32 rfl C d_M_need_31 rfl ?_
            refine bv_iald 311 i 33 rfl C (by omega) rfl hfp rfl (by omega) (by decide) d_M_need_32 ?_
            rcases hfp' i (by omega) with hze | ⟨z, hz, hze⟩
            · refine bv_seti (-1) hze ?_
              refine bv_icmp_ge 65 36 rfl C d_M_need_33 (by decide) (fun h => ?_) (fun h => absurd (show (-1 : Int32) ≤ nI k by rw [show k = 3 by omega]; decide) h)
              exact bv_wk [(0, .ref (ad 305)), (1, .int x), (2, .int r), (3, .int (nI i))] ⟨rfl, rfl, rfl, rfl, trivial⟩ (next r)
            · refine bv_seti (nI z) hze ?_
              refine bv_icmp_ge 65 36 rfl C d_M_need_33 (by decide) (fun h => ?_) (fun h => absurd (nI_le (show z ≤ k by omega) (by omega)) h)
              exact bv_wk [(0, .ref (ad 305)), (1, .int x), (2, .int r), (3, .int (nI i))] ⟨rfl, rfl, rfl, rfl, trivial⟩ (next r)
        | succ d2 ih2 =>
          intro k r hk
          refine bv_aload_n 14 rfl C d_M_need_13 rfl ?_
          refine bv_get 305 3 17 rfl C k_M (by omega) rfl hm (by decide) t3_110 rfl d_M_need_14 ?_
          refine bv_iload_n 18 rfl C d_M_need_17 rfl ?_
          refine bv_bipush (v := nI 7) 20 rfl C d_M_need_18 (by decide) ?_
          refine bv_idivN (a := i) (d := 7) 21 rfl C rfl rfl (by omega) (by decide) (by decide) d_M_need_20 ?_
          refine bv_zald 308 (i/7) 22 rfl C (by omega) rfl hfo rfl (by omega) (by decide) d_M_need_21 ?_
          refine bv_if_eq 65 25 rfl C d_M_need_22 (by decide) (fun x1 => ?_) (fun x1 => ?_)
          · exact bv_wk [(0, .ref (ad 305)), (1, .int x), (2, .int r), (3, .int (nI i))] ⟨rfl, rfl, rfl, rfl, trivial⟩ (next r)
          · refine bv_iload 27 rfl C d_M_need_25 rfl ?_
            refine bv_aload_n 28 rfl C d_M_need_27 rfl ?_
            refine bv_get 305 6 31 rfl C k_M (by omega) rfl hm (by decide) t3_113 rfl d_M_need_28 ?_
            refine bv_iload_n 32 rfl C d_M_need_31 rfl ?_
            refine bv_iald 311 i 33 rfl C (by omega) rfl hfp rfl (by omega) (by decide) d_M_need_32 ?_
            refine bv_icmp_ge 65 36 rfl C d_M_need_33 (by decide) (fun x2 => ?_) (fun x2 => ?_)
            · exact bv_wk [(0, .ref (ad 305)), (1, .int x), (2, .int r), (3, .int (nI i))] ⟨rfl, rfl, rfl, rfl, trivial⟩ (next r)
            · have go : ∀ u : Int32, bV p l e { frames := 1, cells := 0, slots := 0, locals := 22 } s m args below meth c dd A 5 0 0 (bSame ad w 324 vI) (bNo) 57 (bO [(0, .ref (ad 305)), (1, .int x), (2, .int r), (3, .int (nI i)), (4, .int (nI k))]) [.int u, .int r] ad w 324 0 0 := by
                intro u
                refine bv_iadd 58 rfl C d_M_need_57 ?_
                refine bv_istore_n 59 rfl C d_M_need_58 (by decide) ?_
                refine bv_iinc 62 rfl C d_M_need_59 rfl (by first | exact b_inc _ | rfl) (by decide) ?_
                refine bv_goto 13 C d_M_need_62 (by decide) ?_
                refine bv_wk [(0, .ref (ad 305)), (1, .int x), (2, .int (r + u)), (3, .int (nI i)), (4, .int (nI (k + 1)))] ⟨rfl, rfl, rfl, rfl, rfl, trivial⟩ ?_
                exact ih2 (k + 1) _ (by omega)
              refine bv_iload_n 37 rfl C d_M_need_36 rfl ?_
              refine bv_aload_n 38 rfl C d_M_need_37 rfl ?_
              refine bv_get 305 7 41 rfl C k_M (by omega) rfl hm (by decide) t3_114 rfl d_M_need_38 ?_
              refine bv_iconst (v := nI 3) 42 rfl C d_M_need_41 (by decide) ?_
              refine bv_iload_n 43 rfl C d_M_need_42 rfl ?_
              refine bv_imul 44 rfl C d_M_need_43 ?_
              refine bv_iload 46 rfl C d_M_need_44 rfl ?_
              refine bv_iadd 47 rfl C d_M_need_46 ?_
              refine bv_iald 312 (3*i+k) 48 rfl C (by omega) rfl hfs (by rw [pk_mul, nI_add]) (by omega) (by decide) d_M_need_47 ?_
              refine bv_iload_n 49 rfl C d_M_need_48 rfl ?_
              refine bv_icmp_ne 56 52 rfl C d_M_need_49 (by decide) (fun x3 => ?_) (fun x3 => ?_)
              · refine bv_iconst (v := nI 0) 57 rfl C d_M_need_56 (by decide) ?_
                exact go _
              · refine bv_iconst (v := nI 1) 53 rfl C d_M_need_52 (by decide) ?_
                refine bv_goto 57 C d_M_need_53 (by decide) ?_
                exact go _
      refine bv_iload_n 5 rfl C d_M_need_4 rfl ?_
      refine bv_bipush (v := nI 35) 7 rfl C d_M_need_5 (by decide) ?_
      refine bv_icmp_ge 71 10 rfl C d_M_need_7 (by decide) (fun h => absurd h (nI_ge (by omega) (by decide))) (fun h => ?_)
      refine bv_iconst (v := nI 0) 11 rfl C d_M_need_10 (by decide) ?_
      refine bv_istore 13 rfl C d_M_need_11 (by decide) ?_
      refine bv_wk [(0, .ref (ad 305)), (1, .int x), (2, .int r), (3, .int (nI i)), (4, .int (nI 0))] ⟨rfl, rfl, rfl, rfl, rfl, trivial⟩ ?_
      exact inner 3 0 r (by omega)
  refine bv_iconst (v := nI 0) 1 rfl C d_M_need_0 (by decide) ?_
  refine bv_istore_n 2 rfl C d_M_need_1 (by decide) ?_
  refine bv_iconst (v := nI 0) 3 rfl C d_M_need_2 (by decide) ?_
  refine bv_istore_n 4 rfl C d_M_need_3 (by decide) ?_
  refine bv_wk [(0, .ref (ad 305)), (1, .int x), (2, .int (nI 0)), (3, .int (nI 0))] ⟨rfl, rfl, rfl, rfl, trivial⟩ ?_
  exact loopP 35 0 _ (by omega)
end bQ8

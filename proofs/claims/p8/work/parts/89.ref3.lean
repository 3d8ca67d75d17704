section bQ10
variable {l : Launch} {dd : bD} {ad : Nat → Nat} {w : Nat → va_E}
theorem j_M_latest {x y : Int32} (hI : II dd ad w) : bK l dd y_M_latest 0 0 0 0 [.ref (ad 305), .int x, .int y] ad w 324 (bJ dd ad vI) (bNo) := by
  obtain ⟨th, V, wr, cu, dn, hV, hd, hm⟩ := hI.k305 (k := 305) (by decide) (by decide)
  refine bK.start [(0, .ref (ad 305)), (1, .int x), (2, .int y)] (by decide) t4_34 (Nat.le_of_ble_eq_true rfl) rfl (fun p e s m args below meth c A hnm C => ?_)
  refine bv_aload_n 1 rfl C d_M_latest_0 rfl ?_
  refine bv_iconst (v := nI 0) 2 rfl C d_M_latest_1 (by decide) ?_
  refine bv_put 305 0 5 rfl C k_M (by omega) rfl hm (by decide) t3_107 rfl rfl rfl (Nat.le_of_ble_eq_true rfl) d_M_latest_2 ?_
  have hI0 : II dd ad (va_up w 305 (mO ad (nI 0) (nI V) wr cu dn)) := hI.m hV hd
  refine bv_any hI0 (fun w hI => ?_)
  obtain ⟨th, V, wr, cu, dn, hV, hd, hm⟩ := hI.k305 (k := 305) (by decide) (by decide)
  obtain ⟨fl, hfl⟩ := hI.k313 (k := 313) (by decide) (by decide)
  obtain ⟨fb, hfb⟩ := hI.k314 (k := 314) (by decide) (by decide)
  obtain ⟨fk, hfk⟩ := hI.k315 (k := 315) (by decide) (by decide)
  have loop : ∀ (i : Nat), i ≤ 40 → bV p l e { frames := 0, cells := 0, slots := 0, locals := 0 } s m args below meth c dd A 4 0 0 (bJ dd ad vI) (bNo) 10 (bO [(0, .ref (ad 305)), (1, .int x), (2, .int y), (3, .int (nI i))]) [] ad w 324 0 0 := by
    intro i
    induction i with
    | zero =>
      intro hi
      refine bv_iload_n 11 rfl C d_M_latest_10 rfl ?_
      refine bv_if_le 51 14 rfl C d_M_latest_11 (by decide) (fun h => ?_) (fun h => absurd (show nI 0 ≤ (0 : Int32) by decide) h)
      refine bv_iconst (v := nI 0) 52 rfl C d_M_latest_51 (by decide) ?_
      exact bv_ireturn C rfl d_M_latest_52 (Nat.le_refl _) (Nat.le_refl _) ⟨rfl, rfl, hI, _, rfl⟩
    | succ i ih =>
      intro hi
      have skip : bV p l e { frames := 0, cells := 0, slots := 0, locals := 0 } s m args below meth c dd A 4 0 0 (bJ dd ad vI) (bNo) 45 (bO [(0, .ref (ad 305)), (1, .int x), (2, .int y), (3, .int (nI (i + 1)))]) [] ad w 324 0 0 := by
        refine bv_iinc (v := (nI i)) 48 rfl C d_M_latest_45 rfl (pk_m1 i) (by decide) ?_
        refine bv_goto 10 C d_M_latest_48 (by decide) ?_
        refine bv_wk [(0, .ref (ad 305)), (1, .int x), (2, .int y), (3, .int (nI i))] ⟨rfl, rfl, rfl, rfl, trivial⟩ ?_
        exact ih (by omega)
      refine bv_iload_n 11 rfl C d_M_latest_10 rfl ?_
      refine bv_if_le 51 14 rfl C d_M_latest_11 (by decide) (fun h => absurd h (nI_nle (show 0 < i + 1 by omega) (by omega))) (fun h => ?_)
      refine bv_aload_n 15 rfl C d_M_latest_14 rfl ?_
      refine bv_get 305 9 18 rfl C k_M (by omega) rfl hm (by decide) t3_116 rfl d_M_latest_15 ?_
      refine bv_iload_n 19 rfl C d_M_latest_18 rfl ?_
      refine bv_zald 313 (i+1) 20 rfl C (by omega) rfl hfl rfl (by omega) (by decide) d_M_latest_19 ?_
      refine bv_if_eq 45 23 rfl C d_M_latest_20 (by decide) (fun x1 => ?_) (fun x1 => ?_)
      · exact skip
      · refine bv_aload_n 24 rfl C d_M_latest_23 rfl ?_
        refine bv_get 305 10 27 rfl C k_M (by omega) rfl hm (by decide) t3_117 rfl d_M_latest_24 ?_
        refine bv_iload_n 28 rfl C d_M_latest_27 rfl ?_
        refine bv_iald 314 (i+1) 29 rfl C (by omega) rfl hfb rfl (by omega) (by decide) d_M_latest_28 ?_
        refine bv_iload_n 30 rfl C d_M_latest_29 rfl ?_
        refine bv_icmp_ne 45 33 rfl C d_M_latest_30 (by decide) (fun x2 => ?_) (fun x2 => ?_)
        · exact skip
        · refine bv_aload_n 34 rfl C d_M_latest_33 rfl ?_
          refine bv_get 305 11 37 rfl C k_M (by omega) rfl hm (by decide) t3_118 rfl d_M_latest_34 ?_
          refine bv_iload_n 38 rfl C d_M_latest_37 rfl ?_
          refine bv_iald 315 (i+1) 39 rfl C (by omega) rfl hfk rfl (by omega) (by decide) d_M_latest_38 ?_
          refine bv_iload_n 40 rfl C d_M_latest_39 rfl ?_
          refine bv_icmp_ne 45 43 rfl C d_M_latest_40 (by decide) (fun x3 => ?_) (fun x3 => ?_)
          · exact skip
          · refine bv_iload_n 44 rfl C d_M_latest_43 rfl ?_
            exact bv_ireturn C rfl d_M_latest_44 (Nat.le_refl _) (Nat.le_refl _) ⟨rfl, rfl, hI, _, rfl⟩
  refine bv_aload_n 6 rfl C d_M_latest_5 rfl ?_
  refine bv_get 305 8 9 rfl C k_M (by omega) rfl hm (by decide) t3_115 rfl d_M_latest_6 ?_
  refine bv_istore_n 10 rfl C d_M_latest_9 (by decide) ?_
  refine bv_wk [(0, .ref (ad 305)), (1, .int x), (2, .int y), (3, .int (nI V))] ⟨rfl, rfl, rfl, rfl, trivial⟩ ?_
  exact loop V hV
theorem j_M_size {x : Int32} (hI : II dd ad w) : bK l dd y_M_size 2 43 0 0 [.ref (ad 305), .int x] ad w 324 (bJ dd ad vI) (bNo) := by
  obtain ⟨th, V, wr, cu, dn, hV, hd, hm⟩ := hI.k305 (k := 305) (by decide) (by decide)
  refine bK.start [(0, .ref (ad 305)), (1, .int x)] (by decide) t4_38 (Nat.le_of_ble_eq_true rfl) rfl (fun p e s m args below meth c A hnm C => ?_)
  refine bv_aload_n 1 rfl C d_M_size_0 rfl ?_
  refine bv_iconst (v := nI 0) 2 rfl C d_M_size_1 (by decide) ?_
  refine bv_put 305 0 5 rfl C k_M (by omega) rfl hm (by decide) t3_107 rfl rfl rfl (Nat.le_of_ble_eq_true rfl) d_M_size_2 ?_
  have hI0 : II dd ad (va_up w 305 (mO ad (nI 0) (nI V) wr cu dn)) := hI.m hV hd
  refine bv_any hI0 (fun w hI => ?_)
  obtain ⟨th, V, wr, cu, dn, hV, hd, hm⟩ := hI.k305 (k := 305) (by decide) (by decide)
  refine bv_aload_n 6 rfl C d_M_size_5 rfl ?_
  refine bv_iload_n 7 rfl C d_M_size_6 rfl ?_
  refine bv_call (rest := []) 10 rfl C d_M_size_7 (j_M_isLiving hI (x := x)) i_M_isLiving t1_8 (fun H locs ls hP => bs_V (av := [.int x]) 305 C i_M_isLiving t4_7 t4_9 s_48 (by omega) rfl hm rfl (by decide) rfl rfl d_M_size_7 H locs ls hP) ⟨by first | decide | omega, by first | decide | omega⟩ (by decide) (by decide) (Nat.le_of_ble_eq_true rfl) (fun v ad1 w2 N1 hpo => ?_) (fun x Cn ad' w' N' hth => hth.elim)
  obtain ⟨rfl, rfl, rfl, hv⟩ := hpo
  rcases hv with rfl | ⟨j, hj1, hj2, rfl, rfl⟩
  · refine bv_if_ne 15 13 rfl C d_M_size_10 (by decide) (fun h => absurd (show nI 0 = 0 by decide) h) (fun h => ?_)
    refine bv_iconst (v := -1) 14 rfl C d_M_size_13 (by decide) ?_
    exact bv_ireturn C rfl d_M_size_14 (Nat.le_refl _) (Nat.le_refl _) ⟨rfl, rfl, hI, _, rfl⟩
  · obtain ⟨fv, hfv, hfv'⟩ := hI.k316 (k := 316) (by decide) (by decide)
    obtain ⟨fz, hfz, hfz'⟩ := hI.k306 (k := 306) (by decide) (by decide)
    obtain ⟨n, hn, hne⟩ := hfv' j (by omega)
    have loop : ∀ (d i : Nat) (r : Int32), i + d = 21 → bV p l e { frames := 2, cells := 0, slots := 0, locals := 43 } s m args below meth c dd A 4 0 0 (bJ dd ad vI) (bNo) 19 (bO [(0, .ref (ad 305)), (1, .int (nI j)), (2, .int r), (3, .int (nI i))]) [] ad w 324 0 0 := by
      intro d
      induction d with
      | zero =>
        intro i r hi
        refine bv_iload_n 20 rfl C d_M_size_19 rfl ?_
        refine bv_aload_n 21 rfl C d_M_size_20 rfl ?_
        refine bv_get 305 12 24 rfl C k_M (by omega) rfl hm (by decide) t3_119 rfl d_M_size_21 ?_
        refine bv_iload_n 25 rfl C d_M_size_24 rfl ?_
        refine bv_iald 316 j 26 rfl C (by omega) rfl hfv rfl (by omega) (by decide) d_M_size_25 ?_
        refine bv_seti (nI n) hne ?_
        refine bv_icmp_ge 49 29 rfl C d_M_size_26 (by decide) (fun h => ?_) (fun h => absurd (nI_le (show n ≤ i by omega) (by omega)) h)
        refine bv_iload_n 50 rfl C d_M_size_49 rfl ?_
        exact bv_ireturn C rfl d_M_size_50 (Nat.le_refl _) (Nat.le_refl _) ⟨rfl, rfl, hI, _, rfl⟩
      | succ d ih =>
        intro i r hi
        refine bv_iload_n 20 rfl C d_M_size_19 rfl ?_
        refine bv_aload_n 21 rfl C d_M_size_20 rfl ?_
        refine bv_get 305 12 24 rfl C k_M (by omega) rfl hm (by decide) t3_119 rfl d_M_size_21 ?_
        refine bv_iload_n 25 rfl C d_M_size_24 rfl ?_
        refine bv_iald 316 j 26 rfl C (by omega) rfl hfv rfl (by omega) (by decide) d_M_size_25 ?_
        refine bv_seti (nI n) hne ?_
        refine bv_icmp_ge 49 29 rfl C d_M_size_26 (by decide) (fun x1 => ?_) (fun x1 => ?_)
        · refine bv_iload_n 50 rfl C d_M_size_49 rfl ?_
          exact bv_ireturn C rfl d_M_size_50 (Nat.le_refl _) (Nat.le_refl _) ⟨rfl, rfl, hI, _, rfl⟩
        · refine bv_iload_n 30 rfl C d_M_size_29 rfl ?_
          refine bv_aload_n 31 rfl C d_M_size_30 rfl ?_
          refine bv_get 305 1 34 rfl C k_M (by omega) rfl hm (by decide) t3_108 rfl d_M_size_31 ?_
          refine bv_aload_n 35 rfl C d_M_size_34 rfl ?_
          refine bv_iload_n 36 rfl C d_M_size_35 rfl ?_
          refine bv_iload_n 37 rfl C d_M_size_36 rfl ?_
          refine bv_call (rest := [.ref (ad 306), .int r]) 40 rfl C d_M_size_37 (j_M_slotAt hI hj1 hj2 (show i ≤ 20 by omega)) i_M_slotAt t1_8 (fun H locs ls hP => bs_V (av := [.int (nI j), .int (nI i)]) 305 C i_M_slotAt t4_19 t4_21 s_50 (by omega) rfl hm rfl (by decide) rfl rfl d_M_size_37 H locs ls hP) ⟨by first | decide | omega, by first | decide | omega⟩ (by decide) (by decide) (Nat.le_of_ble_eq_true rfl) (fun v ad1 w1 N1 hpo => ?_) (fun x Cn ad' w' N' hth => hth.elim)
          obtain ⟨rfl, rfl, rfl, sl, hsl, rfl⟩ := hpo
          refine bv_iald 306 sl 41 rfl C (by omega) rfl hfz rfl hsl (by decide) d_M_size_40 ?_
          refine bv_iadd 42 rfl C d_M_size_41 ?_
          refine bv_istore_n 43 rfl C d_M_size_42 (by decide) ?_
          refine bv_iinc 46 rfl C d_M_size_43 rfl (by first | exact b_inc _ | rfl) (by decide) ?_
          refine bv_goto 19 C d_M_size_46 (by decide) ?_
          refine bv_wk [(0, .ref (ad 305)), (1, .int (nI j)), (2, .int (r + fz sl)), (3, .int (nI (i + 1)))] ⟨rfl, rfl, rfl, rfl, trivial⟩ ?_
          exact ih (i + 1) _ (by omega)
    refine bv_if_ne 15 13 rfl C d_M_size_10 (by decide) (fun h => ?_) (fun h => absurd h (show ¬ nI 1 = 0 by decide))
    refine bv_iconst (v := nI 0) 16 rfl C d_M_size_15 (by decide) ?_
    refine bv_istore_n 17 rfl C d_M_size_16 (by decide) ?_
    refine bv_iconst (v := nI 0) 18 rfl C d_M_size_17 (by decide) ?_
    refine bv_istore_n 19 rfl C d_M_size_18 (by decide) ?_
    refine bv_wk [(0, .ref (ad 305)), (1, .int (nI j)), (2, .int (nI 0)), (3, .int (nI 0))] ⟨rfl, rfl, rfl, rfl, trivial⟩ ?_
    exact loop 21 0 _ (by omega)
theorem j_M_byteAt {x y : Int32} (hI : II dd ad w) : bK l dd y_M_byteAt 2 43 0 0 [.ref (ad 305), .int x, .int y] ad w 324 (bJ dd ad vI) (bNo) := by
  obtain ⟨th, V, wr, cu, dn, hV, hd, hm⟩ := hI.k305 (k := 305) (by decide) (by decide)
  refine bK.start [(0, .ref (ad 305)), (1, .int x), (2, .int y)] (by decide) t4_42 (Nat.le_of_ble_eq_true rfl) rfl (fun p e s m args below meth c A hnm C => ?_)
  refine bv_aload_n 1 rfl C d_M_byteAt_0 rfl ?_
  refine bv_iconst (v := nI 0) 2 rfl C d_M_byteAt_1 (by decide) ?_
  refine bv_put 305 0 5 rfl C k_M (by omega) rfl hm (by decide) t3_107 rfl rfl rfl (Nat.le_of_ble_eq_true rfl) d_M_byteAt_2 ?_
  have hI0 : II dd ad (va_up w 305 (mO ad (nI 0) (nI V) wr cu dn)) := hI.m hV hd
  refine bv_any hI0 (fun w hI => ?_)
  obtain ⟨th, V, wr, cu, dn, hV, hd, hm⟩ := hI.k305 (k := 305) (by decide) (by decide)
  refine bv_aload_n 6 rfl C d_M_byteAt_5 rfl ?_
  refine bv_iload_n 7 rfl C d_M_byteAt_6 rfl ?_
  refine bv_call (rest := []) 10 rfl C d_M_byteAt_7 (j_M_isLiving hI (x := x)) i_M_isLiving t1_8 (fun H locs ls hP => bs_V (av := [.int x]) 305 C i_M_isLiving t4_7 t4_9 s_48 (by omega) rfl hm rfl (by decide) rfl rfl d_M_byteAt_7 H locs ls hP) ⟨by first | decide | omega, by first | decide | omega⟩ (by decide) (by decide) (Nat.le_of_ble_eq_true rfl) (fun v ad1 w2 N1 hpo => ?_) (fun x Cn ad' w' N' hth => hth.elim)
  obtain ⟨rfl, rfl, rfl, hv⟩ := hpo
  rcases hv with rfl | ⟨j, hj1, hj2, rfl, rfl⟩
  · refine bv_if_eq 17 13 rfl C d_M_byteAt_10 (by decide) (fun h => ?_) (fun h => absurd (show nI 0 = 0 by decide) h)
    refine bv_iconst (v := -1) 18 rfl C d_M_byteAt_17 (by decide) ?_
    exact bv_ireturn C rfl d_M_byteAt_18 (Nat.le_refl _) (Nat.le_refl _) ⟨rfl, rfl, hI, _, rfl⟩
  · obtain ⟨fv, hfv, hfv'⟩ := hI.k316 (k := 316) (by decide) (by decide)
    obtain ⟨fz, hfz, hfz'⟩ := hI.k306 (k := 306) (by decide) (by decide)
    obtain ⟨fb, hfb⟩ := hI.k307 (k := 307) (by decide) (by decide)
    obtain ⟨n, hn, hne⟩ := hfv' j (by omega)
    have loop : ∀ (d i r : Nat), i + d = 21 → r < 2 ^ 31 → bV p l e { frames := 2, cells := 0, slots := 0, locals := 43 } s m args below meth c dd A 6 0 0 (bJ dd ad vI) (bNo) 24 (bO [(0, .ref (ad 305)), (1, .int (nI j)), (3, .int (nI r)), (4, .int (nI i))]) [] ad w 324 0 0 := by
      intro d
      induction d with
      | zero =>
        intro i r hi hr
        refine bv_iload 26 rfl C d_M_byteAt_24 rfl ?_
        refine bv_aload_n 27 rfl C d_M_byteAt_26 rfl ?_
        refine bv_get 305 12 30 rfl C k_M (by omega) rfl hm (by decide) t3_119 rfl d_M_byteAt_27 ?_
        refine bv_iload_n 31 rfl C d_M_byteAt_30 rfl ?_
        refine bv_iald 316 j 32 rfl C (by omega) rfl hfv rfl (by omega) (by decide) d_M_byteAt_31 ?_
        refine bv_seti (nI n) hne ?_
        refine bv_icmp_ge 84 35 rfl C d_M_byteAt_32 (by decide) (fun h => ?_) (fun h => absurd (nI_le (show n ≤ i by omega) (by omega)) h)
        refine bv_iconst (v := -1) 85 rfl C d_M_byteAt_84 (by decide) ?_
        exact bv_ireturn C rfl d_M_byteAt_85 (Nat.le_refl _) (Nat.le_refl _) ⟨rfl, rfl, hI, _, rfl⟩
      | succ d ih =>
        intro i r hi hr
        refine bv_iload 26 rfl C d_M_byteAt_24 rfl ?_
        refine bv_aload_n 27 rfl C d_M_byteAt_26 rfl ?_
        refine bv_get 305 12 30 rfl C k_M (by omega) rfl hm (by decide) t3_119 rfl d_M_byteAt_27 ?_
        refine bv_iload_n 31 rfl C d_M_byteAt_30 rfl ?_
        refine bv_iald 316 j 32 rfl C (by omega) rfl hfv rfl (by omega) (by decide) d_M_byteAt_31 ?_
        refine bv_seti (nI n) hne ?_
        refine bv_icmp_ge 84 35 rfl C d_M_byteAt_32 (by decide) (fun x1 => ?_) (fun x1 => ?_)
        · refine bv_iconst (v := -1) 85 rfl C d_M_byteAt_84 (by decide) ?_
          exact bv_ireturn C rfl d_M_byteAt_85 (Nat.le_refl _) (Nat.le_refl _) ⟨rfl, rfl, hI, _, rfl⟩
        · refine bv_aload_n 36 rfl C d_M_byteAt_35 rfl ?_
          refine bv_iload_n 37 rfl C d_M_byteAt_36 rfl ?_
          refine bv_iload 39 rfl C d_M_byteAt_37 rfl ?_
          refine bv_call (rest := []) 42 rfl C d_M_byteAt_39 (j_M_slotAt hI hj1 hj2 (show i ≤ 20 by omega)) i_M_slotAt t1_8 (fun H locs ls hP => bs_V (av := [.int (nI j), .int (nI i)]) 305 C i_M_slotAt t4_19 t4_21 s_50 (by omega) rfl hm rfl (by decide) rfl rfl d_M_byteAt_39 H locs ls hP) ⟨by first | decide | omega, by first | decide | omega⟩ (by decide) (by decide) (Nat.le_of_ble_eq_true rfl) (fun v ad1 w1 N1 hpo => ?_) (fun x Cn ad' w' N' hth => hth.elim)
          obtain ⟨rfl, rfl, rfl, sl, hsl, rfl⟩ := hpo
          obtain ⟨z, hz, hze⟩ := hfz' sl hsl
          refine bv_istore 44 rfl C d_M_byteAt_42 (by decide) ?_
          refine bv_iload_n 45 rfl C d_M_byteAt_44 rfl ?_
          refine bv_aload_n 46 rfl C d_M_byteAt_45 rfl ?_
          refine bv_get 305 1 49 rfl C k_M (by omega) rfl hm (by decide) t3_108 rfl d_M_byteAt_46 ?_
          refine bv_iload 51 rfl C d_M_byteAt_49 rfl ?_
          refine bv_iald 306 sl 52 rfl C (by omega) rfl hfz rfl hsl (by decide) d_M_byteAt_51 ?_
          refine bv_seti (nI z) hze ?_
          refine bv_icmp_ge 68 55 rfl C d_M_byteAt_52 (by decide) (fun x2 => ?_) (fun x2 => ?_)
          · have hzr : z ≤ r := (nI_leI (by omega) hr).mp x2
            refine bv_iload_n 69 rfl C d_M_byteAt_68 rfl ?_
            refine bv_aload_n 70 rfl C d_M_byteAt_69 rfl ?_
            refine bv_get 305 1 73 rfl C k_M (by omega) rfl hm (by decide) t3_108 rfl d_M_byteAt_70 ?_
            refine bv_iload 75 rfl C d_M_byteAt_73 rfl ?_
            refine bv_iald 306 sl 76 rfl C (by omega) rfl hfz rfl hsl (by decide) d_M_byteAt_75 ?_
            refine bv_seti (nI z) hze ?_
            refine bv_isub 77 rfl C d_M_byteAt_76 ?_
            refine bv_seti (nI (r-z)) (pk_sub hzr) ?_
            refine bv_istore_n 78 rfl C d_M_byteAt_77 (by decide) ?_
            refine bv_iinc 81 rfl C d_M_byteAt_78 rfl (by first | exact b_inc _ | rfl) (by decide) ?_
            refine bv_goto 24 C d_M_byteAt_81 (by decide) ?_
            refine bv_wk [(0, .ref (ad 305)), (1, .int (nI j)), (3, .int (nI (r - z))), (4, .int (nI (i + 1)))] ⟨rfl, rfl, rfl, rfl, trivial⟩ ?_
            exact ih (i + 1) (r - z) (by omega) (by omega)
          · have hzr : r < z := Nat.lt_of_not_le (fun q => x2 ((nI_leI (by omega) hr).mpr q))
            refine bv_aload_n 56 rfl C d_M_byteAt_55 rfl ?_
            refine bv_get 305 2 59 rfl C k_M (by omega) rfl hm (by decide) t3_109 rfl d_M_byteAt_56 ?_
            refine bv_bipush (v := nI 8) 61 rfl C d_M_byteAt_59 (by decide) ?_
            refine bv_iload 63 rfl C d_M_byteAt_61 rfl ?_
            refine bv_imul 64 rfl C d_M_byteAt_63 ?_
            refine bv_iload_n 65 rfl C d_M_byteAt_64 rfl ?_
            refine bv_iadd 66 rfl C d_M_byteAt_65 ?_
            refine bv_iald 307 (8*sl+r) 67 rfl C (by omega) rfl hfb (by rw [pk_mul, nI_add]) (by omega) (by decide) d_M_byteAt_66 ?_
            exact bv_ireturn C rfl d_M_byteAt_67 (Nat.le_refl _) (Nat.le_refl _) ⟨rfl, rfl, hI, _, rfl⟩
    refine bv_if_eq 17 13 rfl C d_M_byteAt_10 (by decide) (fun h => absurd h (show ¬ nI 1 = 0 by decide)) (fun h => ?_)
    refine bv_iload_n 14 rfl C d_M_byteAt_13 rfl ?_
    refine bv_if_ge 19 17 rfl C d_M_byteAt_14 (by decide) (fun x1 => ?_) (fun x1 => ?_)
    · obtain ⟨r, hr, rfl⟩ := b_nn (show ¬ y < 0 by rw [Int32.lt_iff_toInt_lt]; rw [Int32.le_iff_toInt_le] at x1; omega)
      refine bv_iload_n 20 rfl C d_M_byteAt_19 rfl ?_
      refine bv_istore_n 21 rfl C d_M_byteAt_20 (by decide) ?_
      refine bv_iconst (v := nI 0) 22 rfl C d_M_byteAt_21 (by decide) ?_
      refine bv_istore 24 rfl C d_M_byteAt_22 (by decide) ?_
      refine bv_wk [(0, .ref (ad 305)), (1, .int (nI j)), (3, .int (nI r)), (4, .int (nI 0))] ⟨rfl, rfl, rfl, rfl, trivial⟩ ?_
      exact loop 21 0 r (by omega) hr
    · refine bv_iconst (v := -1) 18 rfl C d_M_byteAt_17 (by decide) ?_
      exact bv_ireturn C rfl d_M_byteAt_18 (Nat.le_refl _) (Nat.le_refl _) ⟨rfl, rfl, hI, _, rfl⟩
theorem j_M_hasChunk {x : Int32} (hI : II dd ad w) : bK l dd y_M_hasChunk 1 22 0 0 [.ref (ad 305), .int x] ad w 324 (bSame ad w 324 (fun v => v = some (.int (nI 0)) ∨ ∃ i, i < 48 ∧ x = nI i ∧ v = some (.int (nI 1)))) (bNo) := by
  obtain ⟨th, V, wr, cu, dn, hV, hd, hm⟩ := hI.k305 (k := 305) (by decide) (by decide)
  obtain ⟨fz, hfz, hfz'⟩ := hI.k306 (k := 306) (by decide) (by decide)
  refine bK.start [(0, .ref (ad 305)), (1, .int x)] (by decide) t4_50 (Nat.le_of_ble_eq_true rfl) rfl (fun p e s m args below meth c A hnm C => ?_)
  refine bv_iload_n 1 rfl C d_M_hasChunk_0 rfl ?_
  refine bv_iconst (v := nI 0) 2 rfl C d_M_hasChunk_1 (by decide) ?_
  refine bv_bipush (v := nI 47) 4 rfl C d_M_hasChunk_2 (by decide) ?_
  refine bv_call (rest := []) 7 rfl C d_M_hasChunk_4 (ct_M_in (x := x) (a := nI 0) (b := nI 47)) i_M_in t1_8 (fun H locs ls _ => bs_S (av := [.int x, .int (nI 0), .int (nI 47)]) C i_M_in t3_184 t3_185 t1_8 (by decide) rfl rfl d_M_hasChunk_4 H locs ls) ⟨by first | decide | omega, by first | decide | omega⟩ (by decide) (by decide) (Nat.le_of_ble_eq_true rfl) (fun v ad1 w1 N1 hpo => ?_) (fun x Cn ad' w' N' hth => hth.elim)
  obtain ⟨rfl, rfl, rfl, hv⟩ := hpo
  rcases hv with ⟨hi, rfl⟩ | ⟨-, rfl⟩
  · obtain ⟨i, -, hi2, rfl⟩ := b_in (by decide) (by decide) hi
    refine bv_if_eq 23 10 rfl C d_M_hasChunk_7 (by decide) (fun h => absurd h (show ¬ nI 1 = 0 by decide)) (fun h => ?_)
    refine bv_aload_n 11 rfl C d_M_hasChunk_10 rfl ?_
    refine bv_get 305 1 14 rfl C k_M (by omega) rfl hm (by decide) t3_108 rfl d_M_hasChunk_11 ?_
    refine bv_iload_n 15 rfl C d_M_hasChunk_14 rfl ?_
    refine bv_iald 306 i 16 rfl C (by omega) rfl hfz rfl (by omega) (by decide) d_M_hasChunk_15 ?_
    refine bv_if_le 23 19 rfl C d_M_hasChunk_16 (by decide) (fun x1 => ?_) (fun x1 => ?_)
    · refine bv_iconst (v := nI 0) 24 rfl C d_M_hasChunk_23 (by decide) ?_
      exact bv_zreturn C rfl (Or.inl rfl) d_M_hasChunk_24 (by decide) (by decide) ⟨rfl, rfl, rfl, Or.inl rfl⟩
    · refine bv_iconst (v := nI 1) 20 rfl C d_M_hasChunk_19 (by decide) ?_
      refine bv_goto 24 C d_M_hasChunk_20 (by decide) ?_
      exact bv_zreturn C rfl (Or.inr rfl) d_M_hasChunk_24 (by decide) (by decide) ⟨rfl, rfl, rfl, Or.inr ⟨i, by omega, rfl, rfl⟩⟩
  · refine bv_if_eq 23 10 rfl C d_M_hasChunk_7 (by decide) (fun h => ?_) (fun h => absurd (show nI 0 = 0 by decide) h)
    refine bv_iconst (v := nI 0) 24 rfl C d_M_hasChunk_23 (by decide) ?_
    exact bv_zreturn C rfl (Or.inl rfl) d_M_hasChunk_24 (by decide) (by decide) ⟨rfl, rfl, rfl, Or.inl rfl⟩
theorem j_M_needed {x : Int32} (hI : II dd ad w) : bK l dd y_M_needed 2 46 0 0 [.ref (ad 305), .int x] ad w 324 (bJ dd ad vI) (bNo) := by
  obtain ⟨th, V, wr, cu, dn, hV, hd, hm⟩ := hI.k305 (k := 305) (by decide) (by decide)
  refine bK.start [(0, .ref (ad 305)), (1, .int x)] (by decide) t4_61 (Nat.le_of_ble_eq_true rfl) rfl (fun p e s m args below meth c A hnm C => ?_)
  refine bv_aload_n 1 rfl C d_M_needed_0 rfl ?_
  refine bv_iconst (v := nI 0) 2 rfl C d_M_needed_1 (by decide) ?_
  refine bv_put 305 0 5 rfl C k_M (by omega) rfl hm (by decide) t3_107 rfl rfl rfl (Nat.le_of_ble_eq_true rfl) d_M_needed_2 ?_
  have hI0 : II dd ad (va_up w 305 (mO ad (nI 0) (nI V) wr cu dn)) := hI.m hV hd
  refine bv_any hI0 (fun w hI => ?_)
  obtain ⟨th, V, wr, cu, dn, hV, hd, hm⟩ := hI.k305 (k := 305) (by decide) (by decide)
  refine bv_aload_n 6 rfl C d_M_needed_5 rfl ?_
  refine bv_iload_n 7 rfl C d_M_needed_6 rfl ?_
  refine bv_call (rest := []) 10 rfl C d_M_needed_7 (j_M_hasChunk hI (x := x)) i_M_hasChunk t1_8 (fun H locs ls hP => bs_V (av := [.int x]) 305 C i_M_hasChunk t4_47 t4_49 s_51 (by omega) rfl hm rfl (by decide) rfl rfl d_M_needed_7 H locs ls hP) ⟨by first | decide | omega, by first | decide | omega⟩ (by decide) (by decide) (Nat.le_of_ble_eq_true rfl) (fun v ad1 w2 N1 hpo => ?_) (fun x Cn ad' w' N' hth => hth.elim)
  obtain ⟨rfl, rfl, rfl, hv⟩ := hpo
  rcases hv with rfl | ⟨j, hj, rfl, rfl⟩
  · refine bv_if_eq 21 13 rfl C d_M_needed_10 (by decide) (fun h => ?_) (fun h => absurd (show nI 0 = 0 by decide) h)
    refine bv_iconst (v := -1) 22 rfl C d_M_needed_21 (by decide) ?_
    exact bv_ireturn C rfl d_M_needed_22 (Nat.le_refl _) (Nat.le_refl _) ⟨rfl, rfl, hI, _, rfl⟩
  · refine bv_if_eq 21 13 rfl C d_M_needed_10 (by decide) (fun h => absurd h (show ¬ nI 1 = 0 by decide)) (fun h => ?_)
    refine bv_aload_n 14 rfl C d_M_needed_13 rfl ?_
    refine bv_iload_n 15 rfl C d_M_needed_14 rfl ?_
    refine bv_call (rest := []) 18 rfl C d_M_needed_15 (j_M_need hI (x := nI j)) i_M_need t1_8 (fun H locs ls hP => bs_V (av := [.int (nI j)]) 305 C i_M_need t4_15 t4_17 s_49 (by omega) rfl hm rfl (by decide) rfl rfl d_M_needed_15 H locs ls hP) ⟨by first | decide | omega, by first | decide | omega⟩ (by decide) (by decide) (Nat.le_of_ble_eq_true rfl) (fun v ad1 w2 N1 hpo => ?_) (fun x Cn ad' w' N' hth => hth.elim)
    obtain ⟨rfl, rfl, rfl, u, rfl⟩ := hpo
    refine bv_goto 22 C d_M_needed_18 (by decide) ?_
    exact bv_ireturn C rfl d_M_needed_22 (Nat.le_refl _) (Nat.le_refl _) ⟨rfl, rfl, hI, _, rfl⟩
/-- how many of the first n are 0 -/
def cz (f : Nat → Int32) : Nat → Nat
  | 0 => 0
  | n + 1 => cz f n + (if f n = 0 then 1 else 0)
theorem cz_le (f : Nat → Int32) : ∀ n, cz f n ≤ n
  | 0 => Nat.le_refl _
  | n + 1 => by
    have := cz_le f n
    unfold cz
    split <;> omega
theorem j_M_freeSlots {fz : Nat → Int32} (hI : II dd ad w) (hfz : w 306 = aI dd 48 fz) : bK l dd y_M_freeSlots 0 0 0 0 [.ref (ad 305)] ad w 324 (bSame ad w 324 (fun v => v = some (.int (nI (cz fz 48))))) (bNo) := by
  obtain ⟨th, V, wr, cu, dn, hV, hd, hm⟩ := hI.k305 (k := 305) (by decide) (by decide)
  refine bK.start [(0, .ref (ad 305))] (by decide) t3_230 (Nat.le_of_ble_eq_true rfl) rfl (fun p e s m args below meth c A hnm C => ?_)
  have loop : ∀ (d i : Nat), i + d = 48 → bV p l e { frames := 0, cells := 0, slots := 0, locals := 0 } s m args below meth c dd A 3 0 0 (bSame ad w 324 (fun v => v = some (.int (nI (cz fz 48))))) (bNo) 4 (bO [(0, .ref (ad 305)), (1, .int (nI (cz fz i))), (2, .int (nI i))]) [] ad w 324 0 0 := by
    intro d
    induction d with
    | zero =>
      intro i hi
      obtain rfl : i = 48 := by omega
      refine bv_iload_n 5 rfl C d_M_freeSlots_4 rfl ?_
      refine bv_bipush (v := nI 48) 7 rfl C d_M_freeSlots_5 (by decide) ?_
      refine bv_icmp_ge 33 10 rfl C d_M_freeSlots_7 (by decide) (fun h => ?_) (fun h => absurd (nI_le (by decide) (by decide)) h)
      refine bv_iload_n 34 rfl C d_M_freeSlots_33 rfl ?_
      exact bv_ireturn C rfl d_M_freeSlots_34 (Nat.le_refl _) (Nat.le_refl _) ⟨rfl, rfl, rfl, rfl⟩
    | succ d ih =>
      intro i hi
      have go : ∀ u : Nat, cz fz i + u = cz fz (i + 1) → bV p l e { frames := 0, cells := 0, slots := 0, locals := 0 } s m args below meth c dd A 3 0 0 (bSame ad w 324 (fun v => v = some (.int (nI (cz fz 48))))) (bNo) 25 (bO [(0, .ref (ad 305)), (1, .int (nI (cz fz i))), (2, .int (nI i))]) [.int (nI u), .int (nI (cz fz i))] ad w 324 0 0 := by
        intro u hu
        refine bv_iadd 26 rfl C d_M_freeSlots_25 ?_
        refine bv_seti (nI (cz fz (i+1))) (by rw [nI_add, hu]) ?_
        refine bv_istore_n 27 rfl C d_M_freeSlots_26 (by decide) ?_
        refine bv_iinc 30 rfl C d_M_freeSlots_27 rfl (by first | exact b_inc _ | rfl) (by decide) ?_
        refine bv_goto 4 C d_M_freeSlots_30 (by decide) ?_
        refine bv_wk [(0, .ref (ad 305)), (1, .int (nI (cz fz (i + 1)))), (2, .int (nI (i + 1)))] ⟨rfl, rfl, rfl, trivial⟩ ?_
        exact ih (i + 1) (by omega)
      refine bv_iload_n 5 rfl C d_M_freeSlots_4 rfl ?_
      refine bv_bipush (v := nI 48) 7 rfl C d_M_freeSlots_5 (by decide) ?_
      refine bv_icmp_ge 33 10 rfl C d_M_freeSlots_7 (by decide) (fun h => absurd h (nI_ge (by omega) (by decide))) (fun h => ?_)
      refine bv_iload_n 11 rfl C d_M_freeSlots_10 rfl ?_
      refine bv_aload_n 12 rfl C d_M_freeSlots_11 rfl ?_
      refine bv_get 305 1 15 rfl C k_M (by omega) rfl hm (by decide) t3_108 rfl d_M_freeSlots_12 ?_
      refine bv_iload_n 16 rfl C d_M_freeSlots_15 rfl ?_
      refine bv_iald 306 i 17 rfl C (by omega) rfl hfz rfl (by omega) (by decide) d_M_freeSlots_16 ?_
      refine bv_if_ne 24 20 rfl C d_M_freeSlots_17 (by decide) (fun x1 => ?_) (fun x1 => ?_)
      · refine bv_iconst (v := nI 0) 25 rfl C d_M_freeSlots_24 (by decide) ?_
        exact go 0 (by show _ = cz fz i + _; rw [if_neg x1])
      · refine bv_iconst (v := nI 1) 21 rfl C d_M_freeSlots_20 (by decide) ?_
        refine bv_goto 25 C d_M_freeSlots_21 (by decide) ?_
        exact go 1 (by show _ = cz fz i + _; rw [if_pos x1])
  refine bv_iconst (v := nI 0) 1 rfl C d_M_freeSlots_0 (by decide) ?_
  refine bv_istore_n 2 rfl C d_M_freeSlots_1 (by decide) ?_
  refine bv_iconst (v := nI 0) 3 rfl C d_M_freeSlots_2 (by decide) ?_
  refine bv_istore_n 4 rfl C d_M_freeSlots_3 (by decide) ?_
  refine bv_wk [(0, .ref (ad 305)), (1, .int (nI (cz fz 0))), (2, .int (nI 0))] ⟨rfl, rfl, rfl, trivial⟩ ?_
  exact loop 48 0 (by omega)
theorem j_M_state {x : Int32} (hI : II dd ad w) : bK l dd y_M_state 1 22 0 0 [.ref (ad 305), .int x] ad w 324 (bJ dd ad vI) (bNo) := by
  obtain ⟨th, V, wr, cu, dn, hV, hd, hm⟩ := hI.k305 (k := 305) (by decide) (by decide)
  refine bK.start [(0, .ref (ad 305)), (1, .int x)] (by decide) t4_69 (Nat.le_of_ble_eq_true rfl) rfl (fun p e s m args below meth c A hnm C => ?_)
  refine bv_aload_n 1 rfl C d_M_state_0 rfl ?_
  refine bv_iconst (v := nI 0) 2 rfl C d_M_state_1 (by decide) ?_
  refine bv_put 305 0 5 rfl C k_M (by omega) rfl hm (by decide) t3_107 rfl rfl rfl (Nat.le_of_ble_eq_true rfl) d_M_state_2 ?_
  have hI0 : II dd ad (va_up w 305 (mO ad (nI 0) (nI V) wr cu dn)) := hI.m hV hd
  refine bv_any hI0 (fun w hI => ?_)
  obtain ⟨th, V, wr, cu, dn, hV, hd, hm⟩ := hI.k305 (k := 305) (by decide) (by decide)
  obtain ⟨fz, hfz, hfz'⟩ := hI.k306 (k := 306) (by decide) (by decide)
  obtain ⟨fo, hfo⟩ := hI.k308 (k := 308) (by decide) (by decide)
  obtain ⟨fl, hfl⟩ := hI.k313 (k := 313) (by decide) (by decide)
  obtain ⟨fb, hfb⟩ := hI.k314 (k := 314) (by decide) (by decide)
  obtain ⟨fk, hfk⟩ := hI.k315 (k := 315) (by decide) (by decide)
  refine bv_iconst (v := nI 0) 6 rfl C d_M_state_5 (by decide) ?_
  refine bv_istore_n 7 rfl C d_M_state_6 (by decide) ?_
  refine bv_iload_n 8 rfl C d_M_state_7 rfl ?_
  rcases b_rng x 7 (by decide) with h | ⟨k, hk, rfl⟩
  · refine bv_tabOut 196 C d_M_state_8 h (by decide) ?_
    refine bv_iconst (v := -1) 197 rfl C d_M_state_196 (by decide) ?_
    exact bv_ireturn C rfl d_M_state_197 (Nat.le_refl _) (Nat.le_refl _) ⟨rfl, rfl, hI, _, rfl⟩
  · rcases (show k = 0 ∨ k = 1 ∨ k = 2 ∨ k = 3 ∨ k = 4 ∨ k = 5 ∨ k = 6 ∨ k = 7 by omega) with rfl | rfl | rfl | rfl | rfl | rfl | rfl | rfl
    · refine bv_tabIn 56 C d_M_state_8 (by decide) (by decide) rfl (by decide) ?_
      refine bv_bipush (v := nI 48) 58 rfl C d_M_state_56 (by decide) ?_
      refine bv_aload_n 59 rfl C d_M_state_58 rfl ?_
      refine bv_call (rest := [.int (nI 48)]) 62 rfl C d_M_state_59 (j_M_freeSlots hI hfz) i_M_freeSlots t1_8 (fun H locs ls hP => bs_V (av := []) 305 C i_M_freeSlots t3_227 t3_229 s_46 (by omega) rfl hm rfl (by decide) rfl rfl d_M_state_59 H locs ls hP) ⟨by first | decide | omega, by first | decide | omega⟩ (by decide) (by decide) (Nat.le_of_ble_eq_true rfl) (fun v ad1 w1 N1 hpo => ?_) (fun x Cn ad' w' N' hth => hth.elim)
      obtain ⟨rfl, rfl, rfl, rfl⟩ := hpo
      refine bv_isub 63 rfl C d_M_state_62 ?_
      exact bv_ireturn C rfl d_M_state_63 (Nat.le_refl _) (Nat.le_refl _) ⟨rfl, rfl, hI, _, rfl⟩
    · have loop : ∀ (d i : Nat) (r : Int32), i + d = 5 → bV p l e { frames := 1, cells := 0, slots := 0, locals := 22 } s m args below meth c dd A 4 0 0 (bJ dd ad vI) (bNo) 66 (bO [(0, .ref (ad 305)), (2, .int r), (3, .int (nI i))]) [] ad w 324 0 0 := by
        intro d
        induction d with
        | zero =>
          intro i r hi
          obtain rfl : i = 5 := by omega
          refine bv_iload_n 67 rfl C d_M_state_66 rfl ?_
          refine bv_iconst (v := nI 5) 68 rfl C d_M_state_67 (by decide) ?_
          refine bv_icmp_ge 94 71 rfl C d_M_state_68 (by decide) (fun h => ?_) (fun h => absurd (nI_le (by decide) (by decide)) h)
          refine bv_iload_n 95 rfl C d_M_state_94 rfl ?_
          exact bv_ireturn C rfl d_M_state_95 (Nat.le_refl _) (Nat.le_refl _) ⟨rfl, rfl, hI, _, rfl⟩
        | succ d ih =>
          intro i r hi
          have go : ∀ u : Int32, bV p l e { frames := 1, cells := 0, slots := 0, locals := 22 } s m args below meth c dd A 4 0 0 (bJ dd ad vI) (bNo) 86 (bO [(0, .ref (ad 305)), (2, .int r), (3, .int (nI i))]) [.int u, .int r] ad w 324 0 0 := by
            intro u
            refine bv_iadd 87 rfl C d_M_state_86 ?_
            refine bv_istore_n 88 rfl C d_M_state_87 (by decide) ?_
            refine bv_iinc 91 rfl C d_M_state_88 rfl (by first | exact b_inc _ | rfl) (by decide) ?_
            refine bv_goto 66 C d_M_state_91 (by decide) ?_
            refine bv_wk [(0, .ref (ad 305)), (2, .int (r + u)), (3, .int (nI (i + 1)))] ⟨rfl, rfl, rfl, trivial⟩ ?_
            exact ih (i + 1) _ (by omega)
          refine bv_iload_n 67 rfl C d_M_state_66 rfl ?_
          refine bv_iconst (v := nI 5) 68 rfl C d_M_state_67 (by decide) ?_
          refine bv_icmp_ge 94 71 rfl C d_M_state_68 (by decide) (fun h => absurd h (nI_ge (by omega) (by decide))) (fun h => ?_)
          refine bv_iload_n 72 rfl C d_M_state_71 rfl ?_
          refine bv_aload_n 73 rfl C d_M_state_72 rfl ?_
          refine bv_get 305 3 76 rfl C k_M (by omega) rfl hm (by decide) t3_110 rfl d_M_state_73 ?_
          refine bv_iload_n 77 rfl C d_M_state_76 rfl ?_
          refine bv_zald 308 i 78 rfl C (by omega) rfl hfo rfl (by omega) (by decide) d_M_state_77 ?_
          refine bv_if_eq 85 81 rfl C d_M_state_78 (by decide) (fun x1 => ?_) (fun x1 => ?_)
          · refine bv_iconst (v := nI 0) 86 rfl C d_M_state_85 (by decide) ?_
            exact go _
          · refine bv_iconst (v := nI 1) 82 rfl C d_M_state_81 (by decide) ?_
            refine bv_goto 86 C d_M_state_82 (by decide) ?_
            exact go _
      refine bv_tabIn 64 C d_M_state_8 (by decide) (by decide) rfl (by decide) ?_
      refine bv_iconst (v := nI 0) 65 rfl C d_M_state_64 (by decide) ?_
      refine bv_istore_n 66 rfl C d_M_state_65 (by decide) ?_
      refine bv_wk [(0, .ref (ad 305)), (2, .int (nI 0)), (3, .int (nI 0))] ⟨rfl, rfl, rfl, trivial⟩ ?_
      exact loop 5 0 _ (by omega)
    · have loop : ∀ (d i : Nat) (r : Int32), i + d = 41 → bV p l e { frames := 1, cells := 0, slots := 0, locals := 22 } s m args below meth c dd A 4 0 0 (bJ dd ad vI) (bNo) 98 (bO [(0, .ref (ad 305)), (2, .int r), (3, .int (nI i))]) [] ad w 324 0 0 := by
        intro d
        induction d with
        | zero =>
          intro i r hi
          refine bv_iload_n 99 rfl C d_M_state_98 rfl ?_
          refine bv_aload_n 100 rfl C d_M_state_99 rfl ?_
          refine bv_get 305 8 103 rfl C k_M (by omega) rfl hm (by decide) t3_115 rfl d_M_state_100 ?_
          refine bv_icmp_gt 129 106 rfl C d_M_state_103 (by decide) (fun h => ?_) (fun h => absurd (nI_lt (show V < i by omega) (by omega)) h)
          refine bv_iload_n 130 rfl C d_M_state_129 rfl ?_
          exact bv_ireturn C rfl d_M_state_130 (Nat.le_refl _) (Nat.le_refl _) ⟨rfl, rfl, hI, _, rfl⟩
        | succ d ih =>
          intro i r hi
          have go : ∀ u : Int32, bV p l e { frames := 1, cells := 0, slots := 0, locals := 22 } s m args below meth c dd A 4 0 0 (bJ dd ad vI) (bNo) 121 (bO [(0, .ref (ad 305)), (2, .int r), (3, .int (nI i))]) [.int u, .int r] ad w 324 0 0 := by
            intro u
            refine bv_iadd 122 rfl C d_M_state_121 ?_
            refine bv_istore_n 123 rfl C d_M_state_122 (by decide) ?_
            refine bv_iinc 126 rfl C d_M_state_123 rfl (by first | exact b_inc _ | rfl) (by decide) ?_
            refine bv_goto 98 C d_M_state_126 (by decide) ?_
            refine bv_wk [(0, .ref (ad 305)), (2, .int (r + u)), (3, .int (nI (i + 1)))] ⟨rfl, rfl, rfl, trivial⟩ ?_
            exact ih (i + 1) _ (by omega)
          refine bv_iload_n 99 rfl C d_M_state_98 rfl ?_
          refine bv_aload_n 100 rfl C d_M_state_99 rfl ?_
          refine bv_get 305 8 103 rfl C k_M (by omega) rfl hm (by decide) t3_115 rfl d_M_state_100 ?_
          refine bv_icmp_gt 129 106 rfl C d_M_state_103 (by decide) (fun x0 => ?_) (fun x0 => ?_)
          · refine bv_iload_n 130 rfl C d_M_state_129 rfl ?_
            exact bv_ireturn C rfl d_M_state_130 (Nat.le_refl _) (Nat.le_refl _) ⟨rfl, rfl, hI, _, rfl⟩
          · refine bv_iload_n 107 rfl C d_M_state_106 rfl ?_
            refine bv_aload_n 108 rfl C d_M_state_107 rfl ?_
            refine bv_get 305 9 111 rfl C k_M (by omega) rfl hm (by decide) t3_116 rfl d_M_state_108 ?_
            refine bv_iload_n 112 rfl C d_M_state_111 rfl ?_
            refine bv_zald 313 i 113 rfl C (by omega) rfl hfl rfl (by omega) (by decide) d_M_state_112 ?_
            refine bv_if_eq 120 116 rfl C d_M_state_113 (by decide) (fun x1 => ?_) (fun x1 => ?_)
            · refine bv_iconst (v := nI 0) 121 rfl C d_M_state_120 (by decide) ?_
              exact go _
            · refine bv_iconst (v := nI 1) 117 rfl C d_M_state_116 (by decide) ?_
              refine bv_goto 121 C d_M_state_117 (by decide) ?_
              exact go _
      refine bv_tabIn 96 C d_M_state_8 (by decide) (by decide) rfl (by decide) ?_
      refine bv_iconst (v := nI 1) 97 rfl C d_M_state_96 (by decide) ?_
      refine bv_istore_n 98 rfl C d_M_state_97 (by decide) ?_
      refine bv_wk [(0, .ref (ad 305)), (2, .int (nI 0)), (3, .int (nI 1))] ⟨rfl, rfl, rfl, trivial⟩ ?_
      exact loop 40 1 _ (by omega)
    · refine bv_tabIn 131 C d_M_state_8 (by decide) (by decide) rfl (by decide) ?_
      refine bv_aload_n 132 rfl C d_M_state_131 rfl ?_
      refine bv_get 305 8 135 rfl C k_M (by omega) rfl hm (by decide) t3_115 rfl d_M_state_132 ?_
      exact bv_ireturn C rfl d_M_state_135 (Nat.le_refl _) (Nat.le_refl _) ⟨rfl, rfl, hI, _, rfl⟩
    · refine bv_tabIn 136 C d_M_state_8 (by decide) (by decide) rfl (by decide) ?_
      refine bv_aload_n 137 rfl C d_M_state_136 rfl ?_
      refine bv_get 305 14 140 rfl C k_M (by omega) rfl hm (by decide) t3_121 rfl d_M_state_137 ?_
      exact bv_ireturn C rfl d_M_state_140 (Nat.le_refl _) (Nat.le_refl _) ⟨rfl, rfl, hI, _, rfl⟩
    · refine bv_tabIn 141 C d_M_state_8 (by decide) (by decide) rfl (by decide) ?_
      refine bv_aload_n 142 rfl C d_M_state_141 rfl ?_
      refine bv_get 305 16 145 rfl C k_M (by omega) rfl hm (by decide) t3_123 rfl d_M_state_142 ?_
      refine bv_if_eq 152 148 rfl C d_M_state_145 (by decide) (fun x1 => ?_) (fun x1 => ?_)
      · refine bv_iconst (v := nI 0) 153 rfl C d_M_state_152 (by decide) ?_
        exact bv_ireturn C rfl d_M_state_153 (Nat.le_refl _) (Nat.le_refl _) ⟨rfl, rfl, hI, _, rfl⟩
      · refine bv_iconst (v := nI 1) 149 rfl C d_M_state_148 (by decide) ?_
        refine bv_goto 153 C d_M_state_149 (by decide) ?_
        exact bv_ireturn C rfl d_M_state_153 (Nat.le_refl _) (Nat.le_refl _) ⟨rfl, rfl, hI, _, rfl⟩
    · refine bv_tabIn 154 C d_M_state_8 (by decide) (by decide) rfl (by decide) ?_
      refine bv_aload_n 155 rfl C d_M_state_154 rfl ?_
      refine bv_get 305 8 158 rfl C k_M (by omega) rfl hm (by decide) t3_115 rfl d_M_state_155 ?_
      refine bv_if_le 173 161 rfl C d_M_state_158 (by decide) (fun x1 => ?_) (fun x1 => ?_)
      · refine bv_iconst (v := -1) 174 rfl C d_M_state_173 (by decide) ?_
        exact bv_ireturn C rfl d_M_state_174 (Nat.le_refl _) (Nat.le_refl _) ⟨rfl, rfl, hI, _, rfl⟩
      · refine bv_aload_n 162 rfl C d_M_state_161 rfl ?_
        refine bv_get 305 10 165 rfl C k_M (by omega) rfl hm (by decide) t3_117 rfl d_M_state_162 ?_
        refine bv_aload_n 166 rfl C d_M_state_165 rfl ?_
        refine bv_get 305 8 169 rfl C k_M (by omega) rfl hm (by decide) t3_115 rfl d_M_state_166 ?_
        refine bv_iald 314 V 170 rfl C (by omega) rfl hfb rfl (by omega) (by decide) d_M_state_169 ?_
        refine bv_goto 174 C d_M_state_170 (by decide) ?_
        exact bv_ireturn C rfl d_M_state_174 (Nat.le_refl _) (Nat.le_refl _) ⟨rfl, rfl, hI, _, rfl⟩
    · refine bv_tabIn 175 C d_M_state_8 (by decide) (by decide) rfl (by decide) ?_
      refine bv_aload_n 176 rfl C d_M_state_175 rfl ?_
      refine bv_get 305 8 179 rfl C k_M (by omega) rfl hm (by decide) t3_115 rfl d_M_state_176 ?_
      refine bv_if_le 194 182 rfl C d_M_state_179 (by decide) (fun x1 => ?_) (fun x1 => ?_)
      · refine bv_iconst (v := -1) 195 rfl C d_M_state_194 (by decide) ?_
        exact bv_ireturn C rfl d_M_state_195 (Nat.le_refl _) (Nat.le_refl _) ⟨rfl, rfl, hI, _, rfl⟩
      · refine bv_aload_n 183 rfl C d_M_state_182 rfl ?_
        refine bv_get 305 11 186 rfl C k_M (by omega) rfl hm (by decide) t3_118 rfl d_M_state_183 ?_
        refine bv_aload_n 187 rfl C d_M_state_186 rfl ?_
        refine bv_get 305 8 190 rfl C k_M (by omega) rfl hm (by decide) t3_115 rfl d_M_state_187 ?_
        refine bv_iald 315 V 191 rfl C (by omega) rfl hfk rfl (by omega) (by decide) d_M_state_190 ?_
        refine bv_goto 195 C d_M_state_191 (by decide) ?_
        exact bv_ireturn C rfl d_M_state_195 (Nat.le_refl _) (Nat.le_refl _) ⟨rfl, rfl, hI, _, rfl⟩
end bQ10

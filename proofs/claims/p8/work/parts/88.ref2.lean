section bQ9
variable {l : Launch} {dd : bD} {ad : Nat → Nat} {w : Nat → va_E}
theorem j_M_begin {x y : Int32} (hI : II dd ad w) : bK l dd y_M_begin 1 22 0 0 [.ref (ad 305), .int x, .int y] ad w 324 (bJ dd ad vI) (bNo) := by
  obtain ⟨th, V, wr, cu, dn, hV, hd, hm⟩ := hI.k305 (k := 305) (by decide) (by decide)
  obtain ⟨fo, hfo⟩ := hI.k308 (k := 308) (by decide) (by decide)
  refine bK.start [(0, .ref (ad 305)), (1, .int x), (2, .int y)] (by decide) t3_183 (Nat.le_of_ble_eq_true rfl) rfl (fun p e s m args below meth c A hnm C => ?_)
  have parts : ∀ (d i j : Nat) (w : Nat → va_E), i + d = 7 → j < 5 → II dd ad w → bV p l e { frames := 1, cells := 0, slots := 0, locals := 22 } s m args below meth c dd A 5 0 0 (bJ dd ad vI) (bNo) 103 (bO [(0, .ref (ad 305)), (3, .int (nI j)), (4, .int (nI i))]) [] ad w 324 0 0 := by
    intro d
    induction d with
    | zero =>
      intro i j w hi hj hI
      obtain rfl : i = 7 := by omega
      refine bv_iload 105 rfl C d_M_begin_103 rfl ?_
      refine bv_bipush (v := nI 7) 107 rfl C d_M_begin_105 (by decide) ?_
      refine bv_icmp_ge 129 110 rfl C d_M_begin_107 (by decide) (fun h => ?_) (fun h => absurd (nI_le (by decide) (by decide)) h)
      refine bv_iload_n 130 rfl C d_M_begin_129 rfl ?_
      exact bv_ireturn C rfl d_M_begin_130 (Nat.le_refl _) (Nat.le_refl _) ⟨rfl, rfl, hI, _, rfl⟩
    | succ d ih =>
      intro i j w hi hj hI
      obtain ⟨th, V, wr, cu, dn, hV, hd, hm⟩ := hI.k305 (k := 305) (by decide) (by decide)
      obtain ⟨f, hf, hf'⟩ := hI.k311 (k := 311) (by decide) (by decide)
      refine bv_iload 105 rfl C d_M_begin_103 rfl ?_
      refine bv_bipush (v := nI 7) 107 rfl C d_M_begin_105 (by decide) ?_
      refine bv_icmp_ge 129 110 rfl C d_M_begin_107 (by decide) (fun h => absurd h (nI_ge (by omega) (by decide))) (fun h => ?_)
      refine bv_aload_n 111 rfl C d_M_begin_110 rfl ?_
      refine bv_get 305 6 114 rfl C k_M (by omega) rfl hm (by decide) t3_113 rfl d_M_begin_111 ?_
      refine bv_bipush (v := nI 7) 116 rfl C d_M_begin_114 (by decide) ?_
      refine bv_iload_n 117 rfl C d_M_begin_116 rfl ?_
      refine bv_imul 118 rfl C d_M_begin_117 ?_
      refine bv_iload 120 rfl C d_M_begin_118 rfl ?_
      refine bv_iadd 121 rfl C d_M_begin_120 ?_
      refine bv_iconst (v := -1) 122 rfl C d_M_begin_121 (by decide) ?_
      refine bv_iast 311 (7*j+i) 123 rfl C (by omega) rfl hf (by rw [pk_mul, nI_add]) (by omega) (by decide) d_M_begin_122 ?_
      refine bv_any (hI.up ((sh_311 (by decide)).mpr ⟨_, rfl, hf'.up (Or.inl rfl)⟩)) (fun w1 hI1 => ?_)
      refine bv_iinc 126 rfl C d_M_begin_123 rfl (by first | exact b_inc _ | rfl) (by decide) ?_
      refine bv_goto 103 C d_M_begin_126 (by decide) ?_
      refine bv_wk [(0, .ref (ad 305)), (3, .int (nI j)), (4, .int (nI (i + 1)))] ⟨rfl, rfl, rfl, trivial⟩ ?_
      exact ih (i + 1) j w1 (by omega) hj hI1
  have fin : ∀ (w : Nat → va_E), II dd ad w → bV p l e { frames := 1, cells := 0, slots := 0, locals := 22 } s m args below meth c dd A 5 0 0 (bJ dd ad vI) (bNo) 77 (bO []) [] ad w 324 0 0 := by
    intro w hI
    refine bv_iconst (v := nI 0) 78 rfl C d_M_begin_77 (by decide) ?_
    exact bv_ireturn C rfl d_M_begin_78 (Nat.le_refl _) (Nat.le_refl _) ⟨rfl, rfl, hI, _, rfl⟩
  have says : ∀ (j : Nat) (u : Int32), (j < 5 ∨ ¬ u = 0) → bV p l e { frames := 1, cells := 0, slots := 0, locals := 22 } s m args below meth c dd A 5 0 0 (bJ dd ad vI) (bNo) 63 (bO [(0, .ref (ad 305)), (1, .int x), (2, .int y), (3, .int (nI j))]) [.int u, .ref (ad 305)] ad w 324 0 0 := by
    intro j u hj
    refine bv_call (rest := []) 66 rfl C d_M_begin_63 (ct_M_says (by decide) hm (x := u)) i_M_says t1_8 (fun H locs ls hP => bs_V (av := [.int u]) 305 C i_M_says t3_187 t3_189 s_38 (by omega) rfl hm rfl (by decide) rfl rfl d_M_begin_63 H locs ls hP) ⟨by first | decide | omega, by first | decide | omega⟩ (by decide) (by decide) (Nat.le_of_ble_eq_true rfl) (fun v ad1 w1 N1 hpo => ?_) (fun x Cn ad' w' N' hth => hth.elim)
    obtain ⟨rfl, rfl, rfl, hv⟩ := hpo
    have hI1 : II dd ad (va_up w 305 (mO ad u (nI V) wr cu dn)) := hI.m hV hd
    have hm1 : (va_up w 305 (mO ad u (nI V) wr cu dn)) 305 = mO ad u (nI V) wr cu dn := va_up_self _ _ _
    generalize va_up w 305 (mO ad u (nI V) wr cu dn) = w1 at hI1 hm1 ⊢
    rcases hv with ⟨hu, rfl⟩ | ⟨hu, rfl⟩
    · have hj5 : j < 5 := hj.resolve_right (fun h => h hu)
      refine bv_if_eq 77 69 rfl C d_M_begin_66 (by decide) (fun h => absurd h (show ¬ nI 1 = 0 by decide)) (fun h => ?_)
      refine bv_aload_n 70 rfl C d_M_begin_69 rfl ?_
      refine bv_iconst (v := nI 3) 71 rfl C d_M_begin_70 (by decide) ?_
      refine bv_call (rest := []) 74 rfl C d_M_begin_71 (j_M_writes hm1 hd (x := nI 3)) i_M_writes t1_8 (fun H locs ls hP => bs_V (av := [.int (nI 3)]) 305 C i_M_writes t3_191 t3_193 s_39 (by omega) rfl hm1 rfl (by decide) rfl rfl d_M_begin_71 H locs ls hP) ⟨by first | decide | omega, by first | decide | omega⟩ (by decide) (by decide) (Nat.le_of_ble_eq_true rfl) (fun v ad1 w2 N1 hpo => ?_) (fun x Cn ad' w' N' hth => hth.elim)
      obtain ⟨rfl, rfl, ⟨th', wr', cu', dn', hd', rfl⟩, hv⟩ := hpo
      have hI2 : II dd ad (va_up w1 305 (mO ad th' (nI V) wr' cu' dn')) := hI1.m hV hd'
      generalize va_up w1 305 (mO ad th' (nI V) wr' cu' dn') = w2 at hI2 ⊢
      rcases hv with rfl | rfl
      · refine bv_if_ne 79 77 rfl C d_M_begin_74 (by decide) (fun h => absurd (show nI 0 = 0 by decide) h) (fun h => ?_)
        exact bv_wk [] trivial (fin w2 hI2)
      · refine bv_if_ne 79 77 rfl C d_M_begin_74 (by decide) (fun h => ?_) (fun h => absurd h (show ¬ nI 1 = 0 by decide))
        obtain ⟨th, V, wr, cu, dn, hV, hd, hm⟩ := hI2.k305 (k := 305) (by decide) (by decide)
        obtain ⟨fo, hfo⟩ := hI2.k308 (k := 308) (by decide) (by decide)
        refine bv_aload_n 80 rfl C d_M_begin_79 rfl ?_
        refine bv_get 305 3 83 rfl C k_M (by omega) rfl hm (by decide) t3_110 rfl d_M_begin_80 ?_
        refine bv_iload_n 84 rfl C d_M_begin_83 rfl ?_
        refine bv_iconst (v := nI 1) 85 rfl C d_M_begin_84 (by decide) ?_
        refine bv_zast 308 j 86 rfl C (by omega) rfl hfo rfl (by omega) (by decide) d_M_begin_85 ?_
        refine bv_any (hI2.up ((sh_308 (by decide)).mpr ⟨_, rfl⟩)) (fun w3 hI3 => ?_)
        obtain ⟨th, V, wr, cu, dn, hV, hd, hm⟩ := hI3.k305 (k := 305) (by decide) (by decide)
        obtain ⟨f9, hf9⟩ := hI3.k309 (k := 309) (by decide) (by decide)
        refine bv_aload_n 87 rfl C d_M_begin_86 rfl ?_
        refine bv_get 305 4 90 rfl C k_M (by omega) rfl hm (by decide) t3_111 rfl d_M_begin_87 ?_
        refine bv_iload_n 91 rfl C d_M_begin_90 rfl ?_
        refine bv_iload_n 92 rfl C d_M_begin_91 rfl ?_
        refine bv_iast 309 j 93 rfl C (by omega) rfl hf9 rfl (by omega) (by decide) d_M_begin_92 ?_
        refine bv_any (hI3.up ((sh_309 (by decide)).mpr ⟨_, rfl⟩)) (fun w4 hI4 => ?_)
        obtain ⟨th, V, wr, cu, dn, hV, hd, hm⟩ := hI4.k305 (k := 305) (by decide) (by decide)
        obtain ⟨f10, hf10⟩ := hI4.k310 (k := 310) (by decide) (by decide)
        refine bv_aload_n 94 rfl C d_M_begin_93 rfl ?_
        refine bv_get 305 5 97 rfl C k_M (by omega) rfl hm (by decide) t3_112 rfl d_M_begin_94 ?_
        refine bv_iload_n 98 rfl C d_M_begin_97 rfl ?_
        refine bv_iload_n 99 rfl C d_M_begin_98 rfl ?_
        refine bv_iast 310 j 100 rfl C (by omega) rfl hf10 rfl (by omega) (by decide) d_M_begin_99 ?_
        refine bv_any (hI4.up ((sh_310 (by decide)).mpr ⟨_, rfl⟩)) (fun w5 hI5 => ?_)
        refine bv_iconst (v := nI 0) 101 rfl C d_M_begin_100 (by decide) ?_
        refine bv_istore 103 rfl C d_M_begin_101 (by decide) ?_
        refine bv_wk [(0, .ref (ad 305)), (3, .int (nI j)), (4, .int (nI 0))] ⟨rfl, rfl, rfl, trivial⟩ ?_
        exact parts 7 0 j w5 (by omega) hj5 hI5
    · refine bv_if_eq 77 69 rfl C d_M_begin_66 (by decide) (fun h => ?_) (fun h => absurd (show nI 0 = 0 by decide) h)
      exact bv_wk [] trivial (fin w1 hI1)
  have found : ∀ j : Nat, j ≤ 5 → bV p l e { frames := 1, cells := 0, slots := 0, locals := 22 } s m args below meth c dd A 5 0 0 (bJ dd ad vI) (bNo) 22 (bO [(0, .ref (ad 305)), (1, .int x), (2, .int y), (3, .int (nI j))]) [] ad w 324 0 0 := by
    intro j hj
    refine bv_aload_n 23 rfl C d_M_begin_22 rfl ?_
    refine bv_aload_n 24 rfl C d_M_begin_23 rfl ?_
    refine bv_get 305 16 27 rfl C k_M (by omega) rfl hm (by decide) t3_123 rfl d_M_begin_24 ?_
    refine bv_if_ne 35 30 rfl C d_M_begin_27 (by decide) (fun x1 => ?_) (fun x1 => ?_)
    · refine bv_iconst (v := nI 1) 36 rfl C d_M_begin_35 (by decide) ?_
      refine bv_goto 63 C d_M_begin_36 (by decide) ?_
      exact says j _ (Or.inr (by decide))
    · refine bv_iload_n 31 rfl C d_M_begin_30 rfl ?_
      refine bv_iconst (v := nI 5) 32 rfl C d_M_begin_31 (by decide) ?_
      refine bv_icmp_ne 39 35 rfl C d_M_begin_32 (by decide) (fun x2 => ?_) (fun x2 => ?_)
      · have hj5 : j < 5 := Nat.lt_of_le_of_ne hj (fun q => x2 (by rw [q]))
        refine bv_iload_n 40 rfl C d_M_begin_39 rfl ?_
        refine bv_iconst (v := nI 0) 41 rfl C d_M_begin_40 (by decide) ?_
        refine bv_iconst (v := nI 3) 42 rfl C d_M_begin_41 (by decide) ?_
        refine bv_call (rest := [.ref (ad 305)]) 45 rfl C d_M_begin_42 (ct_M_in (x := x) (a := nI 0) (b := nI 3)) i_M_in t1_8 (fun H locs ls _ => bs_S (av := [.int x, .int (nI 0), .int (nI 3)]) C i_M_in t3_184 t3_185 t1_8 (by decide) rfl rfl d_M_begin_42 H locs ls) ⟨by first | decide | omega, by first | decide | omega⟩ (by decide) (by decide) (Nat.le_of_ble_eq_true rfl) (fun v ad1 w1 N1 hpo => ?_) (fun x Cn ad' w' N' hth => hth.elim)
        obtain ⟨rfl, rfl, rfl, hv⟩ := hpo
        obtain ⟨r, rfl⟩ : vI v := by rcases hv with ⟨-, rfl⟩ | ⟨-, rfl⟩ <;> exact ⟨_, rfl⟩
        refine bv_if_eq 58 48 rfl C d_M_begin_45 (by decide) (fun x3 => ?_) (fun x3 => ?_)
        · refine bv_iconst (v := nI 2) 59 rfl C d_M_begin_58 (by decide) ?_
          refine bv_goto 63 C d_M_begin_59 (by decide) ?_
          exact says j _ (Or.inl hj5)
        · refine bv_iload_n 49 rfl C d_M_begin_48 rfl ?_
          refine bv_iconst (v := nI 0) 50 rfl C d_M_begin_49 (by decide) ?_
          refine bv_bipush (v := nI 7) 52 rfl C d_M_begin_50 (by decide) ?_
          refine bv_call (rest := [.ref (ad 305)]) 55 rfl C d_M_begin_52 (ct_M_in (x := y) (a := nI 0) (b := nI 7)) i_M_in t1_8 (fun H locs ls _ => bs_S (av := [.int y, .int (nI 0), .int (nI 7)]) C i_M_in t3_184 t3_185 t1_8 (by decide) rfl rfl d_M_begin_52 H locs ls) ⟨by first | decide | omega, by first | decide | omega⟩ (by decide) (by decide) (Nat.le_of_ble_eq_true rfl) (fun v ad1 w1 N1 hpo => ?_) (fun x Cn ad' w' N' hth => hth.elim)
          obtain ⟨rfl, rfl, rfl, hv⟩ := hpo
          obtain ⟨r, rfl⟩ : vI v := by rcases hv with ⟨-, rfl⟩ | ⟨-, rfl⟩ <;> exact ⟨_, rfl⟩
          refine bv_if_ne 62 58 rfl C d_M_begin_55 (by decide) (fun x4 => ?_) (fun x4 => ?_)
          · refine bv_iconst (v := nI 0) 63 rfl C d_M_begin_62 (by decide) ?_
            exact says j _ (Or.inl hj5)
          · refine bv_iconst (v := nI 2) 59 rfl C d_M_begin_58 (by decide) ?_
            refine bv_goto 63 C d_M_begin_59 (by decide) ?_
            exact says j _ (Or.inl hj5)
      · refine bv_iconst (v := nI 1) 36 rfl C d_M_begin_35 (by decide) ?_
        refine bv_goto 63 C d_M_begin_36 (by decide) ?_
        exact says j _ (Or.inr (by decide))
  have loop : ∀ (d j : Nat), j + d = 5 → bV p l e { frames := 1, cells := 0, slots := 0, locals := 22 } s m args below meth c dd A 5 0 0 (bJ dd ad vI) (bNo) 2 (bO [(0, .ref (ad 305)), (1, .int x), (2, .int y), (3, .int (nI j))]) [] ad w 324 0 0 := by
    intro d
    induction d with
    | zero =>
      intro j hj
      obtain rfl : j = 5 := by omega
      refine bv_iload_n 3 rfl C d_M_begin_2 rfl ?_
      refine bv_iconst (v := nI 5) 4 rfl C d_M_begin_3 (by decide) ?_
      refine bv_icmp_ge 22 7 rfl C d_M_begin_4 (by decide) (fun h => ?_) (fun h => absurd (nI_le (by decide) (by decide)) h)
      exact found 5 (by decide)
    | succ d ih =>
      intro j hj
      refine bv_iload_n 3 rfl C d_M_begin_2 rfl ?_
      refine bv_iconst (v := nI 5) 4 rfl C d_M_begin_3 (by decide) ?_
      refine bv_icmp_ge 22 7 rfl C d_M_begin_4 (by decide) (fun h => absurd h (nI_ge (by omega) (by decide))) (fun h => ?_)
      refine bv_aload_n 8 rfl C d_M_begin_7 rfl ?_
      refine bv_get 305 3 11 rfl C k_M (by omega) rfl hm (by decide) t3_110 rfl d_M_begin_8 ?_
      refine bv_iload_n 12 rfl C d_M_begin_11 rfl ?_
      refine bv_zald 308 j 13 rfl C (by omega) rfl hfo rfl (by omega) (by decide) d_M_begin_12 ?_
      refine bv_if_eq 22 16 rfl C d_M_begin_13 (by decide) (fun x1 => ?_) (fun x1 => ?_)
      · exact found j (by omega)
      · refine bv_iinc 19 rfl C d_M_begin_16 rfl (by first | exact b_inc _ | rfl) (by decide) ?_
        refine bv_goto 2 C d_M_begin_19 (by decide) ?_
        refine bv_wk [(0, .ref (ad 305)), (1, .int x), (2, .int y), (3, .int (nI (j + 1)))] ⟨rfl, rfl, rfl, rfl, trivial⟩ ?_
        exact ih (j + 1) (by omega)
  refine bv_iconst (v := nI 0) 1 rfl C d_M_begin_0 (by decide) ?_
  refine bv_istore_n 2 rfl C d_M_begin_1 (by decide) ?_
  refine bv_wk [(0, .ref (ad 305)), (1, .int x), (2, .int y), (3, .int (nI 0))] ⟨rfl, rfl, rfl, rfl, trivial⟩ ?_
  exact loop 5 0 (by omega)
theorem j_M_abort {x : Int32} (hI : II dd ad w) : bK l dd y_M_abort 2 43 0 0 [.ref (ad 305), .int x] ad w 324 (bJ dd ad (fun v => v = none)) (bNo) := by
  obtain ⟨th, V, wr, cu, dn, hV, hd, hm⟩ := hI.k305 (k := 305) (by decide) (by decide)
  refine bK.start [(0, .ref (ad 305)), (1, .int x)] (by decide) t4_2 (Nat.le_of_ble_eq_true rfl) rfl (fun p e s m args below meth c A hnm C => ?_)
  have says : ∀ (u : Int32), ((∃ i, i < 5 ∧ x = nI i) ∨ ¬ u = 0) → bV p l e { frames := 2, cells := 0, slots := 0, locals := 43 } s m args below meth c dd A 2 0 0 (bJ dd ad (fun v => v = none)) (bNo) 25 (bO [(0, .ref (ad 305)), (1, .int x)]) [.int u, .ref (ad 305)] ad w 324 0 0 := by
    intro u hx
    refine bv_call (rest := []) 28 rfl C d_M_abort_25 (ct_M_says (by decide) hm (x := u)) i_M_says t1_8 (fun H locs ls hP => bs_V (av := [.int u]) 305 C i_M_says t3_187 t3_189 s_38 (by omega) rfl hm rfl (by decide) rfl rfl d_M_abort_25 H locs ls hP) ⟨by first | decide | omega, by first | decide | omega⟩ (by decide) (by decide) (Nat.le_of_ble_eq_true rfl) (fun v ad1 w1 N1 hpo => ?_) (fun x Cn ad' w' N' hth => hth.elim)
    obtain ⟨rfl, rfl, rfl, hv⟩ := hpo
    have hI1 : II dd ad (va_up w 305 (mO ad u (nI V) wr cu dn)) := hI.m hV hd
    have hm1 : (va_up w 305 (mO ad u (nI V) wr cu dn)) 305 = mO ad u (nI V) wr cu dn := va_up_self _ _ _
    generalize va_up w 305 (mO ad u (nI V) wr cu dn) = w1 at hI1 hm1 ⊢
    rcases hv with ⟨hu, rfl⟩ | ⟨hu, rfl⟩
    · obtain ⟨i, hi, rfl⟩ := hx.resolve_right (fun h => h hu)
      refine bv_if_eq 46 31 rfl C d_M_abort_28 (by decide) (fun h => absurd h (show ¬ nI 1 = 0 by decide)) (fun h => ?_)
      refine bv_aload_n 32 rfl C d_M_abort_31 rfl ?_
      refine bv_iconst (v := nI 3) 33 rfl C d_M_abort_32 (by decide) ?_
      refine bv_call (rest := []) 36 rfl C d_M_abort_33 (j_M_writes hm1 hd (x := nI 3)) i_M_writes t1_8 (fun H locs ls hP => bs_V (av := [.int (nI 3)]) 305 C i_M_writes t3_191 t3_193 s_39 (by omega) rfl hm1 rfl (by decide) rfl rfl d_M_abort_33 H locs ls hP) ⟨by first | decide | omega, by first | decide | omega⟩ (by decide) (by decide) (Nat.le_of_ble_eq_true rfl) (fun v ad1 w2 N1 hpo => ?_) (fun x Cn ad' w' N' hth => hth.elim)
      obtain ⟨rfl, rfl, ⟨th', wr', cu', dn', hd', rfl⟩, hv⟩ := hpo
      have hI2 : II dd ad (va_up w1 305 (mO ad th' (nI V) wr' cu' dn')) := hI1.m hV hd'
      generalize va_up w1 305 (mO ad th' (nI V) wr' cu' dn') = w2 at hI2 ⊢
      rcases hv with rfl | rfl
      · refine bv_if_eq 46 39 rfl C d_M_abort_36 (by decide) (fun h => ?_) (fun h => absurd (show nI 0 = 0 by decide) h)
        exact bv_return C rfl d_M_abort_46 (Nat.le_refl _) (Nat.le_refl _) ⟨rfl, rfl, hI2, rfl⟩
      · refine bv_if_eq 46 39 rfl C d_M_abort_36 (by decide) (fun h => absurd h (show ¬ nI 1 = 0 by decide)) (fun h => ?_)
        obtain ⟨th, V, wr, cu, dn, hV, hd, hm⟩ := hI2.k305 (k := 305) (by decide) (by decide)
        obtain ⟨fo, hfo⟩ := hI2.k308 (k := 308) (by decide) (by decide)
        refine bv_aload_n 40 rfl C d_M_abort_39 rfl ?_
        refine bv_get 305 3 43 rfl C k_M (by omega) rfl hm (by decide) t3_110 rfl d_M_abort_40 ?_
        refine bv_iload_n 44 rfl C d_M_abort_43 rfl ?_
        refine bv_iconst (v := nI 0) 45 rfl C d_M_abort_44 (by decide) ?_
        refine bv_zast 308 i 46 rfl C (by omega) rfl hfo rfl (by omega) (by decide) d_M_abort_45 ?_
        exact bv_return C rfl d_M_abort_46 (Nat.le_refl _) (Nat.le_refl _) ⟨rfl, rfl, hI2.up ((sh_308 (by decide)).mpr ⟨_, rfl⟩), rfl⟩
    · refine bv_if_eq 46 31 rfl C d_M_abort_28 (by decide) (fun h => ?_) (fun h => absurd (show nI 0 = 0 by decide) h)
      exact bv_return C rfl d_M_abort_46 (Nat.le_refl _) (Nat.le_refl _) ⟨rfl, rfl, hI1, rfl⟩
  refine bv_aload_n 1 rfl C d_M_abort_0 rfl ?_
  refine bv_aload_n 2 rfl C d_M_abort_1 rfl ?_
  refine bv_get 305 16 5 rfl C k_M (by omega) rfl hm (by decide) t3_123 rfl d_M_abort_2 ?_
  refine bv_if_eq 12 8 rfl C d_M_abort_5 (by decide) (fun x1 => ?_) (fun x1 => ?_)
  · refine bv_aload_n 13 rfl C d_M_abort_12 rfl ?_
    refine bv_iload_n 14 rfl C d_M_abort_13 rfl ?_
    refine bv_call (rest := [.ref (ad 305)]) 17 rfl C d_M_abort_14 (j_M_isOpen hI (x := x)) i_M_isOpen t1_8 (fun H locs ls hP => bs_V (av := [.int x]) 305 C i_M_isOpen t3_199 t3_201 s_40 (by omega) rfl hm rfl (by decide) rfl rfl d_M_abort_14 H locs ls hP) ⟨by first | decide | omega, by first | decide | omega⟩ (by decide) (by decide) (Nat.le_of_ble_eq_true rfl) (fun v ad1 w1 N1 hpo => ?_) (fun x Cn ad' w' N' hth => hth.elim)
    obtain ⟨rfl, rfl, rfl, hv⟩ := hpo
    rcases hv with rfl | ⟨i, hi, rfl, rfl⟩
    · refine bv_if_ne 24 20 rfl C d_M_abort_17 (by decide) (fun h => absurd (show nI 0 = 0 by decide) h) (fun h => ?_)
      refine bv_iconst (v := nI 2) 21 rfl C d_M_abort_20 (by decide) ?_
      refine bv_goto 25 C d_M_abort_21 (by decide) ?_
      exact says _ (Or.inr (by decide))
    · refine bv_if_ne 24 20 rfl C d_M_abort_17 (by decide) (fun h => ?_) (fun h => absurd h (show ¬ nI 1 = 0 by decide))
      refine bv_iconst (v := nI 0) 25 rfl C d_M_abort_24 (by decide) ?_
      exact says _ (Or.inl ⟨i, hi, rfl⟩)
  · refine bv_iconst (v := nI 1) 9 rfl C d_M_abort_8 (by decide) ?_
    refine bv_goto 25 C d_M_abort_9 (by decide) ?_
    exact says _ (Or.inr (by decide))
theorem j_M_delete {x : Int32} (hI : II dd ad w) : bK l dd y_M_delete 2 43 0 0 [.ref (ad 305), .int x] ad w 324 (bJ dd ad vI) (bNo) := by
  obtain ⟨th, V, wr, cu, dn, hV, hd, hm⟩ := hI.k305 (k := 305) (by decide) (by decide)
  refine bK.start [(0, .ref (ad 305)), (1, .int x)] (by decide) t4_6 (Nat.le_of_ble_eq_true rfl) rfl (fun p e s m args below meth c A hnm C => ?_)
  have fin : ∀ (w : Nat → va_E), II dd ad w → bV p l e { frames := 2, cells := 0, slots := 0, locals := 43 } s m args below meth c dd A 2 0 0 (bJ dd ad vI) (bNo) 35 (bO []) [] ad w 324 0 0 := by
    intro w hI
    refine bv_iconst (v := nI 0) 36 rfl C d_M_delete_35 (by decide) ?_
    exact bv_zreturn C rfl (Or.inl rfl) d_M_delete_36 (by decide) (by decide) ⟨rfl, rfl, hI, _, rfl⟩
  have says : ∀ (u : Int32), bV p l e { frames := 2, cells := 0, slots := 0, locals := 43 } s m args below meth c dd A 2 0 0 (bJ dd ad vI) (bNo) 13 (bO [(0, .ref (ad 305)), (1, .int x)]) [.int u, .ref (ad 305)] ad w 324 0 0 := by
    intro u
    refine bv_call (rest := []) 16 rfl C d_M_delete_13 (ct_M_says (by decide) hm (x := u)) i_M_says t1_8 (fun H locs ls hP => bs_V (av := [.int u]) 305 C i_M_says t3_187 t3_189 s_38 (by omega) rfl hm rfl (by decide) rfl rfl d_M_delete_13 H locs ls hP) ⟨by first | decide | omega, by first | decide | omega⟩ (by decide) (by decide) (Nat.le_of_ble_eq_true rfl) (fun v ad1 w1 N1 hpo => ?_) (fun x Cn ad' w' N' hth => hth.elim)
    obtain ⟨rfl, rfl, rfl, hv⟩ := hpo
    have hI1 : II dd ad (va_up w 305 (mO ad u (nI V) wr cu dn)) := hI.m hV hd
    have hm1 : (va_up w 305 (mO ad u (nI V) wr cu dn)) 305 = mO ad u (nI V) wr cu dn := va_up_self _ _ _
    generalize va_up w 305 (mO ad u (nI V) wr cu dn) = w1 at hI1 hm1 ⊢
    rcases hv with ⟨hu, rfl⟩ | ⟨hu, rfl⟩
    · refine bv_if_eq 35 19 rfl C d_M_delete_16 (by decide) (fun h => absurd h (show ¬ nI 1 = 0 by decide)) (fun h => ?_)
      refine bv_aload_n 20 rfl C d_M_delete_19 rfl ?_
      refine bv_iload_n 21 rfl C d_M_delete_20 rfl ?_
      refine bv_call (rest := []) 24 rfl C d_M_delete_21 (j_M_isLiving hI1 (x := x)) i_M_isLiving t1_8 (fun H locs ls hP => bs_V (av := [.int x]) 305 C i_M_isLiving t4_7 t4_9 s_48 (by omega) rfl hm1 rfl (by decide) rfl rfl d_M_delete_21 H locs ls hP) ⟨by first | decide | omega, by first | decide | omega⟩ (by decide) (by decide) (Nat.le_of_ble_eq_true rfl) (fun v ad1 w2 N1 hpo => ?_) (fun x Cn ad' w' N' hth => hth.elim)
      obtain ⟨rfl, rfl, rfl, hv⟩ := hpo
      rcases hv with rfl | ⟨i, hi1, hi2, rfl, rfl⟩
      · refine bv_if_eq 35 27 rfl C d_M_delete_24 (by decide) (fun h => ?_) (fun h => absurd (show nI 0 = 0 by decide) h)
        exact bv_wk [] trivial (fin w1 hI1)
      · refine bv_if_eq 35 27 rfl C d_M_delete_24 (by decide) (fun h => absurd h (show ¬ nI 1 = 0 by decide)) (fun h => ?_)
        refine bv_aload_n 28 rfl C d_M_delete_27 rfl ?_
        refine bv_iconst (v := nI 2) 29 rfl C d_M_delete_28 (by decide) ?_
        refine bv_call (rest := []) 32 rfl C d_M_delete_29 (j_M_writes hm1 hd (x := nI 2)) i_M_writes t1_8 (fun H locs ls hP => bs_V (av := [.int (nI 2)]) 305 C i_M_writes t3_191 t3_193 s_39 (by omega) rfl hm1 rfl (by decide) rfl rfl d_M_delete_29 H locs ls hP) ⟨by first | decide | omega, by first | decide | omega⟩ (by decide) (by decide) (Nat.le_of_ble_eq_true rfl) (fun v ad1 w2 N1 hpo => ?_) (fun x Cn ad' w' N' hth => hth.elim)
        obtain ⟨rfl, rfl, ⟨th', wr', cu', dn', hd', rfl⟩, hv⟩ := hpo
        have hI2 : II dd ad (va_up w1 305 (mO ad th' (nI V) wr' cu' dn')) := hI1.m hV hd'
        generalize va_up w1 305 (mO ad th' (nI V) wr' cu' dn') = w2 at hI2 ⊢
        rcases hv with rfl | rfl
        · refine bv_if_ne 37 35 rfl C d_M_delete_32 (by decide) (fun h => absurd (show nI 0 = 0 by decide) h) (fun h => ?_)
          exact bv_wk [] trivial (fin w2 hI2)
        · refine bv_if_ne 37 35 rfl C d_M_delete_32 (by decide) (fun h => ?_) (fun h => absurd h (show ¬ nI 1 = 0 by decide))
          obtain ⟨th, V, wr, cu, dn, hV, hd, hm⟩ := hI2.k305 (k := 305) (by decide) (by decide)
          obtain ⟨fo, hfo⟩ := hI2.k313 (k := 313) (by decide) (by decide)
          refine bv_aload_n 38 rfl C d_M_delete_37 rfl ?_
          refine bv_get 305 9 41 rfl C k_M (by omega) rfl hm (by decide) t3_116 rfl d_M_delete_38 ?_
          refine bv_iload_n 42 rfl C d_M_delete_41 rfl ?_
          refine bv_iconst (v := nI 0) 43 rfl C d_M_delete_42 (by decide) ?_
          refine bv_zast 313 i 44 rfl C (by omega) rfl hfo rfl (by omega) (by decide) d_M_delete_43 ?_
          refine bv_iconst (v := nI 1) 45 rfl C d_M_delete_44 (by decide) ?_
          exact bv_zreturn C rfl (Or.inr rfl) d_M_delete_45 (by decide) (by decide) ⟨rfl, rfl, hI2.up ((sh_313 (by decide)).mpr ⟨_, rfl⟩), _, rfl⟩
    · refine bv_if_eq 35 19 rfl C d_M_delete_16 (by decide) (fun h => ?_) (fun h => absurd (show nI 0 = 0 by decide) h)
      exact bv_wk [] trivial (fin w1 hI1)
  refine bv_aload_n 1 rfl C d_M_delete_0 rfl ?_
  refine bv_aload_n 2 rfl C d_M_delete_1 rfl ?_
  refine bv_get 305 16 5 rfl C k_M (by omega) rfl hm (by decide) t3_123 rfl d_M_delete_2 ?_
  refine bv_if_eq 12 8 rfl C d_M_delete_5 (by decide) (fun x1 => ?_) (fun x1 => ?_)
  · refine bv_iconst (v := nI 0) 13 rfl C d_M_delete_12 (by decide) ?_
    exact says _
  · refine bv_iconst (v := nI 1) 9 rfl C d_M_delete_8 (by decide) ?_
    refine bv_goto 13 C d_M_delete_9 (by decide) ?_
    exact says _
theorem j_M_collect (hI : II dd ad w) : bK l dd y_M_collect 2 46 0 0 [.ref (ad 305)] ad w 324 (bJ dd ad vI) (bNo) := by
  obtain ⟨th, V, wr, cu, dn, hV, hd, hm⟩ := hI.k305 (k := 305) (by decide) (by decide)
  refine bK.start [(0, .ref (ad 305))] (by decide) t4_14 (Nat.le_of_ble_eq_true rfl) rfl (fun p e s m args below meth c A hnm C => ?_)
  have loop : ∀ (d i : Nat) (r : Int32) (w : Nat → va_E), i + d = 48 → II dd ad w → bV p l e { frames := 2, cells := 0, slots := 0, locals := 46 } s m args below meth c dd A 3 0 0 (bJ dd ad vI) (bNo) 25 (bO [(0, .ref (ad 305)), (1, .int r), (2, .int (nI i))]) [] ad w 324 0 0 := by
    intro d
    induction d with
    | zero =>
      intro i r w hi hI
      obtain rfl : i = 48 := by omega
      refine bv_iload_n 26 rfl C d_M_collect_25 rfl ?_
      refine bv_bipush (v := nI 48) 28 rfl C d_M_collect_26 (by decide) ?_
      refine bv_icmp_ge 77 31 rfl C d_M_collect_28 (by decide) (fun h => ?_) (fun h => absurd (nI_le (by decide) (by decide)) h)
      refine bv_iload_n 78 rfl C d_M_collect_77 rfl ?_
      exact bv_ireturn C rfl d_M_collect_78 (Nat.le_refl _) (Nat.le_refl _) ⟨rfl, rfl, hI, _, rfl⟩
    | succ d ih =>
      intro i r w hi hI
      obtain ⟨th, V, wr, cu, dn, hV, hd, hm⟩ := hI.k305 (k := 305) (by decide) (by decide)
      obtain ⟨fz, hfz, hfz'⟩ := hI.k306 (k := 306) (by decide) (by decide)
      have skip : bV p l e { frames := 2, cells := 0, slots := 0, locals := 46 } s m args below meth c dd A 3 0 0 (bJ dd ad vI) (bNo) 71 (bO [(0, .ref (ad 305)), (1, .int r), (2, .int (nI i))]) [] ad w 324 0 0 := by
        refine bv_iinc 74 rfl C d_M_collect_71 rfl (by first | exact b_inc _ | rfl) (by decide) ?_
        refine bv_goto 25 C d_M_collect_74 (by decide) ?_
        refine bv_wk [(0, .ref (ad 305)), (1, .int r), (2, .int (nI (i + 1)))] ⟨rfl, rfl, rfl, trivial⟩ ?_
        exact ih (i + 1) r w (by omega) hI
      refine bv_iload_n 26 rfl C d_M_collect_25 rfl ?_
      refine bv_bipush (v := nI 48) 28 rfl C d_M_collect_26 (by decide) ?_
      refine bv_icmp_ge 77 31 rfl C d_M_collect_28 (by decide) (fun h => absurd h (nI_ge (by omega) (by decide))) (fun h => ?_)
      refine bv_aload_n 32 rfl C d_M_collect_31 rfl ?_
      refine bv_get 305 1 35 rfl C k_M (by omega) rfl hm (by decide) t3_108 rfl d_M_collect_32 ?_
      refine bv_iload_n 36 rfl C d_M_collect_35 rfl ?_
      refine bv_iald 306 i 37 rfl C (by omega) rfl hfz rfl (by omega) (by decide) d_M_collect_36 ?_
      refine bv_if_eq 71 40 rfl C d_M_collect_37 (by decide) (fun x1 => ?_) (fun x1 => ?_)
      · exact skip
      · refine bv_aload_n 41 rfl C d_M_collect_40 rfl ?_
        refine bv_iload_n 42 rfl C d_M_collect_41 rfl ?_
        refine bv_call (rest := []) 45 rfl C d_M_collect_42 (j_M_need hI (x := nI i)) i_M_need t1_8 (fun H locs ls hP => bs_V (av := [.int (nI i)]) 305 C i_M_need t4_15 t4_17 s_49 (by omega) rfl hm rfl (by decide) rfl rfl d_M_collect_42 H locs ls hP) ⟨by first | decide | omega, by first | decide | omega⟩ (by decide) (by decide) (Nat.le_of_ble_eq_true rfl) (fun v ad1 w1 N1 hpo => ?_) (fun x Cn ad' w' N' hth => hth.elim)
        obtain ⟨rfl, rfl, rfl, u, rfl⟩ := hpo
        refine bv_if_le 51 48 rfl C d_M_collect_45 (by decide) (fun x2 => ?_) (fun x2 => ?_)
        · refine bv_aload_n 52 rfl C d_M_collect_51 rfl ?_
          refine bv_iconst (v := nI 2) 53 rfl C d_M_collect_52 (by decide) ?_
          refine bv_call (rest := []) 56 rfl C d_M_collect_53 (j_M_writes hm hd (x := nI 2)) i_M_writes t1_8 (fun H locs ls hP => bs_V (av := [.int (nI 2)]) 305 C i_M_writes t3_191 t3_193 s_39 (by omega) rfl hm rfl (by decide) rfl rfl d_M_collect_53 H locs ls hP) ⟨by first | decide | omega, by first | decide | omega⟩ (by decide) (by decide) (Nat.le_of_ble_eq_true rfl) (fun v ad1 w2 N1 hpo => ?_) (fun x Cn ad' w' N' hth => hth.elim)
          obtain ⟨rfl, rfl, ⟨th', wr', cu', dn', hd', rfl⟩, hv⟩ := hpo
          have hI2 : II dd ad (va_up w 305 (mO ad th' (nI V) wr' cu' dn')) := hI.m hV hd'
          generalize va_up w 305 (mO ad th' (nI V) wr' cu' dn') = w2 at hI2 ⊢
          rcases hv with rfl | rfl
          · refine bv_if_ne 61 59 rfl C d_M_collect_56 (by decide) (fun h => absurd (show nI 0 = 0 by decide) h) (fun h => ?_)
            refine bv_iconst (v := nI 0) 60 rfl C d_M_collect_59 (by decide) ?_
            exact bv_ireturn C rfl d_M_collect_60 (Nat.le_refl _) (Nat.le_refl _) ⟨rfl, rfl, hI2, _, rfl⟩
          · refine bv_if_ne 61 59 rfl C d_M_collect_56 (by decide) (fun h => ?_) (fun h => absurd h (show ¬ nI 1 = 0 by decide))
            obtain ⟨th, V, wr, cu, dn, hV, hd, hm⟩ := hI2.k305 (k := 305) (by decide) (by decide)
            obtain ⟨fz, hfz, hfz'⟩ := hI2.k306 (k := 306) (by decide) (by decide)
            refine bv_aload_n 62 rfl C d_M_collect_61 rfl ?_
            refine bv_get 305 1 65 rfl C k_M (by omega) rfl hm (by decide) t3_108 rfl d_M_collect_62 ?_
            refine bv_iload_n 66 rfl C d_M_collect_65 rfl ?_
            refine bv_iconst (v := nI 0) 67 rfl C d_M_collect_66 (by decide) ?_
            refine bv_iast 306 i 68 rfl C (by omega) rfl hfz rfl (by omega) (by decide) d_M_collect_67 ?_
            refine bv_any (hI2.up ((sh_306 (by decide)).mpr ⟨_, rfl, hfz'.up (s := 0) (by decide) rfl⟩)) (fun w3 hI3 => ?_)
            refine bv_iinc 71 rfl C d_M_collect_68 rfl (by first | exact b_inc _ | rfl) (by decide) ?_
            refine bv_iinc 74 rfl C d_M_collect_71 rfl (by first | exact b_inc _ | rfl) (by decide) ?_
            refine bv_goto 25 C d_M_collect_74 (by decide) ?_
            refine bv_wk [(0, .ref (ad 305)), (1, .int (r + Int32.ofInt 1)), (2, .int (nI (i + 1)))] ⟨rfl, rfl, rfl, trivial⟩ ?_
            exact ih (i + 1) _ w3 (by omega) hI3
        · refine bv_goto 71 C d_M_collect_48 (by decide) ?_
          exact skip
  have says : ∀ (u : Int32), bV p l e { frames := 2, cells := 0, slots := 0, locals := 46 } s m args below meth c dd A 3 0 0 (bJ dd ad vI) (bNo) 13 (bO [(0, .ref (ad 305))]) [.int u, .ref (ad 305)] ad w 324 0 0 := by
    intro u
    refine bv_call (rest := []) 16 rfl C d_M_collect_13 (ct_M_says (by decide) hm (x := u)) i_M_says t1_8 (fun H locs ls hP => bs_V (av := [.int u]) 305 C i_M_says t3_187 t3_189 s_38 (by omega) rfl hm rfl (by decide) rfl rfl d_M_collect_13 H locs ls hP) ⟨by first | decide | omega, by first | decide | omega⟩ (by decide) (by decide) (Nat.le_of_ble_eq_true rfl) (fun v ad1 w1 N1 hpo => ?_) (fun x Cn ad' w' N' hth => hth.elim)
    obtain ⟨rfl, rfl, rfl, hv⟩ := hpo
    have hI1 : II dd ad (va_up w 305 (mO ad u (nI V) wr cu dn)) := hI.m hV hd
    generalize va_up w 305 (mO ad u (nI V) wr cu dn) = w1 at hI1 ⊢
    rcases hv with ⟨hu, rfl⟩ | ⟨hu, rfl⟩
    · refine bv_if_ne 21 19 rfl C d_M_collect_16 (by decide) (fun h => ?_) (fun h => absurd h (show ¬ nI 1 = 0 by decide))
      refine bv_iconst (v := nI 0) 22 rfl C d_M_collect_21 (by decide) ?_
      refine bv_istore_n 23 rfl C d_M_collect_22 (by decide) ?_
      refine bv_iconst (v := nI 0) 24 rfl C d_M_collect_23 (by decide) ?_
      refine bv_istore_n 25 rfl C d_M_collect_24 (by decide) ?_
      refine bv_wk [(0, .ref (ad 305)), (1, .int (nI 0)), (2, .int (nI 0))] ⟨rfl, rfl, rfl, trivial⟩ ?_
      exact loop 48 0 _ w1 (by omega) hI1
    · refine bv_if_ne 21 19 rfl C d_M_collect_16 (by decide) (fun h => absurd (show nI 0 = 0 by decide) h) (fun h => ?_)
      refine bv_iconst (v := nI 0) 20 rfl C d_M_collect_19 (by decide) ?_
      exact bv_ireturn C rfl d_M_collect_20 (Nat.le_refl _) (Nat.le_refl _) ⟨rfl, rfl, hI1, _, rfl⟩
  refine bv_aload_n 1 rfl C d_M_collect_0 rfl ?_
  refine bv_aload_n 2 rfl C d_M_collect_1 rfl ?_
  refine bv_get 305 16 5 rfl C k_M (by omega) rfl hm (by decide) t3_123 rfl d_M_collect_2 ?_
  refine bv_if_eq 12 8 rfl C d_M_collect_5 (by decide) (fun x1 => ?_) (fun x1 => ?_)
  · refine bv_iconst (v := nI 0) 13 rfl C d_M_collect_12 (by decide) ?_
    exact bv_wk [(0, .ref (ad 305))] ⟨rfl, trivial⟩ (says _)
  · refine bv_iconst (v := nI 1) 9 rfl C d_M_collect_8 (by decide) ?_
    refine bv_goto 13 C d_M_collect_9 (by decide) ?_
    exact bv_wk [(0, .ref (ad 305))] ⟨rfl, trivial⟩ (says _)
theorem j_M_recover (hI : II dd ad w) : bK l dd y_M_recover 0 0 0 0 [.ref (ad 305)] ad w 324 (bJ dd ad vI) (bNo) := by
  obtain ⟨th, V, wr, cu, dn, hV, hd, hm⟩ := hI.k305 (k := 305) (by decide) (by decide)
  refine bK.start [(0, .ref (ad 305))] (by decide) t4_30 (Nat.le_of_ble_eq_true rfl) rfl (fun p e s m args below meth c A hnm C => ?_)
  refine bv_aload_n 1 rfl C d_M_recover_0 rfl ?_
  refine bv_iconst (v := nI 0) 2 rfl C d_M_recover_1 (by decide) ?_
  refine bv_put 305 0 5 rfl C k_M (by omega) rfl hm (by decide) t3_107 rfl rfl rfl (Nat.le_of_ble_eq_true rfl) d_M_recover_2 ?_
  refine bv_aload_n 6 rfl C d_M_recover_5 rfl ?_
  refine bv_get 305 16 9 rfl C k_M (by omega) rfl (va_up_self _ _ _) (by decide) t3_123 rfl d_M_recover_6 ?_
  refine bv_istore_n 10 rfl C d_M_recover_9 (by decide) ?_
  refine bv_aload_n 11 rfl C d_M_recover_10 rfl ?_
  refine bv_get 305 16 14 rfl C k_M (by omega) rfl (va_up_self _ _ _) (by decide) t3_123 rfl d_M_recover_11 ?_
  refine bv_if_eq 22 17 rfl C d_M_recover_14 (by decide) (fun x1 => ?_) (fun x1 => ?_)
  · refine bv_aload_n 23 rfl C d_M_recover_22 rfl ?_
    refine bv_iconst (v := nI 0) 24 rfl C d_M_recover_23 (by decide) ?_
    refine bv_put 305 16 27 rfl C k_M (by omega) rfl (va_up_self _ _ _) (by decide) t3_123 rfl rfl rfl (Nat.le_of_ble_eq_true rfl) d_M_recover_24 ?_
    rw [bu_same]
    refine bv_iload_n 28 rfl C d_M_recover_27 rfl ?_
    exact bv_zreturn C rfl hd d_M_recover_28 (by decide) (by decide) ⟨rfl, rfl, hI.m hV (Or.inl (by decide)), _, rfl⟩
  · refine bv_aload_n 18 rfl C d_M_recover_17 rfl ?_
    refine bv_iconst (v := -1) 19 rfl C d_M_recover_18 (by decide) ?_
    refine bv_put 305 15 22 rfl C k_M (by omega) rfl (va_up_self _ _ _) (by decide) t3_122 rfl rfl rfl (Nat.le_of_ble_eq_true rfl) d_M_recover_19 ?_
    rw [bu_same]
    refine bv_aload_n 23 rfl C d_M_recover_22 rfl ?_
    refine bv_iconst (v := nI 0) 24 rfl C d_M_recover_23 (by decide) ?_
    refine bv_put 305 16 27 rfl C k_M (by omega) rfl (va_up_self _ _ _) (by decide) t3_123 rfl rfl rfl (Nat.le_of_ble_eq_true rfl) d_M_recover_24 ?_
    rw [bu_same]
    refine bv_iload_n 28 rfl C d_M_recover_27 rfl ?_
    exact bv_zreturn C rfl hd d_M_recover_28 (by decide) (by decide) ⟨rfl, rfl, hI.m hV (Or.inl (by decide)), _, rfl⟩
end bQ9

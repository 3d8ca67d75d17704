section bMo2
variable {l : Launch} {dd : bD} {ad : Nat → Nat} {w : Nat → va_E} {N : Nat} {th ve wr cu dn : Int32}
theorem ct_M_begin (hN : 323 ≤ N) (hm : w 305 = mO ad th ve wr (-1) 0) (ho : w 308 = aZ dd 5 (fun _ => 0)) (h309 : w 309 = aI dd 5 (fun _ => 0)) (h310 : w 310 = aI dd 5 (fun _ => 0)) (h311 : w 311 = aI dd 35 (fun _ => 0)) {x y : Int32} :
    bK l dd y_M_begin 1 22 0 0 [.ref (ad 305), .int x, .int y] ad w N (bMp ad N (fun t v => (t = nI 0 ∧ v = some (.int (nI 0)) ∧ bIn x (nI 0) (nI 3) ∧ bIn y (nI 0) (nI 7)) ∨ (t = nI 2 ∧ (∃ r : Int32, v = some (.int r)) ∧ ¬ (bIn x (nI 0) (nI 3) ∧ bIn y (nI 0) (nI 7))))) bNo := by
  refine bK.start [(0, .ref (ad 305)), (1, .int x), (2, .int y)] (by decide) t3_183 (Nat.le_of_ble_eq_true rfl) rfl (fun p e s m args below meth c A hnm C => ?_)
  have bad : ¬ (bIn x (nI 0) (nI 3) ∧ bIn y (nI 0) (nI 7)) → bV p l e { frames := 1, cells := 0, slots := 0, locals := 22 } s m args below meth c dd A 5 0 0 (bMp ad N (fun t v => (t = nI 0 ∧ v = some (.int (nI 0)) ∧ bIn x (nI 0) (nI 3) ∧ bIn y (nI 0) (nI 7)) ∨ (t = nI 2 ∧ (∃ r : Int32, v = some (.int r)) ∧ ¬ (bIn x (nI 0) (nI 3) ∧ bIn y (nI 0) (nI 7))))) bNo 58 (bO [(0, .ref (ad 305)), (1, .int x), (2, .int y), (3, .int (nI 0))]) [.ref (ad 305)] ad w N 0 0 := by
    intro hb
    refine bv_iconst (v := nI 2) 59 rfl C d_M_begin_58 (by decide) ?_
    refine bv_goto 63 C d_M_begin_59 (by decide) ?_
    refine bv_call (rest := []) 66 rfl C d_M_begin_63 (ct_M_says hN hm) i_M_says t1_8 (fun H locs ls hP => bs_V (av := [.int (nI 2)]) 305 C i_M_says t3_187 t3_189 s_38 (by omega) rfl hm rfl (by decide) rfl rfl d_M_begin_63 H locs ls hP) ⟨by first | decide | omega, by first | decide | omega⟩ (by decide) (by decide) (Nat.le_of_ble_eq_true rfl) (fun v ad1 w1 N1 hpo => ?_) (fun x Cn ad' w' N' hth => hth.elim)
    obtain ⟨rfl, rfl, rfl, hv⟩ := hpo
    rcases hv with ⟨hz, -⟩ | ⟨-, rfl⟩
    · exact absurd hz (by decide)
    · refine bv_if_eq 77 69 rfl C d_M_begin_66 (by decide) (fun h => ?_) (fun h => absurd (show nI 0 = 0 by decide) h)
      refine bv_iconst (v := nI 0) 78 rfl C d_M_begin_77 (by decide) ?_
      exact bv_ireturn C rfl d_M_begin_78 (by decide) (by decide) ⟨rfl, rfl, _, _, _, _, _, va_up_self _ _ _, Or.inr ⟨rfl, ⟨_, rfl⟩, hb⟩⟩
  refine bv_iconst (v := nI 0) 1 rfl C d_M_begin_0 (by decide) ?_
  refine bv_istore_n 2 rfl C d_M_begin_1 (by decide) ?_
  refine bv_iload_n 3 rfl C d_M_begin_2 rfl ?_
  refine bv_iconst (v := nI 5) 4 rfl C d_M_begin_3 (by decide) ?_
  refine bv_icmp_ge 22 7 rfl C d_M_begin_4 (by decide) (fun h => absurd h (nI_ge (show 0 < 5 by decide) (by decide))) (fun h => ?_)
  refine bv_aload_n 8 rfl C d_M_begin_7 rfl ?_
  refine bv_get 305 3 11 rfl C k_M (by omega) rfl hm (by decide) t3_110 rfl d_M_begin_8 ?_
  refine bv_iload_n 12 rfl C d_M_begin_11 rfl ?_
  refine bv_zald 308 0 13 rfl C (by omega) rfl ho rfl (by decide) (by decide) d_M_begin_12 ?_
  refine bv_if_eq 22 16 rfl C d_M_begin_13 (by decide) (fun h => ?_) (fun h => absurd (show (0 : Int32) = 0 by decide) h)
  refine bv_aload_n 23 rfl C d_M_begin_22 rfl ?_
  refine bv_aload_n 24 rfl C d_M_begin_23 rfl ?_
  refine bv_get 305 16 27 rfl C k_M (by omega) rfl hm (by decide) t3_123 rfl d_M_begin_24 ?_
  refine bv_if_ne 35 30 rfl C d_M_begin_27 (by decide) (fun h => absurd (show (0 : Int32) = 0 by decide) h) (fun h => ?_)
  refine bv_iload_n 31 rfl C d_M_begin_30 rfl ?_
  refine bv_iconst (v := nI 5) 32 rfl C d_M_begin_31 (by decide) ?_
  refine bv_icmp_ne 39 35 rfl C d_M_begin_32 (by decide) (fun h => ?_) (fun h => absurd h (show ¬ nI 0 = nI 5 by decide))
  refine bv_iload_n 40 rfl C d_M_begin_39 rfl ?_
  refine bv_iconst (v := nI 0) 41 rfl C d_M_begin_40 (by decide) ?_
  refine bv_iconst (v := nI 3) 42 rfl C d_M_begin_41 (by decide) ?_
  refine bv_call (rest := [.ref (ad 305)]) 45 rfl C d_M_begin_42 (ct_M_in (x := x) (a := nI 0) (b := nI 3)) i_M_in t1_8 (fun H locs ls _ => bs_S (av := [.int x, .int (nI 0), .int (nI 3)]) C i_M_in t3_184 t3_185 t1_8 (by decide) rfl rfl d_M_begin_42 H locs ls) ⟨by first | decide | omega, by first | decide | omega⟩ (by decide) (by decide) (Nat.le_of_ble_eq_true rfl) (fun v ad1 w1 N1 hpo => ?_) (fun x Cn ad' w' N' hth => hth.elim)
  obtain ⟨rfl, rfl, rfl, hv⟩ := hpo
  rcases hv with ⟨hi, rfl⟩ | ⟨hi, rfl⟩
  · refine bv_if_eq 58 48 rfl C d_M_begin_45 (by decide) (fun h => absurd h (show ¬ nI 1 = 0 by decide)) (fun h => ?_)
    refine bv_iload_n 49 rfl C d_M_begin_48 rfl ?_
    refine bv_iconst (v := nI 0) 50 rfl C d_M_begin_49 (by decide) ?_
    refine bv_bipush (v := nI 7) 52 rfl C d_M_begin_50 (by decide) ?_
    refine bv_call (rest := [.ref (ad 305)]) 55 rfl C d_M_begin_52 (ct_M_in (x := y) (a := nI 0) (b := nI 7)) i_M_in t1_8 (fun H locs ls _ => bs_S (av := [.int y, .int (nI 0), .int (nI 7)]) C i_M_in t3_184 t3_185 t1_8 (by decide) rfl rfl d_M_begin_52 H locs ls) ⟨by first | decide | omega, by first | decide | omega⟩ (by decide) (by decide) (Nat.le_of_ble_eq_true rfl) (fun v ad1 w1 N1 hpo => ?_) (fun x Cn ad' w' N' hth => hth.elim)
    obtain ⟨rfl, rfl, rfl, hv⟩ := hpo
    rcases hv with ⟨hj, rfl⟩ | ⟨hj, rfl⟩
    · refine bv_if_ne 62 58 rfl C d_M_begin_55 (by decide) (fun h => ?_) (fun h => absurd h (show ¬ nI 1 = 0 by decide))
      refine bv_iconst (v := nI 0) 63 rfl C d_M_begin_62 (by decide) ?_
      refine bv_call (rest := []) 66 rfl C d_M_begin_63 (ct_M_says hN hm) i_M_says t1_8 (fun H locs ls hP => bs_V (av := [.int (nI 0)]) 305 C i_M_says t3_187 t3_189 s_38 (by omega) rfl hm rfl (by decide) rfl rfl d_M_begin_63 H locs ls hP) ⟨by first | decide | omega, by first | decide | omega⟩ (by decide) (by decide) (Nat.le_of_ble_eq_true rfl) (fun v ad1 w1 N1 hpo => ?_) (fun x Cn ad' w' N' hth => hth.elim)
      obtain ⟨rfl, rfl, rfl, hv⟩ := hpo
      rcases hv with ⟨-, rfl⟩ | ⟨hz, -⟩
      · refine bv_if_eq 77 69 rfl C d_M_begin_66 (by decide) (fun h => absurd h (show ¬ nI 1 = 0 by decide)) (fun h => ?_)
        refine bv_aload_n 70 rfl C d_M_begin_69 rfl ?_
        refine bv_iconst (v := nI 3) 71 rfl C d_M_begin_70 (by decide) ?_
        refine bv_call (rest := []) 74 rfl C d_M_begin_71 (ct_M_writes (w := va_up w 305 (mO ad (nI 0) ve wr (-1) 0)) hN (va_up_self _ _ _)) i_M_writes t1_8 (fun H locs ls hP => bs_V (av := [.int (nI 3)]) 305 C i_M_writes t3_191 t3_193 s_39 (by omega) rfl (va_up_self _ _ _) rfl (by decide) rfl rfl d_M_begin_71 H locs ls hP) ⟨by first | decide | omega, by first | decide | omega⟩ (by decide) (by decide) (Nat.le_of_ble_eq_true rfl) (fun v ad1 w1 N1 hpo => ?_) (fun x Cn ad' w' N' hth => hth.elim)
        obtain ⟨rfl, rfl, rfl, rfl⟩ := hpo
        rw [bu_same]
        refine bv_if_ne 79 77 rfl C d_M_begin_74 (by decide) (fun h => ?_) (fun h => absurd h (show ¬ nI 1 = 0 by decide))
        refine bv_aload_n 80 rfl C d_M_begin_79 rfl ?_
        refine bv_get 305 3 83 rfl C k_M (by omega) rfl (va_up_self _ _ _) (by decide) t3_110 rfl d_M_begin_80 ?_
        refine bv_iload_n 84 rfl C d_M_begin_83 rfl ?_
        refine bv_iconst (v := nI 1) 85 rfl C d_M_begin_84 (by decide) ?_
        refine bv_zast 308 0 86 rfl C (by omega) rfl (by rw [va_up_ne _ _ (by decide)]; exact ho) rfl (by decide) (by decide) d_M_begin_85 ?_
        refine bv_aload_n 87 rfl C d_M_begin_86 rfl ?_
        refine bv_get 305 4 90 rfl C k_M (by omega) rfl (by rw [va_up_ne _ _ (by decide), va_up_self]) (by decide) t3_111 rfl d_M_begin_87 ?_
        refine bv_iload_n 91 rfl C d_M_begin_90 rfl ?_
        refine bv_iload_n 92 rfl C d_M_begin_91 rfl ?_
        refine bv_iast 309 0 93 rfl C (by omega) rfl (by rw [va_up_ne _ _ (by decide), va_up_ne _ _ (by decide)]; exact h309) rfl (by decide) (by decide) d_M_begin_92 ?_
        refine bv_aload_n 94 rfl C d_M_begin_93 rfl ?_
        refine bv_get 305 5 97 rfl C k_M (by omega) rfl (by rw [va_up_ne _ _ (by decide), va_up_ne _ _ (by decide), va_up_self]) (by decide) t3_112 rfl d_M_begin_94 ?_
        refine bv_iload_n 98 rfl C d_M_begin_97 rfl ?_
        refine bv_iload_n 99 rfl C d_M_begin_98 rfl ?_
        refine bv_iast 310 0 100 rfl C (by omega) rfl (by rw [va_up_ne _ _ (by decide), va_up_ne _ _ (by decide), va_up_ne _ _ (by decide)]; exact h310) rfl (by decide) (by decide) d_M_begin_99 ?_
        refine bv_iconst (v := nI 0) 101 rfl C d_M_begin_100 (by decide) ?_
        refine bv_istore 103 rfl C d_M_begin_101 (by decide) ?_
        obtain ⟨W, hW⟩ : ∃ W : Nat → va_E, W = _ := ⟨_, rfl⟩
        refine bv_w W (fun k _ => by rw [hW]) ?_
        have z305 : W 305 = mO ad (nI 0) ve (wr + nI 1) (-1) 0 := by rw [hW, va_up_ne _ _ (by decide), va_up_ne _ _ (by decide), va_up_ne _ _ (by decide), va_up_self]
        have z311 : W 311 = aI dd 35 (fun _ => 0) := by rw [hW, va_up_ne _ _ (by decide), va_up_ne _ _ (by decide), va_up_ne _ _ (by decide), va_up_ne _ _ (by decide), h311]
        refine bv_wk [(0, .ref (ad 305)), (3, .int (nI 0)), (4, .int (nI 0))] ⟨rfl, rfl, rfl, trivial⟩ ?_
        refine bv_cs 0 0 (by decide) (by decide) ?_
        have hWW : W = va_up W 311 (aI dd 35 (fun _ => 0)) := by
          funext k
          by_cases hk : k = 311
          · rw [hk, va_up_self, z311]
          · rw [va_up_ne _ _ hk]
        have loop : ∀ (d i : Nat) (f : Nat → Int32), i + d = 7 → bV p l e { frames := 1, cells := 0, slots := 0, locals := 22 } s m args below meth c dd A 5 0 0 (bMp ad N (fun t v => (t = nI 0 ∧ v = some (.int (nI 0)) ∧ bIn x (nI 0) (nI 3) ∧ bIn y (nI 0) (nI 7)) ∨ (t = nI 2 ∧ (∃ r : Int32, v = some (.int r)) ∧ ¬ (bIn x (nI 0) (nI 3) ∧ bIn y (nI 0) (nI 7))))) bNo 103 (bO [(0, .ref (ad 305)), (3, .int (nI 0)), (4, .int (nI i))]) [] ad (va_up W 311 (aI dd 35 f)) N 0 0 := by
          intro d
          induction d with
          | zero =>
            intro i f hi7
            obtain rfl : i = 7 := by omega
            refine bv_iload 105 rfl C d_M_begin_103 rfl ?_
            refine bv_bipush (v := nI 7) 107 rfl C d_M_begin_105 (by decide) ?_
            refine bv_icmp_ge 129 110 rfl C d_M_begin_107 (by decide) (fun h => ?_) (fun h => absurd (nI_le (by decide) (by decide)) h)
            refine bv_iload_n 130 rfl C d_M_begin_129 rfl ?_
            exact bv_ireturn C rfl d_M_begin_130 (by decide) (by decide) ⟨rfl, rfl, _, _, _, _, _, (by rw [va_up_ne _ _ (by decide)]; exact z305), Or.inl ⟨rfl, rfl, hi, hj⟩⟩
          | succ d ih =>
            intro i f hi7
            refine bv_iload 105 rfl C d_M_begin_103 rfl ?_
            refine bv_bipush (v := nI 7) 107 rfl C d_M_begin_105 (by decide) ?_
            refine bv_icmp_ge 129 110 rfl C d_M_begin_107 (by decide) (fun h => absurd h (nI_ge (by omega) (by decide))) (fun h => ?_)
            refine bv_aload_n 111 rfl C d_M_begin_110 rfl ?_
            refine bv_get 305 6 114 rfl C k_M (by omega) rfl (by rw [va_up_ne _ _ (by decide)]; exact z305) (by decide) t3_113 rfl d_M_begin_111 ?_
            refine bv_bipush (v := nI 7) 116 rfl C d_M_begin_114 (by decide) ?_
            refine bv_iload_n 117 rfl C d_M_begin_116 rfl ?_
            refine bv_imul 118 rfl C d_M_begin_117 ?_
            refine bv_iload 120 rfl C d_M_begin_118 rfl ?_
            refine bv_iadd 121 rfl C d_M_begin_120 ?_
            refine bv_seti (nI i) (by rw [show nI 7 * nI 0 = nI 0 by decide, nI_add, Nat.zero_add]) ?_
            refine bv_iconst (v := -1) 122 rfl C d_M_begin_121 (by decide) ?_
            refine bv_iast 311 i 123 rfl C (by omega) rfl (va_up_self _ _ _) rfl (by omega) (by decide) d_M_begin_122 ?_
            rw [bu_same]
            refine bv_iinc 126 rfl C d_M_begin_123 rfl (by first | exact b_inc _ | rfl) (by decide) ?_
            refine bv_goto 103 C d_M_begin_126 (by decide) ?_
            refine bv_wk [(0, .ref (ad 305)), (3, .int (nI 0)), (4, .int (nI (i + 1)))] ⟨rfl, rfl, rfl, trivial⟩ ?_
            exact ih (i + 1) _ (by omega)
        refine bv_w (va_up W 311 (aI dd 35 (fun _ => 0))) (fun k _ => by rw [← hWW]) ?_
        exact loop 7 0 _ rfl
      · exact absurd rfl hz
    · refine bv_if_ne 62 58 rfl C d_M_begin_55 (by decide) (fun h => absurd (show nI 0 = 0 by decide) h) (fun h => ?_)
      refine bv_wk [(0, .ref (ad 305)), (1, .int x), (2, .int y), (3, .int (nI 0))] ⟨rfl, rfl, rfl, rfl, trivial⟩ ?_
      exact bad (fun hh => hj hh.2)
  · refine bv_if_eq 58 48 rfl C d_M_begin_45 (by decide) (fun h => ?_) (fun h => absurd (show nI 0 = 0 by decide) h)
    refine bv_wk [(0, .ref (ad 305)), (1, .int x), (2, .int y), (3, .int (nI 0))] ⟨rfl, rfl, rfl, rfl, trivial⟩ ?_
    exact bad (fun hh => hi hh.1)
theorem ct_M_collect (hN : 323 ≤ N) (hm : w 305 = mO ad th ve wr cu 0) (hz : w 306 = aI dd 48 (fun _ => 0)) : bK l dd y_M_collect 1 21 0 0 [.ref (ad 305)] ad w N (bMp ad N (fun t v => t = nI 0 ∧ v = some (.int (nI 0)))) bNo := by
  refine bK.start [(0, .ref (ad 305))] (by decide) t4_14 (Nat.le_of_ble_eq_true rfl) rfl (fun p e s m args below meth c A hnm C => ?_)
  refine bv_aload_n 1 rfl C d_M_collect_0 rfl ?_
  refine bv_aload_n 2 rfl C d_M_collect_1 rfl ?_
  refine bv_get 305 16 5 rfl C k_M (by omega) rfl hm (by decide) t3_123 rfl d_M_collect_2 ?_
  refine bv_if_eq 12 8 rfl C d_M_collect_5 (by decide) (fun h => ?_) (fun h => absurd (show (0 : Int32) = 0 by decide) h)
  refine bv_iconst (v := nI 0) 13 rfl C d_M_collect_12 (by decide) ?_
  refine bv_call (rest := []) 16 rfl C d_M_collect_13 (ct_M_says hN hm) i_M_says t1_8 (fun H locs ls hP => bs_V (av := [.int (nI 0)]) 305 C i_M_says t3_187 t3_189 s_38 (by omega) rfl hm rfl (by decide) rfl rfl d_M_collect_13 H locs ls hP) ⟨by first | decide | omega, by first | decide | omega⟩ (by decide) (by decide) (Nat.le_of_ble_eq_true rfl) (fun v ad1 w1 N1 hpo => ?_) (fun x Cn ad' w' N' hth => hth.elim)
  obtain ⟨rfl, rfl, rfl, hv⟩ := hpo
  rcases hv with ⟨-, rfl⟩ | ⟨hq, -⟩
  · refine bv_if_ne 21 19 rfl C d_M_collect_16 (by decide) (fun h => ?_) (fun h => absurd h (show ¬ nI 1 = 0 by decide))
    refine bv_iconst (v := nI 0) 22 rfl C d_M_collect_21 (by decide) ?_
    refine bv_istore_n 23 rfl C d_M_collect_22 (by decide) ?_
    refine bv_iconst (v := nI 0) 24 rfl C d_M_collect_23 (by decide) ?_
    refine bv_istore_n 25 rfl C d_M_collect_24 (by decide) ?_
    have loop : ∀ (d i : Nat), i + d = 48 → bV p l e { frames := 1, cells := 0, slots := 0, locals := 21 } s m args below meth c dd A 3 0 0 (bMp ad N (fun t v => t = nI 0 ∧ v = some (.int (nI 0)))) bNo 25 (bO [(0, .ref (ad 305)), (1, .int (nI 0)), (2, .int (nI i))]) [] ad (va_up w 305 (mO ad (nI 0) ve wr cu 0)) N 0 0 := by
      intro d
      induction d with
      | zero =>
        intro i hi
        obtain rfl : i = 48 := by omega
        refine bv_iload_n 26 rfl C d_M_collect_25 rfl ?_
        refine bv_bipush (v := nI 48) 28 rfl C d_M_collect_26 (by decide) ?_
        refine bv_icmp_ge 77 31 rfl C d_M_collect_28 (by decide) (fun h => ?_) (fun h => absurd (nI_le (by decide) (by decide)) h)
        refine bv_iload_n 78 rfl C d_M_collect_77 rfl ?_
        exact bv_ireturn C rfl d_M_collect_78 (by decide) (by decide) ⟨rfl, rfl, _, _, _, _, _, va_up_self _ _ _, rfl, rfl⟩
      | succ d ih =>
        intro i hi
        refine bv_iload_n 26 rfl C d_M_collect_25 rfl ?_
        refine bv_bipush (v := nI 48) 28 rfl C d_M_collect_26 (by decide) ?_
        refine bv_icmp_ge 77 31 rfl C d_M_collect_28 (by decide) (fun h => absurd h (nI_ge (by omega) (by decide))) (fun h => ?_)
        refine bv_aload_n 32 rfl C d_M_collect_31 rfl ?_
        refine bv_get 305 1 35 rfl C k_M (by omega) rfl (va_up_self _ _ _) (by decide) t3_108 rfl d_M_collect_32 ?_
        refine bv_iload_n 36 rfl C d_M_collect_35 rfl ?_
        refine bv_iald 306 i 37 rfl C (by omega) rfl (by rw [va_up_ne _ _ (by decide)]; exact hz) rfl (by omega) (by decide) d_M_collect_36 ?_
        refine bv_if_eq 71 40 rfl C d_M_collect_37 (by decide) (fun h => ?_) (fun h => absurd (show (0 : Int32) = 0 by decide) h)
        refine bv_iinc 74 rfl C d_M_collect_71 rfl (by first | exact b_inc _ | rfl) (by decide) ?_
        refine bv_goto 25 C d_M_collect_74 (by decide) ?_
        refine bv_wk [(0, .ref (ad 305)), (1, .int (nI 0)), (2, .int (nI (i + 1)))] ⟨rfl, rfl, rfl, trivial⟩ ?_
        exact ih (i + 1) (by omega)
    refine bv_wk [(0, .ref (ad 305)), (1, .int (nI 0)), (2, .int (nI 0))] ⟨rfl, rfl, rfl, trivial⟩ ?_
    exact loop 48 0 rfl
  · exact absurd rfl hq
theorem ct_M_lay (hN : 323 ≤ N) (hm : w 305 = mO ad th ve wr cu dn) {f0 : Nat → Int32} (h321 : w 321 = aI dd 24 f0) {a b c0 : Int64} : bK l dd y_M_lay 0 0 0 0 [.ref (ad 305), .long a, .long b, .long c0] ad w N (fun v ad' w' N' => ad = ad' ∧ N = N' ∧ v = none ∧ ∃ f, w' = va_up w 321 (aI dd 24 f)) bNo := by
  have hm' : ∀ f : Nat → Int32, va_up w 321 (aI dd 24 f) 305 = mO ad th ve wr cu dn := fun f => by rw [va_up_ne _ _ (by decide)]; exact hm
  refine bK.start [(0, .ref (ad 305)), (1, .long a), (3, .long b), (5, .long c0)] (by decide) t3_206 (Nat.le_of_ble_eq_true rfl) rfl (fun p e s m args below meth c A hnm C => ?_)
  have loop : ∀ (d i : Nat) (f : Nat → Int32), i + d = 24 → bV p l e { frames := 0, cells := 0, slots := 0, locals := 0 } s m args below meth c dd A 8 0 0 (fun v ad' w' N' => ad = ad' ∧ N = N' ∧ v = none ∧ ∃ f, w' = va_up w 321 (aI dd 24 f)) bNo 3 (bO [(0, .ref (ad 305)), (1, .long a), (3, .long b), (5, .long c0), (7, .int (nI i))]) [] ad (va_up w 321 (aI dd 24 f)) N 0 0 := by
    intro d
    induction d with
    | zero =>
      intro i f hi
      obtain rfl : i = 24 := by omega
      refine bv_iload 5 rfl C d_M_lay_3 rfl ?_
      refine bv_bipush (v := nI 24) 7 rfl C d_M_lay_5 (by decide) ?_
      refine bv_icmp_ge 64 10 rfl C d_M_lay_7 (by decide) (fun h => ?_) (fun h => absurd (nI_le (by decide) (by decide)) h)
      exact bv_return C rfl d_M_lay_64 (Nat.le_refl _) (Nat.le_refl _) ⟨rfl, rfl, rfl, _, rfl⟩
    | succ d ih =>
      intro i f hi
      have tl : ∀ y : Int64, bV p l e { frames := 0, cells := 0, slots := 0, locals := 0 } s m args below meth c dd A 8 0 0 (fun v ad' w' N' => ad = ad' ∧ N = N' ∧ v = none ∧ ∃ f, w' = va_up w 321 (aI dd 24 f)) bNo 40 (bO [(0, .ref (ad 305)), (1, .long a), (3, .long b), (5, .long c0), (7, .int (nI i))]) [.long y, .int (nI i), .ref (ad 321)] ad (va_up w 321 (aI dd 24 f)) N 0 0 := by
        intro y
        refine bv_bipush (v := nI 56) 42 rfl C d_M_lay_40 (by decide) ?_
        refine bv_bipush (v := nI 8) 44 rfl C d_M_lay_42 (by decide) ?_
        refine bv_iload 46 rfl C d_M_lay_44 rfl ?_
        refine bv_bipush (v := nI 8) 48 rfl C d_M_lay_46 (by decide) ?_
        refine bv_irem 49 rfl C d_M_lay_48 (by decide) ?_
        refine bv_imul 50 rfl C d_M_lay_49 ?_
        refine bv_isub 51 rfl C d_M_lay_50 ?_
        refine bv_lshr 52 rfl C d_M_lay_51 rfl ?_
        refine bv_ldc2 55 rfl C t3_207 d_M_lay_52 ?_
        refine bv_land 56 rfl C d_M_lay_55 ?_
        refine bv_l2i 57 rfl C d_M_lay_56 rfl ?_
        refine bv_iast 321 i 58 rfl C (by omega) rfl (va_up_self _ _ _) rfl (by omega) (by decide) d_M_lay_57 ?_
        rw [bu_same]
        refine bv_iinc 61 rfl C d_M_lay_58 rfl (by first | exact b_inc _ | rfl) (by decide) ?_
        refine bv_goto 3 C d_M_lay_61 (by decide) ?_
        refine bv_wk [(0, .ref (ad 305)), (1, .long a), (3, .long b), (5, .long c0), (7, .int (nI (i + 1)))] ⟨rfl, rfl, rfl, rfl, rfl, trivial⟩ ?_
        exact ih (i + 1) _ (by omega)
      refine bv_iload 5 rfl C d_M_lay_3 rfl ?_
      refine bv_bipush (v := nI 24) 7 rfl C d_M_lay_5 (by decide) ?_
      refine bv_icmp_ge 64 10 rfl C d_M_lay_7 (by decide) (fun h => absurd h (nI_ge (by omega) (by decide))) (fun h => ?_)
      refine bv_aload_n 11 rfl C d_M_lay_10 rfl ?_
      refine bv_get 305 20 14 rfl C k_M (by omega) rfl (hm' f) (by decide) t3_127 rfl d_M_lay_11 ?_
      refine bv_iload 16 rfl C d_M_lay_14 rfl ?_
      refine bv_iload 18 rfl C d_M_lay_16 rfl ?_
      refine bv_bipush (v := nI 8) 20 rfl C d_M_lay_18 (by decide) ?_
      refine bv_icmp_ge 27 23 rfl C d_M_lay_20 (by decide) (fun x1 => ?_) (fun x1 => ?_)
      · refine bv_iload 29 rfl C d_M_lay_27 rfl ?_
        refine bv_bipush (v := nI 16) 31 rfl C d_M_lay_29 (by decide) ?_
        refine bv_icmp_ge 38 34 rfl C d_M_lay_31 (by decide) (fun x2 => ?_) (fun x2 => ?_)
        · refine bv_lload 40 rfl C d_M_lay_38 rfl ?_
          exact tl _
        · refine bv_lload_n 35 rfl C d_M_lay_34 rfl ?_
          refine bv_goto 40 C d_M_lay_35 (by decide) ?_
          exact tl _
      · refine bv_lload_n 24 rfl C d_M_lay_23 rfl ?_
        refine bv_goto 40 C d_M_lay_24 (by decide) ?_
        exact tl _
  refine bv_iconst (v := nI 0) 1 rfl C d_M_lay_0 (by decide) ?_
  refine bv_istore 3 rfl C d_M_lay_1 (by decide) ?_
  have hW : w = va_up w 321 (aI dd 24 f0) := by
    funext k
    by_cases hk : k = 321
    · rw [hk, va_up_self, h321]
    · rw [va_up_ne _ _ hk]
  refine bv_w (va_up w 321 (aI dd 24 f0)) (fun k _ => by rw [← hW]) ?_
  refine bv_wk [(0, .ref (ad 305)), (1, .long a), (3, .long b), (5, .long c0), (7, .int (nI 0))] ⟨rfl, rfl, rfl, rfl, rfl, trivial⟩ ?_
  exact loop 24 0 f0 rfl
/-- isThere and find where every slot is free and something is sought -/
theorem ct_M_isThere (hN : 323 ≤ N) (hm : w 305 = mO ad th ve wr cu dn) (hz : w 306 = aI dd 48 (fun _ => 0)) {i : Nat} (hi : i < 48) {y n : Int32} (hn : ¬ (0 : Int32) = n) : bK l dd y_M_isThere 0 0 0 0 [.ref (ad 305), .int (nI i), .int y, .int n] ad w N (bSame ad w N (fun v => v = some (.int (nI 0)))) bNo := by
  refine bK.start [(0, .ref (ad 305)), (1, .int (nI i)), (2, .int y), (3, .int n)] (by decide) t3_222 (Nat.le_of_ble_eq_true rfl) rfl (fun p e s m args below meth c A hnm C => ?_)
  refine bv_aload_n 1 rfl C d_M_isThere_0 rfl ?_
  refine bv_get 305 1 4 rfl C k_M (by omega) rfl hm (by decide) t3_108 rfl d_M_isThere_1 ?_
  refine bv_iload_n 5 rfl C d_M_isThere_4 rfl ?_
  refine bv_iald 306 i 6 rfl C (by omega) rfl hz rfl hi (by decide) d_M_isThere_5 ?_
  refine bv_iload_n 7 rfl C d_M_isThere_6 rfl ?_
  refine bv_icmp_eq 12 10 rfl C d_M_isThere_7 (by decide) (fun h => absurd h hn) (fun h => ?_)
  refine bv_iconst (v := nI 0) 11 rfl C d_M_isThere_10 (by decide) ?_
  exact bv_zreturn C rfl (Or.inl rfl) d_M_isThere_11 (Nat.le_refl _) (Nat.le_refl _) ⟨rfl, rfl, rfl, rfl⟩
theorem ct_M_find (hN : 323 ≤ N) (hm : w 305 = mO ad th ve wr cu dn) (hz : w 306 = aI dd 48 (fun _ => 0)) {y n : Int32} (hn : ¬ (0 : Int32) = n) : bK l dd y_M_find 1 24 0 0 [.ref (ad 305), .int y, .int n] ad w N (bSame ad w N (fun v => v = some (.int (-1)))) bNo := by
  refine bK.start [(0, .ref (ad 305)), (1, .int y), (2, .int n)] (by decide) t3_218 (Nat.le_of_ble_eq_true rfl) rfl (fun p e s m args below meth c A hnm C => ?_)
  have loop : ∀ (d i : Nat), i + d = 48 → bV p l e { frames := 1, cells := 0, slots := 0, locals := 24 } s m args below meth c dd A 4 0 0 (bSame ad w N (fun v => v = some (.int (-1)))) bNo 2 (bO [(0, .ref (ad 305)), (1, .int y), (2, .int n), (3, .int (nI i))]) [] ad w N 0 0 := by
    intro d
    induction d with
    | zero =>
      intro i hi
      obtain rfl : i = 48 := by omega
      refine bv_iload_n 3 rfl C d_M_find_2 rfl ?_
      refine bv_bipush (v := nI 48) 5 rfl C d_M_find_3 (by decide) ?_
      refine bv_icmp_ge 26 8 rfl C d_M_find_5 (by decide) (fun h => ?_) (fun h => absurd (nI_le (by decide) (by decide)) h)
      refine bv_iconst (v := -1) 27 rfl C d_M_find_26 (by decide) ?_
      exact bv_ireturn C rfl d_M_find_27 (Nat.le_refl _) (Nat.le_refl _) ⟨rfl, rfl, rfl, rfl⟩
    | succ d ih =>
      intro i hi
      refine bv_iload_n 3 rfl C d_M_find_2 rfl ?_
      refine bv_bipush (v := nI 48) 5 rfl C d_M_find_3 (by decide) ?_
      refine bv_icmp_ge 26 8 rfl C d_M_find_5 (by decide) (fun h => absurd h (nI_ge (by omega) (by decide))) (fun h => ?_)
      refine bv_aload_n 9 rfl C d_M_find_8 rfl ?_
      refine bv_iload_n 10 rfl C d_M_find_9 rfl ?_
      refine bv_iload_n 11 rfl C d_M_find_10 rfl ?_
      refine bv_iload_n 12 rfl C d_M_find_11 rfl ?_
      refine bv_call (rest := []) 15 rfl C d_M_find_12 (ct_M_isThere hN hm hz (i := i) (by omega) hn) i_M_isThere t1_8 (fun H locs ls hP => bs_V (av := [.int (nI i), .int y, .int n]) 305 C i_M_isThere t3_219 t3_221 s_44 (by omega) rfl hm rfl (by decide) rfl rfl d_M_find_12 H locs ls hP) ⟨by first | decide | omega, by first | decide | omega⟩ (by decide) (by decide) (Nat.le_of_ble_eq_true rfl) (fun v ad1 w1 N1 hpo => ?_) (fun x Cn ad' w' N' hth => hth.elim)
      obtain ⟨rfl, rfl, rfl, rfl⟩ := hpo
      refine bv_if_eq 20 18 rfl C d_M_find_15 (by decide) (fun h => ?_) (fun h => absurd (show nI 0 = 0 by decide) h)
      refine bv_iinc 23 rfl C d_M_find_20 rfl (by first | exact b_inc _ | rfl) (by decide) ?_
      refine bv_goto 2 C d_M_find_23 (by decide) ?_
      refine bv_wk [(0, .ref (ad 305)), (1, .int y), (2, .int n), (3, .int (nI (i + 1)))] ⟨rfl, rfl, rfl, rfl, trivial⟩ ?_
      exact ih (i + 1) (by omega)
  refine bv_iconst (v := nI 0) 1 rfl C d_M_find_0 (by decide) ?_
  refine bv_istore_n 2 rfl C d_M_find_1 (by decide) ?_
  refine bv_wk [(0, .ref (ad 305)), (1, .int y), (2, .int n), (3, .int (nI 0))] ⟨rfl, rfl, rfl, rfl, trivial⟩ ?_
  exact loop 48 0 rfl
theorem ct_M_slotOf (hN : 323 ≤ N) (hm : w 305 = mO ad th ve wr cu dn) (hz : w 306 = aI dd 48 (fun _ => 0)) {f0 : Nat → Int32} (h321 : w 321 = aI dd 24 f0) {n : Int32} {x : Int64} : bK l dd y_M_slotOf 2 47 0 0 [.ref (ad 305), .int n, .long x] ad w N (bMp ad N (fun _ v => v = some (.int (-1)))) bNo := by
  refine bK.start [(0, .ref (ad 305)), (1, .int n), (2, .long x)] (by decide) t4_65 (Nat.le_of_ble_eq_true rfl) rfl (fun p e s m args below meth c A hnm C => ?_)
  refine bv_aload_n 1 rfl C d_M_slotOf_0 rfl ?_
  refine bv_iconst (v := nI 0) 2 rfl C d_M_slotOf_1 (by decide) ?_
  refine bv_put 305 0 5 rfl C k_M (by omega) rfl hm (by decide) t3_107 rfl rfl rfl (Nat.le_of_ble_eq_true rfl) d_M_slotOf_2 ?_
  refine bv_aload_n 6 rfl C d_M_slotOf_5 rfl ?_
  refine bv_lload_n 7 rfl C d_M_slotOf_6 rfl ?_
  refine bv_lconst (v := 0) 8 rfl C d_M_slotOf_7 (by decide) ?_
  refine bv_lconst (v := 0) 9 rfl C d_M_slotOf_8 (by decide) ?_
  refine bv_call (rest := []) 12 rfl C d_M_slotOf_9 (ct_M_lay (w := va_up w 305 (mO ad (nI 0) ve wr cu dn)) hN (va_up_self _ _ _) (by rw [va_up_ne _ _ (by decide)]; exact h321)) i_M_lay t1_8 (fun H locs ls hP => bs_V (av := [.long x, .long 0, .long 0]) 305 C i_M_lay t3_203 t3_205 s_41 (by omega) rfl (va_up_self _ _ _) rfl (by decide) rfl rfl d_M_slotOf_9 H locs ls hP) ⟨by first | decide | omega, by first | decide | omega⟩ (by decide) (by decide) (Nat.le_of_ble_eq_true rfl) (fun v ad1 w1 N1 hpo => ?_) (fun x Cn ad' w' N' hth => hth.elim)
  obtain ⟨rfl, rfl, rfl, f, rfl⟩ := hpo
  obtain ⟨W, hW⟩ : ∃ W : Nat → va_E, W = _ := ⟨_, rfl⟩
  refine bv_w W (fun k _ => by rw [hW]) ?_
  have z305 : W 305 = mO ad (nI 0) ve wr cu dn := by rw [hW, va_up_ne _ _ (by decide), va_up_self]
  have z306 : W 306 = aI dd 48 (fun _ => 0) := by rw [hW, va_up_ne _ _ (by decide), va_up_ne _ _ (by decide), hz]
  refine bv_iload_n 13 rfl C d_M_slotOf_12 rfl ?_
  refine bv_iconst (v := nI 1) 14 rfl C d_M_slotOf_13 (by decide) ?_
  refine bv_bipush (v := nI 8) 16 rfl C d_M_slotOf_14 (by decide) ?_
  refine bv_call (rest := []) 19 rfl C d_M_slotOf_16 (ct_M_in (x := n) (a := nI 1) (b := nI 8)) i_M_in t1_8 (fun H locs ls _ => bs_S (av := [.int n, .int (nI 1), .int (nI 8)]) C i_M_in t3_184 t3_185 t1_8 (by decide) rfl rfl d_M_slotOf_16 H locs ls) ⟨by first | decide | omega, by first | decide | omega⟩ (by decide) (by decide) (Nat.le_of_ble_eq_true rfl) (fun v ad1 w1 N1 hpo => ?_) (fun x Cn ad' w' N' hth => hth.elim)
  obtain ⟨rfl, rfl, rfl, hv⟩ := hpo
  rcases hv with ⟨hi, rfl⟩ | ⟨hi, rfl⟩
  · refine bv_if_eq 31 22 rfl C d_M_slotOf_19 (by decide) (fun h => absurd h (show ¬ nI 1 = 0 by decide)) (fun h => ?_)
    refine bv_aload_n 23 rfl C d_M_slotOf_22 rfl ?_
    refine bv_iconst (v := nI 0) 24 rfl C d_M_slotOf_23 (by decide) ?_
    refine bv_iload_n 25 rfl C d_M_slotOf_24 rfl ?_
    refine bv_call (rest := []) 28 rfl C d_M_slotOf_25 (ct_M_find hN z305 z306 (by intro hq; rw [← hq] at hi; exact absurd hi.1 (by decide))) i_M_find t1_8 (fun H locs ls hP => bs_V (av := [.int (nI 0), .int n]) 305 C i_M_find t3_215 t3_217 s_43 (by omega) rfl z305 rfl (by decide) rfl rfl d_M_slotOf_25 H locs ls hP) ⟨by first | decide | omega, by first | decide | omega⟩ (by decide) (by decide) (Nat.le_of_ble_eq_true rfl) (fun v ad1 w1 N1 hpo => ?_) (fun x Cn ad' w' N' hth => hth.elim)
    obtain ⟨rfl, rfl, rfl, rfl⟩ := hpo
    refine bv_goto 32 C d_M_slotOf_28 (by decide) ?_
    exact bv_ireturn C rfl d_M_slotOf_32 (by decide) (by decide) ⟨rfl, rfl, _, _, _, _, _, z305, rfl⟩
  · refine bv_if_eq 31 22 rfl C d_M_slotOf_19 (by decide) (fun h => ?_) (fun h => absurd (show nI 0 = 0 by decide) h)
    refine bv_iconst (v := -1) 32 rfl C d_M_slotOf_31 (by decide) ?_
    exact bv_ireturn C rfl d_M_slotOf_32 (by decide) (by decide) ⟨rfl, rfl, _, _, _, _, _, z305, rfl⟩
theorem ct_M_freeSlots (hN : 323 ≤ N) (hm : w 305 = mO ad th ve wr cu dn) (hz : w 306 = aI dd 48 (fun _ => 0)) : bK l dd y_M_freeSlots 0 0 0 0 [.ref (ad 305)] ad w N (bSame ad w N (fun v => v = some (.int (nI 48)))) bNo := by
  refine bK.start [(0, .ref (ad 305))] (by decide) t3_230 (Nat.le_of_ble_eq_true rfl) rfl (fun p e s m args below meth c A hnm C => ?_)
  have loop : ∀ (d i : Nat), i + d = 48 → bV p l e { frames := 0, cells := 0, slots := 0, locals := 0 } s m args below meth c dd A 3 0 0 (bSame ad w N (fun v => v = some (.int (nI 48)))) bNo 4 (bO [(0, .ref (ad 305)), (1, .int (nI i)), (2, .int (nI i))]) [] ad w N 0 0 := by
    intro d
    induction d with
    | zero =>
      intro i hi
      obtain rfl : i = 48 := by omega
      refine bv_iload_n 5 rfl C d_M_freeSlots_4 rfl ?_
      refine bv_bipush (v := nI 48) 7 rfl C d_M_freeSlots_5 (by decide) ?_
      refine bv_icmp_ge 33 10 rfl C d_M_freeSlots_7 (by decide) (fun h => ?_) (fun h => absurd (nI_le (by decide) (by decide)) h)
      refine bv_iload_n 34 rfl C d_M_freeSlots_33 rfl ?_
      exact bv_ireturn C rfl d_M_freeSlots_34 (Nat.le_refl _) (Nat.le_refl _) ⟨rfl, rfl, rfl, rfl⟩
    | succ d ih =>
      intro i hi
      refine bv_iload_n 5 rfl C d_M_freeSlots_4 rfl ?_
      refine bv_bipush (v := nI 48) 7 rfl C d_M_freeSlots_5 (by decide) ?_
      refine bv_icmp_ge 33 10 rfl C d_M_freeSlots_7 (by decide) (fun h => absurd h (nI_ge (by omega) (by decide))) (fun h => ?_)
      refine bv_iload_n 11 rfl C d_M_freeSlots_10 rfl ?_
      refine bv_aload_n 12 rfl C d_M_freeSlots_11 rfl ?_
      refine bv_get 305 1 15 rfl C k_M (by omega) rfl hm (by decide) t3_108 rfl d_M_freeSlots_12 ?_
      refine bv_iload_n 16 rfl C d_M_freeSlots_15 rfl ?_
      refine bv_iald 306 i 17 rfl C (by omega) rfl hz rfl (by omega) (by decide) d_M_freeSlots_16 ?_
      refine bv_if_ne 24 20 rfl C d_M_freeSlots_17 (by decide) (fun h => absurd (show (0 : Int32) = 0 by decide) h) (fun h => ?_)
      refine bv_iconst (v := nI 1) 21 rfl C d_M_freeSlots_20 (by decide) ?_
      refine bv_goto 25 C d_M_freeSlots_21 (by decide) ?_
      refine bv_iadd 26 rfl C d_M_freeSlots_25 ?_
      refine bv_seti (nI (i + 1)) (nI_add i 1) ?_
      refine bv_istore_n 27 rfl C d_M_freeSlots_26 (by decide) ?_
      refine bv_iinc 30 rfl C d_M_freeSlots_27 rfl (by first | exact b_inc _ | rfl) (by decide) ?_
      refine bv_goto 4 C d_M_freeSlots_30 (by decide) ?_
      refine bv_wk [(0, .ref (ad 305)), (1, .int (nI (i + 1))), (2, .int (nI (i + 1)))] ⟨rfl, rfl, rfl, trivial⟩ ?_
      exact ih (i + 1) (by omega)
  refine bv_iconst (v := nI 0) 1 rfl C d_M_freeSlots_0 (by decide) ?_
  refine bv_istore_n 2 rfl C d_M_freeSlots_1 (by decide) ?_
  refine bv_iconst (v := nI 0) 3 rfl C d_M_freeSlots_2 (by decide) ?_
  refine bv_istore_n 4 rfl C d_M_freeSlots_3 (by decide) ?_
  refine bv_wk [(0, .ref (ad 305)), (1, .int (nI 0)), (2, .int (nI 0))] ⟨rfl, rfl, rfl, trivial⟩ ?_
  exact loop 48 0 rfl
theorem ct_M_state (hN : 323 ≤ N) (hm : w 305 = mO ad th 0 0 cu 0) (hz : w 306 = aI dd 48 (fun _ => 0)) (ho : w 308 = aZ dd 5 (fun _ => 0)) {x : Int32} : bK l dd y_M_state 1 22 0 0 [.ref (ad 305), .int x] ad w N (bMp ad N (fun _ v => v = some (.int (stv x)))) bNo := by
  refine bK.start [(0, .ref (ad 305)), (1, .int x)] (by decide) t4_69 (Nat.le_of_ble_eq_true rfl) rfl (fun p e s m args below meth c A hnm C => ?_)
  refine bv_aload_n 1 rfl C d_M_state_0 rfl ?_
  refine bv_iconst (v := nI 0) 2 rfl C d_M_state_1 (by decide) ?_
  refine bv_put 305 0 5 rfl C k_M (by omega) rfl hm (by decide) t3_107 rfl rfl rfl (Nat.le_of_ble_eq_true rfl) d_M_state_2 ?_
  have z305 : va_up w 305 (mO ad (nI 0) 0 0 cu 0) 305 = mO ad (nI 0) 0 0 cu 0 := va_up_self _ _ _
  have z306 : va_up w 305 (mO ad (nI 0) 0 0 cu 0) 306 = aI dd 48 (fun _ => 0) := by rw [va_up_ne _ _ (by decide), hz]
  have z308 : va_up w 305 (mO ad (nI 0) 0 0 cu 0) 308 = aZ dd 5 (fun _ => 0) := by rw [va_up_ne _ _ (by decide), ho]
  refine bv_iconst (v := nI 0) 6 rfl C d_M_state_5 (by decide) ?_
  refine bv_istore_n 7 rfl C d_M_state_6 (by decide) ?_
  refine bv_iload_n 8 rfl C d_M_state_7 rfl ?_
  rcases b_rng x 7 (by decide) with h | ⟨k, hk, rfl⟩
  · refine bv_tabOut 196 C d_M_state_8 h (by decide) ?_
    refine bv_iconst (v := -1) 197 rfl C d_M_state_196 (by decide) ?_
    exact bv_ireturn C rfl d_M_state_197 (by decide) (by decide) ⟨rfl, rfl, _, _, _, _, _, z305, by rw [stv, if_pos (by omega)]⟩
  · rcases (show k = 0 ∨ k = 1 ∨ k = 2 ∨ k = 3 ∨ k = 4 ∨ k = 5 ∨ k = 6 ∨ k = 7 by omega) with rfl | rfl | rfl | rfl | rfl | rfl | rfl | rfl
    · refine bv_tabIn 56 C d_M_state_8 (by decide) (by decide) rfl (by decide) ?_
      refine bv_bipush (v := nI 48) 58 rfl C d_M_state_56 (by decide) ?_
      refine bv_aload_n 59 rfl C d_M_state_58 rfl ?_
      refine bv_call (rest := [.int (nI 48)]) 62 rfl C d_M_state_59 (ct_M_freeSlots (w := va_up w 305 (mO ad (nI 0) 0 0 cu 0)) hN z305 z306) i_M_freeSlots t1_8 (fun H locs ls hP => bs_V (av := []) 305 C i_M_freeSlots t3_227 t3_229 s_46 (by omega) rfl z305 rfl (by decide) rfl rfl d_M_state_59 H locs ls hP) ⟨by first | decide | omega, by first | decide | omega⟩ (by decide) (by decide) (Nat.le_of_ble_eq_true rfl) (fun v ad1 w1 N1 hpo => ?_) (fun x Cn ad' w' N' hth => hth.elim)
      obtain ⟨rfl, rfl, rfl, rfl⟩ := hpo
      refine bv_isub 63 rfl C d_M_state_62 ?_
      exact bv_ireturn C rfl d_M_state_63 (by decide) (by decide) ⟨rfl, rfl, _, _, _, _, _, z305, by decide⟩
    · refine bv_tabIn 64 C d_M_state_8 (by decide) (by decide) rfl (by decide) ?_
      have loop : ∀ (d i : Nat), i + d = 5 → bV p l e { frames := 1, cells := 0, slots := 0, locals := 22 } s m args below meth c dd A 4 0 0 (bMp ad N (fun _ v => v = some (.int (stv (nI 1))))) bNo 66 (bO [(0, .ref (ad 305)), (2, .int (nI 0)), (3, .int (nI i))]) [] ad (va_up w 305 (mO ad (nI 0) 0 0 cu 0)) N 0 0 := by
        intro d
        induction d with
        | zero =>
          intro i hi
          obtain rfl : i = 5 := by omega
          refine bv_iload_n 67 rfl C d_M_state_66 rfl ?_
          refine bv_iconst (v := nI 5) 68 rfl C d_M_state_67 (by decide) ?_
          refine bv_icmp_ge 94 71 rfl C d_M_state_68 (by decide) (fun h => ?_) (fun h => absurd (nI_le (by decide) (by decide)) h)
          refine bv_iload_n 95 rfl C d_M_state_94 rfl ?_
          exact bv_ireturn C rfl d_M_state_95 (by decide) (by decide) ⟨rfl, rfl, _, _, _, _, _, z305, by decide⟩
        | succ d ih =>
          intro i hi
          refine bv_iload_n 67 rfl C d_M_state_66 rfl ?_
          refine bv_iconst (v := nI 5) 68 rfl C d_M_state_67 (by decide) ?_
          refine bv_icmp_ge 94 71 rfl C d_M_state_68 (by decide) (fun h => absurd h (nI_ge (by omega) (by decide))) (fun h => ?_)
          refine bv_iload_n 72 rfl C d_M_state_71 rfl ?_
          refine bv_aload_n 73 rfl C d_M_state_72 rfl ?_
          refine bv_get 305 3 76 rfl C k_M (by omega) rfl z305 (by decide) t3_110 rfl d_M_state_73 ?_
          refine bv_iload_n 77 rfl C d_M_state_76 rfl ?_
          refine bv_zald 308 i 78 rfl C (by omega) rfl z308 rfl (by omega) (by decide) d_M_state_77 ?_
          refine bv_if_eq 85 81 rfl C d_M_state_78 (by decide) (fun h => ?_) (fun h => absurd (show (0 : Int32) = 0 by decide) h)
          refine bv_iconst (v := nI 0) 86 rfl C d_M_state_85 (by decide) ?_
          refine bv_iadd 87 rfl C d_M_state_86 ?_
          refine bv_seti (nI 0) (by decide) ?_
          refine bv_istore_n 88 rfl C d_M_state_87 (by decide) ?_
          refine bv_iinc 91 rfl C d_M_state_88 rfl (by first | exact b_inc _ | rfl) (by decide) ?_
          refine bv_goto 66 C d_M_state_91 (by decide) ?_
          refine bv_wk [(0, .ref (ad 305)), (2, .int (nI 0)), (3, .int (nI (i + 1)))] ⟨rfl, rfl, rfl, trivial⟩ ?_
          exact ih (i + 1) (by omega)
      refine bv_iconst (v := nI 0) 65 rfl C d_M_state_64 (by decide) ?_
      refine bv_istore_n 66 rfl C d_M_state_65 (by decide) ?_
      refine bv_wk [(0, .ref (ad 305)), (2, .int (nI 0)), (3, .int (nI 0))] ⟨rfl, rfl, rfl, trivial⟩ ?_
      exact loop 5 0 rfl
    · refine bv_tabIn 96 C d_M_state_8 (by decide) (by decide) rfl (by decide) ?_
      refine bv_iconst (v := nI 1) 97 rfl C d_M_state_96 (by decide) ?_
      refine bv_istore_n 98 rfl C d_M_state_97 (by decide) ?_
      refine bv_iload_n 99 rfl C d_M_state_98 rfl ?_
      refine bv_aload_n 100 rfl C d_M_state_99 rfl ?_
      refine bv_get 305 8 103 rfl C k_M (by omega) rfl z305 (by decide) t3_115 rfl d_M_state_100 ?_
      refine bv_icmp_gt 129 106 rfl C d_M_state_103 (by decide) (fun h => ?_) (fun h => absurd (show (0 : Int32) < nI 1 by decide) h)
      refine bv_iload_n 130 rfl C d_M_state_129 rfl ?_
      exact bv_ireturn C rfl d_M_state_130 (by decide) (by decide) ⟨rfl, rfl, _, _, _, _, _, z305, by decide⟩
    · refine bv_tabIn 131 C d_M_state_8 (by decide) (by decide) rfl (by decide) ?_
      refine bv_aload_n 132 rfl C d_M_state_131 rfl ?_
      refine bv_get 305 8 135 rfl C k_M (by omega) rfl z305 (by decide) t3_115 rfl d_M_state_132 ?_
      exact bv_ireturn C rfl d_M_state_135 (by decide) (by decide) ⟨rfl, rfl, _, _, _, _, _, z305, by decide⟩
    · refine bv_tabIn 136 C d_M_state_8 (by decide) (by decide) rfl (by decide) ?_
      refine bv_aload_n 137 rfl C d_M_state_136 rfl ?_
      refine bv_get 305 14 140 rfl C k_M (by omega) rfl z305 (by decide) t3_121 rfl d_M_state_137 ?_
      exact bv_ireturn C rfl d_M_state_140 (by decide) (by decide) ⟨rfl, rfl, _, _, _, _, _, z305, by decide⟩
    · refine bv_tabIn 141 C d_M_state_8 (by decide) (by decide) rfl (by decide) ?_
      refine bv_aload_n 142 rfl C d_M_state_141 rfl ?_
      refine bv_get 305 16 145 rfl C k_M (by omega) rfl z305 (by decide) t3_123 rfl d_M_state_142 ?_
      refine bv_if_eq 152 148 rfl C d_M_state_145 (by decide) (fun h => ?_) (fun h => absurd (show (0 : Int32) = 0 by decide) h)
      refine bv_iconst (v := nI 0) 153 rfl C d_M_state_152 (by decide) ?_
      exact bv_ireturn C rfl d_M_state_153 (by decide) (by decide) ⟨rfl, rfl, _, _, _, _, _, z305, by decide⟩
    · refine bv_tabIn 154 C d_M_state_8 (by decide) (by decide) rfl (by decide) ?_
      refine bv_aload_n 155 rfl C d_M_state_154 rfl ?_
      refine bv_get 305 8 158 rfl C k_M (by omega) rfl z305 (by decide) t3_115 rfl d_M_state_155 ?_
      refine bv_if_le 173 161 rfl C d_M_state_158 (by decide) (fun h => ?_) (fun h => absurd (show (0 : Int32) ≤ 0 by decide) h)
      refine bv_iconst (v := -1) 174 rfl C d_M_state_173 (by decide) ?_
      exact bv_ireturn C rfl d_M_state_174 (by decide) (by decide) ⟨rfl, rfl, _, _, _, _, _, z305, by decide⟩
    · refine bv_tabIn 175 C d_M_state_8 (by decide) (by decide) rfl (by decide) ?_
      refine bv_aload_n 176 rfl C d_M_state_175 rfl ?_
      refine bv_get 305 8 179 rfl C k_M (by omega) rfl z305 (by decide) t3_115 rfl d_M_state_176 ?_
      refine bv_if_le 194 182 rfl C d_M_state_179 (by decide) (fun h => ?_) (fun h => absurd (show (0 : Int32) ≤ 0 by decide) h)
      refine bv_iconst (v := -1) 195 rfl C d_M_state_194 (by decide) ?_
      exact bv_ireturn C rfl d_M_state_195 (by decide) (by decide) ⟨rfl, rfl, _, _, _, _, _, z305, by decide⟩
end bMo2

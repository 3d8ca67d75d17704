/-- behind a call of the reference: what thrown() will say, and the answer -/
abbrev bMp (ad : Nat → Nat) (N : Nat) (P : Int32 → Option Value → Prop) : Option Value → (Nat → Nat) → (Nat → va_E) → Nat → Prop := fun v ad' w' N' => ad = ad' ∧ N = N' ∧ ∃ th ve wr cu dn, w' 305 = mO ad th ve wr cu dn ∧ P th v
def bIn (x a b : Int32) : Prop := ¬ x < a ∧ ¬ b < x
section bMod
variable {l : Launch} {dd : bD} {ad : Nat → Nat} {w : Nat → va_E} {N : Nat} {th ve wr cu dn : Int32}
theorem ct_M_thrown (hN : 323 ≤ N) (hm : w 305 = mO ad th ve wr cu dn) : bK l dd y_M_thrown 0 0 0 0 [.ref (ad 305)] ad w N (bSame ad w N (fun v => v = some (.int th))) bNo := by
  refine bK.start [(0, .ref (ad 305))] (by decide) t3_179 (Nat.le_of_ble_eq_true rfl) rfl (fun p e s m args below meth c A hnm C => ?_)
  refine bv_aload_n 1 rfl C d_M_thrown_0 rfl ?_
  refine bv_get 305 0 4 rfl C k_M (by omega) rfl hm (by decide) t3_107 rfl d_M_thrown_1 ?_
  exact bv_ireturn C rfl d_M_thrown_4 (Nat.le_refl _) (Nat.le_refl _) ⟨rfl, rfl, rfl, rfl⟩
theorem ct_M_says (hN : 323 ≤ N) (hm : w 305 = mO ad th ve wr cu dn) {x : Int32} : bK l dd y_M_says 0 0 0 0 [.ref (ad 305), .int x] ad w N (fun v ad' w' N' => ad = ad' ∧ N = N' ∧ w' = va_up w 305 (mO ad x ve wr cu dn) ∧ ((x = 0 ∧ v = some (.int (nI 1))) ∨ (¬ x = 0 ∧ v = some (.int (nI 0))))) bNo := by
  refine bK.start [(0, .ref (ad 305)), (1, .int x)] (by decide) t3_190 (Nat.le_of_ble_eq_true rfl) rfl (fun p e s m args below meth c A hnm C => ?_)
  refine bv_aload_n 1 rfl C d_M_says_0 rfl ?_
  refine bv_iload_n 2 rfl C d_M_says_1 rfl ?_
  refine bv_put 305 0 5 rfl C k_M (by omega) rfl hm (by decide) t3_107 rfl rfl rfl (Nat.le_of_ble_eq_true rfl) d_M_says_2 ?_
  refine bv_iload_n 6 rfl C d_M_says_5 rfl ?_
  refine bv_if_ne 13 9 rfl C d_M_says_6 (by decide) (fun h => ?_) (fun h => ?_)
  · refine bv_iconst (v := nI 0) 14 rfl C d_M_says_13 (by decide) ?_
    exact bv_zreturn C rfl (Or.inl rfl) d_M_says_14 (Nat.le_refl _) (Nat.le_refl _) ⟨rfl, rfl, rfl, Or.inr ⟨h, rfl⟩⟩
  · refine bv_iconst (v := nI 1) 10 rfl C d_M_says_9 (by decide) ?_
    refine bv_goto 14 C d_M_says_10 (by decide) ?_
    exact bv_zreturn C rfl (Or.inr rfl) d_M_says_14 (Nat.le_refl _) (Nat.le_refl _) ⟨rfl, rfl, rfl, Or.inl ⟨h, rfl⟩⟩
theorem ct_M_in {x a b : Int32} : bK l dd y_M_in 0 0 0 0 [.int x, .int a, .int b] ad w N (bSame ad w N (fun v => (bIn x a b ∧ v = some (.int (nI 1))) ∨ (¬ bIn x a b ∧ v = some (.int (nI 0))))) bNo := by
  refine bK.start [(0, .int x), (1, .int a), (2, .int b)] (by decide) t3_186 (Nat.le_of_ble_eq_true rfl) rfl (fun p e s m args below meth c A hnm C => ?_)
  refine bv_iload_n 1 rfl C d_M_in_0 rfl ?_
  refine bv_iload_n 2 rfl C d_M_in_1 rfl ?_
  refine bv_icmp_lt 14 5 rfl C d_M_in_2 (by decide) (fun x1 => ?_) (fun x1 => ?_)
  · refine bv_iconst (v := nI 0) 15 rfl C d_M_in_14 (by decide) ?_
    exact bv_zreturn C rfl (Or.inl rfl) d_M_in_15 (Nat.le_refl _) (Nat.le_refl _) ⟨rfl, rfl, rfl, Or.inr ⟨fun hh => hh.1 x1, rfl⟩⟩
  · refine bv_iload_n 6 rfl C d_M_in_5 rfl ?_
    refine bv_iload_n 7 rfl C d_M_in_6 rfl ?_
    refine bv_icmp_gt 14 10 rfl C d_M_in_7 (by decide) (fun x2 => ?_) (fun x2 => ?_)
    · refine bv_iconst (v := nI 0) 15 rfl C d_M_in_14 (by decide) ?_
      exact bv_zreturn C rfl (Or.inl rfl) d_M_in_15 (Nat.le_refl _) (Nat.le_refl _) ⟨rfl, rfl, rfl, Or.inr ⟨fun hh => hh.2 x2, rfl⟩⟩
    · refine bv_iconst (v := nI 1) 11 rfl C d_M_in_10 (by decide) ?_
      refine bv_goto 15 C d_M_in_11 (by decide) ?_
      exact bv_zreturn C rfl (Or.inr rfl) d_M_in_15 (Nat.le_refl _) (Nat.le_refl _) ⟨rfl, rfl, rfl, Or.inl ⟨⟨x1, x2⟩, rfl⟩⟩
/-- writes with no cut told -/
theorem ct_M_writes (hN : 323 ≤ N) (hm : w 305 = mO ad th ve wr (-1) dn) {x : Int32} : bK l dd y_M_writes 0 0 0 0 [.ref (ad 305), .int x] ad w N (fun v ad' w' N' => ad = ad' ∧ N = N' ∧ w' = va_up w 305 (mO ad th ve (wr + nI 1) (-1) dn) ∧ v = some (.int (nI 1))) bNo := by
  refine bK.start [(0, .ref (ad 305)), (1, .int x)] (by decide) t3_194 (Nat.le_of_ble_eq_true rfl) rfl (fun p e s m args below meth c A hnm C => ?_)
  refine bv_aload_n 1 rfl C d_M_writes_0 rfl ?_
  refine bv_get 305 15 4 rfl C k_M (by omega) rfl hm (by decide) t3_122 rfl d_M_writes_1 ?_
  refine bv_if_ne 24 7 rfl C d_M_writes_4 (by decide) (fun h => ?_) (fun h => absurd h (show ¬ (-1 : Int32) = 0 by decide))
  refine bv_aload_n 25 rfl C d_M_writes_24 rfl ?_
  refine bv_dup 26 rfl C d_M_writes_25 rfl ?_
  refine bv_get 305 15 29 rfl C k_M (by omega) rfl hm (by decide) t3_122 rfl d_M_writes_26 ?_
  refine bv_aload_n 30 rfl C d_M_writes_29 rfl ?_
  refine bv_get 305 15 33 rfl C k_M (by omega) rfl hm (by decide) t3_122 rfl d_M_writes_30 ?_
  refine bv_if_le 40 36 rfl C d_M_writes_33 (by decide) (fun h => ?_) (fun h => absurd (show (-1 : Int32) ≤ 0 by decide) h)
  refine bv_iconst (v := nI 0) 41 rfl C d_M_writes_40 (by decide) ?_
  refine bv_isub 42 rfl C d_M_writes_41 ?_
  refine bv_seti (-1) (by decide) ?_
  refine bv_put 305 15 45 rfl C k_M (by omega) rfl hm (by decide) t3_122 rfl rfl rfl (Nat.le_of_ble_eq_true rfl) d_M_writes_42 ?_
  refine bv_aload_n 46 rfl C d_M_writes_45 rfl ?_
  refine bv_dup 47 rfl C d_M_writes_46 rfl ?_
  refine bv_get 305 14 50 rfl C k_M (by omega) rfl (va_up_self _ _ _) (by decide) t3_121 rfl d_M_writes_47 ?_
  refine bv_iconst (v := nI 1) 51 rfl C d_M_writes_50 (by decide) ?_
  refine bv_iadd 52 rfl C d_M_writes_51 ?_
  refine bv_put 305 14 55 rfl C k_M (by omega) rfl (va_up_self _ _ _) (by decide) t3_121 rfl rfl rfl (Nat.le_of_ble_eq_true rfl) d_M_writes_52 ?_
  refine bv_iconst (v := nI 1) 56 rfl C d_M_writes_55 (by decide) ?_
  exact bv_zreturn C rfl (Or.inr rfl) d_M_writes_56 (Nat.le_refl _) (Nat.le_refl _) ⟨rfl, rfl, by rw [bu_same]; rfl, rfl⟩
theorem ct_M_isOpen (hN : 323 ≤ N) (hm : w 305 = mO ad th ve wr cu dn) (ho : w 308 = aZ dd 5 (fun _ => 0)) {x : Int32} : bK l dd y_M_isOpen 1 22 0 0 [.ref (ad 305), .int x] ad w N (bSame ad w N (fun v => v = some (.int (nI 0)))) bNo := by
  refine bK.start [(0, .ref (ad 305)), (1, .int x)] (by decide) t3_202 (Nat.le_of_ble_eq_true rfl) rfl (fun p e s m args below meth c A hnm C => ?_)
  refine bv_iload_n 1 rfl C d_M_isOpen_0 rfl ?_
  refine bv_iconst (v := nI 0) 2 rfl C d_M_isOpen_1 (by decide) ?_
  refine bv_iconst (v := nI 4) 3 rfl C d_M_isOpen_2 (by decide) ?_
  refine bv_call (rest := []) 6 rfl C d_M_isOpen_3 (ct_M_in (x := x) (a := nI 0) (b := nI 4)) i_M_in t1_8 (fun H locs ls _ => bs_S (av := [.int x, .int (nI 0), .int (nI 4)]) C i_M_in t3_184 t3_185 t1_8 (by decide) rfl rfl d_M_isOpen_3 H locs ls) ⟨by first | decide | omega, by first | decide | omega⟩ (by decide) (by decide) (Nat.le_of_ble_eq_true rfl) (fun v ad1 w1 N1 hpo => ?_) (fun x Cn ad' w' N' hth => hth.elim)
  obtain ⟨rfl, rfl, rfl, hv⟩ := hpo
  rcases hv with ⟨hi, rfl⟩ | ⟨hi, rfl⟩
  · obtain ⟨i, hi5, rfl⟩ : ∃ i : Nat, i < 5 ∧ x = nI i := by
      rcases pk_ix x (show 5 < 2 ^ 31 by decide) with h | h | h
      · exact absurd h hi.1
      · exfalso
        refine hi.2 ?_
        rw [Int32.le_iff_toInt_le] at h
        rw [Int32.lt_iff_toInt_lt]
        have : (nI 5).toInt = 5 := rfl
        have : (nI 4).toInt = 4 := rfl
        omega
      · exact h
    refine bv_if_eq 22 9 rfl C d_M_isOpen_6 (by decide) (fun h => absurd h (show ¬ nI 1 = 0 by decide)) (fun h => ?_)
    refine bv_aload_n 10 rfl C d_M_isOpen_9 rfl ?_
    refine bv_get 305 3 13 rfl C k_M (by omega) rfl hm (by decide) t3_110 rfl d_M_isOpen_10 ?_
    refine bv_iload_n 14 rfl C d_M_isOpen_13 rfl ?_
    refine bv_zald 308 i 15 rfl C (by omega) rfl ho rfl hi5 (by decide) d_M_isOpen_14 ?_
    refine bv_if_eq 22 18 rfl C d_M_isOpen_15 (by decide) (fun h => ?_) (fun h => absurd (show (0 : Int32) = 0 by decide) h)
    refine bv_iconst (v := nI 0) 23 rfl C d_M_isOpen_22 (by decide) ?_
    exact bv_zreturn C rfl (Or.inl rfl) d_M_isOpen_23 (Nat.le_refl _) (Nat.le_refl _) ⟨rfl, rfl, rfl, rfl⟩
  · refine bv_if_eq 22 9 rfl C d_M_isOpen_6 (by decide) (fun h => ?_) (fun h => absurd (show nI 0 = 0 by decide) h)
    refine bv_iconst (v := nI 0) 23 rfl C d_M_isOpen_22 (by decide) ?_
    exact bv_zreturn C rfl (Or.inl rfl) d_M_isOpen_23 (Nat.le_refl _) (Nat.le_refl _) ⟨rfl, rfl, rfl, rfl⟩
theorem ct_M_part (hN : 323 ≤ N) (hm : w 305 = mO ad th ve wr cu 0) (ho : w 308 = aZ dd 5 (fun _ => 0)) {x y z : Int32} {a b c0 : Int64} : bK l dd y_M_part 2 43 0 0 [.ref (ad 305), .int x, .int y, .int z, .long a, .long b, .long c0] ad w N (bMp ad N (fun t v => t = nI 2 ∧ ∃ r : Int32, v = some (.int r))) bNo := by
  refine bK.start [(0, .ref (ad 305)), (1, .int x), (2, .int y), (3, .int z), (4, .long a), (6, .long b), (8, .long c0)] (by decide) t3_198 (Nat.le_of_ble_eq_true rfl) rfl (fun p e s m args below meth c A hnm C => ?_)
  refine bv_aload_n 1 rfl C d_M_part_0 rfl ?_
  refine bv_aload_n 2 rfl C d_M_part_1 rfl ?_
  refine bv_get 305 16 5 rfl C k_M (by omega) rfl hm (by decide) t3_123 rfl d_M_part_2 ?_
  refine bv_if_eq 12 8 rfl C d_M_part_5 (by decide) (fun h => ?_) (fun h => absurd (show (0 : Int32) = 0 by decide) h)
  refine bv_aload_n 13 rfl C d_M_part_12 rfl ?_
  refine bv_iload_n 14 rfl C d_M_part_13 rfl ?_
  refine bv_call (rest := [.ref (ad 305)]) 17 rfl C d_M_part_14 (ct_M_isOpen hN hm ho) i_M_isOpen t1_8 (fun H locs ls hP => bs_V (av := [.int x]) 305 C i_M_isOpen t3_199 t3_201 s_40 (by omega) rfl hm rfl (by decide) rfl rfl d_M_part_14 H locs ls hP) ⟨by first | decide | omega, by first | decide | omega⟩ (by decide) (by decide) (Nat.le_of_ble_eq_true rfl) (fun v ad1 w1 N1 hpo => ?_) (fun x Cn ad' w' N' hth => hth.elim)
  obtain ⟨rfl, rfl, rfl, rfl⟩ := hpo
  refine bv_if_eq 40 20 rfl C d_M_part_17 (by decide) (fun h => ?_) (fun h => absurd (show nI 0 = 0 by decide) h)
  refine bv_iconst (v := nI 2) 41 rfl C d_M_part_40 (by decide) ?_
  refine bv_goto 45 C d_M_part_41 (by decide) ?_
  refine bv_call (rest := []) 48 rfl C d_M_part_45 (ct_M_says hN hm) i_M_says t1_8 (fun H locs ls hP => bs_V (av := [.int (nI 2)]) 305 C i_M_says t3_187 t3_189 s_38 (by omega) rfl hm rfl (by decide) rfl rfl d_M_part_45 H locs ls hP) ⟨by first | decide | omega, by first | decide | omega⟩ (by decide) (by decide) (Nat.le_of_ble_eq_true rfl) (fun v ad1 w1 N1 hpo => ?_) (fun x Cn ad' w' N' hth => hth.elim)
  obtain ⟨rfl, rfl, rfl, hv⟩ := hpo
  rcases hv with ⟨hz, -⟩ | ⟨-, rfl⟩
  · exact absurd hz (by decide)
  · refine bv_if_ne 53 51 rfl C d_M_part_48 (by decide) (fun h => absurd (show nI 0 = 0 by decide) h) (fun h => ?_)
    refine bv_iconst (v := nI 0) 52 rfl C d_M_part_51 (by decide) ?_
    exact bv_ireturn C rfl d_M_part_52 (by decide) (by decide) ⟨rfl, rfl, _, _, _, _, _, va_up_self _ _ _, rfl, _, rfl⟩
theorem ct_M_complete (hN : 323 ≤ N) (hm : w 305 = mO ad th 0 wr cu 0) (ho : w 308 = aZ dd 5 (fun _ => 0)) {x : Int32} : bK l dd y_M_complete 2 43 0 0 [.ref (ad 305), .int x] ad w N (bMp ad N (fun t v => t = nI 2 ∧ ∃ r : Int32, v = some (.int r))) bNo := by
  refine bK.start [(0, .ref (ad 305)), (1, .int x)] (by decide) t3_238 (Nat.le_of_ble_eq_true rfl) rfl (fun p e s m args below meth c A hnm C => ?_)
  refine bv_aload_n 1 rfl C d_M_complete_0 rfl ?_
  refine bv_aload_n 2 rfl C d_M_complete_1 rfl ?_
  refine bv_get 305 16 5 rfl C k_M (by omega) rfl hm (by decide) t3_123 rfl d_M_complete_2 ?_
  refine bv_if_ne 17 8 rfl C d_M_complete_5 (by decide) (fun h => absurd (show (0 : Int32) = 0 by decide) h) (fun h => ?_)
  refine bv_aload_n 9 rfl C d_M_complete_8 rfl ?_
  refine bv_get 305 8 12 rfl C k_M (by omega) rfl hm (by decide) t3_115 rfl d_M_complete_9 ?_
  refine bv_bipush (v := nI 40) 14 rfl C d_M_complete_12 (by decide) ?_
  refine bv_icmp_ne 21 17 rfl C d_M_complete_14 (by decide) (fun h => ?_) (fun h => absurd h (show ¬ (0 : Int32) = nI 40 by decide))
  refine bv_aload_n 22 rfl C d_M_complete_21 rfl ?_
  refine bv_iload_n 23 rfl C d_M_complete_22 rfl ?_
  refine bv_call (rest := [.ref (ad 305)]) 26 rfl C d_M_complete_23 (ct_M_isOpen hN hm ho) i_M_isOpen t1_8 (fun H locs ls hP => bs_V (av := [.int x]) 305 C i_M_isOpen t3_199 t3_201 s_40 (by omega) rfl hm rfl (by decide) rfl rfl d_M_complete_23 H locs ls hP) ⟨by first | decide | omega, by first | decide | omega⟩ (by decide) (by decide) (Nat.le_of_ble_eq_true rfl) (fun v ad1 w1 N1 hpo => ?_) (fun x Cn ad' w' N' hth => hth.elim)
  obtain ⟨rfl, rfl, rfl, rfl⟩ := hpo
  refine bv_if_ne 33 29 rfl C d_M_complete_26 (by decide) (fun h => absurd (show nI 0 = 0 by decide) h) (fun h => ?_)
  refine bv_iconst (v := nI 2) 30 rfl C d_M_complete_29 (by decide) ?_
  refine bv_goto 34 C d_M_complete_30 (by decide) ?_
  refine bv_call (rest := []) 37 rfl C d_M_complete_34 (ct_M_says hN hm) i_M_says t1_8 (fun H locs ls hP => bs_V (av := [.int (nI 2)]) 305 C i_M_says t3_187 t3_189 s_38 (by omega) rfl hm rfl (by decide) rfl rfl d_M_complete_34 H locs ls hP) ⟨by first | decide | omega, by first | decide | omega⟩ (by decide) (by decide) (Nat.le_of_ble_eq_true rfl) (fun v ad1 w1 N1 hpo => ?_) (fun x Cn ad' w' N' hth => hth.elim)
  obtain ⟨rfl, rfl, rfl, hv⟩ := hpo
  rcases hv with ⟨hz, -⟩ | ⟨-, rfl⟩
  · exact absurd hz (by decide)
  · refine bv_if_eq 48 40 rfl C d_M_complete_37 (by decide) (fun h => ?_) (fun h => absurd (show nI 0 = 0 by decide) h)
    refine bv_iconst (v := nI 0) 49 rfl C d_M_complete_48 (by decide) ?_
    exact bv_ireturn C rfl d_M_complete_49 (by decide) (by decide) ⟨rfl, rfl, _, _, _, _, _, va_up_self _ _ _, rfl, _, rfl⟩
theorem ct_M_abort (hN : 323 ≤ N) (hm : w 305 = mO ad th ve wr cu 0) (ho : w 308 = aZ dd 5 (fun _ => 0)) {x : Int32} : bK l dd y_M_abort 2 43 0 0 [.ref (ad 305), .int x] ad w N (bMp ad N (fun t v => t = nI 2 ∧ v = none)) bNo := by
  refine bK.start [(0, .ref (ad 305)), (1, .int x)] (by decide) t4_2 (Nat.le_of_ble_eq_true rfl) rfl (fun p e s m args below meth c A hnm C => ?_)
  refine bv_aload_n 1 rfl C d_M_abort_0 rfl ?_
  refine bv_aload_n 2 rfl C d_M_abort_1 rfl ?_
  refine bv_get 305 16 5 rfl C k_M (by omega) rfl hm (by decide) t3_123 rfl d_M_abort_2 ?_
  refine bv_if_eq 12 8 rfl C d_M_abort_5 (by decide) (fun h => ?_) (fun h => absurd (show (0 : Int32) = 0 by decide) h)
  refine bv_aload_n 13 rfl C d_M_abort_12 rfl ?_
  refine bv_iload_n 14 rfl C d_M_abort_13 rfl ?_
  refine bv_call (rest := [.ref (ad 305)]) 17 rfl C d_M_abort_14 (ct_M_isOpen hN hm ho) i_M_isOpen t1_8 (fun H locs ls hP => bs_V (av := [.int x]) 305 C i_M_isOpen t3_199 t3_201 s_40 (by omega) rfl hm rfl (by decide) rfl rfl d_M_abort_14 H locs ls hP) ⟨by first | decide | omega, by first | decide | omega⟩ (by decide) (by decide) (Nat.le_of_ble_eq_true rfl) (fun v ad1 w1 N1 hpo => ?_) (fun x Cn ad' w' N' hth => hth.elim)
  obtain ⟨rfl, rfl, rfl, rfl⟩ := hpo
  refine bv_if_ne 24 20 rfl C d_M_abort_17 (by decide) (fun h => absurd (show nI 0 = 0 by decide) h) (fun h => ?_)
  refine bv_iconst (v := nI 2) 21 rfl C d_M_abort_20 (by decide) ?_
  refine bv_goto 25 C d_M_abort_21 (by decide) ?_
  refine bv_call (rest := []) 28 rfl C d_M_abort_25 (ct_M_says hN hm) i_M_says t1_8 (fun H locs ls hP => bs_V (av := [.int (nI 2)]) 305 C i_M_says t3_187 t3_189 s_38 (by omega) rfl hm rfl (by decide) rfl rfl d_M_abort_25 H locs ls hP) ⟨by first | decide | omega, by first | decide | omega⟩ (by decide) (by decide) (Nat.le_of_ble_eq_true rfl) (fun v ad1 w1 N1 hpo => ?_) (fun x Cn ad' w' N' hth => hth.elim)
  obtain ⟨rfl, rfl, rfl, hv⟩ := hpo
  rcases hv with ⟨hz, -⟩ | ⟨-, rfl⟩
  · exact absurd hz (by decide)
  · refine bv_if_eq 46 31 rfl C d_M_abort_28 (by decide) (fun h => ?_) (fun h => absurd (show nI 0 = 0 by decide) h)
    exact bv_return C rfl d_M_abort_46 (by decide) (by decide) ⟨rfl, rfl, _, _, _, _, _, va_up_self _ _ _, rfl, rfl⟩
theorem ct_M_isLiving (hN : 323 ≤ N) (hm : w 305 = mO ad th 0 wr cu dn) {x : Int32} : bK l dd y_M_isLiving 1 22 0 0 [.ref (ad 305), .int x] ad w N (bSame ad w N (fun v => v = some (.int (nI 0)))) bNo := by
  refine bK.start [(0, .ref (ad 305)), (1, .int x)] (by decide) t4_10 (Nat.le_of_ble_eq_true rfl) rfl (fun p e s m args below meth c A hnm C => ?_)
  refine bv_iload_n 1 rfl C d_M_isLiving_0 rfl ?_
  refine bv_iconst (v := nI 1) 2 rfl C d_M_isLiving_1 (by decide) ?_
  refine bv_aload_n 3 rfl C d_M_isLiving_2 rfl ?_
  refine bv_get 305 8 6 rfl C k_M (by omega) rfl hm (by decide) t3_115 rfl d_M_isLiving_3 ?_
  refine bv_call (rest := []) 9 rfl C d_M_isLiving_6 (ct_M_in (x := x) (a := nI 1) (b := 0)) i_M_in t1_8 (fun H locs ls _ => bs_S (av := [.int x, .int (nI 1), .int 0]) C i_M_in t3_184 t3_185 t1_8 (by decide) rfl rfl d_M_isLiving_6 H locs ls) ⟨by first | decide | omega, by first | decide | omega⟩ (by decide) (by decide) (Nat.le_of_ble_eq_true rfl) (fun v ad1 w1 N1 hpo => ?_) (fun x Cn ad' w' N' hth => hth.elim)
  obtain ⟨rfl, rfl, rfl, hv⟩ := hpo
  rcases hv with ⟨hi, rfl⟩ | ⟨hi, rfl⟩
  · exfalso
    have h1 := hi.1
    have h2 := hi.2
    rw [Int32.lt_iff_toInt_lt] at h1 h2
    have : (nI 1).toInt = 1 := rfl
    have : (0 : Int32).toInt = 0 := rfl
    omega
  · refine bv_if_eq 25 12 rfl C d_M_isLiving_9 (by decide) (fun h => ?_) (fun h => absurd (show nI 0 = 0 by decide) h)
    refine bv_iconst (v := nI 0) 26 rfl C d_M_isLiving_25 (by decide) ?_
    exact bv_zreturn C rfl (Or.inl rfl) d_M_isLiving_26 (Nat.le_refl _) (Nat.le_refl _) ⟨rfl, rfl, rfl, rfl⟩
theorem ct_M_delete (hN : 323 ≤ N) (hm : w 305 = mO ad th 0 wr cu 0) {x : Int32} : bK l dd y_M_delete 2 43 0 0 [.ref (ad 305), .int x] ad w N (bMp ad N (fun t v => t = nI 0 ∧ v = some (.int (nI 0)))) bNo := by
  refine bK.start [(0, .ref (ad 305)), (1, .int x)] (by decide) t4_6 (Nat.le_of_ble_eq_true rfl) rfl (fun p e s m args below meth c A hnm C => ?_)
  refine bv_aload_n 1 rfl C d_M_delete_0 rfl ?_
  refine bv_aload_n 2 rfl C d_M_delete_1 rfl ?_
  refine bv_get 305 16 5 rfl C k_M (by omega) rfl hm (by decide) t3_123 rfl d_M_delete_2 ?_
  refine bv_if_eq 12 8 rfl C d_M_delete_5 (by decide) (fun h => ?_) (fun h => absurd (show (0 : Int32) = 0 by decide) h)
  refine bv_iconst (v := nI 0) 13 rfl C d_M_delete_12 (by decide) ?_
  refine bv_call (rest := []) 16 rfl C d_M_delete_13 (ct_M_says hN hm) i_M_says t1_8 (fun H locs ls hP => bs_V (av := [.int (nI 0)]) 305 C i_M_says t3_187 t3_189 s_38 (by omega) rfl hm rfl (by decide) rfl rfl d_M_delete_13 H locs ls hP) ⟨by first | decide | omega, by first | decide | omega⟩ (by decide) (by decide) (Nat.le_of_ble_eq_true rfl) (fun v ad1 w1 N1 hpo => ?_) (fun x Cn ad' w' N' hth => hth.elim)
  obtain ⟨rfl, rfl, rfl, hv⟩ := hpo
  rcases hv with ⟨-, rfl⟩ | ⟨hz, -⟩
  · refine bv_if_eq 35 19 rfl C d_M_delete_16 (by decide) (fun h => absurd h (show ¬ nI 1 = 0 by decide)) (fun h => ?_)
    refine bv_aload_n 20 rfl C d_M_delete_19 rfl ?_
    refine bv_iload_n 21 rfl C d_M_delete_20 rfl ?_
    refine bv_call (rest := []) 24 rfl C d_M_delete_21 (ct_M_isLiving (w := va_up w 305 (mO ad (nI 0) 0 wr cu 0)) hN (va_up_self _ _ _)) i_M_isLiving t1_8 (fun H locs ls hP => bs_V (av := [.int x]) 305 C i_M_isLiving t4_7 t4_9 s_48 (by omega) rfl (va_up_self _ _ _) rfl (by decide) rfl rfl d_M_delete_21 H locs ls hP) ⟨by first | decide | omega, by first | decide | omega⟩ (by decide) (by decide) (Nat.le_of_ble_eq_true rfl) (fun v ad1 w1 N1 hpo => ?_) (fun x Cn ad' w' N' hth => hth.elim)
    obtain ⟨rfl, rfl, rfl, rfl⟩ := hpo
    refine bv_if_eq 35 27 rfl C d_M_delete_24 (by decide) (fun h => ?_) (fun h => absurd (show nI 0 = 0 by decide) h)
    refine bv_iconst (v := nI 0) 36 rfl C d_M_delete_35 (by decide) ?_
    exact bv_zreturn C rfl (Or.inl rfl) d_M_delete_36 (by decide) (by decide) ⟨rfl, rfl, _, _, _, _, _, va_up_self _ _ _, rfl, rfl⟩
  · exact absurd rfl hz
theorem ct_M_cutAfter (hN : 323 ≤ N) (hm : w 305 = mO ad th ve wr cu dn) {x : Int32} : bK l dd y_M_cutAfter 1 22 0 0 [.ref (ad 305), .int x] ad w N (fun v ad' w' N' => ad = ad' ∧ N = N' ∧ v = none ∧ ((bIn x (nI 0) (nI 1000) ∧ w' = va_up w 305 (mO ad (nI 0) ve wr x dn)) ∨ (¬ bIn x (nI 0) (nI 1000) ∧ w' = va_up w 305 (mO ad (nI 1) ve wr cu dn)))) bNo := by
  refine bK.start [(0, .ref (ad 305)), (1, .int x)] (by decide) t4_26 (Nat.le_of_ble_eq_true rfl) rfl (fun p e s m args below meth c A hnm C => ?_)
  refine bv_aload_n 1 rfl C d_M_cutAfter_0 rfl ?_
  refine bv_iload_n 2 rfl C d_M_cutAfter_1 rfl ?_
  refine bv_iconst (v := nI 0) 3 rfl C d_M_cutAfter_2 (by decide) ?_
  refine bv_sipush (v := nI 1000) 6 rfl C d_M_cutAfter_3 (by decide) ?_
  refine bv_call (rest := [.ref (ad 305)]) 9 rfl C d_M_cutAfter_6 (ct_M_in (x := x) (a := nI 0) (b := nI 1000)) i_M_in t1_8 (fun H locs ls _ => bs_S (av := [.int x, .int (nI 0), .int (nI 1000)]) C i_M_in t3_184 t3_185 t1_8 (by decide) rfl rfl d_M_cutAfter_6 H locs ls) ⟨by first | decide | omega, by first | decide | omega⟩ (by decide) (by decide) (Nat.le_of_ble_eq_true rfl) (fun v ad1 w1 N1 hpo => ?_) (fun x Cn ad' w' N' hth => hth.elim)
  obtain ⟨rfl, rfl, rfl, hv⟩ := hpo
  rcases hv with ⟨hi, rfl⟩ | ⟨hi, rfl⟩
  · refine bv_if_eq 16 12 rfl C d_M_cutAfter_9 (by decide) (fun h => absurd h (show ¬ nI 1 = 0 by decide)) (fun h => ?_)
    refine bv_iconst (v := nI 0) 13 rfl C d_M_cutAfter_12 (by decide) ?_
    refine bv_goto 17 C d_M_cutAfter_13 (by decide) ?_
    refine bv_call (rest := []) 20 rfl C d_M_cutAfter_17 (ct_M_says hN hm) i_M_says t1_8 (fun H locs ls hP => bs_V (av := [.int (nI 0)]) 305 C i_M_says t3_187 t3_189 s_38 (by omega) rfl hm rfl (by decide) rfl rfl d_M_cutAfter_17 H locs ls hP) ⟨by first | decide | omega, by first | decide | omega⟩ (by decide) (by decide) (Nat.le_of_ble_eq_true rfl) (fun v ad1 w1 N1 hpo => ?_) (fun x Cn ad' w' N' hth => hth.elim)
    obtain ⟨rfl, rfl, rfl, hv⟩ := hpo
    rcases hv with ⟨-, rfl⟩ | ⟨hz, -⟩
    · refine bv_if_eq 28 23 rfl C d_M_cutAfter_20 (by decide) (fun h => absurd h (show ¬ nI 1 = 0 by decide)) (fun h => ?_)
      refine bv_aload_n 24 rfl C d_M_cutAfter_23 rfl ?_
      refine bv_iload_n 25 rfl C d_M_cutAfter_24 rfl ?_
      refine bv_put 305 15 28 rfl C k_M (by omega) rfl (va_up_self _ _ _) (by decide) t3_122 rfl rfl rfl (Nat.le_of_ble_eq_true rfl) d_M_cutAfter_25 ?_
      exact bv_return C rfl d_M_cutAfter_28 (by decide) (by decide) ⟨rfl, rfl, rfl, Or.inl ⟨hi, by rw [bu_same]; rfl⟩⟩
    · exact absurd rfl hz
  · refine bv_if_eq 16 12 rfl C d_M_cutAfter_9 (by decide) (fun h => ?_) (fun h => absurd (show nI 0 = 0 by decide) h)
    refine bv_iconst (v := nI 1) 17 rfl C d_M_cutAfter_16 (by decide) ?_
    refine bv_call (rest := []) 20 rfl C d_M_cutAfter_17 (ct_M_says hN hm) i_M_says t1_8 (fun H locs ls hP => bs_V (av := [.int (nI 1)]) 305 C i_M_says t3_187 t3_189 s_38 (by omega) rfl hm rfl (by decide) rfl rfl d_M_cutAfter_17 H locs ls hP) ⟨by first | decide | omega, by first | decide | omega⟩ (by decide) (by decide) (Nat.le_of_ble_eq_true rfl) (fun v ad1 w1 N1 hpo => ?_) (fun x Cn ad' w' N' hth => hth.elim)
    obtain ⟨rfl, rfl, rfl, hv⟩ := hpo
    rcases hv with ⟨hz, -⟩ | ⟨-, rfl⟩
    · exact absurd hz (by decide)
    · refine bv_if_eq 28 23 rfl C d_M_cutAfter_20 (by decide) (fun h => ?_) (fun h => absurd (show nI 0 = 0 by decide) h)
      exact bv_return C rfl d_M_cutAfter_28 (by decide) (by decide) ⟨rfl, rfl, rfl, Or.inr ⟨hi, rfl⟩⟩
theorem ct_M_recover (hN : 323 ≤ N) (hm : w 305 = mO ad th ve wr cu 0) : bK l dd y_M_recover 0 0 0 0 [.ref (ad 305)] ad w N (bMp ad N (fun _ v => v = some (.int (nI 0)))) bNo := by
  refine bK.start [(0, .ref (ad 305))] (by decide) t4_30 (Nat.le_of_ble_eq_true rfl) rfl (fun p e s m args below meth c A hnm C => ?_)
  refine bv_aload_n 1 rfl C d_M_recover_0 rfl ?_
  refine bv_iconst (v := nI 0) 2 rfl C d_M_recover_1 (by decide) ?_
  refine bv_put 305 0 5 rfl C k_M (by omega) rfl hm (by decide) t3_107 rfl rfl rfl (Nat.le_of_ble_eq_true rfl) d_M_recover_2 ?_
  refine bv_aload_n 6 rfl C d_M_recover_5 rfl ?_
  refine bv_get 305 16 9 rfl C k_M (by omega) rfl (va_up_self _ _ _) (by decide) t3_123 rfl d_M_recover_6 ?_
  refine bv_istore_n 10 rfl C d_M_recover_9 (by decide) ?_
  refine bv_aload_n 11 rfl C d_M_recover_10 rfl ?_
  refine bv_get 305 16 14 rfl C k_M (by omega) rfl (va_up_self _ _ _) (by decide) t3_123 rfl d_M_recover_11 ?_
  refine bv_if_eq 22 17 rfl C d_M_recover_14 (by decide) (fun h => ?_) (fun h => absurd (show (0 : Int32) = 0 by decide) h)
  refine bv_aload_n 23 rfl C d_M_recover_22 rfl ?_
  refine bv_iconst (v := nI 0) 24 rfl C d_M_recover_23 (by decide) ?_
  refine bv_put 305 16 27 rfl C k_M (by omega) rfl (va_up_self _ _ _) (by decide) t3_123 rfl rfl rfl (Nat.le_of_ble_eq_true rfl) d_M_recover_24 ?_
  refine bv_iload_n 28 rfl C d_M_recover_27 rfl ?_
  exact bv_zreturn C rfl (Or.inl rfl) d_M_recover_28 (by decide) (by decide) ⟨rfl, rfl, _, _, _, _, _, va_up_self _ _ _, rfl⟩
theorem ct_M_latest (hN : 323 ≤ N) (hm : w 305 = mO ad th 0 wr cu dn) {x y : Int32} : bK l dd y_M_latest 0 0 0 0 [.ref (ad 305), .int x, .int y] ad w N (bMp ad N (fun _ v => v = some (.int (nI 0)))) bNo := by
  refine bK.start [(0, .ref (ad 305)), (1, .int x), (2, .int y)] (by decide) t4_34 (Nat.le_of_ble_eq_true rfl) rfl (fun p e s m args below meth c A hnm C => ?_)
  refine bv_aload_n 1 rfl C d_M_latest_0 rfl ?_
  refine bv_iconst (v := nI 0) 2 rfl C d_M_latest_1 (by decide) ?_
  refine bv_put 305 0 5 rfl C k_M (by omega) rfl hm (by decide) t3_107 rfl rfl rfl (Nat.le_of_ble_eq_true rfl) d_M_latest_2 ?_
  refine bv_aload_n 6 rfl C d_M_latest_5 rfl ?_
  refine bv_get 305 8 9 rfl C k_M (by omega) rfl (va_up_self _ _ _) (by decide) t3_115 rfl d_M_latest_6 ?_
  refine bv_istore_n 10 rfl C d_M_latest_9 (by decide) ?_
  refine bv_iload_n 11 rfl C d_M_latest_10 rfl ?_
  refine bv_if_le 51 14 rfl C d_M_latest_11 (by decide) (fun h => ?_) (fun h => absurd (show (0 : Int32) ≤ 0 by decide) h)
  refine bv_iconst (v := nI 0) 52 rfl C d_M_latest_51 (by decide) ?_
  exact bv_ireturn C rfl d_M_latest_52 (Nat.le_refl _) (Nat.le_refl _) ⟨rfl, rfl, _, _, _, _, _, va_up_self _ _ _, rfl⟩
theorem ct_M_size (hN : 323 ≤ N) (hm : w 305 = mO ad th 0 wr cu dn) {x : Int32} : bK l dd y_M_size 2 43 0 0 [.ref (ad 305), .int x] ad w N (bMp ad N (fun _ v => v = some (.int (-1)))) bNo := by
  refine bK.start [(0, .ref (ad 305)), (1, .int x)] (by decide) t4_38 (Nat.le_of_ble_eq_true rfl) rfl (fun p e s m args below meth c A hnm C => ?_)
  refine bv_aload_n 1 rfl C d_M_size_0 rfl ?_
  refine bv_iconst (v := nI 0) 2 rfl C d_M_size_1 (by decide) ?_
  refine bv_put 305 0 5 rfl C k_M (by omega) rfl hm (by decide) t3_107 rfl rfl rfl (Nat.le_of_ble_eq_true rfl) d_M_size_2 ?_
  refine bv_aload_n 6 rfl C d_M_size_5 rfl ?_
  refine bv_iload_n 7 rfl C d_M_size_6 rfl ?_
  refine bv_call (rest := []) 10 rfl C d_M_size_7 (ct_M_isLiving (w := va_up w 305 (mO ad (nI 0) 0 wr cu dn)) hN (va_up_self _ _ _)) i_M_isLiving t1_8 (fun H locs ls hP => bs_V (av := [.int x]) 305 C i_M_isLiving t4_7 t4_9 s_48 (by omega) rfl (va_up_self _ _ _) rfl (by decide) rfl rfl d_M_size_7 H locs ls hP) ⟨by first | decide | omega, by first | decide | omega⟩ (by decide) (by decide) (Nat.le_of_ble_eq_true rfl) (fun v ad1 w1 N1 hpo => ?_) (fun x Cn ad' w' N' hth => hth.elim)
  obtain ⟨rfl, rfl, rfl, rfl⟩ := hpo
  refine bv_if_ne 15 13 rfl C d_M_size_10 (by decide) (fun h => absurd (show nI 0 = 0 by decide) h) (fun h => ?_)
  refine bv_iconst (v := -1) 14 rfl C d_M_size_13 (by decide) ?_
  exact bv_ireturn C rfl d_M_size_14 (by decide) (by decide) ⟨rfl, rfl, _, _, _, _, _, va_up_self _ _ _, rfl⟩
theorem ct_M_byteAt (hN : 323 ≤ N) (hm : w 305 = mO ad th 0 wr cu dn) {x y : Int32} : bK l dd y_M_byteAt 2 43 0 0 [.ref (ad 305), .int x, .int y] ad w N (bMp ad N (fun _ v => v = some (.int (-1)))) bNo := by
  refine bK.start [(0, .ref (ad 305)), (1, .int x), (2, .int y)] (by decide) t4_42 (Nat.le_of_ble_eq_true rfl) rfl (fun p e s m args below meth c A hnm C => ?_)
  refine bv_aload_n 1 rfl C d_M_byteAt_0 rfl ?_
  refine bv_iconst (v := nI 0) 2 rfl C d_M_byteAt_1 (by decide) ?_
  refine bv_put 305 0 5 rfl C k_M (by omega) rfl hm (by decide) t3_107 rfl rfl rfl (Nat.le_of_ble_eq_true rfl) d_M_byteAt_2 ?_
  refine bv_aload_n 6 rfl C d_M_byteAt_5 rfl ?_
  refine bv_iload_n 7 rfl C d_M_byteAt_6 rfl ?_
  refine bv_call (rest := []) 10 rfl C d_M_byteAt_7 (ct_M_isLiving (w := va_up w 305 (mO ad (nI 0) 0 wr cu dn)) hN (va_up_self _ _ _)) i_M_isLiving t1_8 (fun H locs ls hP => bs_V (av := [.int x]) 305 C i_M_isLiving t4_7 t4_9 s_48 (by omega) rfl (va_up_self _ _ _) rfl (by decide) rfl rfl d_M_byteAt_7 H locs ls hP) ⟨by first | decide | omega, by first | decide | omega⟩ (by decide) (by decide) (Nat.le_of_ble_eq_true rfl) (fun v ad1 w1 N1 hpo => ?_) (fun x Cn ad' w' N' hth => hth.elim)
  obtain ⟨rfl, rfl, rfl, rfl⟩ := hpo
  refine bv_if_eq 17 13 rfl C d_M_byteAt_10 (by decide) (fun h => ?_) (fun h => absurd (show nI 0 = 0 by decide) h)
  refine bv_iconst (v := -1) 18 rfl C d_M_byteAt_17 (by decide) ?_
  exact bv_ireturn C rfl d_M_byteAt_18 (by decide) (by decide) ⟨rfl, rfl, _, _, _, _, _, va_up_self _ _ _, rfl⟩
theorem ct_M_hasChunk (hN : 323 ≤ N) (hm : w 305 = mO ad th ve wr cu dn) (hz : w 306 = aI dd 48 (fun _ => 0)) {x : Int32} : bK l dd y_M_hasChunk 1 22 0 0 [.ref (ad 305), .int x] ad w N (bSame ad w N (fun v => v = some (.int (nI 0)))) bNo := by
  refine bK.start [(0, .ref (ad 305)), (1, .int x)] (by decide) t4_50 (Nat.le_of_ble_eq_true rfl) rfl (fun p e s m args below meth c A hnm C => ?_)
  refine bv_iload_n 1 rfl C d_M_hasChunk_0 rfl ?_
  refine bv_iconst (v := nI 0) 2 rfl C d_M_hasChunk_1 (by decide) ?_
  refine bv_bipush (v := nI 47) 4 rfl C d_M_hasChunk_2 (by decide) ?_
  refine bv_call (rest := []) 7 rfl C d_M_hasChunk_4 (ct_M_in (x := x) (a := nI 0) (b := nI 47)) i_M_in t1_8 (fun H locs ls _ => bs_S (av := [.int x, .int (nI 0), .int (nI 47)]) C i_M_in t3_184 t3_185 t1_8 (by decide) rfl rfl d_M_hasChunk_4 H locs ls) ⟨by first | decide | omega, by first | decide | omega⟩ (by decide) (by decide) (Nat.le_of_ble_eq_true rfl) (fun v ad1 w1 N1 hpo => ?_) (fun x Cn ad' w' N' hth => hth.elim)
  obtain ⟨rfl, rfl, rfl, hv⟩ := hpo
  rcases hv with ⟨hi, rfl⟩ | ⟨hi, rfl⟩
  · obtain ⟨i, hi5, rfl⟩ : ∃ i : Nat, i < 48 ∧ x = nI i := by
      rcases pk_ix x (show 48 < 2 ^ 31 by decide) with h | h | h
      · exact absurd h hi.1
      · exfalso
        refine hi.2 ?_
        rw [Int32.le_iff_toInt_le] at h
        rw [Int32.lt_iff_toInt_lt]
        have : (nI 48).toInt = 48 := rfl
        have : (nI 47).toInt = 47 := rfl
        omega
      · exact h
    refine bv_if_eq 23 10 rfl C d_M_hasChunk_7 (by decide) (fun h => absurd h (show ¬ nI 1 = 0 by decide)) (fun h => ?_)
    refine bv_aload_n 11 rfl C d_M_hasChunk_10 rfl ?_
    refine bv_get 305 1 14 rfl C k_M (by omega) rfl hm (by decide) t3_108 rfl d_M_hasChunk_11 ?_
    refine bv_iload_n 15 rfl C d_M_hasChunk_14 rfl ?_
    refine bv_iald 306 i 16 rfl C (by omega) rfl hz rfl hi5 (by decide) d_M_hasChunk_15 ?_
    refine bv_if_le 23 19 rfl C d_M_hasChunk_16 (by decide) (fun h => ?_) (fun h => absurd (show (0 : Int32) ≤ 0 by decide) h)
    refine bv_iconst (v := nI 0) 24 rfl C d_M_hasChunk_23 (by decide) ?_
    exact bv_zreturn C rfl (Or.inl rfl) d_M_hasChunk_24 (Nat.le_refl _) (Nat.le_refl _) ⟨rfl, rfl, rfl, rfl⟩
  · refine bv_if_eq 23 10 rfl C d_M_hasChunk_7 (by decide) (fun h => ?_) (fun h => absurd (show nI 0 = 0 by decide) h)
    refine bv_iconst (v := nI 0) 24 rfl C d_M_hasChunk_23 (by decide) ?_
    exact bv_zreturn C rfl (Or.inl rfl) d_M_hasChunk_24 (Nat.le_refl _) (Nat.le_refl _) ⟨rfl, rfl, rfl, rfl⟩
theorem ct_M_address (hN : 323 ≤ N) (hm : w 305 = mO ad th ve wr cu dn) (hz : w 306 = aI dd 48 (fun _ => 0)) {x y : Int32} : bK l dd y_M_address 2 43 0 0 [.ref (ad 305), .int x, .int y] ad w N (bMp ad N (fun t v => t = nI 1 ∧ ∃ r : Int32, v = some (.int r))) bNo := by
  refine bK.start [(0, .ref (ad 305)), (1, .int x), (2, .int y)] (by decide) t4_46 (Nat.le_of_ble_eq_true rfl) rfl (fun p e s m args below meth c A hnm C => ?_)
  refine bv_aload_n 1 rfl C d_M_address_0 rfl ?_
  refine bv_aload_n 2 rfl C d_M_address_1 rfl ?_
  refine bv_iload_n 3 rfl C d_M_address_2 rfl ?_
  refine bv_call (rest := [.ref (ad 305)]) 6 rfl C d_M_address_3 (ct_M_hasChunk hN hm hz) i_M_hasChunk t1_8 (fun H locs ls hP => bs_V (av := [.int x]) 305 C i_M_hasChunk t4_47 t4_49 s_51 (by omega) rfl hm rfl (by decide) rfl rfl d_M_address_3 H locs ls hP) ⟨by first | decide | omega, by first | decide | omega⟩ (by decide) (by decide) (Nat.le_of_ble_eq_true rfl) (fun v ad1 w1 N1 hpo => ?_) (fun x Cn ad' w' N' hth => hth.elim)
  obtain ⟨rfl, rfl, rfl, rfl⟩ := hpo
  refine bv_if_eq 23 9 rfl C d_M_address_6 (by decide) (fun h => ?_) (fun h => absurd (show nI 0 = 0 by decide) h)
  refine bv_iconst (v := nI 1) 24 rfl C d_M_address_23 (by decide) ?_
  refine bv_call (rest := []) 27 rfl C d_M_address_24 (ct_M_says hN hm) i_M_says t1_8 (fun H locs ls hP => bs_V (av := [.int (nI 1)]) 305 C i_M_says t3_187 t3_189 s_38 (by omega) rfl hm rfl (by decide) rfl rfl d_M_address_24 H locs ls hP) ⟨by first | decide | omega, by first | decide | omega⟩ (by decide) (by decide) (Nat.le_of_ble_eq_true rfl) (fun v ad1 w1 N1 hpo => ?_) (fun x Cn ad' w' N' hth => hth.elim)
  obtain ⟨rfl, rfl, rfl, hv⟩ := hpo
  rcases hv with ⟨hz, -⟩ | ⟨-, rfl⟩
  · exact absurd hz (by decide)
  · refine bv_if_ne 32 30 rfl C d_M_address_27 (by decide) (fun h => absurd (show nI 0 = 0 by decide) h) (fun h => ?_)
    refine bv_iconst (v := nI 0) 31 rfl C d_M_address_30 (by decide) ?_
    exact bv_ireturn C rfl d_M_address_31 (by decide) (by decide) ⟨rfl, rfl, _, _, _, _, _, va_up_self _ _ _, rfl, _, rfl⟩
theorem ct_M_needed (hN : 323 ≤ N) (hm : w 305 = mO ad th ve wr cu dn) (hz : w 306 = aI dd 48 (fun _ => 0)) {x : Int32} : bK l dd y_M_needed 2 43 0 0 [.ref (ad 305), .int x] ad w N (bMp ad N (fun _ v => v = some (.int (-1)))) bNo := by
  refine bK.start [(0, .ref (ad 305)), (1, .int x)] (by decide) t4_61 (Nat.le_of_ble_eq_true rfl) rfl (fun p e s m args below meth c A hnm C => ?_)
  refine bv_aload_n 1 rfl C d_M_needed_0 rfl ?_
  refine bv_iconst (v := nI 0) 2 rfl C d_M_needed_1 (by decide) ?_
  refine bv_put 305 0 5 rfl C k_M (by omega) rfl hm (by decide) t3_107 rfl rfl rfl (Nat.le_of_ble_eq_true rfl) d_M_needed_2 ?_
  refine bv_aload_n 6 rfl C d_M_needed_5 rfl ?_
  refine bv_iload_n 7 rfl C d_M_needed_6 rfl ?_
  refine bv_call (rest := []) 10 rfl C d_M_needed_7 (ct_M_hasChunk (w := va_up w 305 (mO ad (nI 0) ve wr cu dn)) hN (va_up_self _ _ _) (by rw [va_up_ne _ _ (by decide)]; exact hz)) i_M_hasChunk t1_8 (fun H locs ls hP => bs_V (av := [.int x]) 305 C i_M_hasChunk t4_47 t4_49 s_51 (by omega) rfl (va_up_self _ _ _) rfl (by decide) rfl rfl d_M_needed_7 H locs ls hP) ⟨by first | decide | omega, by first | decide | omega⟩ (by decide) (by decide) (Nat.le_of_ble_eq_true rfl) (fun v ad1 w1 N1 hpo => ?_) (fun x Cn ad' w' N' hth => hth.elim)
  obtain ⟨rfl, rfl, rfl, rfl⟩ := hpo
  refine bv_if_eq 21 13 rfl C d_M_needed_10 (by decide) (fun h => ?_) (fun h => absurd (show nI 0 = 0 by decide) h)
  refine bv_iconst (v := -1) 22 rfl C d_M_needed_21 (by decide) ?_
  exact bv_ireturn C rfl d_M_needed_22 (by decide) (by decide) ⟨rfl, rfl, _, _, _, _, _, va_up_self _ _ _, rfl⟩
end bMod

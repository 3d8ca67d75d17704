abbrev bSameT (ad : Nat → Nat) (w : Nat → va_E) (N : Nat) (r : String → Prop) : String → (Nat → Nat) → (Nat → va_E) → Nat → Prop := fun Cn ad' w' N' => ad = ad' ∧ w = w' ∧ N = N' ∧ r Cn
abbrev bFr (ad : Nat → Nat) (w : Nat → va_E) (N : Nat) (r : Option Value → Prop) : Option Value → (Nat → Nat) → (Nat → va_E) → Nat → Prop := fun v ad' w' N' => ad = ad' ∧ N = N' ∧ (∀ k, 305 ≤ k → w' k = w k) ∧ r v
abbrev bFrT (ad : Nat → Nat) (w : Nat → va_E) (N : Nat) (r : String → Prop) : String → (Nat → Nat) → (Nat → va_E) → Nat → Prop := fun Cn ad' w' N' => ad = ad' ∧ N = N' ∧ (∀ k, 305 ≤ k → w' k = w k) ∧ r Cn
abbrev xISE : String := "java/lang/IllegalStateException"
abbrev xIAE : String := "java/lang/IllegalArgumentException"
abbrev xUOE : String := "java/lang/UnsupportedOperationException"
abbrev xIOB : String := "java/lang/IndexOutOfBoundsException"
abbrev xNSE : String := "java/util/NoSuchElementException"
section bPow
variable {l : Launch} {dd : bD} {ad : Nat → Nat} {w : Nat → va_E} {N : Nat}
/-- Power.requireOn -/
theorem ct_P_requireOn (hlt : bOff l) {k : Nat} {wr cu gn : Int32} (hk : k < N) (hw : w k = .inr (1, [.int wr, .int cu, .int gn])) : bK l dd y_P_requireOn 6 82 1 6 [.ref (ad k)] ad w N (bSame ad w N (fun v => v = none ∧ gn = 0)) (bSameT ad w N (fun Cn => Cn = xISE ∧ ¬ gn = 0)) := by
  refine bK.start [(0, .ref (ad k))] (by decide) t2_64 (Nat.le_of_ble_eq_true rfl) rfl (fun p e s m args below meth c A hnm C => ?_)
  refine bv_aload_n 1 rfl C d_P_requireOn_0 rfl ?_
  refine bv_get k 2 4 rfl C k_P hk rfl hw (by decide) t1_37 rfl d_P_requireOn_1 ?_
  refine bv_if_eq 17 7 rfl C d_P_requireOn_4 (by decide) (fun h => ?_) (fun h => ?_)
  · exact bv_return C rfl d_P_requireOn_17 (by decide) (by decide) ⟨rfl, rfl, rfl, rfl, h⟩
  · exact bv_throw (names := ["java/lang/RuntimeException", "java/lang/Exception"]) hlt C d_P_requireOn_7 d_P_requireOn_10 d_P_requireOn_11 d_P_requireOn_13 d_P_requireOn_16 t2_65 t2_66 t1_12 (show ("BlobStore$Power", 22, "the store is down") ∈ bStr by simp) (by decide) (by decide) ow_P_24 rfl (by first | decide | omega) (by first | decide | omega) (by first | decide | omega) (by first | decide | omega) (by first | decide | omega) (by first | decide | omega) ⟨rfl, rfl, rfl, rfl, h⟩
/-- Power.spendWrite -/
theorem ct_P_spendWrite (hlt : bOff l) {k : Nat} {wr cu gn : Int32} (hk : k < N) (hw : w k = .inr (1, [.int wr, .int cu, .int gn])) : bK l dd y_P_spendWrite 6 82 1 6 [.ref (ad k)] ad w N (fun v ad' w' N' => ad = ad' ∧ N = N' ∧ v = none ∧ ¬ cu = 0 ∧ w' = va_up w k (.inr (1, [.int (wr + nI 1), .int (if 0 < cu then cu - nI 1 else cu), .int gn]))) (fun Cn ad' w' N' => ad = ad' ∧ N = N' ∧ Cn = xUOE ∧ cu = 0 ∧ w' = va_up w k (.inr (1, [.int wr, .int cu, .int (nI 1)]))) := by
  refine bK.start [(0, .ref (ad k))] (by decide) t2_161 (Nat.le_of_ble_eq_true rfl) rfl (fun p e s m args below meth c A hnm C => ?_)
  refine bv_aload_n 1 rfl C d_P_spendWrite_0 rfl ?_
  refine bv_get k 1 4 rfl C k_P hk rfl hw (by decide) t1_36 rfl d_P_spendWrite_1 ?_
  refine bv_if_ne 22 7 rfl C d_P_spendWrite_4 (by decide) (fun h => ?_) (fun h => ?_)
  · refine bv_aload_n 23 rfl C d_P_spendWrite_22 rfl ?_
    refine bv_get k 1 26 rfl C k_P hk rfl hw (by decide) t1_36 rfl d_P_spendWrite_23 ?_
    refine bv_if_le 39 29 rfl C d_P_spendWrite_26 (by decide) (fun h' => ?_) (fun h' => ?_)
    · refine bv_aload_n 40 rfl C d_P_spendWrite_39 rfl ?_
      refine bv_dup 41 rfl C d_P_spendWrite_40 rfl ?_
      refine bv_get k 0 44 rfl C k_P hk rfl hw (by decide) t1_34 rfl d_P_spendWrite_41 ?_
      refine bv_iconst (v := nI 1) 45 rfl C d_P_spendWrite_44 (by decide) ?_
      refine bv_iadd 46 rfl C d_P_spendWrite_45 ?_
      refine bv_put k 0 49 rfl C k_P hk rfl hw (by decide) t1_34 rfl rfl rfl (Nat.le_of_ble_eq_true rfl) d_P_spendWrite_46 ?_
      exact bv_return C rfl d_P_spendWrite_49 (by decide) (by decide) ⟨rfl, rfl, rfl, h, by rw [if_neg (fun q => absurd h' (by rw [Int32.le_iff_toInt_le]; rw [Int32.lt_iff_toInt_lt] at q; omega))]; rfl⟩
    · refine bv_aload_n 30 rfl C d_P_spendWrite_29 rfl ?_
      refine bv_dup 31 rfl C d_P_spendWrite_30 rfl ?_
      refine bv_get k 1 34 rfl C k_P hk rfl hw (by decide) t1_36 rfl d_P_spendWrite_31 ?_
      refine bv_iconst (v := nI 1) 35 rfl C d_P_spendWrite_34 (by decide) ?_
      refine bv_isub 36 rfl C d_P_spendWrite_35 ?_
      refine bv_put k 1 39 rfl C k_P hk rfl hw (by decide) t1_36 rfl rfl rfl (Nat.le_of_ble_eq_true rfl) d_P_spendWrite_36 ?_
      refine bv_aload_n 40 rfl C d_P_spendWrite_39 rfl ?_
      refine bv_dup 41 rfl C d_P_spendWrite_40 rfl ?_
      refine bv_get k 0 44 rfl C k_P hk rfl (va_up_self _ _ _) (by decide) t1_34 rfl d_P_spendWrite_41 ?_
      refine bv_iconst (v := nI 1) 45 rfl C d_P_spendWrite_44 (by decide) ?_
      refine bv_iadd 46 rfl C d_P_spendWrite_45 ?_
      refine bv_put k 0 49 rfl C k_P hk rfl (va_up_self _ _ _) (by decide) t1_34 rfl rfl rfl (Nat.le_of_ble_eq_true rfl) d_P_spendWrite_46 ?_
      exact bv_return C rfl d_P_spendWrite_49 (by decide) (by decide) ⟨rfl, rfl, rfl, h, by rw [bu_same, if_pos (by rw [Int32.le_iff_toInt_le] at h'; rw [Int32.lt_iff_toInt_lt]; omega)]; rfl⟩
  · refine bv_aload_n 8 rfl C d_P_spendWrite_7 rfl ?_
    refine bv_iconst (v := nI 1) 9 rfl C d_P_spendWrite_8 (by decide) ?_
    refine bv_put k 2 12 rfl C k_P hk rfl hw (by decide) t1_37 rfl rfl rfl (Nat.le_of_ble_eq_true rfl) d_P_spendWrite_9 ?_
    exact bv_throw (names := ["java/lang/RuntimeException", "java/lang/Exception"]) hlt C d_P_spendWrite_12 d_P_spendWrite_15 d_P_spendWrite_16 d_P_spendWrite_18 d_P_spendWrite_21 t2_162 t2_163 t1_14 (show ("BlobStore$Power", 29, "the power is gone") ∈ bStr by simp) (by decide) (by decide) ow_P_31 rfl (by first | decide | omega) (by first | decide | omega) (by first | decide | omega) (by first | decide | omega) (by first | decide | omega) (by first | decide | omega) ⟨rfl, rfl, rfl, h, rfl⟩
/-- Power.tellCut -/
theorem ct_P_tellCut {k : Nat} {wr cu gn n : Int32} (hk : k < N) (hw : w k = .inr (1, [.int wr, .int cu, .int gn])) : bK l dd y_P_tellCut 0 0 0 0 [.ref (ad k), .int n] ad w N (fun v ad' w' N' => ad = ad' ∧ N = N' ∧ v = none ∧ w' = va_up w k (.inr (1, [.int wr, .int n, .int gn]))) bNo := by
  refine bK.start [(0, .ref (ad k)), (1, .int n)] (by decide) t3_64 (Nat.le_of_ble_eq_true rfl) rfl (fun p e s m args below meth c A hnm C => ?_)
  refine bv_aload_n 1 rfl C d_P_tellCut_0 rfl ?_
  refine bv_iload_n 2 rfl C d_P_tellCut_1 rfl ?_
  refine bv_put k 1 5 rfl C k_P hk rfl hw (by decide) t1_36 rfl rfl rfl (Nat.le_of_ble_eq_true rfl) d_P_tellCut_2 ?_
  exact bv_return C rfl d_P_tellCut_5 (Nat.le_refl _) (Nat.le_refl _) ⟨rfl, rfl, rfl, rfl⟩
/-- Power.turnOn -/
theorem ct_P_turnOn {k : Nat} {wr cu gn : Int32} (hk : k < N) (hw : w k = .inr (1, [.int wr, .int cu, .int gn])) : bK l dd y_P_turnOn 0 0 0 0 [.ref (ad k)] ad w N (fun v ad' w' N' => ad = ad' ∧ N = N' ∧ ((gn = 0 ∧ v = some (.int (nI 0)) ∧ w' = w) ∨ (¬ gn = 0 ∧ v = some (.int (nI 1)) ∧ w' = va_up w k (.inr (1, [.int wr, .int (-1), .int (nI 0)]))))) bNo := by
  refine bK.start [(0, .ref (ad k))] (by decide) t1_184 (Nat.le_of_ble_eq_true rfl) rfl (fun p e s m args below meth c A hnm C => ?_)
  refine bv_aload_n 1 rfl C d_P_turnOn_0 rfl ?_
  refine bv_get k 2 4 rfl C k_P hk rfl hw (by decide) t1_37 rfl d_P_turnOn_1 ?_
  refine bv_if_ne 9 7 rfl C d_P_turnOn_4 (by decide) (fun h => ?_) (fun h => ?_)
  · refine bv_aload_n 10 rfl C d_P_turnOn_9 rfl ?_
    refine bv_iconst (v := nI 0) 11 rfl C d_P_turnOn_10 (by decide) ?_
    refine bv_put k 2 14 rfl C k_P hk rfl hw (by decide) t1_37 rfl rfl rfl (Nat.le_of_ble_eq_true rfl) d_P_turnOn_11 ?_
    refine bv_aload_n 15 rfl C d_P_turnOn_14 rfl ?_
    refine bv_iconst (v := -1) 16 rfl C d_P_turnOn_15 (by decide) ?_
    refine bv_put k 1 19 rfl C k_P hk rfl (va_up_self _ _ _) (by decide) t1_36 rfl rfl rfl (Nat.le_of_ble_eq_true rfl) d_P_turnOn_16 ?_
    refine bv_iconst (v := nI 1) 20 rfl C d_P_turnOn_19 (by decide) ?_
    exact bv_zreturn C rfl (Or.inr rfl) d_P_turnOn_20 (Nat.le_refl _) (Nat.le_refl _) ⟨rfl, rfl, Or.inr ⟨h, rfl, by rw [bu_same]; rfl⟩⟩
  · refine bv_iconst (v := nI 0) 8 rfl C d_P_turnOn_7 (by decide) ?_
    exact bv_zreturn C rfl (Or.inl rfl) d_P_turnOn_8 (Nat.le_refl _) (Nat.le_refl _) ⟨rfl, rfl, Or.inl ⟨h, rfl, rfl⟩⟩
end bPow

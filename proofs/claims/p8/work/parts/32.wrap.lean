section bWr
variable {l : Launch} {dd : bD} {ad : Nat → Nat} {w : Nat → va_E} {N : Nat}
theorem FB.hS (h : FB dd ad w) : bSs dd ad w (fun _ => nI 0) (fun _ => nI 0) (fun _ => nI 0) := ⟨h.2.2.1.1, fun j hj => (h.2.2.1.2 j hj).1⟩
theorem FB.hP (h : FB dd ad w) : bPs dd ad w 109 (fun _ => nI 0) := ⟨(h.2.2.1.2 0 (by decide)).2.1, fun j hj => ((h.2.2.1.2 0 (by decide)).2.2 j hj).1⟩
theorem FB.hC (h : FB dd ad w) : bCs dd ad w (fun _ => nI 0) (fun _ => 0) := ⟨h.2.1.1, fun j hj => (h.2.1.2 j hj).1⟩
/-- behind a wrapper: the reference's cells are as they were; the code that it answers; what stands in out -/
abbrev bWp (dd : bD) (ad : Nat → Nat) (w : Nat → va_E) (N : Nat) (P : Int32 → (Nat → va_E) → Prop) : Option Value → (Nat → Nat) → (Nat → va_E) → Nat → Prop := fun v ad' w' N' => ad = ad' ∧ N = N' ∧ (∀ k, 305 ≤ k → k ≠ 323 → w' k = w k) ∧ ∃ r, v = some (.int r) ∧ P r w'
abbrev okB (b q : Int32) : Prop := ¬ b < 0 ∧ ¬ nI 4 ≤ b ∧ ¬ q < 0 ∧ q < nI 8
theorem ct_L_begin (hlt : bOff l) (hN : 324 ≤ N) (hF : FB dd ad w) {g0 : Nat → Int64} (ho : w 323 = aL dd 1 g0) {b q : Int32} : bK l dd y_L_begin 8 125 2 12 [.ref (ad 0), .int b, .int q, .ref (ad 323)] ad w N (bWp dd ad w N (fun r w' => (r = nI 0 ∧ okB b q ∧ ∃ g : Nat → Int64, w' 323 = aL dd 1 g ∧ g 0 = (nI 0).toInt64) ∨ (r = nI 2 ∧ ¬ okB b q ∧ ∃ g : Nat → Int64, w' 323 = aL dd 1 g))) bNo := by
  refine bK.startH [(0, .ref (ad 0)), (1, .int b), (2, .int q), (3, .ref (ad 323))] (by decide) t2_53 (Nat.le_of_ble_eq_true rfl) rfl (fun p e s m args below meth c A hnm C => ?_)
  refine bv_aload_n 1 rfl C d_L_begin_0 rfl ?_
  refine bv_iconst (v := nI 0) 2 rfl C d_L_begin_1 (by decide) ?_
  refine bv_aload_n 3 rfl C d_L_begin_2 rfl ?_
  refine bv_iload_n 4 rfl C d_L_begin_3 rfl ?_
  refine bv_iload_n 5 rfl C d_L_begin_4 rfl ?_
  refine bv_call (rest := [.int (nI 0), .ref (ad 323)]) 8 rfl C d_L_begin_5 (ct_B_begin (dd := dd) hlt (show 305 ≤ N by omega) hF.1.1 hF.hS hF.1.2.1 (by decide) hF.hP (b := b) (q := q)) i_B_begin t1_1 (fun H locs ls hP => bs_V (av := [.int b, .int q]) 0 C i_B_begin t2_57 t2_58 t2_59 (by omega) rfl hF.1.1 rfl (by decide) rfl rfl d_L_begin_5 H locs ls hP) ⟨by first | decide | omega, by first | decide | omega⟩ (by decide) (by decide) (Nat.le_of_ble_eq_true rfl) (fun v ad1 w1 N1 hpo => ?_) (fun x Cn ad' w' N' hth => ?_)
  · obtain ⟨rfl, rfl, hk, rfl, hok⟩ := hpo
    refine bv_i2l 9 rfl C d_L_begin_8 rfl ?_
    refine bv_last 323 0 10 rfl C (by omega) rfl ((hk 323 (by decide)).trans ho) rfl (by decide) (by decide) d_L_begin_9 ?_
    refine bv_goto 25 C d_L_begin_10 (by decide) ?_
    refine bv_iconst (v := nI 0) 26 rfl C d_L_begin_25 (by decide) ?_
    exact bv_ireturn C rfl d_L_begin_26 (by decide) (by decide) ⟨rfl, rfl, fun k h1 h2 => (va_up_ne _ _ h2).trans (hk k h1), _, rfl, Or.inl ⟨rfl, hok, _, va_up_self _ _ _, pk_uLs⟩⟩
  · obtain ⟨rfl, rfl, hk, rfl, hno⟩ := hth
    refine bt_catch C [xISE, xIAE, xUOE] 17 rfl ⟨rfl, by decide, t2_54, Or.inr ⟨by decide, rfl, by decide, t2_55, Or.inl ⟨rfl, rfl⟩⟩⟩ ?_
    refine bv_astore 19 rfl C d_L_begin_17 (by decide) ?_
    refine bv_iconst (v := nI 2) 20 rfl C d_L_begin_19 (by decide) ?_
    exact bv_ireturn C rfl d_L_begin_20 (by decide) (by decide) ⟨rfl, rfl, fun k h1 _ => hk k h1, _, rfl, Or.inr ⟨rfl, hno, _, (hk 323 (by decide)).trans ho⟩⟩
theorem ct_L_part (hlt : bOff l) (hN : 324 ≤ N) (hF : FB dd ad w) {x y z : Int32} {a b c0 : Int64} : bK l dd y_L_part 8 135 2 12 [.ref (ad 0), .int x, .int y, .int z, .long a, .long b, .long c0, .ref (ad 323)] ad w N (bWp dd ad w N (fun r _ => r = nI 2)) bNo := by
  refine bK.startH [(0, .ref (ad 0)), (1, .int x), (2, .int y), (3, .int z), (4, .long a), (6, .long b), (8, .long c0), (10, .ref (ad 323))] (by decide) t2_184 (Nat.le_of_ble_eq_true rfl) rfl (fun p e s m args below meth c A hnm C => ?_)
  refine bv_aload 2 rfl C d_L_part_0 rfl ?_
  refine bv_iconst (v := nI 0) 3 rfl C d_L_part_2 (by decide) ?_
  refine bv_aload_n 4 rfl C d_L_part_3 rfl ?_
  refine bv_iload_n 5 rfl C d_L_part_4 rfl ?_
  refine bv_iload_n 6 rfl C d_L_part_5 rfl ?_
  refine bv_iload_n 7 rfl C d_L_part_6 rfl ?_
  refine bv_lload 9 rfl C d_L_part_7 rfl ?_
  refine bv_lload 11 rfl C d_L_part_9 rfl ?_
  refine bv_lload 13 rfl C d_L_part_11 rfl ?_
  refine bv_call (rest := [.int (nI 0), .ref (ad 323)]) 16 rfl C d_L_part_13 (ct_B_part (dd := dd) hlt (show 305 ≤ N by omega) hF.1.1 hF.hS hF.1.2.1 (fun _ _ => by decide)) i_B_part t1_1 (fun H locs ls hP => bs_V (av := [.int x, .int y, .int z, .long a, .long b, .long c0]) 0 C i_B_part t2_186 t2_187 t2_188 (by omega) rfl hF.1.1 rfl (by decide) rfl rfl d_L_part_13 H locs ls hP) ⟨by first | decide | omega, by first | decide | omega⟩ (by decide) (by decide) (Nat.le_of_ble_eq_true rfl) (fun v ad1 w1 N1 hpo => ?_) (fun x Cn ad' w' N' hth => ?_)
  · exact hpo.elim
  · obtain ⟨rfl, rfl, rfl, rfl⟩ := hth
    refine bt_catch C [xISE, xIAE, xIOB, xUOE] 25 rfl ⟨rfl, by decide, t2_54, Or.inr ⟨by decide, rfl, by decide, t2_55, Or.inl ⟨rfl, rfl⟩⟩⟩ ?_
    refine bv_astore 27 rfl C d_L_part_25 (by decide) ?_
    refine bv_iconst (v := nI 2) 28 rfl C d_L_part_27 (by decide) ?_
    exact bv_ireturn C rfl d_L_part_28 (by decide) (by decide) ⟨rfl, rfl, fun _ _ _ => rfl, _, rfl, rfl⟩
theorem ct_L_complete (hlt : bOff l) (hN : 324 ≤ N) (hF : FB dd ad w) {x : Int32} : bK l dd y_L_complete 8 125 2 12 [.ref (ad 0), .int x, .ref (ad 323)] ad w N (bWp dd ad w N (fun r _ => r = nI 2)) bNo := by
  refine bK.startH [(0, .ref (ad 0)), (1, .int x), (2, .ref (ad 323))] (by decide) t3_17 (Nat.le_of_ble_eq_true rfl) rfl (fun p e s m args below meth c A hnm C => ?_)
  refine bv_aload_n 1 rfl C d_L_complete_0 rfl ?_
  refine bv_iconst (v := nI 0) 2 rfl C d_L_complete_1 (by decide) ?_
  refine bv_aload_n 3 rfl C d_L_complete_2 rfl ?_
  refine bv_iload_n 4 rfl C d_L_complete_3 rfl ?_
  refine bv_call (rest := [.int (nI 0), .ref (ad 323)]) 7 rfl C d_L_complete_4 (ct_B_complete (dd := dd) hlt (show 305 ≤ N by omega) hF.1.1 hF.hS hF.1.2.1 (fun _ _ => by decide)) i_B_complete t1_1 (fun H locs ls hP => bs_V (av := [.int x]) 0 C i_B_complete t3_18 t3_19 t3_20 (by omega) rfl hF.1.1 rfl (by decide) rfl rfl d_L_complete_4 H locs ls hP) ⟨by first | decide | omega, by first | decide | omega⟩ (by decide) (by decide) (Nat.le_of_ble_eq_true rfl) (fun v ad1 w1 N1 hpo => ?_) (fun x Cn ad' w' N' hth => ?_)
  · exact hpo.elim
  · obtain ⟨rfl, rfl, rfl, rfl⟩ := hth
    refine bt_catch C [xISE, xIAE, xUOE] 15 rfl ⟨rfl, by decide, t2_54, Or.inr ⟨by decide, rfl, by decide, t2_55, Or.inl ⟨rfl, rfl⟩⟩⟩ ?_
    refine bv_astore_n 16 rfl C d_L_complete_15 (by decide) ?_
    refine bv_iconst (v := nI 2) 17 rfl C d_L_complete_16 (by decide) ?_
    exact bv_ireturn C rfl d_L_complete_17 (by decide) (by decide) ⟨rfl, rfl, fun _ _ _ => rfl, _, rfl, rfl⟩
theorem ct_L_abort (hlt : bOff l) (hN : 324 ≤ N) (hF : FB dd ad w) {x : Int32} : bK l dd y_L_abort 8 125 2 12 [.ref (ad 0), .int x] ad w N (bWp dd ad w N (fun r _ => r = nI 2)) bNo := by
  refine bK.startH [(0, .ref (ad 0)), (1, .int x)] (by decide) t3_30 (Nat.le_of_ble_eq_true rfl) rfl (fun p e s m args below meth c A hnm C => ?_)
  refine bv_aload_n 1 rfl C d_L_abort_0 rfl ?_
  refine bv_iload_n 2 rfl C d_L_abort_1 rfl ?_
  refine bv_call (rest := []) 5 rfl C d_L_abort_2 (ct_B_abort (dd := dd) hlt (show 305 ≤ N by omega) hF.1.1 hF.hS hF.1.2.1 (fun _ _ => by decide)) i_B_abort t1_1 (fun H locs ls hP => bs_V (av := [.int x]) 0 C i_B_abort t3_31 t3_32 t3_33 (by omega) rfl hF.1.1 rfl (by decide) rfl rfl d_L_abort_2 H locs ls hP) ⟨by first | decide | omega, by first | decide | omega⟩ (by decide) (by decide) (Nat.le_of_ble_eq_true rfl) (fun v ad1 w1 N1 hpo => ?_) (fun x Cn ad' w' N' hth => ?_)
  · exact hpo.elim
  · obtain ⟨rfl, rfl, rfl, rfl⟩ := hth
    refine bt_catch C [xISE, xIAE, xUOE] 11 rfl ⟨rfl, by decide, t2_54, Or.inr ⟨by decide, rfl, by decide, t2_55, Or.inl ⟨rfl, rfl⟩⟩⟩ ?_
    refine bv_astore_n 12 rfl C d_L_abort_11 (by decide) ?_
    refine bv_iconst (v := nI 2) 13 rfl C d_L_abort_12 (by decide) ?_
    exact bv_ireturn C rfl d_L_abort_13 (by decide) (by decide) ⟨rfl, rfl, fun _ _ _ => rfl, _, rfl, rfl⟩
theorem ct_L_delete (hlt : bOff l) (hN : 324 ≤ N) (hF : FB dd ad w) {g0 : Nat → Int64} (ho : w 323 = aL dd 1 g0) {x : Int32} : bK l dd y_L_delete 8 124 1 6 [.ref (ad 0), .int x, .ref (ad 323)] ad w N (bWp dd ad w N (fun r w' => r = nI 0 ∧ ∃ g : Nat → Int64, w' 323 = aL dd 1 g ∧ g 0 = 0)) bNo := by
  refine bK.startH [(0, .ref (ad 0)), (1, .int x), (2, .ref (ad 323))] (by decide) t3_37 (Nat.le_of_ble_eq_true rfl) rfl (fun p e s m args below meth c A hnm C => ?_)
  refine bv_aload_n 1 rfl C d_L_delete_0 rfl ?_
  refine bv_iconst (v := nI 0) 2 rfl C d_L_delete_1 (by decide) ?_
  refine bv_aload_n 3 rfl C d_L_delete_2 rfl ?_
  refine bv_iload_n 4 rfl C d_L_delete_3 rfl ?_
  refine bv_call (rest := [.int (nI 0), .ref (ad 323)]) 7 rfl C d_L_delete_4 (ct_B_delete (dd := dd) hlt (show 305 ≤ N by omega) hF.1.1 hF.1.2.1) i_B_delete t1_1 (fun H locs ls hP => bs_V (av := [.int x]) 0 C i_B_delete t3_38 t3_39 t3_40 (by omega) rfl hF.1.1 rfl (by decide) rfl rfl d_L_delete_4 H locs ls hP) ⟨by first | decide | omega, by first | decide | omega⟩ (by decide) (by decide) (Nat.le_of_ble_eq_true rfl) (fun v ad1 w1 N1 hpo => ?_) (fun x Cn ad' w' N' hth => hth.elim)
  obtain ⟨rfl, rfl, rfl, rfl⟩ := hpo
  refine bv_if_eq 14 10 rfl C d_L_delete_7 (by decide) (fun h => ?_) (fun h => absurd (show nI 0 = 0 by decide) h)
  refine bv_lconst (v := 0) 15 rfl C d_L_delete_14 (by decide) ?_
  refine bv_last 323 0 16 rfl C (by omega) rfl ho rfl (by decide) (by decide) d_L_delete_15 ?_
  refine bv_goto 25 C d_L_delete_16 (by decide) ?_
  refine bv_iconst (v := nI 0) 26 rfl C d_L_delete_25 (by decide) ?_
  exact bv_ireturn C rfl d_L_delete_26 (by decide) (by decide) ⟨rfl, rfl, fun k h1 h2 => va_up_ne _ _ h2, _, rfl, rfl, _, va_up_self _ _ _, pk_uLs⟩
theorem ct_L_collect (hlt : bOff l) (hN : 324 ≤ N) (hF : FB dd ad w) {g0 : Nat → Int64} (ho : w 323 = aL dd 1 g0) : bK l dd y_L_collect 8 124 1 6 [.ref (ad 0), .ref (ad 323)] ad w N (bWp dd ad w N (fun r w' => r = nI 0 ∧ ∃ g : Nat → Int64, w' 323 = aL dd 1 g ∧ g 0 = (nI 0).toInt64)) bNo := by
  refine bK.startH [(0, .ref (ad 0)), (1, .ref (ad 323))] (by decide) t3_44 (Nat.le_of_ble_eq_true rfl) rfl (fun p e s m args below meth c A hnm C => ?_)
  refine bv_aload_n 1 rfl C d_L_collect_0 rfl ?_
  refine bv_iconst (v := nI 0) 2 rfl C d_L_collect_1 (by decide) ?_
  refine bv_aload_n 3 rfl C d_L_collect_2 rfl ?_
  refine bv_call (rest := [.int (nI 0), .ref (ad 323)]) 6 rfl C d_L_collect_3 (ct_B_collect (dd := dd) hlt (show 305 ≤ N by omega) hF.1.1 hF.hS (fun _ _ => by decide) hF.1.2.1 hF.1.2.2.2.2.2.2.2.2 hF.hC (fun _ _ => by decide)) i_B_collect t1_1 (fun H locs ls hP => bs_V (av := []) 0 C i_B_collect t3_45 t3_46 t3_47 (by omega) rfl hF.1.1 rfl (by decide) rfl rfl d_L_collect_3 H locs ls hP) ⟨by first | decide | omega, by first | decide | omega⟩ (by decide) (by decide) (Nat.le_of_ble_eq_true rfl) (fun v ad1 w1 N1 hpo => ?_) (fun x Cn ad' w' N' hth => hth.elim)
  obtain ⟨rfl, rfl, hk, rfl⟩ := hpo
  refine bv_i2l 7 rfl C d_L_collect_6 rfl ?_
  refine bv_last 323 0 8 rfl C (by omega) rfl ((hk 323 (by decide)).trans ho) rfl (by decide) (by decide) d_L_collect_7 ?_
  refine bv_goto 17 C d_L_collect_8 (by decide) ?_
  refine bv_iconst (v := nI 0) 18 rfl C d_L_collect_17 (by decide) ?_
  exact bv_ireturn C rfl d_L_collect_18 (by decide) (by decide) ⟨rfl, rfl, fun k h1 h2 => (va_up_ne _ _ h2).trans (hk k h1), _, rfl, rfl, _, va_up_self _ _ _, pk_uLs⟩
theorem ct_L_cutAfter (hlt : bOff l) (hN : 324 ≤ N) {ve wr cu gn : Int32} (h0 : w 0 = oB ad ve) (h1 : w 1 = .inr (1, [.int wr, .int cu, .int gn])) {x : Int32} : bK l dd y_L_cutAfter 7 103 1 6 [.ref (ad 0), .int x] ad w N (fun v ad' w' N' => ad = ad' ∧ N = N' ∧ ((v = some (.int (nI 0)) ∧ (¬ x < 0 ∧ x ≤ nI 1000) ∧ w' = va_up w 1 (.inr (1, [.int wr, .int x, .int gn]))) ∨ (v = some (.int (nI 1)) ∧ ¬ (¬ x < 0 ∧ x ≤ nI 1000) ∧ w' = w))) bNo := by
  refine bK.startH [(0, .ref (ad 0)), (1, .int x)] (by decide) t3_55 (Nat.le_of_ble_eq_true rfl) rfl (fun p e s m args below meth c A hnm C => ?_)
  refine bv_aload_n 1 rfl C d_L_cutAfter_0 rfl ?_
  refine bv_iload_n 2 rfl C d_L_cutAfter_1 rfl ?_
  refine bv_call (rest := []) 5 rfl C d_L_cutAfter_2 (ct_B_cutAfter (dd := dd) hlt (show 305 ≤ N by omega) h0 h1) i_B_cutAfter t1_1 (fun H locs ls hP => bs_V (av := [.int x]) 0 C i_B_cutAfter t3_56 t3_57 t3_58 (by omega) rfl h0 rfl (by decide) rfl rfl d_L_cutAfter_2 H locs ls hP) ⟨by first | decide | omega, by first | decide | omega⟩ (by decide) (by decide) (Nat.le_of_ble_eq_true rfl) (fun v ad1 w1 N1 hpo => ?_) (fun x Cn ad' w' N' hth => ?_)
  · obtain ⟨rfl, rfl, rfl, hok, rfl⟩ := hpo
    refine bv_goto 11 C d_L_cutAfter_5 (by decide) ?_
    refine bv_iconst (v := nI 0) 12 rfl C d_L_cutAfter_11 (by decide) ?_
    exact bv_ireturn C rfl d_L_cutAfter_12 (by decide) (by decide) ⟨rfl, rfl, Or.inl ⟨rfl, hok, rfl⟩⟩
  · obtain ⟨rfl, rfl, rfl, rfl, hno⟩ := hth
    refine bt_catch C [xIAE] 8 rfl ⟨rfl, by decide, t2_55, Or.inl ⟨rfl, rfl⟩⟩ ?_
    refine bv_astore_n 9 rfl C d_L_cutAfter_8 (by decide) ?_
    refine bv_iconst (v := nI 1) 10 rfl C d_L_cutAfter_9 (by decide) ?_
    exact bv_ireturn C rfl d_L_cutAfter_10 (by decide) (by decide) ⟨rfl, rfl, Or.inr ⟨rfl, hno, rfl⟩⟩
theorem ct_L_address (hlt : bOff l) (hN : 324 ≤ N) (hF : FB dd ad w) {x y : Int32} : bK l dd y_L_address 7 104 1 6 [.ref (ad 0), .int x, .int y, .ref (ad 323)] ad w N (bWp dd ad w N (fun r _ => r = nI 1)) bNo := by
  refine bK.startH [(0, .ref (ad 0)), (1, .int x), (2, .int y), (3, .ref (ad 323))] (by decide) t3_67 (Nat.le_of_ble_eq_true rfl) rfl (fun p e s m args below meth c A hnm C => ?_)
  refine bv_aload_n 1 rfl C d_L_address_0 rfl ?_
  refine bv_iconst (v := nI 0) 2 rfl C d_L_address_1 (by decide) ?_
  refine bv_aload_n 3 rfl C d_L_address_2 rfl ?_
  refine bv_iload_n 4 rfl C d_L_address_3 rfl ?_
  refine bv_iload_n 5 rfl C d_L_address_4 rfl ?_
  refine bv_call (rest := [.int (nI 0), .ref (ad 323)]) 8 rfl C d_L_address_5 (ct_B_address (dd := dd) hlt (show 305 ≤ N by omega) hF.1.1 hF.hC (fun _ _ => by decide)) i_B_address t1_1 (fun H locs ls hP => bs_V (av := [.int x, .int y]) 0 C i_B_address t3_69 t3_70 t3_71 (by omega) rfl hF.1.1 rfl (by decide) rfl rfl d_L_address_5 H locs ls hP) ⟨by first | decide | omega, by first | decide | omega⟩ (by decide) (by decide) (Nat.le_of_ble_eq_true rfl) (fun v ad1 w1 N1 hpo => ?_) (fun x Cn ad' w' N' hth => ?_)
  · exact hpo.elim
  · obtain ⟨rfl, rfl, rfl, rfl⟩ := hth
    refine bt_catch C [xNSE] 13 rfl ⟨rfl, by decide, t3_68, Or.inl ⟨rfl, rfl⟩⟩ ?_
    refine bv_astore 15 rfl C d_L_address_13 (by decide) ?_
    refine bv_iconst (v := nI 1) 16 rfl C d_L_address_15 (by decide) ?_
    exact bv_ireturn C rfl d_L_address_16 (by decide) (by decide) ⟨rfl, rfl, fun _ _ _ => rfl, _, rfl, rfl⟩
end bWr

section bQ7
variable {l : Launch} {dd : bD} {ad : Nat → Nat} {w : Nat → va_E}
theorem j_L_begin {b q : Int32} (hlt : bOff l) (hI : II dd ad w) : bK l dd y_L_begin 8 125 3 18 [.ref (ad 0), .int b, .int q, .ref (ad 323)] ad w 324 (bJ dd ad vI) (bNo) := by
  obtain ⟨V, hV, h0⟩ := hI.k0 (k := 0) (by decide) (by decide)
  refine bK.startH [(0, .ref (ad 0)), (1, .int b), (2, .int q), (3, .ref (ad 323))] (by decide) t2_53 (Nat.le_of_ble_eq_true rfl) rfl (fun p e s m args below meth c A hnm C => ?_)
  refine bv_aload_n 1 rfl C d_L_begin_0 rfl ?_
  refine bv_iconst (v := nI 0) 2 rfl C d_L_begin_1 (by decide) ?_
  refine bv_aload_n 3 rfl C d_L_begin_2 rfl ?_
  refine bv_iload_n 4 rfl C d_L_begin_3 rfl ?_
  refine bv_iload_n 5 rfl C d_L_begin_4 rfl ?_
  refine bv_call (rest := [.int (nI 0), .ref (ad 323)]) 8 rfl C d_L_begin_5 (j_B_begin hlt hI (b := b) (q := q)) i_B_begin t1_1 (fun H locs ls hP => bs_V (av := [.int b, .int q]) 0 C i_B_begin t2_57 t2_58 t2_59 (by omega) rfl h0 rfl (by decide) rfl rfl d_L_begin_5 H locs ls hP) ⟨by first | decide | omega, by first | decide | omega⟩ (by decide) (by decide) (Nat.le_of_ble_eq_true rfl) (fun v ad1 w1 N1 hpo => ?_) (fun x Cn ad' w' N' hth => ?_)
  · obtain ⟨rfl, rfl, hI1, r, rfl⟩ := hpo
    obtain ⟨g, hg⟩ := hI1.k323 (k := 323) (by decide) (by decide)
    refine bv_i2l 9 rfl C d_L_begin_8 rfl ?_
    refine bv_last 323 0 10 rfl C (by omega) rfl hg rfl (by decide) (by decide) d_L_begin_9 ?_
    refine bv_any (hI1.up ((sh_323 (by decide)).mpr ⟨_, rfl⟩)) (fun w2 hI2 => ?_)
    refine bv_goto 25 C d_L_begin_10 (by decide) ?_
    refine bv_iconst (v := nI 0) 26 rfl C d_L_begin_25 (by decide) ?_
    exact bv_ireturn C rfl d_L_begin_26 (by decide) (by decide) ⟨rfl, rfl, hI2, _, rfl⟩
  · obtain ⟨rfl, rfl, hI1, hx⟩ := hth
    rcases hx with rfl | rfl | rfl
    · refine bt_catch C [xISE, xIAE, xUOE] 13 rfl ⟨rfl, by decide, t2_54, Or.inl ⟨rfl, rfl⟩⟩ ?_
      refine bv_astore 15 rfl C d_L_begin_13 (by decide) ?_
      refine bv_iconst (v := nI 1) 16 rfl C d_L_begin_15 (by decide) ?_
      exact bv_ireturn C rfl d_L_begin_16 (by decide) (by decide) ⟨rfl, rfl, hI1, _, rfl⟩
    · refine bt_catch C [xISE, xIAE, xUOE] 17 rfl ⟨rfl, by decide, t2_54, Or.inr ⟨by decide, rfl, by decide, t2_55, Or.inl ⟨rfl, rfl⟩⟩⟩ ?_
      refine bv_astore 19 rfl C d_L_begin_17 (by decide) ?_
      refine bv_iconst (v := nI 2) 20 rfl C d_L_begin_19 (by decide) ?_
      exact bv_ireturn C rfl d_L_begin_20 (by decide) (by decide) ⟨rfl, rfl, hI1, _, rfl⟩
    · refine bt_catch C [xISE, xIAE, xUOE] 21 rfl ⟨rfl, by decide, t2_54, Or.inr ⟨by decide, rfl, by decide, t2_55, Or.inr ⟨by decide, rfl, by decide, t2_56, Or.inl ⟨rfl, rfl⟩⟩⟩⟩ ?_
      refine bv_astore 23 rfl C d_L_begin_21 (by decide) ?_
      refine bv_iconst (v := nI 3) 24 rfl C d_L_begin_23 (by decide) ?_
      exact bv_ireturn C rfl d_L_begin_24 (by decide) (by decide) ⟨rfl, rfl, hI1, _, rfl⟩
theorem j_L_part {x y z : Int32} {a b c0 : Int64} (hlt : bOff l) (hI : II dd ad w) : bK l dd y_L_part 9 167 7 42 [.ref (ad 0), .int x, .int y, .int z, .long a, .long b, .long c0, .ref (ad 323)] ad w 324 (bJ dd ad vI) (bNo) := by
  obtain ⟨V, hV, h0⟩ := hI.k0 (k := 0) (by decide) (by decide)
  refine bK.startH [(0, .ref (ad 0)), (1, .int x), (2, .int y), (3, .int z), (4, .long a), (6, .long b), (8, .long c0), (10, .ref (ad 323))] (by decide) t2_184 (Nat.le_of_ble_eq_true rfl) rfl (fun p e s m args below meth c A hnm C => ?_)
  refine bv_aload 2 rfl C d_L_part_0 rfl ?_
  refine bv_iconst (v := nI 0) 3 rfl C d_L_part_2 (by decide) ?_
  refine bv_aload_n 4 rfl C d_L_part_3 rfl ?_
  refine bv_iload_n 5 rfl C d_L_part_4 rfl ?_
  refine bv_iload_n 6 rfl C d_L_part_5 rfl ?_
  refine bv_iload_n 7 rfl C d_L_part_6 rfl ?_
  refine bv_lload 9 rfl C d_L_part_7 rfl ?_
  refine bv_lload 11 rfl C d_L_part_9 rfl ?_
  refine bv_lload 13 rfl C d_L_part_11 rfl ?_
  refine bv_call (rest := [.int (nI 0), .ref (ad 323)]) 16 rfl C d_L_part_13 (j_B_part hlt hI (x := x) (y := y) (z := z) (a := a) (b := b) (c0 := c0)) i_B_part t1_1 (fun H locs ls hP => bs_V (av := [.int x, .int y, .int z, .long a, .long b, .long c0]) 0 C i_B_part t2_186 t2_187 t2_188 (by omega) rfl h0 rfl (by decide) rfl rfl d_L_part_13 H locs ls hP) ⟨by first | decide | omega, by first | decide | omega⟩ (by decide) (by decide) (Nat.le_of_ble_eq_true rfl) (fun v ad1 w1 N1 hpo => ?_) (fun x Cn ad' w' N' hth => ?_)
  · obtain ⟨rfl, rfl, hI1, r, rfl⟩ := hpo
    obtain ⟨g, hg⟩ := hI1.k323 (k := 323) (by decide) (by decide)
    refine bv_i2l 17 rfl C d_L_part_16 rfl ?_
    refine bv_last 323 0 18 rfl C (by omega) rfl hg rfl (by decide) (by decide) d_L_part_17 ?_
    refine bv_any (hI1.up ((sh_323 (by decide)).mpr ⟨_, rfl⟩)) (fun w2 hI2 => ?_)
    refine bv_goto 37 C d_L_part_18 (by decide) ?_
    refine bv_iconst (v := nI 0) 38 rfl C d_L_part_37 (by decide) ?_
    exact bv_ireturn C rfl d_L_part_38 (by decide) (by decide) ⟨rfl, rfl, hI2, _, rfl⟩
  · obtain ⟨rfl, rfl, hI1, hx⟩ := hth
    rcases hx with rfl | rfl | rfl | rfl
    · refine bt_catch C [xISE, xIAE, xIOB, xUOE] 21 rfl ⟨rfl, by decide, t2_54, Or.inl ⟨rfl, rfl⟩⟩ ?_
      refine bv_astore 23 rfl C d_L_part_21 (by decide) ?_
      refine bv_iconst (v := nI 1) 24 rfl C d_L_part_23 (by decide) ?_
      exact bv_ireturn C rfl d_L_part_24 (by decide) (by decide) ⟨rfl, rfl, hI1, _, rfl⟩
    · refine bt_catch C [xISE, xIAE, xIOB, xUOE] 25 rfl ⟨rfl, by decide, t2_54, Or.inr ⟨by decide, rfl, by decide, t2_55, Or.inl ⟨rfl, rfl⟩⟩⟩ ?_
      refine bv_astore 27 rfl C d_L_part_25 (by decide) ?_
      refine bv_iconst (v := nI 2) 28 rfl C d_L_part_27 (by decide) ?_
      exact bv_ireturn C rfl d_L_part_28 (by decide) (by decide) ⟨rfl, rfl, hI1, _, rfl⟩
    · refine bt_catch C [xISE, xIAE, xIOB, xUOE] 29 rfl ⟨rfl, by decide, t2_54, Or.inr ⟨by decide, rfl, by decide, t2_55, Or.inr ⟨by decide, rfl, by decide, t2_185, Or.inl ⟨rfl, rfl⟩⟩⟩⟩ ?_
      refine bv_astore 31 rfl C d_L_part_29 (by decide) ?_
      refine bv_iconst (v := nI 3) 32 rfl C d_L_part_31 (by decide) ?_
      exact bv_ireturn C rfl d_L_part_32 (by decide) (by decide) ⟨rfl, rfl, hI1, _, rfl⟩
    · refine bt_catch C [xISE, xIAE, xIOB, xUOE] 33 rfl ⟨rfl, by decide, t2_54, Or.inr ⟨by decide, rfl, by decide, t2_55, Or.inr ⟨by decide, rfl, by decide, t2_185, Or.inr ⟨by decide, rfl, by decide, t2_56, Or.inl ⟨rfl, rfl⟩⟩⟩⟩⟩ ?_
      refine bv_astore 35 rfl C d_L_part_33 (by decide) ?_
      refine bv_iconst (v := nI 4) 36 rfl C d_L_part_35 (by decide) ?_
      exact bv_ireturn C rfl d_L_part_36 (by decide) (by decide) ⟨rfl, rfl, hI1, _, rfl⟩
theorem j_L_complete {x : Int32} (hlt : bOff l) (hI : II dd ad w) : bK l dd y_L_complete 8 125 4 24 [.ref (ad 0), .int x, .ref (ad 323)] ad w 324 (bJ dd ad vI) (bNo) := by
  obtain ⟨V, hV, h0⟩ := hI.k0 (k := 0) (by decide) (by decide)
  refine bK.startH [(0, .ref (ad 0)), (1, .int x), (2, .ref (ad 323))] (by decide) t3_17 (Nat.le_of_ble_eq_true rfl) rfl (fun p e s m args below meth c A hnm C => ?_)
  refine bv_aload_n 1 rfl C d_L_complete_0 rfl ?_
  refine bv_iconst (v := nI 0) 2 rfl C d_L_complete_1 (by decide) ?_
  refine bv_aload_n 3 rfl C d_L_complete_2 rfl ?_
  refine bv_iload_n 4 rfl C d_L_complete_3 rfl ?_
  refine bv_call (rest := [.int (nI 0), .ref (ad 323)]) 7 rfl C d_L_complete_4 (j_B_complete hlt hI (x := x)) i_B_complete t1_1 (fun H locs ls hP => bs_V (av := [.int x]) 0 C i_B_complete t3_18 t3_19 t3_20 (by omega) rfl h0 rfl (by decide) rfl rfl d_L_complete_4 H locs ls hP) ⟨by first | decide | omega, by first | decide | omega⟩ (by decide) (by decide) (Nat.le_of_ble_eq_true rfl) (fun v ad1 w1 N1 hpo => ?_) (fun x Cn ad' w' N' hth => ?_)
  · obtain ⟨rfl, rfl, hI1, r, rfl⟩ := hpo
    obtain ⟨g, hg⟩ := hI1.k323 (k := 323) (by decide) (by decide)
    refine bv_i2l 8 rfl C d_L_complete_7 rfl ?_
    refine bv_last 323 0 9 rfl C (by omega) rfl hg rfl (by decide) (by decide) d_L_complete_8 ?_
    refine bv_any (hI1.up ((sh_323 (by decide)).mpr ⟨_, rfl⟩)) (fun w2 hI2 => ?_)
    refine bv_goto 21 C d_L_complete_9 (by decide) ?_
    refine bv_iconst (v := nI 0) 22 rfl C d_L_complete_21 (by decide) ?_
    exact bv_ireturn C rfl d_L_complete_22 (by decide) (by decide) ⟨rfl, rfl, hI2, _, rfl⟩
  · obtain ⟨rfl, rfl, hI1, hx⟩ := hth
    rcases hx with rfl | rfl | rfl
    · refine bt_catch C [xISE, xIAE, xUOE] 12 rfl ⟨rfl, by decide, t2_54, Or.inl ⟨rfl, rfl⟩⟩ ?_
      refine bv_astore_n 13 rfl C d_L_complete_12 (by decide) ?_
      refine bv_iconst (v := nI 1) 14 rfl C d_L_complete_13 (by decide) ?_
      exact bv_ireturn C rfl d_L_complete_14 (by decide) (by decide) ⟨rfl, rfl, hI1, _, rfl⟩
    · refine bt_catch C [xISE, xIAE, xUOE] 15 rfl ⟨rfl, by decide, t2_54, Or.inr ⟨by decide, rfl, by decide, t2_55, Or.inl ⟨rfl, rfl⟩⟩⟩ ?_
      refine bv_astore_n 16 rfl C d_L_complete_15 (by decide) ?_
      refine bv_iconst (v := nI 2) 17 rfl C d_L_complete_16 (by decide) ?_
      exact bv_ireturn C rfl d_L_complete_17 (by decide) (by decide) ⟨rfl, rfl, hI1, _, rfl⟩
    · refine bt_catch C [xISE, xIAE, xUOE] 18 rfl ⟨rfl, by decide, t2_54, Or.inr ⟨by decide, rfl, by decide, t2_55, Or.inr ⟨by decide, rfl, by decide, t2_56, Or.inl ⟨rfl, rfl⟩⟩⟩⟩ ?_
      refine bv_astore_n 19 rfl C d_L_complete_18 (by decide) ?_
      refine bv_iconst (v := nI 3) 20 rfl C d_L_complete_19 (by decide) ?_
      exact bv_ireturn C rfl d_L_complete_20 (by decide) (by decide) ⟨rfl, rfl, hI1, _, rfl⟩
theorem j_L_abort {x : Int32} (hlt : bOff l) (hI : II dd ad w) : bK l dd y_L_abort 8 125 3 18 [.ref (ad 0), .int x] ad w 324 (bJ dd ad vI) (bNo) := by
  obtain ⟨V, hV, h0⟩ := hI.k0 (k := 0) (by decide) (by decide)
  refine bK.startH [(0, .ref (ad 0)), (1, .int x)] (by decide) t3_30 (Nat.le_of_ble_eq_true rfl) rfl (fun p e s m args below meth c A hnm C => ?_)
  refine bv_aload_n 1 rfl C d_L_abort_0 rfl ?_
  refine bv_iload_n 2 rfl C d_L_abort_1 rfl ?_
  refine bv_call (rest := []) 5 rfl C d_L_abort_2 (j_B_abort hlt hI (x := x)) i_B_abort t1_1 (fun H locs ls hP => bs_V (av := [.int x]) 0 C i_B_abort t3_31 t3_32 t3_33 (by omega) rfl h0 rfl (by decide) rfl rfl d_L_abort_2 H locs ls hP) ⟨by first | decide | omega, by first | decide | omega⟩ (by decide) (by decide) (Nat.le_of_ble_eq_true rfl) (fun v ad1 w1 N1 hpo => ?_) (fun x Cn ad' w' N' hth => ?_)
  · obtain ⟨rfl, rfl, hI1, rfl⟩ := hpo
    refine bv_goto 17 C d_L_abort_5 (by decide) ?_
    refine bv_iconst (v := nI 0) 18 rfl C d_L_abort_17 (by decide) ?_
    exact bv_ireturn C rfl d_L_abort_18 (by decide) (by decide) ⟨rfl, rfl, hI1, _, rfl⟩
  · obtain ⟨rfl, rfl, hI1, hx⟩ := hth
    rcases hx with rfl | rfl | rfl
    · refine bt_catch C [xISE, xIAE, xUOE] 8 rfl ⟨rfl, by decide, t2_54, Or.inl ⟨rfl, rfl⟩⟩ ?_
      refine bv_astore_n 9 rfl C d_L_abort_8 (by decide) ?_
      refine bv_iconst (v := nI 1) 10 rfl C d_L_abort_9 (by decide) ?_
      exact bv_ireturn C rfl d_L_abort_10 (by decide) (by decide) ⟨rfl, rfl, hI1, _, rfl⟩
    · refine bt_catch C [xISE, xIAE, xUOE] 11 rfl ⟨rfl, by decide, t2_54, Or.inr ⟨by decide, rfl, by decide, t2_55, Or.inl ⟨rfl, rfl⟩⟩⟩ ?_
      refine bv_astore_n 12 rfl C d_L_abort_11 (by decide) ?_
      refine bv_iconst (v := nI 2) 13 rfl C d_L_abort_12 (by decide) ?_
      exact bv_ireturn C rfl d_L_abort_13 (by decide) (by decide) ⟨rfl, rfl, hI1, _, rfl⟩
    · refine bt_catch C [xISE, xIAE, xUOE] 14 rfl ⟨rfl, by decide, t2_54, Or.inr ⟨by decide, rfl, by decide, t2_55, Or.inr ⟨by decide, rfl, by decide, t2_56, Or.inl ⟨rfl, rfl⟩⟩⟩⟩ ?_
      refine bv_astore_n 15 rfl C d_L_abort_14 (by decide) ?_
      refine bv_iconst (v := nI 3) 16 rfl C d_L_abort_15 (by decide) ?_
      exact bv_ireturn C rfl d_L_abort_16 (by decide) (by decide) ⟨rfl, rfl, hI1, _, rfl⟩
theorem j_L_delete {x : Int32} (hlt : bOff l) (hI : II dd ad w) : bK l dd y_L_delete 8 124 2 12 [.ref (ad 0), .int x, .ref (ad 323)] ad w 324 (bJ dd ad vI) (bNo) := by
  obtain ⟨V, hV, h0⟩ := hI.k0 (k := 0) (by decide) (by decide)
  refine bK.startH [(0, .ref (ad 0)), (1, .int x), (2, .ref (ad 323))] (by decide) t3_37 (Nat.le_of_ble_eq_true rfl) rfl (fun p e s m args below meth c A hnm C => ?_)
  refine bv_aload_n 1 rfl C d_L_delete_0 rfl ?_
  refine bv_iconst (v := nI 0) 2 rfl C d_L_delete_1 (by decide) ?_
  refine bv_aload_n 3 rfl C d_L_delete_2 rfl ?_
  refine bv_iload_n 4 rfl C d_L_delete_3 rfl ?_
  refine bv_call (rest := [.int (nI 0), .ref (ad 323)]) 7 rfl C d_L_delete_4 (j_B_delete hlt hI (x := x)) i_B_delete t1_1 (fun H locs ls hP => bs_V (av := [.int x]) 0 C i_B_delete t3_38 t3_39 t3_40 (by omega) rfl h0 rfl (by decide) rfl rfl d_L_delete_4 H locs ls hP) ⟨by first | decide | omega, by first | decide | omega⟩ (by decide) (by decide) (Nat.le_of_ble_eq_true rfl) (fun v ad1 w1 N1 hpo => ?_) (fun x Cn ad' w' N' hth => ?_)
  · obtain ⟨rfl, rfl, hI1, r, rfl⟩ := hpo
    obtain ⟨g, hg⟩ := hI1.k323 (k := 323) (by decide) (by decide)
    have go : ∀ u : Int64, bV p l e { frames := 8, cells := 2, slots := 12, locals := 124 } s m args below meth c dd A 4 2 12 (bJ dd ad vI) (bNo) 15 (bO []) [.long u, .int (nI 0), .ref (ad 323)] ad w1 324 2 12 := by
      intro u
      refine bv_last 323 0 16 rfl C (by omega) rfl hg rfl (by decide) (by decide) d_L_delete_15 ?_
      refine bv_any (hI1.up ((sh_323 (by decide)).mpr ⟨_, rfl⟩)) (fun w2 hI2 => ?_)
      refine bv_goto 25 C d_L_delete_16 (by decide) ?_
      refine bv_iconst (v := nI 0) 26 rfl C d_L_delete_25 (by decide) ?_
      exact bv_ireturn C rfl d_L_delete_26 (by decide) (by decide) ⟨rfl, rfl, hI2, _, rfl⟩
    refine bv_if_eq 14 10 rfl C d_L_delete_7 (by decide) (fun x1 => ?_) (fun x1 => ?_)
    · refine bv_lconst (v := 0) 15 rfl C d_L_delete_14 (by decide) ?_
      exact bv_wk [] trivial (go _)
    · refine bv_lconst (v := 1) 11 rfl C d_L_delete_10 (by decide) ?_
      refine bv_goto 15 C d_L_delete_11 (by decide) ?_
      exact bv_wk [] trivial (go _)
  · obtain ⟨rfl, rfl, hI1, hx⟩ := hth
    rcases hx with rfl | rfl
    · refine bt_catch C [xISE, xUOE] 19 rfl ⟨rfl, by decide, t2_54, Or.inl ⟨rfl, rfl⟩⟩ ?_
      refine bv_astore_n 20 rfl C d_L_delete_19 (by decide) ?_
      refine bv_iconst (v := nI 1) 21 rfl C d_L_delete_20 (by decide) ?_
      exact bv_ireturn C rfl d_L_delete_21 (by decide) (by decide) ⟨rfl, rfl, hI1, _, rfl⟩
    · refine bt_catch C [xISE, xUOE] 22 rfl ⟨rfl, by decide, t2_54, Or.inr ⟨by decide, rfl, by decide, t2_56, Or.inl ⟨rfl, rfl⟩⟩⟩ ?_
      refine bv_astore_n 23 rfl C d_L_delete_22 (by decide) ?_
      refine bv_iconst (v := nI 2) 24 rfl C d_L_delete_23 (by decide) ?_
      exact bv_ireturn C rfl d_L_delete_24 (by decide) (by decide) ⟨rfl, rfl, hI1, _, rfl⟩
theorem j_L_collect (hlt : bOff l) (hI : II dd ad w) : bK l dd y_L_collect 8 124 49 294 [.ref (ad 0), .ref (ad 323)] ad w 324 (bJ dd ad vI) (bNo) := by
  obtain ⟨V, hV, h0⟩ := hI.k0 (k := 0) (by decide) (by decide)
  refine bK.startH [(0, .ref (ad 0)), (1, .ref (ad 323))] (by decide) t3_44 (Nat.le_of_ble_eq_true rfl) rfl (fun p e s m args below meth c A hnm C => ?_)
  refine bv_aload_n 1 rfl C d_L_collect_0 rfl ?_
  refine bv_iconst (v := nI 0) 2 rfl C d_L_collect_1 (by decide) ?_
  refine bv_aload_n 3 rfl C d_L_collect_2 rfl ?_
  refine bv_call (rest := [.int (nI 0), .ref (ad 323)]) 6 rfl C d_L_collect_3 (j_B_collect hlt hI) i_B_collect t1_1 (fun H locs ls hP => bs_V (av := []) 0 C i_B_collect t3_45 t3_46 t3_47 (by omega) rfl h0 rfl (by decide) rfl rfl d_L_collect_3 H locs ls hP) ⟨by first | decide | omega, by first | decide | omega⟩ (by decide) (by decide) (Nat.le_of_ble_eq_true rfl) (fun v ad1 w1 N1 hpo => ?_) (fun x Cn ad' w' N' hth => ?_)
  · obtain ⟨rfl, rfl, hI1, r, rfl⟩ := hpo
    obtain ⟨g, hg⟩ := hI1.k323 (k := 323) (by decide) (by decide)
    refine bv_i2l 7 rfl C d_L_collect_6 rfl ?_
    refine bv_last 323 0 8 rfl C (by omega) rfl hg rfl (by decide) (by decide) d_L_collect_7 ?_
    refine bv_any (hI1.up ((sh_323 (by decide)).mpr ⟨_, rfl⟩)) (fun w2 hI2 => ?_)
    refine bv_goto 17 C d_L_collect_8 (by decide) ?_
    refine bv_iconst (v := nI 0) 18 rfl C d_L_collect_17 (by decide) ?_
    exact bv_ireturn C rfl d_L_collect_18 (by decide) (by decide) ⟨rfl, rfl, hI2, _, rfl⟩
  · obtain ⟨rfl, rfl, hI1, hx⟩ := hth
    rcases hx with rfl | rfl
    · refine bt_catch C [xISE, xUOE] 11 rfl ⟨rfl, by decide, t2_54, Or.inl ⟨rfl, rfl⟩⟩ ?_
      refine bv_astore_n 12 rfl C d_L_collect_11 (by decide) ?_
      refine bv_iconst (v := nI 1) 13 rfl C d_L_collect_12 (by decide) ?_
      exact bv_ireturn C rfl d_L_collect_13 (by decide) (by decide) ⟨rfl, rfl, hI1, _, rfl⟩
    · refine bt_catch C [xISE, xUOE] 14 rfl ⟨rfl, by decide, t2_54, Or.inr ⟨by decide, rfl, by decide, t2_56, Or.inl ⟨rfl, rfl⟩⟩⟩ ?_
      refine bv_astore_n 15 rfl C d_L_collect_14 (by decide) ?_
      refine bv_iconst (v := nI 2) 16 rfl C d_L_collect_15 (by decide) ?_
      exact bv_ireturn C rfl d_L_collect_16 (by decide) (by decide) ⟨rfl, rfl, hI1, _, rfl⟩
theorem j_L_address {x y : Int32} (hlt : bOff l) (hI : II dd ad w) : bK l dd y_L_address 7 104 1 6 [.ref (ad 0), .int x, .int y, .ref (ad 323)] ad w 324 (bJ dd ad vI) (bNo) := by
  obtain ⟨V, hV, h0⟩ := hI.k0 (k := 0) (by decide) (by decide)
  refine bK.startH [(0, .ref (ad 0)), (1, .int x), (2, .int y), (3, .ref (ad 323))] (by decide) t3_67 (Nat.le_of_ble_eq_true rfl) rfl (fun p e s m args below meth c A hnm C => ?_)
  refine bv_aload_n 1 rfl C d_L_address_0 rfl ?_
  refine bv_iconst (v := nI 0) 2 rfl C d_L_address_1 (by decide) ?_
  refine bv_aload_n 3 rfl C d_L_address_2 rfl ?_
  refine bv_iload_n 4 rfl C d_L_address_3 rfl ?_
  refine bv_iload_n 5 rfl C d_L_address_4 rfl ?_
  refine bv_call (rest := [.int (nI 0), .ref (ad 323)]) 8 rfl C d_L_address_5 (j_B_address hlt hI (x := x) (y := y)) i_B_address t1_1 (fun H locs ls hP => bs_V (av := [.int x, .int y]) 0 C i_B_address t3_69 t3_70 t3_71 (by omega) rfl h0 rfl (by decide) rfl rfl d_L_address_5 H locs ls hP) ⟨by first | decide | omega, by first | decide | omega⟩ (by decide) (by decide) (Nat.le_of_ble_eq_true rfl) (fun v ad1 w1 N1 hpo => ?_) (fun x Cn ad' w' N' hth => ?_)
  · obtain ⟨rfl, rfl, rfl, r, rfl⟩ := hpo
    obtain ⟨g, hg⟩ := hI.k323 (k := 323) (by decide) (by decide)
    refine bv_i2l 9 rfl C d_L_address_8 rfl ?_
    refine bv_last 323 0 10 rfl C (by omega) rfl hg rfl (by decide) (by decide) d_L_address_9 ?_
    refine bv_any (hI.up ((sh_323 (by decide)).mpr ⟨_, rfl⟩)) (fun w2 hI2 => ?_)
    refine bv_goto 17 C d_L_address_10 (by decide) ?_
    refine bv_iconst (v := nI 0) 18 rfl C d_L_address_17 (by decide) ?_
    exact bv_ireturn C rfl d_L_address_18 (by decide) (by decide) ⟨rfl, rfl, hI2, _, rfl⟩
  · obtain ⟨rfl, rfl, rfl, rfl⟩ := hth
    refine bt_catch C [xNSE] 13 rfl ⟨rfl, by decide, t3_68, Or.inl ⟨rfl, rfl⟩⟩ ?_
    refine bv_astore 15 rfl C d_L_address_13 (by decide) ?_
    refine bv_iconst (v := nI 1) 16 rfl C d_L_address_15 (by decide) ?_
    exact bv_ireturn C rfl d_L_address_16 (by decide) (by decide) ⟨rfl, rfl, hI, _, rfl⟩
theorem j_L_cutAfter (hlt : bOff l) (hI : II dd ad w) {x : Int32} : bK l dd y_L_cutAfter 7 103 1 6 [.ref (ad 0), .int x] ad w 324 (bJ dd ad (fun v => ∃ r : Int32, v = some (.int r) ∧ ((r = nI 0 ∧ (¬ x < 0 ∧ x ≤ nI 1000)) ∨ (r = nI 1 ∧ ¬ (¬ x < 0 ∧ x ≤ nI 1000))))) bNo := by
  obtain ⟨V, hV, h0⟩ := hI.k0 (k := 0) (by decide) (by decide)
  obtain ⟨px, py, pz, p1⟩ := hI.k1 (k := 1) (by decide) (by decide)
  refine (ct_L_cutAfter hlt (by decide) h0 p1 (x := x)).mono (fun v ad' w' N' h => ?_) (fun _ _ _ _ h => h)
  obtain ⟨rfl, rfl, h⟩ := h
  rcases h with ⟨rfl, hx, rfl⟩ | ⟨rfl, hx, rfl⟩
  · exact ⟨rfl, rfl, hI.up ((sh_1 (by decide)).mpr ⟨_, _, _, rfl⟩), _, rfl, Or.inl ⟨rfl, hx⟩⟩
  · exact ⟨rfl, rfl, hI, _, rfl, Or.inr ⟨rfl, hx⟩⟩
theorem j_B_recover (hI : II dd ad w) : bK l dd y_B_recover 1 20 0 0 [.ref (ad 0)] ad w 324 (bJ dd ad vI) bNo := by
  obtain ⟨V, hV, h0⟩ := hI.k0 (k := 0) (by decide) (by decide)
  obtain ⟨px, py, pz, p1⟩ := hI.k1 (k := 1) (by decide) (by decide)
  refine (ct_B_recover (by decide) h0 p1).mono (fun v ad' w' N' h => ?_) (fun _ _ _ _ h => h)
  obtain ⟨rfl, rfl, h⟩ := h
  rcases h with ⟨-, rfl, rfl⟩ | ⟨-, rfl, rfl⟩
  · exact ⟨rfl, rfl, hI, _, rfl⟩
  · exact ⟨rfl, rfl, hI.up ((sh_1 (by decide)).mpr ⟨_, _, _, rfl⟩), _, rfl⟩
end bQ7

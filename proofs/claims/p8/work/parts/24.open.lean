section bOp
variable {l : Launch} {dd : bD} {ad : Nat → Nat} {w : Nat → va_E} {N : Nat} {ve : Int32} {so sb sk : Nat → Int32}
/-- which session is meant, and that it is under way -/
def bOpn (so : Nat → Int32) (x : Int32) : Prop := ∃ i, i < 5 ∧ x = nI i ∧ ¬ so i = 0
theorem ct_B_openSession (hlt : bOff l) (hN : 305 ≤ N) (h0 : w 0 = oB ad ve) (hS : bSs dd ad w so sb sk) {x : Int32} : bK l dd y_B_openSession 6 82 1 6 [.ref (ad 0), .int x] ad w N (bSame ad w N (fun v => ∃ i, i < 5 ∧ x = nI i ∧ ¬ so i = 0 ∧ v = some (.ref (ad (109 + 14 * i))))) (bSameT ad w N (fun Cn => Cn = xIAE ∧ ¬ bOpn so x)) := by
  obtain ⟨⟨f, hf, hf'⟩, hs⟩ := hS
  refine bK.start [(0, .ref (ad 0)), (1, .int x)] (by decide) t2_193 (Nat.le_of_ble_eq_true rfl) rfl (fun p e s m args below meth c A hnm C => ?_)
  have thr : ¬ bOpn so x → bV p l e { frames := 6, cells := 1, slots := 6, locals := 82 } s m args below meth c dd A 2 1 6 (bSame ad w N (fun v => ∃ i, i < 5 ∧ x = nI i ∧ ¬ so i = 0 ∧ v = some (.ref (ad (109 + 14 * i))))) (bSameT ad w N (fun Cn => Cn = xIAE ∧ ¬ bOpn so x)) 21 (bO [(0, .ref (ad 0)), (1, .int x)]) [] ad w N 0 0 := by
    intro hn
    exact bv_throw (names := ["java/lang/RuntimeException", "java/lang/Exception"]) hlt C d_B_openSession_21 d_B_openSession_24 d_B_openSession_25 d_B_openSession_27 d_B_openSession_30 t2_142 t2_143 t1_13 (show ("BlobStore", 207, "no such session is open") ∈ bStr by simp) (by decide) (by decide) ow_B_86 rfl (by first | decide | omega) (by first | decide | omega) (by first | decide | omega) (by first | decide | omega) (by first | decide | omega) (by first | decide | omega) ⟨rfl, rfl, rfl, rfl, hn⟩
  refine bv_iload_n 1 rfl C d_B_openSession_0 rfl ?_
  refine bv_if_lt 21 4 rfl C d_B_openSession_1 (by decide) (fun x1 => ?_) (fun x1 => ?_)
  · refine thr ?_
    rintro ⟨i, hi, rfl, -⟩
    exact nI_pos (by omega) x1
  · refine bv_iload_n 5 rfl C d_B_openSession_4 rfl ?_
    refine bv_iconst (v := nI 5) 6 rfl C d_B_openSession_5 (by decide) ?_
    refine bv_icmp_ge 21 9 rfl C d_B_openSession_6 (by decide) (fun x2 => ?_) (fun x2 => ?_)
    · refine thr ?_
      rintro ⟨i, hi, rfl, -⟩
      exact nI_ge hi (by decide) x2
    · obtain ⟨i, hi, rfl⟩ : ∃ i : Nat, i < 5 ∧ x = nI i := by
        rcases pk_ix x (show 5 < 2 ^ 31 by decide) with h | h | h
        · exact absurd h x1
        · exact absurd h x2
        · exact h
      refine bv_aload_n 10 rfl C d_B_openSession_9 rfl ?_
      refine bv_get 0 3 13 rfl C k_B (by omega) rfl h0 (by decide) t1_149 rfl d_B_openSession_10 ?_
      refine bv_iload_n 14 rfl C d_B_openSession_13 rfl ?_
      refine bv_aald 5 5 i 15 rfl C rfl (by omega) rfl hf rfl (by omega) (by decide) d_B_openSession_14 (hf' i (by omega)) ?_
      refine bv_getN (109 + 14 * i) 0 18 rfl C k_S (by omega) rfl (hs i (by omega)) (by decide) n1_105 rfl d_B_openSession_15 ?_
      refine bv_if_ne 31 21 rfl C d_B_openSession_18 (by decide) (fun x3 => ?_) (fun x3 => ?_)
      · refine bv_aload_n 32 rfl C d_B_openSession_31 rfl ?_
        refine bv_get 0 3 35 rfl C k_B (by omega) rfl h0 (by decide) t1_149 rfl d_B_openSession_32 ?_
        refine bv_iload_n 36 rfl C d_B_openSession_35 rfl ?_
        refine bv_aald 5 5 i 37 rfl C rfl (by omega) rfl hf rfl (by omega) (by decide) d_B_openSession_36 (hf' i (by omega)) ?_
        exact bv_areturn C rfl (Or.inr ⟨_, rfl⟩) d_B_openSession_37 (by decide) (by decide) ⟨rfl, rfl, rfl, i, hi, rfl, x3, rfl⟩
      · refine thr ?_
        rintro ⟨j, hj, hji, hjo⟩
        obtain rfl : i = j := (nI_eq (by omega) (by omega)).mp hji
        exact hjo x3
/-- part, complete, abort where no session is under way -/
theorem ct_B_part (hlt : bOff l) (hN : 305 ≤ N) (h0 : w 0 = oB ad ve) (hS : bSs dd ad w so sb sk) {wr cu : Int32} (h1 : w 1 = .inr (1, [.int wr, .int cu, .int (nI 0)])) (hso : ∀ j, j < 5 → so j = 0) {x y z : Int32} {a b c0 : Int64} :
    bK l dd y_B_part 7 103 2 12 [.ref (ad 0), .int x, .int y, .int z, .long a, .long b, .long c0] ad w N (fun _ _ _ _ => False) (bSameT ad w N (fun Cn => Cn = xIAE)) := by
  refine bK.start [(0, .ref (ad 0)), (1, .int x), (2, .int y), (3, .int z), (4, .long a), (6, .long b), (8, .long c0)] (by decide) t2_189 (Nat.le_of_ble_eq_true rfl) rfl (fun p e s m args below meth c A hnm C => ?_)
  refine bv_aload_n 1 rfl C d_B_part_0 rfl ?_
  refine bv_get 0 0 4 rfl C k_B (by omega) rfl h0 (by decide) t1_146 rfl d_B_part_1 ?_
  refine bv_call (rest := []) 7 rfl C d_B_part_4 (ct_P_requireOn hlt (k := 1) (by omega) h1) i_P_requireOn t1_2 (fun H locs ls hP => bs_VN (av := []) 1 C i_P_requireOn n2_61 t2_63 s_18 (by omega) rfl h1 rfl (by decide) rfl rfl d_B_part_4 H locs ls hP) ⟨by first | decide | omega, by first | decide | omega⟩ (by decide) (by decide) (Nat.le_of_ble_eq_true rfl) (fun v ad1 w1 N1 hpo => ?_) (fun x Cn ad' w' N' hth => ?_)
  · obtain ⟨rfl, rfl, rfl, rfl, -⟩ := hpo
    refine bv_aload_n 8 rfl C d_B_part_7 rfl ?_
    refine bv_iload_n 9 rfl C d_B_part_8 rfl ?_
    refine bv_call (rest := []) 12 rfl C d_B_part_9 (ct_B_openSession hlt hN h0 hS) i_B_openSession t1_1 (fun H locs ls hP => bs_V (av := [.int x]) 0 C i_B_openSession t2_190 t2_192 s_23 (by omega) rfl h0 rfl (by decide) rfl rfl d_B_part_9 H locs ls hP) ⟨by first | decide | omega, by first | decide | omega⟩ (by decide) (by decide) (Nat.le_of_ble_eq_true rfl) (fun v ad1 w1 N1 hpo => ?_) (fun x Cn ad' w' N' hth => ?_)
    · obtain ⟨-, -, -, i, hi, -, ho, -⟩ := hpo
      exact absurd (hso i hi) ho
    · obtain ⟨rfl, rfl, rfl, rfl, -⟩ := hth
      exact bt_out C rfl (by decide) (by decide) ⟨rfl, rfl, rfl, rfl⟩
  · obtain ⟨-, -, -, -, hz⟩ := hth
    exact absurd rfl hz
theorem ct_B_complete (hlt : bOff l) (hN : 305 ≤ N) (h0 : w 0 = oB ad (nI 0)) (hS : bSs dd ad w so sb sk) {wr cu : Int32} (h1 : w 1 = .inr (1, [.int wr, .int cu, .int (nI 0)])) (hso : ∀ j, j < 5 → so j = 0) {x : Int32} :
    bK l dd y_B_complete 7 103 2 12 [.ref (ad 0), .int x] ad w N (fun _ _ _ _ => False) (bSameT ad w N (fun Cn => Cn = xIAE)) := by
  refine bK.start [(0, .ref (ad 0)), (1, .int x)] (by decide) t3_21 (Nat.le_of_ble_eq_true rfl) rfl (fun p e s m args below meth c A hnm C => ?_)
  refine bv_aload_n 1 rfl C d_B_complete_0 rfl ?_
  refine bv_get 0 0 4 rfl C k_B (by omega) rfl h0 (by decide) t1_146 rfl d_B_complete_1 ?_
  refine bv_call (rest := []) 7 rfl C d_B_complete_4 (ct_P_requireOn hlt (k := 1) (by omega) h1) i_P_requireOn t1_2 (fun H locs ls hP => bs_VN (av := []) 1 C i_P_requireOn n2_61 t2_63 s_18 (by omega) rfl h1 rfl (by decide) rfl rfl d_B_complete_4 H locs ls hP) ⟨by first | decide | omega, by first | decide | omega⟩ (by decide) (by decide) (Nat.le_of_ble_eq_true rfl) (fun v ad1 w1 N1 hpo => ?_) (fun x Cn ad' w' N' hth => ?_)
  · obtain ⟨rfl, rfl, rfl, rfl, -⟩ := hpo
    refine bv_aload_n 8 rfl C d_B_complete_7 rfl ?_
    refine bv_get 0 5 11 rfl C k_B (by omega) rfl h0 (by decide) t1_151 rfl d_B_complete_8 ?_
    refine bv_bipush (v := nI 40) 13 rfl C d_B_complete_11 (by decide) ?_
    refine bv_icmp_lt 26 16 rfl C d_B_complete_13 (by decide) (fun h => ?_) (fun h => absurd (show nI 0 < nI 40 by decide) h)
    refine bv_aload_n 27 rfl C d_B_complete_26 rfl ?_
    refine bv_iload_n 28 rfl C d_B_complete_27 rfl ?_
    refine bv_call (rest := []) 31 rfl C d_B_complete_28 (ct_B_openSession hlt hN h0 hS) i_B_openSession t1_1 (fun H locs ls hP => bs_V (av := [.int x]) 0 C i_B_openSession t2_190 t2_192 s_23 (by omega) rfl h0 rfl (by decide) rfl rfl d_B_complete_28 H locs ls hP) ⟨by first | decide | omega, by first | decide | omega⟩ (by decide) (by decide) (Nat.le_of_ble_eq_true rfl) (fun v ad1 w1 N1 hpo => ?_) (fun x Cn ad' w' N' hth => ?_)
    · obtain ⟨-, -, -, i, hi, -, ho, -⟩ := hpo
      exact absurd (hso i hi) ho
    · obtain ⟨rfl, rfl, rfl, rfl, -⟩ := hth
      exact bt_out C rfl (by decide) (by decide) ⟨rfl, rfl, rfl, rfl⟩
  · obtain ⟨-, -, -, -, hz⟩ := hth
    exact absurd rfl hz
theorem ct_B_abort (hlt : bOff l) (hN : 305 ≤ N) (h0 : w 0 = oB ad ve) (hS : bSs dd ad w so sb sk) {wr cu : Int32} (h1 : w 1 = .inr (1, [.int wr, .int cu, .int (nI 0)])) (hso : ∀ j, j < 5 → so j = 0) {x : Int32} :
    bK l dd y_B_abort 7 103 2 12 [.ref (ad 0), .int x] ad w N (fun _ _ _ _ => False) (bSameT ad w N (fun Cn => Cn = xIAE)) := by
  refine bK.start [(0, .ref (ad 0)), (1, .int x)] (by decide) t3_34 (Nat.le_of_ble_eq_true rfl) rfl (fun p e s m args below meth c A hnm C => ?_)
  refine bv_aload_n 1 rfl C d_B_abort_0 rfl ?_
  refine bv_get 0 0 4 rfl C k_B (by omega) rfl h0 (by decide) t1_146 rfl d_B_abort_1 ?_
  refine bv_call (rest := []) 7 rfl C d_B_abort_4 (ct_P_requireOn hlt (k := 1) (by omega) h1) i_P_requireOn t1_2 (fun H locs ls hP => bs_VN (av := []) 1 C i_P_requireOn n2_61 t2_63 s_18 (by omega) rfl h1 rfl (by decide) rfl rfl d_B_abort_4 H locs ls hP) ⟨by first | decide | omega, by first | decide | omega⟩ (by decide) (by decide) (Nat.le_of_ble_eq_true rfl) (fun v ad1 w1 N1 hpo => ?_) (fun x Cn ad' w' N' hth => ?_)
  · obtain ⟨rfl, rfl, rfl, rfl, -⟩ := hpo
    refine bv_aload_n 8 rfl C d_B_abort_7 rfl ?_
    refine bv_iload_n 9 rfl C d_B_abort_8 rfl ?_
    refine bv_call (rest := []) 12 rfl C d_B_abort_9 (ct_B_openSession hlt hN h0 hS) i_B_openSession t1_1 (fun H locs ls hP => bs_V (av := [.int x]) 0 C i_B_openSession t2_190 t2_192 s_23 (by omega) rfl h0 rfl (by decide) rfl rfl d_B_abort_9 H locs ls hP) ⟨by first | decide | omega, by first | decide | omega⟩ (by decide) (by decide) (Nat.le_of_ble_eq_true rfl) (fun v ad1 w1 N1 hpo => ?_) (fun x Cn ad' w' N' hth => ?_)
    · obtain ⟨-, -, -, i, hi, -, ho, -⟩ := hpo
      exact absurd (hso i hi) ho
    · obtain ⟨rfl, rfl, rfl, rfl, -⟩ := hth
      exact bt_out C rfl (by decide) (by decide) ⟨rfl, rfl, rfl, rfl⟩
  · obtain ⟨-, -, -, -, hz⟩ := hth
    exact absurd rfl hz
/-- no version has come yet -/
theorem ct_B_livingVersion (hN : 305 ≤ N) (h0 : w 0 = oB ad (nI 0)) {x : Int32} : bK l dd y_B_livingVersion 0 0 0 0 [.ref (ad 0), .int x] ad w N (bSame ad w N (fun v => v = some .null)) bNo := by
  refine bK.start [(0, .ref (ad 0)), (1, .int x)] (by decide) t1_196 (Nat.le_of_ble_eq_true rfl) rfl (fun p e s m args below meth c A hnm C => ?_)
  refine bv_iload_n 1 rfl C d_B_livingVersion_0 rfl ?_
  refine bv_iconst (v := nI 1) 2 rfl C d_B_livingVersion_1 (by decide) ?_
  refine bv_icmp_lt 27 5 rfl C d_B_livingVersion_2 (by decide) (fun x1 => ?_) (fun x1 => ?_)
  · refine bv_null 28 rfl C d_B_livingVersion_27 ?_
    exact bv_areturn C rfl (Or.inl rfl) d_B_livingVersion_28 (by decide) (by decide) ⟨rfl, rfl, rfl, rfl⟩
  · refine bv_iload_n 6 rfl C d_B_livingVersion_5 rfl ?_
    refine bv_aload_n 7 rfl C d_B_livingVersion_6 rfl ?_
    refine bv_get 0 5 10 rfl C k_B (by omega) rfl h0 (by decide) t1_151 rfl d_B_livingVersion_7 ?_
    refine bv_icmp_gt 27 13 rfl C d_B_livingVersion_10 (by decide) (fun h => ?_) (fun h => absurd (show nI 0 < x by rw [Int32.lt_iff_toInt_lt] at x1 ⊢; have : (nI 1).toInt = 1 := rfl; have : (nI 0).toInt = 0 := rfl; omega) h)
    refine bv_null 28 rfl C d_B_livingVersion_27 ?_
    exact bv_areturn C rfl (Or.inl rfl) d_B_livingVersion_28 (by decide) (by decide) ⟨rfl, rfl, rfl, rfl⟩
theorem ct_B_delete (hlt : bOff l) (hN : 305 ≤ N) (h0 : w 0 = oB ad (nI 0)) {wr cu : Int32} (h1 : w 1 = .inr (1, [.int wr, .int cu, .int (nI 0)])) {x : Int32} : bK l dd y_B_delete 7 102 1 6 [.ref (ad 0), .int x] ad w N (bSame ad w N (fun v => v = some (.int (nI 0)))) bNo := by
  refine bK.start [(0, .ref (ad 0)), (1, .int x)] (by decide) t3_41 (Nat.le_of_ble_eq_true rfl) rfl (fun p e s m args below meth c A hnm C => ?_)
  refine bv_aload_n 1 rfl C d_B_delete_0 rfl ?_
  refine bv_get 0 0 4 rfl C k_B (by omega) rfl h0 (by decide) t1_146 rfl d_B_delete_1 ?_
  refine bv_call (rest := []) 7 rfl C d_B_delete_4 (ct_P_requireOn hlt (k := 1) (by omega) h1) i_P_requireOn t1_2 (fun H locs ls hP => bs_VN (av := []) 1 C i_P_requireOn n2_61 t2_63 s_18 (by omega) rfl h1 rfl (by decide) rfl rfl d_B_delete_4 H locs ls hP) ⟨by first | decide | omega, by first | decide | omega⟩ (by decide) (by decide) (Nat.le_of_ble_eq_true rfl) (fun v ad1 w1 N1 hpo => ?_) (fun x Cn ad' w' N' hth => ?_)
  · obtain ⟨rfl, rfl, rfl, rfl, -⟩ := hpo
    refine bv_aload_n 8 rfl C d_B_delete_7 rfl ?_
    refine bv_iload_n 9 rfl C d_B_delete_8 rfl ?_
    refine bv_call (rest := []) 12 rfl C d_B_delete_9 (ct_B_livingVersion hN h0) i_B_livingVersion t1_1 (fun H locs ls hP => bs_V (av := [.int x]) 0 C i_B_livingVersion t1_193 t1_195 s_1 (by omega) rfl h0 rfl (by decide) rfl rfl d_B_delete_9 H locs ls hP) ⟨by first | decide | omega, by first | decide | omega⟩ (by decide) (by decide) (Nat.le_of_ble_eq_true rfl) (fun v ad1 w1 N1 hpo => ?_) (fun x Cn ad' w' N' hth => hth.elim)
    obtain ⟨rfl, rfl, rfl, rfl⟩ := hpo
    refine bv_astore_nN 13 rfl C d_B_delete_12 (by decide) ?_
    refine bv_aload_nN 14 rfl C d_B_delete_13 rfl ?_
    refine bv_ifnonnullN 17 rfl C d_B_delete_14 ?_
    refine bv_iconst (v := nI 0) 18 rfl C d_B_delete_17 (by decide) ?_
    exact bv_zreturn C rfl (Or.inl rfl) d_B_delete_18 (by decide) (by decide) ⟨rfl, rfl, rfl, rfl⟩
  · obtain ⟨-, -, -, -, hz⟩ := hth
    exact absurd rfl hz
theorem ct_B_cutAfter (hlt : bOff l) (hN : 305 ≤ N) (h0 : w 0 = oB ad ve) {wr cu gn : Int32} (h1 : w 1 = .inr (1, [.int wr, .int cu, .int gn])) {x : Int32} : bK l dd y_B_cutAfter 6 82 1 6 [.ref (ad 0), .int x] ad w N (fun v ad' w' N' => ad = ad' ∧ N = N' ∧ v = none ∧ (¬ x < 0 ∧ x ≤ nI 1000) ∧ w' = va_up w 1 (.inr (1, [.int wr, .int x, .int gn]))) (bSameT ad w N (fun Cn => Cn = xIAE ∧ ¬ (¬ x < 0 ∧ x ≤ nI 1000))) := by
  refine bK.start [(0, .ref (ad 0)), (1, .int x)] (by decide) t3_59 (Nat.le_of_ble_eq_true rfl) rfl (fun p e s m args below meth c A hnm C => ?_)
  refine bv_iload_n 1 rfl C d_B_cutAfter_0 rfl ?_
  refine bv_if_lt 11 4 rfl C d_B_cutAfter_1 (by decide) (fun x1 => ?_) (fun x1 => ?_)
  · exact bv_throw (names := ["java/lang/RuntimeException", "java/lang/Exception"]) hlt C d_B_cutAfter_11 d_B_cutAfter_14 d_B_cutAfter_15 d_B_cutAfter_17 d_B_cutAfter_20 t2_142 t2_143 t1_13 (show ("BlobStore", 146, "no such count of writes") ∈ bStr by simp) (by decide) (by decide) ow_B_86 rfl (by first | decide | omega) (by first | decide | omega) (by first | decide | omega) (by first | decide | omega) (by first | decide | omega) (by first | decide | omega) ⟨rfl, rfl, rfl, rfl, fun hh => hh.1 x1⟩
  · refine bv_iload_n 5 rfl C d_B_cutAfter_4 rfl ?_
    refine bv_sipush (v := nI 1000) 8 rfl C d_B_cutAfter_5 (by decide) ?_
    refine bv_icmp_le 21 11 rfl C d_B_cutAfter_8 (by decide) (fun x2 => ?_) (fun x2 => ?_)
    · refine bv_aload_n 22 rfl C d_B_cutAfter_21 rfl ?_
      refine bv_get 0 0 25 rfl C k_B (by omega) rfl h0 (by decide) t1_146 rfl d_B_cutAfter_22 ?_
      refine bv_iload_n 26 rfl C d_B_cutAfter_25 rfl ?_
      refine bv_call (rest := []) 29 rfl C d_B_cutAfter_26 (ct_P_tellCut (k := 1) (by omega) h1) i_P_tellCut t1_2 (fun H locs ls hP => bs_VN (av := [.int x]) 1 C i_P_tellCut n3_61 t3_63 s_35 (by omega) rfl h1 rfl (by decide) rfl rfl d_B_cutAfter_26 H locs ls hP) ⟨by first | decide | omega, by first | decide | omega⟩ (by decide) (by decide) (Nat.le_of_ble_eq_true rfl) (fun v ad1 w1 N1 hpo => ?_) (fun x Cn ad' w' N' hth => hth.elim)
      obtain ⟨rfl, rfl, rfl, rfl⟩ := hpo
      exact bv_return C rfl d_B_cutAfter_29 (by decide) (by decide) ⟨rfl, rfl, rfl, ⟨x1, x2⟩, rfl⟩
    · exact bv_throw (names := ["java/lang/RuntimeException", "java/lang/Exception"]) hlt C d_B_cutAfter_11 d_B_cutAfter_14 d_B_cutAfter_15 d_B_cutAfter_17 d_B_cutAfter_20 t2_142 t2_143 t1_13 (show ("BlobStore", 146, "no such count of writes") ∈ bStr by simp) (by decide) (by decide) ow_B_86 rfl (by first | decide | omega) (by first | decide | omega) (by first | decide | omega) (by first | decide | omega) (by first | decide | omega) (by first | decide | omega) ⟨rfl, rfl, rfl, rfl, fun hh => x2 hh.2⟩
theorem ct_B_recover (hN : 305 ≤ N) (h0 : w 0 = oB ad ve) {wr cu gn : Int32} (h1 : w 1 = .inr (1, [.int wr, .int cu, .int gn])) : bK l dd y_B_recover 1 20 0 0 [.ref (ad 0)] ad w N (fun v ad' w' N' => ad = ad' ∧ N = N' ∧ ((gn = 0 ∧ v = some (.int (nI 0)) ∧ w' = w) ∨ (¬ gn = 0 ∧ v = some (.int (nI 1)) ∧ w' = va_up w 1 (.inr (1, [.int wr, .int (-1), .int (nI 0)]))))) bNo := by
  refine bK.start [(0, .ref (ad 0))] (by decide) t1_180 (Nat.le_of_ble_eq_true rfl) rfl (fun p e s m args below meth c A hnm C => ?_)
  refine bv_aload_n 1 rfl C d_B_recover_0 rfl ?_
  refine bv_get 0 0 4 rfl C k_B (by omega) rfl h0 (by decide) t1_146 rfl d_B_recover_1 ?_
  refine bv_call (rest := []) 7 rfl C d_B_recover_4 (ct_P_turnOn (k := 1) (by omega) h1) i_P_turnOn t1_2 (fun H locs ls hP => bs_VN (av := []) 1 C i_P_turnOn n1_181 t1_183 s_0 (by omega) rfl h1 rfl (by decide) rfl rfl d_B_recover_4 H locs ls hP) ⟨by first | decide | omega, by first | decide | omega⟩ (by decide) (by decide) (Nat.le_of_ble_eq_true rfl) (fun v ad1 w1 N1 hpo => ?_) (fun x Cn ad' w' N' hth => hth.elim)
  obtain ⟨rfl, rfl, hv⟩ := hpo
  rcases hv with ⟨hg, rfl, rfl⟩ | ⟨hg, rfl, rfl⟩
  · exact bv_zreturn C rfl (Or.inl rfl) d_B_recover_7 (Nat.le_refl _) (Nat.le_refl _) ⟨rfl, rfl, Or.inl ⟨hg, rfl, rfl⟩⟩
  · exact bv_zreturn C rfl (Or.inr rfl) d_B_recover_7 (Nat.le_refl _) (Nat.le_refl _) ⟨rfl, rfl, Or.inr ⟨hg, rfl, rfl⟩⟩
/-- latest, size, byteAt where no version has come -/
theorem ct_B_latest (hN : 305 ≤ N) (h0 : w 0 = oB ad (nI 0)) {x y : Int32} : bK l dd y_B_latest 0 0 0 0 [.ref (ad 0), .int x, .int y] ad w N (bSame ad w N (fun v => v = some (.int (nI 0)))) bNo := by
  refine bK.start [(0, .ref (ad 0)), (1, .int x), (2, .int y)] (by decide) t1_188 (Nat.le_of_ble_eq_true rfl) rfl (fun p e s m args below meth c A hnm C => ?_)
  refine bv_aload_n 1 rfl C d_B_latest_0 rfl ?_
  refine bv_get 0 5 4 rfl C k_B (by omega) rfl h0 (by decide) t1_151 rfl d_B_latest_1 ?_
  refine bv_istore_n 5 rfl C d_B_latest_4 (by decide) ?_
  refine bv_iload_n 6 rfl C d_B_latest_5 rfl ?_
  refine bv_iconst (v := nI 1) 7 rfl C d_B_latest_6 (by decide) ?_
  refine bv_icmp_lt 54 10 rfl C d_B_latest_7 (by decide) (fun h => ?_) (fun h => absurd (show nI 0 < nI 1 by decide) h)
  refine bv_iconst (v := nI 0) 55 rfl C d_B_latest_54 (by decide) ?_
  exact bv_ireturn C rfl d_B_latest_55 (Nat.le_refl _) (Nat.le_refl _) ⟨rfl, rfl, rfl, rfl⟩
theorem ct_B_size (hN : 305 ≤ N) (h0 : w 0 = oB ad (nI 0)) {x : Int32} : bK l dd y_B_size 1 21 0 0 [.ref (ad 0), .int x] ad w N (bSame ad w N (fun v => v = some (.int (-1)))) bNo := by
  refine bK.start [(0, .ref (ad 0)), (1, .int x)] (by decide) t1_192 (Nat.le_of_ble_eq_true rfl) rfl (fun p e s m args below meth c A hnm C => ?_)
  refine bv_aload_n 1 rfl C d_B_size_0 rfl ?_
  refine bv_iload_n 2 rfl C d_B_size_1 rfl ?_
  refine bv_call (rest := []) 5 rfl C d_B_size_2 (ct_B_livingVersion hN h0) i_B_livingVersion t1_1 (fun H locs ls hP => bs_V (av := [.int x]) 0 C i_B_livingVersion t1_193 t1_195 s_1 (by omega) rfl h0 rfl (by decide) rfl rfl d_B_size_2 H locs ls hP) ⟨by first | decide | omega, by first | decide | omega⟩ (by decide) (by decide) (Nat.le_of_ble_eq_true rfl) (fun v ad1 w1 N1 hpo => ?_) (fun x Cn ad' w' N' hth => hth.elim)
  obtain ⟨rfl, rfl, rfl, rfl⟩ := hpo
  refine bv_astore_nN 6 rfl C d_B_size_5 (by decide) ?_
  refine bv_aload_nN 7 rfl C d_B_size_6 rfl ?_
  refine bv_ifnonnullN 10 rfl C d_B_size_7 ?_
  refine bv_iconst (v := -1) 11 rfl C d_B_size_10 (by decide) ?_
  exact bv_ireturn C rfl d_B_size_11 (Nat.le_refl _) (Nat.le_refl _) ⟨rfl, rfl, rfl, rfl⟩
theorem ct_B_byteAt (hN : 305 ≤ N) (h0 : w 0 = oB ad (nI 0)) {x y : Int32} : bK l dd y_B_byteAt 1 21 0 0 [.ref (ad 0), .int x, .int y] ad w N (bSame ad w N (fun v => v = some (.int (-1)))) bNo := by
  refine bK.start [(0, .ref (ad 0)), (1, .int x), (2, .int y)] (by decide) t1_200 (Nat.le_of_ble_eq_true rfl) rfl (fun p e s m args below meth c A hnm C => ?_)
  refine bv_aload_n 1 rfl C d_B_byteAt_0 rfl ?_
  refine bv_iload_n 2 rfl C d_B_byteAt_1 rfl ?_
  refine bv_call (rest := []) 5 rfl C d_B_byteAt_2 (ct_B_livingVersion hN h0) i_B_livingVersion t1_1 (fun H locs ls hP => bs_V (av := [.int x]) 0 C i_B_livingVersion t1_193 t1_195 s_1 (by omega) rfl h0 rfl (by decide) rfl rfl d_B_byteAt_2 H locs ls hP) ⟨by first | decide | omega, by first | decide | omega⟩ (by decide) (by decide) (Nat.le_of_ble_eq_true rfl) (fun v ad1 w1 N1 hpo => ?_) (fun x Cn ad' w' N' hth => hth.elim)
  obtain ⟨rfl, rfl, rfl, rfl⟩ := hpo
  refine bv_astore_nN 6 rfl C d_B_byteAt_5 (by decide) ?_
  refine bv_aload_nN 7 rfl C d_B_byteAt_6 rfl ?_
  refine bv_ifnullN 14 C d_B_byteAt_7 (by decide) ?_
  refine bv_iconst (v := -1) 15 rfl C d_B_byteAt_14 (by decide) ?_
  exact bv_ireturn C rfl d_B_byteAt_15 (Nat.le_refl _) (Nat.le_refl _) ⟨rfl, rfl, rfl, rfl⟩
end bOp
